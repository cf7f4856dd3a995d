/-! part b30: jumps (gen/tb30.py) -/
section
variable {f : vf_F} {A : vt_A}
abbrev vx_j1 (f : vf_F) (A : vt_A) : Prop := (A.1 f.d).sort = 0 ∨ (vx_y f A).sort = 0
abbrev vx_j2 (f : vf_F) (A : vt_A) : Prop := (A.1 f.d).sort = 1 ∧ (vx_y f A).sort = 1
abbrev vx_j3 (f : vf_F) (A : vt_A) : Prop := f.kind = 5 ∧ (f.n = 1 ∨ f.n = 5) ∧ (A.1 f.d).sort = 8 ∧ (vx_y f A).sort = 1 ∧ (vx_y f A).val.low = 0 ∧ (vx_y f A).val.high = 0
abbrev vx_j4 (f : vf_F) (A : vt_A) : Prop := f.kind = 5 ∧ (f.n = 2 ∨ f.n = 3 ∨ f.n = 10 ∨ f.n = 11) ∧ (((A.1 f.d).sort = 4 ∧ (vx_y f A).sort = 5) ∨ ((A.1 f.d).sort = 5 ∧ (vx_y f A).sort = 4))
def vx_yv (f : vf_F) (A : vt_A) : vb_S := if f.bit3 = true then (vx_y f A).val else if f.kind = 5 then vx_just f.i else vb_just (BitVec.ofInt 64 (f.i % 4294967296))
theorem vx_jp1 (h : vx_j1 f A) : vx_jump f A = (1, none, none) := if_pos h
theorem vx_jp2 (h : ¬ vx_j1 f A) (h2 : vx_j2 f A) (h3 : (f.bit3 = true ∧ f.d = f.s) ∨ (f.kind ≠ 5 ∧ ¬ (vx_small (A.1 f.d).val = true ∧ vx_small (vx_yv f A) = true))) : vx_jump f A = (0, some A, some A) := by
  refine (if_neg h).trans ((if_pos h2).trans ?_)
  by_cases c : f.bit3 = true ∧ f.d = f.s
  · exact if_pos c
  · exact (if_neg c).trans (if_pos (h3.resolve_left c))
theorem vx_jp2' (h : ¬ vx_j1 f A) (h2 : vx_j2 f A) (h3 : ¬ ((f.bit3 = true ∧ f.d = f.s) ∨ (f.kind ≠ 5 ∧ ¬ (vx_small (A.1 f.d).val = true ∧ vx_small (vx_yv f A) = true)))) : vx_jump f A = (0, (vb_refine (vb_opp (vx_cmp f.n)) (A.1 f.d).val (vx_yv f A)).map (vx_refd f A), (vb_refine (vx_cmp f.n) (A.1 f.d).val (vx_yv f A)).map (vx_refd f A)) :=
  (if_neg h).trans ((if_pos h2).trans ((if_neg (fun z => h3 (Or.inl z))).trans (if_neg (fun z => h3 (Or.inr z)))))
theorem vx_jp3 (h : ¬ vx_j1 f A) (h2 : ¬ vx_j2 f A) (h3 : vx_j3 f A) : vx_jump f A = (0, some (vx_settle A (A.1 f.d).org (decide (f.n = 1))), some (vx_settle A (A.1 f.d).org (decide (f.n = 5)))) :=
  (if_neg h).trans ((if_neg h2).trans (if_pos h3))
theorem vx_jp5 (h : ¬ vx_j1 f A) (h2 : ¬ vx_j2 f A) (h3 : ¬ vx_j3 f A) (h4 : ¬ vx_j4 f A) : vx_jump f A = (2, none, none) :=
  (if_neg h).trans ((if_neg h2).trans ((if_neg h3).trans (if_neg h4)))
theorem vx_jp4 (h : ¬ vx_j1 f A) (h2 : ¬ vx_j2 f A) (h3 : ¬ vx_j3 f A) (h4 : vx_j4 f A) {v : vb_S} {pf : Bool} (hpf : pf = decide ((A.1 f.d).sort = 4)) (hv : v = if pf = true then (A.1 f.d).val else (vx_y f A).val) : vx_jump f A = (0, some (vx_ms f.n pf v A A).1, some (vx_ms f.n pf v A A).2) := by
  refine (if_neg h).trans ((if_neg h2).trans ((if_neg h3).trans ((if_pos h4).trans ?_)))
  dsimp only
  rw [← hpf, ← hv]
  unfold vx_ms
  by_cases c : v.low ≠ v.high ∨ v.low.toInt < 0
  · rw [if_pos c, if_pos c]
  rw [if_neg c, if_neg c]
  by_cases n2 : f.n = 2
  · rw [if_pos n2, if_pos n2]; cases pf <;> rfl
  rw [if_neg n2, if_neg n2]
  by_cases n3 : f.n = 3
  · rw [if_pos n3, if_pos n3]; cases pf <;> rfl
  rw [if_neg n3, if_neg n3]
  by_cases n10 : f.n = 10
  · rw [if_pos n10, if_pos n10]; cases pf <;> rfl
  rw [if_neg n10, if_neg n10]; cases pf <;> rfl
end
/-- what a jump leaves behind, when it doesn't refuse -/
def vc_jp (r : Nat × Option vt_A × Option vt_A) (t9 t10 : Int32) (I1 : Nat → Nat → Int32) (L1 : Nat → Nat → Int64) : Prop :=
  (∀ B, r.2.1 = some B → I1 10 9 = t9 ∧ vc_A I1 L1 12 = B) ∧ (r.2.1 = none → I1 10 9 = -1) ∧ (∀ B, r.2.2 = some B → I1 10 10 = t10 ∧ vc_A I1 L1 89 = B) ∧ (r.2.2 = none → I1 10 10 = -1) ∧ vc_okA I1 L1 12 ∧ vc_okA I1 L1 89
theorem vc_jp_some {A B : vt_A} {k : Nat} {t9 t10 : Int32} {I1 : Nat → Nat → Int32} {L1 : Nat → Nat → Int64} (h9 : I1 10 9 = t9) (h10 : I1 10 10 = t10) (ha : vc_A I1 L1 12 = A) (hb : vc_A I1 L1 89 = B) (o1 : vc_okA I1 L1 12) (o2 : vc_okA I1 L1 89) : vc_jp (k, some A, some B) t9 t10 I1 L1 :=
  ⟨fun C h => ⟨h9, ha.trans (Option.some.inj h)⟩, fun h => (by cases h), fun C h => ⟨h10, hb.trans (Option.some.inj h)⟩, fun h => (by cases h), o1, o2⟩
theorem vl_isJust0 {K : Nat → Option (Nat × Nat)} {I : Nat → Nat → Int32} {L : Nat → Nat → Int64} {R : Nat → Nat → Value} {o : Nat} (ho : jv_isV K o) {n sl : Nat} : jv_Ms 154 [.ref o, .long 0] (jv_H K I L R) n sl (some (.int (vr_b (decide ((vl_S L o).low = 0 ∧ (vl_S L o).high = 0)))), jv_H K I L R, n, sl) := by
  have H := jv_s154 (I := I) (L := L) (R := R) (n := n) (sl := sl) o 0 ho _ rfl
  refine (congrArg (fun Z => jv_Ms 154 [.ref o, .long 0] (jv_H K I L R) n sl (some (.int Z), jv_H K I L R, n, sl)) ?_).mp H
  have c2 : (L o 2 = 0) ↔ (vl_S L o).low = 0 := Int64.toBitVec_inj.symm
  have c3 : (L o 3 = 0) ↔ (vl_S L o).high = 0 := Int64.toBitVec_inj.symm
  by_cases h2 : L o 2 = 0
  · rw [if_neg (fun z => z h2)]
    by_cases h3 : L o 3 = 0
    · rw [if_neg (fun z => z h3), decide_eq_true ⟨c2.mp h2, c3.mp h3⟩]; rfl
    · rw [if_pos h3, decide_eq_false (fun z => h3 (c3.mpr z.2))]; rfl
  · rw [if_pos h2, decide_eq_false (fun z => h2 (c2.mpr z.1))]; rfl
theorem vc_jp_map {A : vt_A} {f : vf_F} {P1 P2 : Option (vb_S × vb_S)} {t9 t10 : Int32} {I1 : Nat → Nat → Int32} {L1 : Nat → Nat → Int64} (h9 : I1 10 9 = if P1.isSome = true then t9 else -1) (h10 : I1 10 10 = if P2.isSome = true then t10 else -1) (ha : ∀ p, P1 = some p → vc_A I1 L1 12 = vx_refd f A p) (hb : ∀ p, P2 = some p → vc_A I1 L1 89 = vx_refd f A p) (o1 : vc_okA I1 L1 12) (o2 : vc_okA I1 L1 89) : vc_jp (0, P1.map (vx_refd f A), P2.map (vx_refd f A)) t9 t10 I1 L1 := by
  refine ⟨fun B h => ?_, fun h => ?_, fun B h => ?_, fun h => ?_, o1, o2⟩
  · cases P1 with
    | none => cases h
    | some p => exact ⟨h9, (ha p rfl).trans (Option.some.inj h)⟩
  · cases P1 with
    | none => exact h9
    | some p => cases h
  · cases P2 with
    | none => cases h
    | some p => exact ⟨h10, (hb p rfl).trans (Option.some.inj h)⟩
  · cases P2 with
    | none => exact h10
    | some p => cases h
theorem vw_k8 (w : Int64) : (vc_F w).kind < 8 := Nat.mod_lt _ (by decide)
theorem jv_i41 : jv_I 41 11 (some .int) 4 127 jv_c41 := ⟨rfl, rfl, rfl, rfl, rfl⟩
set_option maxRecDepth 8000 in
theorem vc_jtail {K : Nat → Option (Nat × Nat)} {I : Nat → Nat → Int32} {L : Nat → Nat → Int64} {R : Nat → Nat → Value} (w : Int64) (wd : Bool) {d y : Nat} (hC : vc_C K R) (hwd : wd = decide ((vc_F w).kind = 5)) (hd : K d = some (8, 10)) (hy : K y = some (8, 10)) (od : vc_ok I L d) (oy : vc_ok I L y) (o12 : vc_okA I L 12) (o89 : vc_okA I L 89) (e89 : vc_A I L 89 = vc_A I L 12) (eD : vc_T I L d = (vc_A I L 12).1 (vc_F w).d) (eY : vc_T I L y = vx_y (vc_F w) (vc_A I L 12)) (j1 : ¬ ((vc_T I L d).sort = 0 ∨ (vc_T I L y).sort = 0)) (j2 : ¬ ((vc_T I L d).sort = 1 ∧ (vc_T I L y).sort = 1)) (hbd : I d 6 = 4 → (vl_S L d).low = (vl_S L d).high → (L d 2).toInt ≤ 1073000000) (hby : I y 6 = 4 → (vl_S L y).low = (vl_S L y).high → (L y 2).toInt ≤ 1073000000) {n sl : Nat} {Q : jv_R → Prop} (hQ : Q = fun X => ∃ I1 L1, X = (some (.int (vl_I (vx_jump (vc_F w) (vc_A I L 12)).1)), jv_H K I1 L1 R, n, sl) ∧ ((vx_jump (vc_F w) (vc_A I L 12)).1 = 0 → vc_jp (vx_jump (vc_F w) (vc_A I L 12)) (I 10 9) (I 10 10) I1 L1) ∧ vc_okA I1 L1 89 ∧ vc_fr (fun p => vc_in 12 p ∨ vc_in 89 p) I L I1 L1 ∧ ∀ f, I1 12 f = I 12 f ∧ I1 89 f = I 89 f) : jv_Wp 41 114 [(0, .ref 10), (4, .int (vl_I (vc_F w).n)), (5, .int (vr_b wd)), (6, .ref d), (7, .ref y)] [] (jv_H K I L R) n sl Q := by
  have hn16 := vw_n16 w
  refine jv_Wp.lift (fun _ Kz => jv_Ev.steps jv_i41 2 (pc' := 117) (l' := [(0, .ref 10), (4, .int (vl_I (vc_F w).n)), (5, .int (vr_b wd)), (6, .ref d), (7, .ref y)]) (st' := [.int (1 : Int32), .int (vl_I (vc_F w).n)]) rfl Kz) ?_
  refine jv_Wp.cnd jv_i41 (pt := 126) (pe := 120) (p := ((vl_I (vc_F w).n) = (1 : Int32))) (q := ((vl_I (vc_F w).n) = (1 : Int32))) rfl jv_bc_eq rfl rfl Iff.rfl (fun h1 => ?_) (fun h1 => ?_)
  · refine jv_Wp.lift (fun _ Kz => jv_Ev.steps jv_i41 4 (pc' := 135) (l' := [(8, .int (1 : Int32)), (0, .ref 10), (4, .int (vl_I (vc_F w).n)), (5, .int (vr_b wd)), (6, .ref d), (7, .ref y)]) (st' := [.int (vr_b wd)]) rfl Kz) ?_
    refine jv_Wp.cnd jv_i41 (pt := 220) (pe := 138) (p := ((vr_b wd) = 0)) (q := ((vr_b wd) = 0)) rfl jv_bi_eq rfl rfl Iff.rfl (fun h2 => ?_) (fun h2 => ?_)
    · refine jv_Wp.lift (fun _ Kz => jv_Ev.steps jv_i41 2 (pc' := 223) (l' := [(8, .int (1 : Int32)), (0, .ref 10), (4, .int (vl_I (vc_F w).n)), (5, .int (vr_b wd)), (6, .ref d), (7, .ref y)]) (st' := [.int (2 : Int32), .int (vl_I (vc_F w).n)]) rfl Kz) ?_
      refine jv_Wp.cnd jv_i41 (pt := 246) (pe := 226) (p := ((vl_I (vc_F w).n) = (2 : Int32))) (q := ((vl_I (vc_F w).n) = (2 : Int32))) rfl jv_bc_eq rfl rfl Iff.rfl (fun hz => absurd hz (fun z => absurd (z.symm.trans h1) (by decide))) (fun _ => ?_)
      refine jv_Wp.lift (fun _ Kz => jv_Ev.steps jv_i41 2 (pc' := 229) (l' := [(8, .int (1 : Int32)), (0, .ref 10), (4, .int (vl_I (vc_F w).n)), (5, .int (vr_b wd)), (6, .ref d), (7, .ref y)]) (st' := [.int (3 : Int32), .int (vl_I (vc_F w).n)]) rfl Kz) ?_
      refine jv_Wp.cnd jv_i41 (pt := 246) (pe := 232) (p := ((vl_I (vc_F w).n) = (3 : Int32))) (q := ((vl_I (vc_F w).n) = (3 : Int32))) rfl jv_bc_eq rfl rfl Iff.rfl (fun hz => absurd hz (fun z => absurd (z.symm.trans h1) (by decide))) (fun _ => ?_)
      refine jv_Wp.lift (fun _ Kz => jv_Ev.steps jv_i41 2 (pc' := 236) (l' := [(8, .int (1 : Int32)), (0, .ref 10), (4, .int (vl_I (vc_F w).n)), (5, .int (vr_b wd)), (6, .ref d), (7, .ref y)]) (st' := [.int (10 : Int32), .int (vl_I (vc_F w).n)]) rfl Kz) ?_
      refine jv_Wp.cnd jv_i41 (pt := 246) (pe := 239) (p := ((vl_I (vc_F w).n) = (10 : Int32))) (q := ((vl_I (vc_F w).n) = (10 : Int32))) rfl jv_bc_eq rfl rfl Iff.rfl (fun hz => absurd hz (fun z => absurd (z.symm.trans h1) (by decide))) (fun _ => ?_)
      refine jv_Wp.lift (fun _ Kz => jv_Ev.steps jv_i41 2 (pc' := 243) (l' := [(8, .int (1 : Int32)), (0, .ref 10), (4, .int (vl_I (vc_F w).n)), (5, .int (vr_b wd)), (6, .ref d), (7, .ref y)]) (st' := [.int (11 : Int32), .int (vl_I (vc_F w).n)]) rfl Kz) ?_
      refine jv_Wp.cnd jv_i41 (pt := 250) (pe := 246) (p := (¬ (vl_I (vc_F w).n) = (11 : Int32))) (q := (¬ (vl_I (vc_F w).n) = (11 : Int32))) rfl jv_bc_ne rfl rfl Iff.rfl (fun _ => ?_) (fun hz => absurd (fun z => absurd (z.symm.trans h1) (by decide)) hz)
      refine jv_Wp.lift (fun _ Kz => jv_Ev.steps jv_i41 3 (pc' := 255) (l' := [(9, .int (0 : Int32)), (8, .int (1 : Int32)), (0, .ref 10), (4, .int (vl_I (vc_F w).n)), (5, .int (vr_b wd)), (6, .ref d), (7, .ref y)]) (st' := [.int (vr_b wd)]) rfl Kz) ?_
      refine jv_Wp.cnd jv_i41 (pt := 311) (pe := 258) (p := ((vr_b wd) = 0)) (q := ((vr_b wd) = 0)) rfl jv_bi_eq rfl rfl Iff.rfl (fun _ => ?_) (fun hz => absurd h2 hz)
      refine jv_Wp.lift (fun _ Kz => jv_Ev.steps jv_i41 1 (pc' := 312) (l' := [(9, .int (0 : Int32)), (8, .int (1 : Int32)), (0, .ref 10), (4, .int (vl_I (vc_F w).n)), (5, .int (vr_b wd)), (6, .ref d), (7, .ref y)]) (st' := [.int (2 : Int32)]) rfl Kz) ?_
      refine jv_Wp.of (jv_Ev.ret jv_i41 rfl rfl) ?_
      rw [hQ]
      have f1 : (vc_F w).n = 1 := (vl_I_inj (by omega) (by decide)).mp h1
      have f2 : ¬ (vc_F w).kind = 5 := of_decide_eq_false (hwd.symm.trans (by cases wd <;> first | rfl | exact absurd h2 (by decide)))
      have g1 : ¬ vx_j1 (vc_F w) (vc_A I L 12) := by unfold vx_j1; rw [← eD, ← eY]; exact j1
      have g2 : ¬ vx_j2 (vc_F w) (vc_A I L 12) := by unfold vx_j2; rw [← eD, ← eY]; exact j2
      have g3 : ¬ vx_j3 (vc_F w) (vc_A I L 12) := by unfold vx_j3; rw [← eD, ← eY]; omega
      have g4 : ¬ vx_j4 (vc_F w) (vc_A I L 12) := by unfold vx_j4; rw [← eD, ← eY]; omega
      have e := vx_jp5 g1 g2 g3 g4
      exact ⟨_, _, by rw [e]; rfl, fun z => by rw [e] at z; exact absurd (show (2 : Nat) = 0 from z) (by decide), o89, vc_fr_refl _ _, fun _ => ⟨rfl, rfl⟩⟩
    · refine jv_Wp.lift (fun _ Kz => jv_Ev.steps jv_i41 1 (pc' := 140) (l' := [(8, .int (1 : Int32)), (0, .ref 10), (4, .int (vl_I (vc_F w).n)), (5, .int (vr_b wd)), (6, .ref d), (7, .ref y)]) (st' := [.int (1 : Int32)]) rfl Kz) ?_
      refine jv_Wp.lift (fun _ Kz => jv_Ev.br jv_i41 (pc' := 143) (st' := []) rfl (by rfl) Kz) ?_
      refine jv_Wp.lift (fun _ Kz => jv_Ev.steps jv_i41 1 (pc' := 145) (l' := [(8, .int (1 : Int32)), (0, .ref 10), (4, .int (vl_I (vc_F w).n)), (5, .int (vr_b wd)), (6, .ref d), (7, .ref y)]) (st' := [.ref d]) rfl Kz) ?_
      refine jv_Wp.lift (fun _ Kz => jv_Ev.m jv_i41 (pc' := 148) (st' := [.int (I d 6)]) (G' := (jv_H K I L R)) rfl rfl (jv_m_getI hd rfl rfl rfl) Kz) ?_
      refine jv_Wp.lift (fun _ Kz => jv_Ev.steps jv_i41 1 (pc' := 150) (l' := [(8, .int (1 : Int32)), (0, .ref 10), (4, .int (vl_I (vc_F w).n)), (5, .int (vr_b wd)), (6, .ref d), (7, .ref y)]) (st' := [.int (8 : Int32), .int (I d 6)]) rfl Kz) ?_
      refine jv_Wp.cnd jv_i41 (pt := 220) (pe := 153) (p := (¬ (I d 6) = (8 : Int32))) (q := (¬ (I d 6) = (8 : Int32))) rfl jv_bc_ne rfl rfl Iff.rfl (fun h3 => ?_) (fun h3 => ?_)
      · refine jv_Wp.lift (fun _ Kz => jv_Ev.steps jv_i41 2 (pc' := 223) (l' := [(8, .int (1 : Int32)), (0, .ref 10), (4, .int (vl_I (vc_F w).n)), (5, .int (vr_b wd)), (6, .ref d), (7, .ref y)]) (st' := [.int (2 : Int32), .int (vl_I (vc_F w).n)]) rfl Kz) ?_
        refine jv_Wp.cnd jv_i41 (pt := 246) (pe := 226) (p := ((vl_I (vc_F w).n) = (2 : Int32))) (q := ((vl_I (vc_F w).n) = (2 : Int32))) rfl jv_bc_eq rfl rfl Iff.rfl (fun hz => absurd hz (fun z => absurd (z.symm.trans h1) (by decide))) (fun _ => ?_)
        refine jv_Wp.lift (fun _ Kz => jv_Ev.steps jv_i41 2 (pc' := 229) (l' := [(8, .int (1 : Int32)), (0, .ref 10), (4, .int (vl_I (vc_F w).n)), (5, .int (vr_b wd)), (6, .ref d), (7, .ref y)]) (st' := [.int (3 : Int32), .int (vl_I (vc_F w).n)]) rfl Kz) ?_
        refine jv_Wp.cnd jv_i41 (pt := 246) (pe := 232) (p := ((vl_I (vc_F w).n) = (3 : Int32))) (q := ((vl_I (vc_F w).n) = (3 : Int32))) rfl jv_bc_eq rfl rfl Iff.rfl (fun hz => absurd hz (fun z => absurd (z.symm.trans h1) (by decide))) (fun _ => ?_)
        refine jv_Wp.lift (fun _ Kz => jv_Ev.steps jv_i41 2 (pc' := 236) (l' := [(8, .int (1 : Int32)), (0, .ref 10), (4, .int (vl_I (vc_F w).n)), (5, .int (vr_b wd)), (6, .ref d), (7, .ref y)]) (st' := [.int (10 : Int32), .int (vl_I (vc_F w).n)]) rfl Kz) ?_
        refine jv_Wp.cnd jv_i41 (pt := 246) (pe := 239) (p := ((vl_I (vc_F w).n) = (10 : Int32))) (q := ((vl_I (vc_F w).n) = (10 : Int32))) rfl jv_bc_eq rfl rfl Iff.rfl (fun hz => absurd hz (fun z => absurd (z.symm.trans h1) (by decide))) (fun _ => ?_)
        refine jv_Wp.lift (fun _ Kz => jv_Ev.steps jv_i41 2 (pc' := 243) (l' := [(8, .int (1 : Int32)), (0, .ref 10), (4, .int (vl_I (vc_F w).n)), (5, .int (vr_b wd)), (6, .ref d), (7, .ref y)]) (st' := [.int (11 : Int32), .int (vl_I (vc_F w).n)]) rfl Kz) ?_
        refine jv_Wp.cnd jv_i41 (pt := 250) (pe := 246) (p := (¬ (vl_I (vc_F w).n) = (11 : Int32))) (q := (¬ (vl_I (vc_F w).n) = (11 : Int32))) rfl jv_bc_ne rfl rfl Iff.rfl (fun _ => ?_) (fun hz => absurd (fun z => absurd (z.symm.trans h1) (by decide)) hz)
        refine jv_Wp.lift (fun _ Kz => jv_Ev.steps jv_i41 3 (pc' := 255) (l' := [(9, .int (0 : Int32)), (8, .int (1 : Int32)), (0, .ref 10), (4, .int (vl_I (vc_F w).n)), (5, .int (vr_b wd)), (6, .ref d), (7, .ref y)]) (st' := [.int (vr_b wd)]) rfl Kz) ?_
        refine jv_Wp.cnd jv_i41 (pt := 311) (pe := 258) (p := ((vr_b wd) = 0)) (q := ((vr_b wd) = 0)) rfl jv_bi_eq rfl rfl Iff.rfl (fun hz => absurd hz h2) (fun _ => ?_)
        refine jv_Wp.lift (fun _ Kz => jv_Ev.steps jv_i41 1 (pc' := 260) (l' := [(9, .int (0 : Int32)), (8, .int (1 : Int32)), (0, .ref 10), (4, .int (vl_I (vc_F w).n)), (5, .int (vr_b wd)), (6, .ref d), (7, .ref y)]) (st' := [.int (0 : Int32)]) rfl Kz) ?_
        refine jv_Wp.lift (fun _ Kz => jv_Ev.br jv_i41 (pc' := 311) (st' := []) rfl (by rfl) Kz) ?_
        refine jv_Wp.lift (fun _ Kz => jv_Ev.steps jv_i41 1 (pc' := 312) (l' := [(9, .int (0 : Int32)), (8, .int (1 : Int32)), (0, .ref 10), (4, .int (vl_I (vc_F w).n)), (5, .int (vr_b wd)), (6, .ref d), (7, .ref y)]) (st' := [.int (2 : Int32)]) rfl Kz) ?_
        refine jv_Wp.of (jv_Ev.ret jv_i41 rfl rfl) ?_
        rw [hQ]
        have f1 : (vc_F w).n = 1 := (vl_I_inj (by omega) (by decide)).mp h1
        have f2 : (vc_F w).kind = 5 := of_decide_eq_true (hwd.symm.trans (by cases wd <;> first | rfl | exact absurd rfl h2))
        have f3 : ¬ (vc_T I L d).sort = 8 := fun z => h3 ((vc_is8 od).mp z)
        have g1 : ¬ vx_j1 (vc_F w) (vc_A I L 12) := by unfold vx_j1; rw [← eD, ← eY]; exact j1
        have g2 : ¬ vx_j2 (vc_F w) (vc_A I L 12) := by unfold vx_j2; rw [← eD, ← eY]; exact j2
        have g3 : ¬ vx_j3 (vc_F w) (vc_A I L 12) := by unfold vx_j3; rw [← eD, ← eY]; omega
        have g4 : ¬ vx_j4 (vc_F w) (vc_A I L 12) := by unfold vx_j4; rw [← eD, ← eY]; omega
        have e := vx_jp5 g1 g2 g3 g4
        exact ⟨_, _, by rw [e]; rfl, fun z => by rw [e] at z; exact absurd (show (2 : Nat) = 0 from z) (by decide), o89, vc_fr_refl _ _, fun _ => ⟨rfl, rfl⟩⟩
      · refine jv_Wp.lift (fun _ Kz => jv_Ev.steps jv_i41 1 (pc' := 155) (l' := [(8, .int (1 : Int32)), (0, .ref 10), (4, .int (vl_I (vc_F w).n)), (5, .int (vr_b wd)), (6, .ref d), (7, .ref y)]) (st' := [.ref y]) rfl Kz) ?_
        refine jv_Wp.lift (fun _ Kz => jv_Ev.m jv_i41 (pc' := 158) (st' := [.int (I y 6)]) (G' := (jv_H K I L R)) rfl rfl (jv_m_getI hy rfl rfl rfl) Kz) ?_
        refine jv_Wp.lift (fun _ Kz => jv_Ev.steps jv_i41 1 (pc' := 159) (l' := [(8, .int (1 : Int32)), (0, .ref 10), (4, .int (vl_I (vc_F w).n)), (5, .int (vr_b wd)), (6, .ref d), (7, .ref y)]) (st' := [.int (1 : Int32), .int (I y 6)]) rfl Kz) ?_
        refine jv_Wp.cnd jv_i41 (pt := 220) (pe := 162) (p := (¬ (I y 6) = (1 : Int32))) (q := (¬ (I y 6) = (1 : Int32))) rfl jv_bc_ne rfl rfl Iff.rfl (fun h4 => ?_) (fun h4 => ?_)
        · refine jv_Wp.lift (fun _ Kz => jv_Ev.steps jv_i41 2 (pc' := 223) (l' := [(8, .int (1 : Int32)), (0, .ref 10), (4, .int (vl_I (vc_F w).n)), (5, .int (vr_b wd)), (6, .ref d), (7, .ref y)]) (st' := [.int (2 : Int32), .int (vl_I (vc_F w).n)]) rfl Kz) ?_
          refine jv_Wp.cnd jv_i41 (pt := 246) (pe := 226) (p := ((vl_I (vc_F w).n) = (2 : Int32))) (q := ((vl_I (vc_F w).n) = (2 : Int32))) rfl jv_bc_eq rfl rfl Iff.rfl (fun hz => absurd hz (fun z => absurd (z.symm.trans h1) (by decide))) (fun _ => ?_)
          refine jv_Wp.lift (fun _ Kz => jv_Ev.steps jv_i41 2 (pc' := 229) (l' := [(8, .int (1 : Int32)), (0, .ref 10), (4, .int (vl_I (vc_F w).n)), (5, .int (vr_b wd)), (6, .ref d), (7, .ref y)]) (st' := [.int (3 : Int32), .int (vl_I (vc_F w).n)]) rfl Kz) ?_
          refine jv_Wp.cnd jv_i41 (pt := 246) (pe := 232) (p := ((vl_I (vc_F w).n) = (3 : Int32))) (q := ((vl_I (vc_F w).n) = (3 : Int32))) rfl jv_bc_eq rfl rfl Iff.rfl (fun hz => absurd hz (fun z => absurd (z.symm.trans h1) (by decide))) (fun _ => ?_)
          refine jv_Wp.lift (fun _ Kz => jv_Ev.steps jv_i41 2 (pc' := 236) (l' := [(8, .int (1 : Int32)), (0, .ref 10), (4, .int (vl_I (vc_F w).n)), (5, .int (vr_b wd)), (6, .ref d), (7, .ref y)]) (st' := [.int (10 : Int32), .int (vl_I (vc_F w).n)]) rfl Kz) ?_
          refine jv_Wp.cnd jv_i41 (pt := 246) (pe := 239) (p := ((vl_I (vc_F w).n) = (10 : Int32))) (q := ((vl_I (vc_F w).n) = (10 : Int32))) rfl jv_bc_eq rfl rfl Iff.rfl (fun hz => absurd hz (fun z => absurd (z.symm.trans h1) (by decide))) (fun _ => ?_)
          refine jv_Wp.lift (fun _ Kz => jv_Ev.steps jv_i41 2 (pc' := 243) (l' := [(8, .int (1 : Int32)), (0, .ref 10), (4, .int (vl_I (vc_F w).n)), (5, .int (vr_b wd)), (6, .ref d), (7, .ref y)]) (st' := [.int (11 : Int32), .int (vl_I (vc_F w).n)]) rfl Kz) ?_
          refine jv_Wp.cnd jv_i41 (pt := 250) (pe := 246) (p := (¬ (vl_I (vc_F w).n) = (11 : Int32))) (q := (¬ (vl_I (vc_F w).n) = (11 : Int32))) rfl jv_bc_ne rfl rfl Iff.rfl (fun _ => ?_) (fun hz => absurd (fun z => absurd (z.symm.trans h1) (by decide)) hz)
          refine jv_Wp.lift (fun _ Kz => jv_Ev.steps jv_i41 3 (pc' := 255) (l' := [(9, .int (0 : Int32)), (8, .int (1 : Int32)), (0, .ref 10), (4, .int (vl_I (vc_F w).n)), (5, .int (vr_b wd)), (6, .ref d), (7, .ref y)]) (st' := [.int (vr_b wd)]) rfl Kz) ?_
          refine jv_Wp.cnd jv_i41 (pt := 311) (pe := 258) (p := ((vr_b wd) = 0)) (q := ((vr_b wd) = 0)) rfl jv_bi_eq rfl rfl Iff.rfl (fun hz => absurd hz h2) (fun _ => ?_)
          refine jv_Wp.lift (fun _ Kz => jv_Ev.steps jv_i41 1 (pc' := 260) (l' := [(9, .int (0 : Int32)), (8, .int (1 : Int32)), (0, .ref 10), (4, .int (vl_I (vc_F w).n)), (5, .int (vr_b wd)), (6, .ref d), (7, .ref y)]) (st' := [.int (0 : Int32)]) rfl Kz) ?_
          refine jv_Wp.lift (fun _ Kz => jv_Ev.br jv_i41 (pc' := 311) (st' := []) rfl (by rfl) Kz) ?_
          refine jv_Wp.lift (fun _ Kz => jv_Ev.steps jv_i41 1 (pc' := 312) (l' := [(9, .int (0 : Int32)), (8, .int (1 : Int32)), (0, .ref 10), (4, .int (vl_I (vc_F w).n)), (5, .int (vr_b wd)), (6, .ref d), (7, .ref y)]) (st' := [.int (2 : Int32)]) rfl Kz) ?_
          refine jv_Wp.of (jv_Ev.ret jv_i41 rfl rfl) ?_
          rw [hQ]
          have f1 : (vc_F w).n = 1 := (vl_I_inj (by omega) (by decide)).mp h1
          have f2 : (vc_F w).kind = 5 := of_decide_eq_true (hwd.symm.trans (by cases wd <;> first | rfl | exact absurd rfl h2))
          have f3 : (vc_T I L d).sort = 8 := (vc_is8 od).mpr (Classical.not_not.mp h3)
          have f4 : ¬ (vc_T I L y).sort = 1 := fun z => h4 ((vc_is1 oy).mp z)
          have g1 : ¬ vx_j1 (vc_F w) (vc_A I L 12) := by unfold vx_j1; rw [← eD, ← eY]; exact j1
          have g2 : ¬ vx_j2 (vc_F w) (vc_A I L 12) := by unfold vx_j2; rw [← eD, ← eY]; exact j2
          have g3 : ¬ vx_j3 (vc_F w) (vc_A I L 12) := by unfold vx_j3; rw [← eD, ← eY]; omega
          have g4 : ¬ vx_j4 (vc_F w) (vc_A I L 12) := by unfold vx_j4; rw [← eD, ← eY]; omega
          have e := vx_jp5 g1 g2 g3 g4
          exact ⟨_, _, by rw [e]; rfl, fun z => by rw [e] at z; exact absurd (show (2 : Nat) = 0 from z) (by decide), o89, vc_fr_refl _ _, fun _ => ⟨rfl, rfl⟩⟩
        · refine jv_Wp.lift (fun _ Kz => jv_Ev.steps jv_i41 2 (pc' := 165) (l' := [(8, .int (1 : Int32)), (0, .ref 10), (4, .int (vl_I (vc_F w).n)), (5, .int (vr_b wd)), (6, .ref d), (7, .ref y)]) (st' := [.long (0 : Int64), .ref y]) rfl Kz) ?_
          refine jv_Wp.lift (fun _ Kz => jv_Ev.c jv_i41 (pc' := 168) (S' := [.int (vr_b (decide ((vl_S L y).low = 0 ∧ (vl_S L y).high = 0)))]) jv_i154 [.ref y, .long (0 : Int64)] rfl rfl rfl rfl (jv_cal rfl (jv_H_at hy) rfl rfl) rfl (vl_isJust0 (Or.inr hy)) rfl rfl Kz) ?_
          refine jv_Wp.cnd jv_i41 (pt := 220) (pe := 171) (p := ((vr_b (decide ((vl_S L y).low = 0 ∧ (vl_S L y).high = 0))) = 0)) (q := ((vr_b (decide ((vl_S L y).low = 0 ∧ (vl_S L y).high = 0))) = 0)) rfl jv_bi_eq rfl rfl Iff.rfl (fun h5 => ?_) (fun h5 => ?_)
          · refine jv_Wp.lift (fun _ Kz => jv_Ev.steps jv_i41 2 (pc' := 223) (l' := [(8, .int (1 : Int32)), (0, .ref 10), (4, .int (vl_I (vc_F w).n)), (5, .int (vr_b wd)), (6, .ref d), (7, .ref y)]) (st' := [.int (2 : Int32), .int (vl_I (vc_F w).n)]) rfl Kz) ?_
            refine jv_Wp.cnd jv_i41 (pt := 246) (pe := 226) (p := ((vl_I (vc_F w).n) = (2 : Int32))) (q := ((vl_I (vc_F w).n) = (2 : Int32))) rfl jv_bc_eq rfl rfl Iff.rfl (fun hz => absurd hz (fun z => absurd (z.symm.trans h1) (by decide))) (fun _ => ?_)
            refine jv_Wp.lift (fun _ Kz => jv_Ev.steps jv_i41 2 (pc' := 229) (l' := [(8, .int (1 : Int32)), (0, .ref 10), (4, .int (vl_I (vc_F w).n)), (5, .int (vr_b wd)), (6, .ref d), (7, .ref y)]) (st' := [.int (3 : Int32), .int (vl_I (vc_F w).n)]) rfl Kz) ?_
            refine jv_Wp.cnd jv_i41 (pt := 246) (pe := 232) (p := ((vl_I (vc_F w).n) = (3 : Int32))) (q := ((vl_I (vc_F w).n) = (3 : Int32))) rfl jv_bc_eq rfl rfl Iff.rfl (fun hz => absurd hz (fun z => absurd (z.symm.trans h1) (by decide))) (fun _ => ?_)
            refine jv_Wp.lift (fun _ Kz => jv_Ev.steps jv_i41 2 (pc' := 236) (l' := [(8, .int (1 : Int32)), (0, .ref 10), (4, .int (vl_I (vc_F w).n)), (5, .int (vr_b wd)), (6, .ref d), (7, .ref y)]) (st' := [.int (10 : Int32), .int (vl_I (vc_F w).n)]) rfl Kz) ?_
            refine jv_Wp.cnd jv_i41 (pt := 246) (pe := 239) (p := ((vl_I (vc_F w).n) = (10 : Int32))) (q := ((vl_I (vc_F w).n) = (10 : Int32))) rfl jv_bc_eq rfl rfl Iff.rfl (fun hz => absurd hz (fun z => absurd (z.symm.trans h1) (by decide))) (fun _ => ?_)
            refine jv_Wp.lift (fun _ Kz => jv_Ev.steps jv_i41 2 (pc' := 243) (l' := [(8, .int (1 : Int32)), (0, .ref 10), (4, .int (vl_I (vc_F w).n)), (5, .int (vr_b wd)), (6, .ref d), (7, .ref y)]) (st' := [.int (11 : Int32), .int (vl_I (vc_F w).n)]) rfl Kz) ?_
            refine jv_Wp.cnd jv_i41 (pt := 250) (pe := 246) (p := (¬ (vl_I (vc_F w).n) = (11 : Int32))) (q := (¬ (vl_I (vc_F w).n) = (11 : Int32))) rfl jv_bc_ne rfl rfl Iff.rfl (fun _ => ?_) (fun hz => absurd (fun z => absurd (z.symm.trans h1) (by decide)) hz)
            refine jv_Wp.lift (fun _ Kz => jv_Ev.steps jv_i41 3 (pc' := 255) (l' := [(9, .int (0 : Int32)), (8, .int (1 : Int32)), (0, .ref 10), (4, .int (vl_I (vc_F w).n)), (5, .int (vr_b wd)), (6, .ref d), (7, .ref y)]) (st' := [.int (vr_b wd)]) rfl Kz) ?_
            refine jv_Wp.cnd jv_i41 (pt := 311) (pe := 258) (p := ((vr_b wd) = 0)) (q := ((vr_b wd) = 0)) rfl jv_bi_eq rfl rfl Iff.rfl (fun hz => absurd hz h2) (fun _ => ?_)
            refine jv_Wp.lift (fun _ Kz => jv_Ev.steps jv_i41 1 (pc' := 260) (l' := [(9, .int (0 : Int32)), (8, .int (1 : Int32)), (0, .ref 10), (4, .int (vl_I (vc_F w).n)), (5, .int (vr_b wd)), (6, .ref d), (7, .ref y)]) (st' := [.int (0 : Int32)]) rfl Kz) ?_
            refine jv_Wp.lift (fun _ Kz => jv_Ev.br jv_i41 (pc' := 311) (st' := []) rfl (by rfl) Kz) ?_
            refine jv_Wp.lift (fun _ Kz => jv_Ev.steps jv_i41 1 (pc' := 312) (l' := [(9, .int (0 : Int32)), (8, .int (1 : Int32)), (0, .ref 10), (4, .int (vl_I (vc_F w).n)), (5, .int (vr_b wd)), (6, .ref d), (7, .ref y)]) (st' := [.int (2 : Int32)]) rfl Kz) ?_
            refine jv_Wp.of (jv_Ev.ret jv_i41 rfl rfl) ?_
            rw [hQ]
            have f1 : (vc_F w).n = 1 := (vl_I_inj (by omega) (by decide)).mp h1
            have f2 : (vc_F w).kind = 5 := of_decide_eq_true (hwd.symm.trans (by cases wd <;> first | rfl | exact absurd rfl h2))
            have f3 : (vc_T I L d).sort = 8 := (vc_is8 od).mpr (Classical.not_not.mp h3)
            have f4 : (vc_T I L y).sort = 1 := (vc_is1 oy).mpr (Classical.not_not.mp h4)
            have g1 : ¬ vx_j1 (vc_F w) (vc_A I L 12) := by unfold vx_j1; rw [← eD, ← eY]; exact j1
            have g2 : ¬ vx_j2 (vc_F w) (vc_A I L 12) := by unfold vx_j2; rw [← eD, ← eY]; exact j2
            have ji : ¬ ((vl_S L y).low = 0 ∧ (vl_S L y).high = 0) := of_decide_eq_false (vr_b_f h5)
            have vy : (vc_T I L y).val = vl_S L y := vc_valv (Or.inl ((vc_is1 oy).mp (by omega)))
            have g3 : ¬ vx_j3 (vc_F w) (vc_A I L 12) := by unfold vx_j3; rw [← eD, ← eY, vy]; exact fun z => ji z.2.2.2.2
            have g4 : ¬ vx_j4 (vc_F w) (vc_A I L 12) := by unfold vx_j4; rw [← eD, ← eY]; omega
            have e := vx_jp5 g1 g2 g3 g4
            exact ⟨_, _, by rw [e]; rfl, fun z => by rw [e] at z; exact absurd (show (2 : Nat) = 0 from z) (by decide), o89, vc_fr_refl _ _, fun _ => ⟨rfl, rfl⟩⟩
          · refine jv_Wp.lift (fun _ Kz => jv_Ev.steps jv_i41 1 (pc' := 173) (l' := [(8, .int (1 : Int32)), (0, .ref 10), (4, .int (vl_I (vc_F w).n)), (5, .int (vr_b wd)), (6, .ref d), (7, .ref y)]) (st' := [.ref d]) rfl Kz) ?_
            refine jv_Wp.lift (fun _ Kz => jv_Ev.m jv_i41 (pc' := 176) (st' := [.long (L d 8)]) (G' := (jv_H K I L R)) rfl rfl (jv_m_getL hd rfl rfl rfl) Kz) ?_
            refine jv_Wp.lift (fun _ Kz => jv_Ev.steps jv_i41 2 (pc' := 179) (l' := [(9, .long (L d 8)), (8, .int (1 : Int32)), (0, .ref 10), (4, .int (vl_I (vc_F w).n)), (5, .int (vr_b wd)), (6, .ref d), (7, .ref y)]) (st' := [.ref 10]) rfl Kz) ?_
            refine jv_Wp.lift (fun _ Kz => jv_Ev.m jv_i41 (pc' := 182) (st' := [.ref 89]) (G' := (jv_H K I L R)) rfl rfl (jv_m_getR hC.k rfl rfl hC.rjumped) Kz) ?_
            refine jv_Wp.lift (fun _ Kz => jv_Ev.steps jv_i41 3 (pc' := 187) (l' := [(9, .long (L d 8)), (8, .int (1 : Int32)), (0, .ref 10), (4, .int (vl_I (vc_F w).n)), (5, .int (vr_b wd)), (6, .ref d), (7, .ref y)]) (st' := [.int (5 : Int32), .int (vl_I (vc_F w).n), .long (L d 8), .ref 89]) rfl Kz) ?_
            refine jv_Wp.cnd jv_i41 (pt := 194) (pe := 190) (p := (¬ (vl_I (vc_F w).n) = (5 : Int32))) (q := (¬ (vl_I (vc_F w).n) = (5 : Int32))) rfl jv_bc_ne rfl rfl Iff.rfl (fun _ => ?_) (fun hz => absurd (fun z => absurd (z.symm.trans h1) (by decide)) hz)
            refine jv_Wp.lift (fun _ Kz => jv_Ev.steps jv_i41 1 (pc' := 195) (l' := [(9, .long (L d 8)), (8, .int (1 : Int32)), (0, .ref 10), (4, .int (vl_I (vc_F w).n)), (5, .int (vr_b wd)), (6, .ref d), (7, .ref y)]) (st' := [.int (0 : Int32), .long (L d 8), .ref 89]) rfl Kz) ?_
            obtain ⟨I1, L1, H1, T1, O1, F1, G1⟩ := vc_settle (I := I) (L := L) (R := R) (n := n) (sl := sl) (L d 8) false hC.jumped o89
            refine jv_Wp.lift (fun _ Kz => jv_Ev.c jv_i41 (pc' := 198) (S' := []) (G1 := (jv_H K I1 L1 R)) jv_i117 [.ref 89, .long (L d 8), .int (0 : Int32)] rfl rfl rfl rfl (jv_cal rfl (jv_H_at hC.jumped.k) rfl rfl) rfl H1 rfl rfl Kz) ?_
            refine jv_Wp.lift (fun _ Kz => jv_Ev.steps jv_i41 1 (pc' := 199) (l' := [(9, .long (L d 8)), (8, .int (1 : Int32)), (0, .ref 10), (4, .int (vl_I (vc_F w).n)), (5, .int (vr_b wd)), (6, .ref d), (7, .ref y)]) (st' := [.ref 10]) rfl Kz) ?_
            refine jv_Wp.lift (fun _ Kz => jv_Ev.m jv_i41 (pc' := 202) (st' := [.ref 12]) (G' := (jv_H K I1 L1 R)) rfl rfl (jv_m_getR hC.k rfl rfl hC.rnow) Kz) ?_
            refine jv_Wp.lift (fun _ Kz => jv_Ev.steps jv_i41 3 (pc' := 207) (l' := [(9, .long (L d 8)), (8, .int (1 : Int32)), (0, .ref 10), (4, .int (vl_I (vc_F w).n)), (5, .int (vr_b wd)), (6, .ref d), (7, .ref y)]) (st' := [.int (1 : Int32), .int (vl_I (vc_F w).n), .long (L d 8), .ref 12]) rfl Kz) ?_
            refine jv_Wp.cnd jv_i41 (pt := 214) (pe := 210) (p := (¬ (vl_I (vc_F w).n) = (1 : Int32))) (q := (¬ (vl_I (vc_F w).n) = (1 : Int32))) rfl jv_bc_ne rfl rfl Iff.rfl (fun hz => absurd hz (fun z => z h1)) (fun _ => ?_)
            refine jv_Wp.lift (fun _ Kz => jv_Ev.steps jv_i41 2 (pc' := 215) (l' := [(9, .long (L d 8)), (8, .int (1 : Int32)), (0, .ref 10), (4, .int (vl_I (vc_F w).n)), (5, .int (vr_b wd)), (6, .ref d), (7, .ref y)]) (st' := [.int (1 : Int32), .long (L d 8), .ref 12]) rfl Kz) ?_
            obtain ⟨I2, L2, H2, T2, O2, F2, G2⟩ := vc_settle (I := I1) (L := L1) (R := R) (n := n) (sl := sl) (L d 8) true hC.now (vc_fr_okA F1 (fun p z => vc_apart z) o12)
            refine jv_Wp.lift (fun _ Kz => jv_Ev.c jv_i41 (pc' := 218) (S' := []) (G1 := (jv_H K I2 L2 R)) jv_i117 [.ref 12, .long (L d 8), .int (1 : Int32)] rfl rfl rfl rfl (jv_cal rfl (jv_H_at hC.now.k) rfl rfl) rfl H2 rfl rfl Kz) ?_
            refine jv_Wp.lift (fun _ Kz => jv_Ev.steps jv_i41 1 (pc' := 219) (l' := [(9, .long (L d 8)), (8, .int (1 : Int32)), (0, .ref 10), (4, .int (vl_I (vc_F w).n)), (5, .int (vr_b wd)), (6, .ref d), (7, .ref y)]) (st' := [.int (0 : Int32)]) rfl Kz) ?_
            refine jv_Wp.of (jv_Ev.ret jv_i41 rfl rfl) ?_
            rw [hQ]
            have f1 : (vc_F w).n = 1 := (vl_I_inj (by omega) (by decide)).mp h1
            have f2 : (vc_F w).kind = 5 := of_decide_eq_true (hwd.symm.trans (by cases wd <;> first | rfl | exact absurd rfl h2))
            have f3 : (vc_T I L d).sort = 8 := (vc_is8 od).mpr (Classical.not_not.mp h3)
            have f4 : (vc_T I L y).sort = 1 := (vc_is1 oy).mpr (Classical.not_not.mp h4)
            have g1 : ¬ vx_j1 (vc_F w) (vc_A I L 12) := by unfold vx_j1; rw [← eD, ← eY]; exact j1
            have g2 : ¬ vx_j2 (vc_F w) (vc_A I L 12) := by unfold vx_j2; rw [← eD, ← eY]; exact j2
            have ji : ((vl_S L y).low = 0 ∧ (vl_S L y).high = 0) := of_decide_eq_true (vr_b_t h5)
            have vy : (vc_T I L y).val = vl_S L y := vc_valv (Or.inl ((vc_is1 oy).mp (by omega)))
            have g3 : vx_j3 (vc_F w) (vc_A I L 12) := by unfold vx_j3; rw [← eD, ← eY, vy]; exact ⟨by omega, by omega, by omega, by omega, ji.1, ji.2⟩
            have e := vx_jp3 g1 g2 g3
            have eo : ((vc_A I L 12).1 (vc_F w).d).org = (L d 8).toInt := by rw [← eD]; exact vc_org8 ((vc_is8 od).mp (by omega))
            rw [eo, decide_eq_true (show (vc_F w).n = 1 by omega), decide_eq_false (show ¬ (vc_F w).n = 5 by omega)] at e
            rw [e]
            exact ⟨_, _, rfl, fun _ => vc_jp_some (((F2 10 (by unfold vc_in; omega)).1 9).trans ((F1 10 (by unfold vc_in; omega)).1 9)) (((F2 10 (by unfold vc_in; omega)).1 10).trans ((F1 10 (by unfold vc_in; omega)).1 10)) (T2.trans (congrArg (fun Z => vx_settle Z _ _) (vc_fr_A F1 (fun p z => vc_apart z)))) ((vc_fr_A F2 (fun p z => vc_apart' z)).trans (T1.trans (congrArg (fun Z => vx_settle Z _ _) e89))) O2 (vc_fr_okA F2 (fun p z => vc_apart' z) O1), (vc_fr_okA F2 (fun p z => vc_apart' z) O1), vc_fr_trans (vc_fr_mono F1 (fun p z => Or.inr z)) (vc_fr_mono F2 (fun p z => Or.inl z)), fun f => ⟨(G2 f).trans ((F1 12 (vc_apart ⟨by decide, by decide⟩)).1 f), ((F2 89 (vc_apart' ⟨by decide, by decide⟩)).1 f).trans (G1 f)⟩⟩
  · refine jv_Wp.lift (fun _ Kz => jv_Ev.steps jv_i41 2 (pc' := 123) (l' := [(0, .ref 10), (4, .int (vl_I (vc_F w).n)), (5, .int (vr_b wd)), (6, .ref d), (7, .ref y)]) (st' := [.int (5 : Int32), .int (vl_I (vc_F w).n)]) rfl Kz) ?_
    refine jv_Wp.cnd jv_i41 (pt := 130) (pe := 126) (p := (¬ (vl_I (vc_F w).n) = (5 : Int32))) (q := (¬ (vl_I (vc_F w).n) = (5 : Int32))) rfl jv_bc_ne rfl rfl Iff.rfl (fun h6 => ?_) (fun h6 => ?_)
    · refine jv_Wp.lift (fun _ Kz => jv_Ev.steps jv_i41 3 (pc' := 135) (l' := [(8, .int (0 : Int32)), (0, .ref 10), (4, .int (vl_I (vc_F w).n)), (5, .int (vr_b wd)), (6, .ref d), (7, .ref y)]) (st' := [.int (vr_b wd)]) rfl Kz) ?_
      refine jv_Wp.cnd jv_i41 (pt := 220) (pe := 138) (p := ((vr_b wd) = 0)) (q := ((vr_b wd) = 0)) rfl jv_bi_eq rfl rfl Iff.rfl (fun h7 => ?_) (fun h7 => ?_)
      · refine jv_Wp.lift (fun _ Kz => jv_Ev.steps jv_i41 2 (pc' := 223) (l' := [(8, .int (0 : Int32)), (0, .ref 10), (4, .int (vl_I (vc_F w).n)), (5, .int (vr_b wd)), (6, .ref d), (7, .ref y)]) (st' := [.int (2 : Int32), .int (vl_I (vc_F w).n)]) rfl Kz) ?_
        refine jv_Wp.cnd jv_i41 (pt := 246) (pe := 226) (p := ((vl_I (vc_F w).n) = (2 : Int32))) (q := ((vl_I (vc_F w).n) = (2 : Int32))) rfl jv_bc_eq rfl rfl Iff.rfl (fun h8 => ?_) (fun h8 => ?_)
        · refine jv_Wp.lift (fun _ Kz => jv_Ev.steps jv_i41 4 (pc' := 255) (l' := [(9, .int (1 : Int32)), (8, .int (0 : Int32)), (0, .ref 10), (4, .int (vl_I (vc_F w).n)), (5, .int (vr_b wd)), (6, .ref d), (7, .ref y)]) (st' := [.int (vr_b wd)]) rfl Kz) ?_
          refine jv_Wp.cnd jv_i41 (pt := 311) (pe := 258) (p := ((vr_b wd) = 0)) (q := ((vr_b wd) = 0)) rfl jv_bi_eq rfl rfl Iff.rfl (fun _ => ?_) (fun hz => absurd h7 hz)
          refine jv_Wp.lift (fun _ Kz => jv_Ev.steps jv_i41 1 (pc' := 312) (l' := [(9, .int (1 : Int32)), (8, .int (0 : Int32)), (0, .ref 10), (4, .int (vl_I (vc_F w).n)), (5, .int (vr_b wd)), (6, .ref d), (7, .ref y)]) (st' := [.int (2 : Int32)]) rfl Kz) ?_
          refine jv_Wp.of (jv_Ev.ret jv_i41 rfl rfl) ?_
          rw [hQ]
          have f1 : ¬ (vc_F w).n = 1 := fun z => h1 (by rw [z]; rfl)
          have f2 : ¬ (vc_F w).n = 5 := fun z => h6 (by rw [z]; rfl)
          have f3 : ¬ (vc_F w).kind = 5 := of_decide_eq_false (hwd.symm.trans (by cases wd <;> first | rfl | exact absurd h7 (by decide)))
          have f4 : (vc_F w).n = 2 := (vl_I_inj (by omega) (by decide)).mp h8
          have g1 : ¬ vx_j1 (vc_F w) (vc_A I L 12) := by unfold vx_j1; rw [← eD, ← eY]; exact j1
          have g2 : ¬ vx_j2 (vc_F w) (vc_A I L 12) := by unfold vx_j2; rw [← eD, ← eY]; exact j2
          have g3 : ¬ vx_j3 (vc_F w) (vc_A I L 12) := by unfold vx_j3; rw [← eD, ← eY]; omega
          have g4 : ¬ vx_j4 (vc_F w) (vc_A I L 12) := by unfold vx_j4; rw [← eD, ← eY]; omega
          have e := vx_jp5 g1 g2 g3 g4
          exact ⟨_, _, by rw [e]; rfl, fun z => by rw [e] at z; exact absurd (show (2 : Nat) = 0 from z) (by decide), o89, vc_fr_refl _ _, fun _ => ⟨rfl, rfl⟩⟩
        · refine jv_Wp.lift (fun _ Kz => jv_Ev.steps jv_i41 2 (pc' := 229) (l' := [(8, .int (0 : Int32)), (0, .ref 10), (4, .int (vl_I (vc_F w).n)), (5, .int (vr_b wd)), (6, .ref d), (7, .ref y)]) (st' := [.int (3 : Int32), .int (vl_I (vc_F w).n)]) rfl Kz) ?_
          refine jv_Wp.cnd jv_i41 (pt := 246) (pe := 232) (p := ((vl_I (vc_F w).n) = (3 : Int32))) (q := ((vl_I (vc_F w).n) = (3 : Int32))) rfl jv_bc_eq rfl rfl Iff.rfl (fun h9 => ?_) (fun h9 => ?_)
          · refine jv_Wp.lift (fun _ Kz => jv_Ev.steps jv_i41 4 (pc' := 255) (l' := [(9, .int (1 : Int32)), (8, .int (0 : Int32)), (0, .ref 10), (4, .int (vl_I (vc_F w).n)), (5, .int (vr_b wd)), (6, .ref d), (7, .ref y)]) (st' := [.int (vr_b wd)]) rfl Kz) ?_
            refine jv_Wp.cnd jv_i41 (pt := 311) (pe := 258) (p := ((vr_b wd) = 0)) (q := ((vr_b wd) = 0)) rfl jv_bi_eq rfl rfl Iff.rfl (fun _ => ?_) (fun hz => absurd h7 hz)
            refine jv_Wp.lift (fun _ Kz => jv_Ev.steps jv_i41 1 (pc' := 312) (l' := [(9, .int (1 : Int32)), (8, .int (0 : Int32)), (0, .ref 10), (4, .int (vl_I (vc_F w).n)), (5, .int (vr_b wd)), (6, .ref d), (7, .ref y)]) (st' := [.int (2 : Int32)]) rfl Kz) ?_
            refine jv_Wp.of (jv_Ev.ret jv_i41 rfl rfl) ?_
            rw [hQ]
            have f1 : ¬ (vc_F w).n = 1 := fun z => h1 (by rw [z]; rfl)
            have f2 : ¬ (vc_F w).n = 5 := fun z => h6 (by rw [z]; rfl)
            have f3 : ¬ (vc_F w).kind = 5 := of_decide_eq_false (hwd.symm.trans (by cases wd <;> first | rfl | exact absurd h7 (by decide)))
            have f4 : ¬ (vc_F w).n = 2 := fun z => h8 (by rw [z]; rfl)
            have f5 : (vc_F w).n = 3 := (vl_I_inj (by omega) (by decide)).mp h9
            have g1 : ¬ vx_j1 (vc_F w) (vc_A I L 12) := by unfold vx_j1; rw [← eD, ← eY]; exact j1
            have g2 : ¬ vx_j2 (vc_F w) (vc_A I L 12) := by unfold vx_j2; rw [← eD, ← eY]; exact j2
            have g3 : ¬ vx_j3 (vc_F w) (vc_A I L 12) := by unfold vx_j3; rw [← eD, ← eY]; omega
            have g4 : ¬ vx_j4 (vc_F w) (vc_A I L 12) := by unfold vx_j4; rw [← eD, ← eY]; omega
            have e := vx_jp5 g1 g2 g3 g4
            exact ⟨_, _, by rw [e]; rfl, fun z => by rw [e] at z; exact absurd (show (2 : Nat) = 0 from z) (by decide), o89, vc_fr_refl _ _, fun _ => ⟨rfl, rfl⟩⟩
          · refine jv_Wp.lift (fun _ Kz => jv_Ev.steps jv_i41 2 (pc' := 236) (l' := [(8, .int (0 : Int32)), (0, .ref 10), (4, .int (vl_I (vc_F w).n)), (5, .int (vr_b wd)), (6, .ref d), (7, .ref y)]) (st' := [.int (10 : Int32), .int (vl_I (vc_F w).n)]) rfl Kz) ?_
            refine jv_Wp.cnd jv_i41 (pt := 246) (pe := 239) (p := ((vl_I (vc_F w).n) = (10 : Int32))) (q := ((vl_I (vc_F w).n) = (10 : Int32))) rfl jv_bc_eq rfl rfl Iff.rfl (fun h10 => ?_) (fun h10 => ?_)
            · refine jv_Wp.lift (fun _ Kz => jv_Ev.steps jv_i41 4 (pc' := 255) (l' := [(9, .int (1 : Int32)), (8, .int (0 : Int32)), (0, .ref 10), (4, .int (vl_I (vc_F w).n)), (5, .int (vr_b wd)), (6, .ref d), (7, .ref y)]) (st' := [.int (vr_b wd)]) rfl Kz) ?_
              refine jv_Wp.cnd jv_i41 (pt := 311) (pe := 258) (p := ((vr_b wd) = 0)) (q := ((vr_b wd) = 0)) rfl jv_bi_eq rfl rfl Iff.rfl (fun _ => ?_) (fun hz => absurd h7 hz)
              refine jv_Wp.lift (fun _ Kz => jv_Ev.steps jv_i41 1 (pc' := 312) (l' := [(9, .int (1 : Int32)), (8, .int (0 : Int32)), (0, .ref 10), (4, .int (vl_I (vc_F w).n)), (5, .int (vr_b wd)), (6, .ref d), (7, .ref y)]) (st' := [.int (2 : Int32)]) rfl Kz) ?_
              refine jv_Wp.of (jv_Ev.ret jv_i41 rfl rfl) ?_
              rw [hQ]
              have f1 : ¬ (vc_F w).n = 1 := fun z => h1 (by rw [z]; rfl)
              have f2 : ¬ (vc_F w).n = 5 := fun z => h6 (by rw [z]; rfl)
              have f3 : ¬ (vc_F w).kind = 5 := of_decide_eq_false (hwd.symm.trans (by cases wd <;> first | rfl | exact absurd h7 (by decide)))
              have f4 : ¬ (vc_F w).n = 2 := fun z => h8 (by rw [z]; rfl)
              have f5 : ¬ (vc_F w).n = 3 := fun z => h9 (by rw [z]; rfl)
              have f6 : (vc_F w).n = 10 := (vl_I_inj (by omega) (by decide)).mp h10
              have g1 : ¬ vx_j1 (vc_F w) (vc_A I L 12) := by unfold vx_j1; rw [← eD, ← eY]; exact j1
              have g2 : ¬ vx_j2 (vc_F w) (vc_A I L 12) := by unfold vx_j2; rw [← eD, ← eY]; exact j2
              have g3 : ¬ vx_j3 (vc_F w) (vc_A I L 12) := by unfold vx_j3; rw [← eD, ← eY]; omega
              have g4 : ¬ vx_j4 (vc_F w) (vc_A I L 12) := by unfold vx_j4; rw [← eD, ← eY]; omega
              have e := vx_jp5 g1 g2 g3 g4
              exact ⟨_, _, by rw [e]; rfl, fun z => by rw [e] at z; exact absurd (show (2 : Nat) = 0 from z) (by decide), o89, vc_fr_refl _ _, fun _ => ⟨rfl, rfl⟩⟩
            · refine jv_Wp.lift (fun _ Kz => jv_Ev.steps jv_i41 2 (pc' := 243) (l' := [(8, .int (0 : Int32)), (0, .ref 10), (4, .int (vl_I (vc_F w).n)), (5, .int (vr_b wd)), (6, .ref d), (7, .ref y)]) (st' := [.int (11 : Int32), .int (vl_I (vc_F w).n)]) rfl Kz) ?_
              refine jv_Wp.cnd jv_i41 (pt := 250) (pe := 246) (p := (¬ (vl_I (vc_F w).n) = (11 : Int32))) (q := (¬ (vl_I (vc_F w).n) = (11 : Int32))) rfl jv_bc_ne rfl rfl Iff.rfl (fun h11 => ?_) (fun h11 => ?_)
              · refine jv_Wp.lift (fun _ Kz => jv_Ev.steps jv_i41 3 (pc' := 255) (l' := [(9, .int (0 : Int32)), (8, .int (0 : Int32)), (0, .ref 10), (4, .int (vl_I (vc_F w).n)), (5, .int (vr_b wd)), (6, .ref d), (7, .ref y)]) (st' := [.int (vr_b wd)]) rfl Kz) ?_
                refine jv_Wp.cnd jv_i41 (pt := 311) (pe := 258) (p := ((vr_b wd) = 0)) (q := ((vr_b wd) = 0)) rfl jv_bi_eq rfl rfl Iff.rfl (fun _ => ?_) (fun hz => absurd h7 hz)
                refine jv_Wp.lift (fun _ Kz => jv_Ev.steps jv_i41 1 (pc' := 312) (l' := [(9, .int (0 : Int32)), (8, .int (0 : Int32)), (0, .ref 10), (4, .int (vl_I (vc_F w).n)), (5, .int (vr_b wd)), (6, .ref d), (7, .ref y)]) (st' := [.int (2 : Int32)]) rfl Kz) ?_
                refine jv_Wp.of (jv_Ev.ret jv_i41 rfl rfl) ?_
                rw [hQ]
                have f1 : ¬ (vc_F w).n = 1 := fun z => h1 (by rw [z]; rfl)
                have f2 : ¬ (vc_F w).n = 5 := fun z => h6 (by rw [z]; rfl)
                have f3 : ¬ (vc_F w).kind = 5 := of_decide_eq_false (hwd.symm.trans (by cases wd <;> first | rfl | exact absurd h7 (by decide)))
                have f4 : ¬ (vc_F w).n = 2 := fun z => h8 (by rw [z]; rfl)
                have f5 : ¬ (vc_F w).n = 3 := fun z => h9 (by rw [z]; rfl)
                have f6 : ¬ (vc_F w).n = 10 := fun z => h10 (by rw [z]; rfl)
                have f7 : ¬ (vc_F w).n = 11 := fun z => h11 (by rw [z]; rfl)
                have g1 : ¬ vx_j1 (vc_F w) (vc_A I L 12) := by unfold vx_j1; rw [← eD, ← eY]; exact j1
                have g2 : ¬ vx_j2 (vc_F w) (vc_A I L 12) := by unfold vx_j2; rw [← eD, ← eY]; exact j2
                have g3 : ¬ vx_j3 (vc_F w) (vc_A I L 12) := by unfold vx_j3; rw [← eD, ← eY]; omega
                have g4 : ¬ vx_j4 (vc_F w) (vc_A I L 12) := by unfold vx_j4; rw [← eD, ← eY]; omega
                have e := vx_jp5 g1 g2 g3 g4
                exact ⟨_, _, by rw [e]; rfl, fun z => by rw [e] at z; exact absurd (show (2 : Nat) = 0 from z) (by decide), o89, vc_fr_refl _ _, fun _ => ⟨rfl, rfl⟩⟩
              · refine jv_Wp.lift (fun _ Kz => jv_Ev.steps jv_i41 4 (pc' := 255) (l' := [(9, .int (1 : Int32)), (8, .int (0 : Int32)), (0, .ref 10), (4, .int (vl_I (vc_F w).n)), (5, .int (vr_b wd)), (6, .ref d), (7, .ref y)]) (st' := [.int (vr_b wd)]) rfl Kz) ?_
                refine jv_Wp.cnd jv_i41 (pt := 311) (pe := 258) (p := ((vr_b wd) = 0)) (q := ((vr_b wd) = 0)) rfl jv_bi_eq rfl rfl Iff.rfl (fun _ => ?_) (fun hz => absurd h7 hz)
                refine jv_Wp.lift (fun _ Kz => jv_Ev.steps jv_i41 1 (pc' := 312) (l' := [(9, .int (1 : Int32)), (8, .int (0 : Int32)), (0, .ref 10), (4, .int (vl_I (vc_F w).n)), (5, .int (vr_b wd)), (6, .ref d), (7, .ref y)]) (st' := [.int (2 : Int32)]) rfl Kz) ?_
                refine jv_Wp.of (jv_Ev.ret jv_i41 rfl rfl) ?_
                rw [hQ]
                have f1 : ¬ (vc_F w).n = 1 := fun z => h1 (by rw [z]; rfl)
                have f2 : ¬ (vc_F w).n = 5 := fun z => h6 (by rw [z]; rfl)
                have f3 : ¬ (vc_F w).kind = 5 := of_decide_eq_false (hwd.symm.trans (by cases wd <;> first | rfl | exact absurd h7 (by decide)))
                have f4 : ¬ (vc_F w).n = 2 := fun z => h8 (by rw [z]; rfl)
                have f5 : ¬ (vc_F w).n = 3 := fun z => h9 (by rw [z]; rfl)
                have f6 : ¬ (vc_F w).n = 10 := fun z => h10 (by rw [z]; rfl)
                have f7 : (vc_F w).n = 11 := (vl_I_inj (by omega) (by decide)).mp (Classical.not_not.mp h11)
                have g1 : ¬ vx_j1 (vc_F w) (vc_A I L 12) := by unfold vx_j1; rw [← eD, ← eY]; exact j1
                have g2 : ¬ vx_j2 (vc_F w) (vc_A I L 12) := by unfold vx_j2; rw [← eD, ← eY]; exact j2
                have g3 : ¬ vx_j3 (vc_F w) (vc_A I L 12) := by unfold vx_j3; rw [← eD, ← eY]; omega
                have g4 : ¬ vx_j4 (vc_F w) (vc_A I L 12) := by unfold vx_j4; rw [← eD, ← eY]; omega
                have e := vx_jp5 g1 g2 g3 g4
                exact ⟨_, _, by rw [e]; rfl, fun z => by rw [e] at z; exact absurd (show (2 : Nat) = 0 from z) (by decide), o89, vc_fr_refl _ _, fun _ => ⟨rfl, rfl⟩⟩
      · refine jv_Wp.lift (fun _ Kz => jv_Ev.steps jv_i41 1 (pc' := 140) (l' := [(8, .int (0 : Int32)), (0, .ref 10), (4, .int (vl_I (vc_F w).n)), (5, .int (vr_b wd)), (6, .ref d), (7, .ref y)]) (st' := [.int (0 : Int32)]) rfl Kz) ?_
        refine jv_Wp.lift (fun _ Kz => jv_Ev.br jv_i41 (pc' := 220) (st' := []) rfl (by rfl) Kz) ?_
        refine jv_Wp.lift (fun _ Kz => jv_Ev.steps jv_i41 2 (pc' := 223) (l' := [(8, .int (0 : Int32)), (0, .ref 10), (4, .int (vl_I (vc_F w).n)), (5, .int (vr_b wd)), (6, .ref d), (7, .ref y)]) (st' := [.int (2 : Int32), .int (vl_I (vc_F w).n)]) rfl Kz) ?_
        refine jv_Wp.cnd jv_i41 (pt := 246) (pe := 226) (p := ((vl_I (vc_F w).n) = (2 : Int32))) (q := ((vl_I (vc_F w).n) = (2 : Int32))) rfl jv_bc_eq rfl rfl Iff.rfl (fun h12 => ?_) (fun h12 => ?_)
        · refine jv_Wp.lift (fun _ Kz => jv_Ev.steps jv_i41 4 (pc' := 255) (l' := [(9, .int (1 : Int32)), (8, .int (0 : Int32)), (0, .ref 10), (4, .int (vl_I (vc_F w).n)), (5, .int (vr_b wd)), (6, .ref d), (7, .ref y)]) (st' := [.int (vr_b wd)]) rfl Kz) ?_
          refine jv_Wp.cnd jv_i41 (pt := 311) (pe := 258) (p := ((vr_b wd) = 0)) (q := ((vr_b wd) = 0)) rfl jv_bi_eq rfl rfl Iff.rfl (fun hz => absurd hz h7) (fun _ => ?_)
          refine jv_Wp.lift (fun _ Kz => jv_Ev.steps jv_i41 1 (pc' := 260) (l' := [(9, .int (1 : Int32)), (8, .int (0 : Int32)), (0, .ref 10), (4, .int (vl_I (vc_F w).n)), (5, .int (vr_b wd)), (6, .ref d), (7, .ref y)]) (st' := [.int (1 : Int32)]) rfl Kz) ?_
          refine jv_Wp.lift (fun _ Kz => jv_Ev.br jv_i41 (pc' := 263) (st' := []) rfl (by rfl) Kz) ?_
          refine jv_Wp.lift (fun _ Kz => jv_Ev.steps jv_i41 1 (pc' := 265) (l' := [(9, .int (1 : Int32)), (8, .int (0 : Int32)), (0, .ref 10), (4, .int (vl_I (vc_F w).n)), (5, .int (vr_b wd)), (6, .ref d), (7, .ref y)]) (st' := [.ref d]) rfl Kz) ?_
          refine jv_Wp.lift (fun _ Kz => jv_Ev.m jv_i41 (pc' := 268) (st' := [.int (I d 6)]) (G' := (jv_H K I L R)) rfl rfl (jv_m_getI hd rfl rfl rfl) Kz) ?_
          refine jv_Wp.lift (fun _ Kz => jv_Ev.steps jv_i41 1 (pc' := 269) (l' := [(9, .int (1 : Int32)), (8, .int (0 : Int32)), (0, .ref 10), (4, .int (vl_I (vc_F w).n)), (5, .int (vr_b wd)), (6, .ref d), (7, .ref y)]) (st' := [.int (4 : Int32), .int (I d 6)]) rfl Kz) ?_
          refine jv_Wp.cnd jv_i41 (pt := 281) (pe := 272) (p := (¬ (I d 6) = (4 : Int32))) (q := (¬ (I d 6) = (4 : Int32))) rfl jv_bc_ne rfl rfl Iff.rfl (fun h13 => ?_) (fun h13 => ?_)
          · refine jv_Wp.lift (fun _ Kz => jv_Ev.steps jv_i41 1 (pc' := 283) (l' := [(9, .int (1 : Int32)), (8, .int (0 : Int32)), (0, .ref 10), (4, .int (vl_I (vc_F w).n)), (5, .int (vr_b wd)), (6, .ref d), (7, .ref y)]) (st' := [.ref d]) rfl Kz) ?_
            refine jv_Wp.lift (fun _ Kz => jv_Ev.m jv_i41 (pc' := 286) (st' := [.int (I d 6)]) (G' := (jv_H K I L R)) rfl rfl (jv_m_getI hd rfl rfl rfl) Kz) ?_
            refine jv_Wp.lift (fun _ Kz => jv_Ev.steps jv_i41 1 (pc' := 287) (l' := [(9, .int (1 : Int32)), (8, .int (0 : Int32)), (0, .ref 10), (4, .int (vl_I (vc_F w).n)), (5, .int (vr_b wd)), (6, .ref d), (7, .ref y)]) (st' := [.int (5 : Int32), .int (I d 6)]) rfl Kz) ?_
            refine jv_Wp.cnd jv_i41 (pt := 311) (pe := 290) (p := (¬ (I d 6) = (5 : Int32))) (q := (¬ (I d 6) = (5 : Int32))) rfl jv_bc_ne rfl rfl Iff.rfl (fun h14 => ?_) (fun h14 => ?_)
            · refine jv_Wp.lift (fun _ Kz => jv_Ev.steps jv_i41 1 (pc' := 312) (l' := [(9, .int (1 : Int32)), (8, .int (0 : Int32)), (0, .ref 10), (4, .int (vl_I (vc_F w).n)), (5, .int (vr_b wd)), (6, .ref d), (7, .ref y)]) (st' := [.int (2 : Int32)]) rfl Kz) ?_
              refine jv_Wp.of (jv_Ev.ret jv_i41 rfl rfl) ?_
              rw [hQ]
              have f1 : ¬ (vc_F w).n = 1 := fun z => h1 (by rw [z]; rfl)
              have f2 : ¬ (vc_F w).n = 5 := fun z => h6 (by rw [z]; rfl)
              have f3 : (vc_F w).kind = 5 := of_decide_eq_true (hwd.symm.trans (by cases wd <;> first | rfl | exact absurd rfl h7))
              have f4 : (vc_F w).n = 2 := (vl_I_inj (by omega) (by decide)).mp h12
              have f5 : ¬ (vc_T I L d).sort = 4 := fun z => h13 ((vc_is4 od).mp z)
              have f6 : ¬ (vc_T I L d).sort = 5 := fun z => h14 ((vc_is5 od).mp z)
              have g1 : ¬ vx_j1 (vc_F w) (vc_A I L 12) := by unfold vx_j1; rw [← eD, ← eY]; exact j1
              have g2 : ¬ vx_j2 (vc_F w) (vc_A I L 12) := by unfold vx_j2; rw [← eD, ← eY]; exact j2
              have g3 : ¬ vx_j3 (vc_F w) (vc_A I L 12) := by unfold vx_j3; rw [← eD, ← eY]; omega
              have g4 : ¬ vx_j4 (vc_F w) (vc_A I L 12) := by unfold vx_j4; rw [← eD, ← eY]; omega
              have e := vx_jp5 g1 g2 g3 g4
              exact ⟨_, _, by rw [e]; rfl, fun z => by rw [e] at z; exact absurd (show (2 : Nat) = 0 from z) (by decide), o89, vc_fr_refl _ _, fun _ => ⟨rfl, rfl⟩⟩
            · refine jv_Wp.lift (fun _ Kz => jv_Ev.steps jv_i41 1 (pc' := 292) (l' := [(9, .int (1 : Int32)), (8, .int (0 : Int32)), (0, .ref 10), (4, .int (vl_I (vc_F w).n)), (5, .int (vr_b wd)), (6, .ref d), (7, .ref y)]) (st' := [.ref y]) rfl Kz) ?_
              refine jv_Wp.lift (fun _ Kz => jv_Ev.m jv_i41 (pc' := 295) (st' := [.int (I y 6)]) (G' := (jv_H K I L R)) rfl rfl (jv_m_getI hy rfl rfl rfl) Kz) ?_
              refine jv_Wp.lift (fun _ Kz => jv_Ev.steps jv_i41 1 (pc' := 296) (l' := [(9, .int (1 : Int32)), (8, .int (0 : Int32)), (0, .ref 10), (4, .int (vl_I (vc_F w).n)), (5, .int (vr_b wd)), (6, .ref d), (7, .ref y)]) (st' := [.int (4 : Int32), .int (I y 6)]) rfl Kz) ?_
              refine jv_Wp.cnd jv_i41 (pt := 311) (pe := 299) (p := (¬ (I y 6) = (4 : Int32))) (q := (¬ (I y 6) = (4 : Int32))) rfl jv_bc_ne rfl rfl Iff.rfl (fun h15 => ?_) (fun h15 => ?_)
              · refine jv_Wp.lift (fun _ Kz => jv_Ev.steps jv_i41 1 (pc' := 312) (l' := [(9, .int (1 : Int32)), (8, .int (0 : Int32)), (0, .ref 10), (4, .int (vl_I (vc_F w).n)), (5, .int (vr_b wd)), (6, .ref d), (7, .ref y)]) (st' := [.int (2 : Int32)]) rfl Kz) ?_
                refine jv_Wp.of (jv_Ev.ret jv_i41 rfl rfl) ?_
                rw [hQ]
                have f1 : ¬ (vc_F w).n = 1 := fun z => h1 (by rw [z]; rfl)
                have f2 : ¬ (vc_F w).n = 5 := fun z => h6 (by rw [z]; rfl)
                have f3 : (vc_F w).kind = 5 := of_decide_eq_true (hwd.symm.trans (by cases wd <;> first | rfl | exact absurd rfl h7))
                have f4 : (vc_F w).n = 2 := (vl_I_inj (by omega) (by decide)).mp h12
                have f5 : ¬ (vc_T I L d).sort = 4 := fun z => h13 ((vc_is4 od).mp z)
                have f6 : (vc_T I L d).sort = 5 := (vc_is5 od).mpr (Classical.not_not.mp h14)
                have f7 : ¬ (vc_T I L y).sort = 4 := fun z => h15 ((vc_is4 oy).mp z)
                have g1 : ¬ vx_j1 (vc_F w) (vc_A I L 12) := by unfold vx_j1; rw [← eD, ← eY]; exact j1
                have g2 : ¬ vx_j2 (vc_F w) (vc_A I L 12) := by unfold vx_j2; rw [← eD, ← eY]; exact j2
                have g3 : ¬ vx_j3 (vc_F w) (vc_A I L 12) := by unfold vx_j3; rw [← eD, ← eY]; omega
                have g4 : ¬ vx_j4 (vc_F w) (vc_A I L 12) := by unfold vx_j4; rw [← eD, ← eY]; omega
                have e := vx_jp5 g1 g2 g3 g4
                exact ⟨_, _, by rw [e]; rfl, fun z => by rw [e] at z; exact absurd (show (2 : Nat) = 0 from z) (by decide), o89, vc_fr_refl _ _, fun _ => ⟨rfl, rfl⟩⟩
              · refine jv_Wp.lift (fun _ Kz => jv_Ev.steps jv_i41 4 (pc' := 306) (l' := [(9, .int (1 : Int32)), (8, .int (0 : Int32)), (0, .ref 10), (4, .int (vl_I (vc_F w).n)), (5, .int (vr_b wd)), (6, .ref d), (7, .ref y)]) (st' := [.ref y, .ref d, .int (vl_I (vc_F w).n), .ref 10]) rfl Kz) ?_
                have f1 : ¬ (vc_F w).n = 1 := fun z => h1 (by rw [z]; rfl)
                have f2 : ¬ (vc_F w).n = 5 := fun z => h6 (by rw [z]; rfl)
                have f3 : (vc_F w).kind = 5 := of_decide_eq_true (hwd.symm.trans (by cases wd <;> first | rfl | exact absurd rfl h7))
                have f4 : (vc_F w).n = 2 := (vl_I_inj (by omega) (by decide)).mp h12
                have f5 : ¬ (vc_T I L d).sort = 4 := fun z => h13 ((vc_is4 od).mp z)
                have f6 : (vc_T I L d).sort = 5 := (vc_is5 od).mpr (Classical.not_not.mp h14)
                have f7 : (vc_T I L y).sort = 4 := (vc_is4 oy).mpr (Classical.not_not.mp h15)
                obtain ⟨I3, L3, H3, T3, U3, O3, P3, F3, G3⟩ := vc_measure (I := I) (L := L) (R := R) (n := n) (sl := sl) (vc_F w).n false (d := d) (y := y) hC od (by omega) hd hy ((decide_eq_false h13).symm) (fun z => absurd z h13) (fun _ => hby (Classical.not_not.mp h15)) o12 o89
                refine jv_Wp.lift (fun _ Kz => jv_Ev.c jv_i41 (pc' := 309) (S' := []) (G1 := (jv_H K I3 L3 R)) jv_i44 [.ref 10, .int (vl_I (vc_F w).n), .ref d, .ref y] rfl rfl rfl rfl (jv_cal rfl (jv_H_at hC.k) rfl rfl) rfl H3 rfl rfl Kz) ?_
                refine jv_Wp.lift (fun _ Kz => jv_Ev.steps jv_i41 1 (pc' := 310) (l' := [(9, .int (1 : Int32)), (8, .int (0 : Int32)), (0, .ref 10), (4, .int (vl_I (vc_F w).n)), (5, .int (vr_b wd)), (6, .ref d), (7, .ref y)]) (st' := [.int (0 : Int32)]) rfl Kz) ?_
                refine jv_Wp.of (jv_Ev.ret jv_i41 rfl rfl) ?_
                rw [hQ]
                have f1 : ¬ (vc_F w).n = 1 := fun z => h1 (by rw [z]; rfl)
                have f2 : ¬ (vc_F w).n = 5 := fun z => h6 (by rw [z]; rfl)
                have f3 : (vc_F w).kind = 5 := of_decide_eq_true (hwd.symm.trans (by cases wd <;> first | rfl | exact absurd rfl h7))
                have f4 : (vc_F w).n = 2 := (vl_I_inj (by omega) (by decide)).mp h12
                have f5 : ¬ (vc_T I L d).sort = 4 := fun z => h13 ((vc_is4 od).mp z)
                have f6 : (vc_T I L d).sort = 5 := (vc_is5 od).mpr (Classical.not_not.mp h14)
                have f7 : (vc_T I L y).sort = 4 := (vc_is4 oy).mpr (Classical.not_not.mp h15)
                have g1 : ¬ vx_j1 (vc_F w) (vc_A I L 12) := by unfold vx_j1; rw [← eD, ← eY]; exact j1
                have g2 : ¬ vx_j2 (vc_F w) (vc_A I L 12) := by unfold vx_j2; rw [← eD, ← eY]; exact j2
                have g3 : ¬ vx_j3 (vc_F w) (vc_A I L 12) := by unfold vx_j3; rw [← eD, ← eY]; omega
                have g4 : vx_j4 (vc_F w) (vc_A I L 12) := by unfold vx_j4; rw [← eD, ← eY]; omega
                have e := vx_jp4 g1 g2 g3 g4 (v := vl_S L y) (pf := false) (by rw [← eD]; exact (decide_eq_false (by omega)).symm) (by rw [if_neg (by decide), ← eY]; exact (vc_valv (Or.inr (Or.inl ((vc_is4 oy).mp (by omega))))).symm)
                rw [if_neg (by decide)] at T3 U3
                rw [e89] at T3 U3
                rw [e]
                exact ⟨_, _, rfl, fun _ => vc_jp_some ((F3 10 (by unfold vc_in; omega)).1 9) ((F3 10 (by unfold vc_in; omega)).1 10) T3 U3 O3 P3, P3, F3, G3⟩
          · refine jv_Wp.lift (fun _ Kz => jv_Ev.steps jv_i41 1 (pc' := 274) (l' := [(9, .int (1 : Int32)), (8, .int (0 : Int32)), (0, .ref 10), (4, .int (vl_I (vc_F w).n)), (5, .int (vr_b wd)), (6, .ref d), (7, .ref y)]) (st' := [.ref y]) rfl Kz) ?_
            refine jv_Wp.lift (fun _ Kz => jv_Ev.m jv_i41 (pc' := 277) (st' := [.int (I y 6)]) (G' := (jv_H K I L R)) rfl rfl (jv_m_getI hy rfl rfl rfl) Kz) ?_
            refine jv_Wp.lift (fun _ Kz => jv_Ev.steps jv_i41 1 (pc' := 278) (l' := [(9, .int (1 : Int32)), (8, .int (0 : Int32)), (0, .ref 10), (4, .int (vl_I (vc_F w).n)), (5, .int (vr_b wd)), (6, .ref d), (7, .ref y)]) (st' := [.int (5 : Int32), .int (I y 6)]) rfl Kz) ?_
            refine jv_Wp.cnd jv_i41 (pt := 299) (pe := 281) (p := ((I y 6) = (5 : Int32))) (q := ((I y 6) = (5 : Int32))) rfl jv_bc_eq rfl rfl Iff.rfl (fun h16 => ?_) (fun h16 => ?_)
            · refine jv_Wp.lift (fun _ Kz => jv_Ev.steps jv_i41 4 (pc' := 306) (l' := [(9, .int (1 : Int32)), (8, .int (0 : Int32)), (0, .ref 10), (4, .int (vl_I (vc_F w).n)), (5, .int (vr_b wd)), (6, .ref d), (7, .ref y)]) (st' := [.ref y, .ref d, .int (vl_I (vc_F w).n), .ref 10]) rfl Kz) ?_
              have f1 : ¬ (vc_F w).n = 1 := fun z => h1 (by rw [z]; rfl)
              have f2 : ¬ (vc_F w).n = 5 := fun z => h6 (by rw [z]; rfl)
              have f3 : (vc_F w).kind = 5 := of_decide_eq_true (hwd.symm.trans (by cases wd <;> first | rfl | exact absurd rfl h7))
              have f4 : (vc_F w).n = 2 := (vl_I_inj (by omega) (by decide)).mp h12
              have f5 : (vc_T I L d).sort = 4 := (vc_is4 od).mpr (Classical.not_not.mp h13)
              have f6 : (vc_T I L y).sort = 5 := (vc_is5 oy).mpr h16
              obtain ⟨I4, L4, H4, T4, U4, O4, P4, F4, G4⟩ := vc_measure (I := I) (L := L) (R := R) (n := n) (sl := sl) (vc_F w).n true (d := d) (y := y) hC od (by omega) hd hy ((decide_eq_true (Classical.not_not.mp h13)).symm) hbd (fun z => absurd (Classical.not_not.mp h13) z) o12 o89
              refine jv_Wp.lift (fun _ Kz => jv_Ev.c jv_i41 (pc' := 309) (S' := []) (G1 := (jv_H K I4 L4 R)) jv_i44 [.ref 10, .int (vl_I (vc_F w).n), .ref d, .ref y] rfl rfl rfl rfl (jv_cal rfl (jv_H_at hC.k) rfl rfl) rfl H4 rfl rfl Kz) ?_
              refine jv_Wp.lift (fun _ Kz => jv_Ev.steps jv_i41 1 (pc' := 310) (l' := [(9, .int (1 : Int32)), (8, .int (0 : Int32)), (0, .ref 10), (4, .int (vl_I (vc_F w).n)), (5, .int (vr_b wd)), (6, .ref d), (7, .ref y)]) (st' := [.int (0 : Int32)]) rfl Kz) ?_
              refine jv_Wp.of (jv_Ev.ret jv_i41 rfl rfl) ?_
              rw [hQ]
              have f1 : ¬ (vc_F w).n = 1 := fun z => h1 (by rw [z]; rfl)
              have f2 : ¬ (vc_F w).n = 5 := fun z => h6 (by rw [z]; rfl)
              have f3 : (vc_F w).kind = 5 := of_decide_eq_true (hwd.symm.trans (by cases wd <;> first | rfl | exact absurd rfl h7))
              have f4 : (vc_F w).n = 2 := (vl_I_inj (by omega) (by decide)).mp h12
              have f5 : (vc_T I L d).sort = 4 := (vc_is4 od).mpr (Classical.not_not.mp h13)
              have f6 : (vc_T I L y).sort = 5 := (vc_is5 oy).mpr h16
              have g1 : ¬ vx_j1 (vc_F w) (vc_A I L 12) := by unfold vx_j1; rw [← eD, ← eY]; exact j1
              have g2 : ¬ vx_j2 (vc_F w) (vc_A I L 12) := by unfold vx_j2; rw [← eD, ← eY]; exact j2
              have g3 : ¬ vx_j3 (vc_F w) (vc_A I L 12) := by unfold vx_j3; rw [← eD, ← eY]; omega
              have g4 : vx_j4 (vc_F w) (vc_A I L 12) := by unfold vx_j4; rw [← eD, ← eY]; omega
              have e := vx_jp4 g1 g2 g3 g4 (v := vl_S L d) (pf := true) (by rw [← eD]; exact (decide_eq_true (by omega)).symm) (by rw [if_pos rfl, ← eD]; exact (vc_valv (Or.inr (Or.inl ((vc_is4 od).mp (by omega))))).symm)
              rw [if_pos rfl] at T4 U4
              rw [e89] at T4 U4
              rw [e]
              exact ⟨_, _, rfl, fun _ => vc_jp_some ((F4 10 (by unfold vc_in; omega)).1 9) ((F4 10 (by unfold vc_in; omega)).1 10) T4 U4 O4 P4, P4, F4, G4⟩
            · refine jv_Wp.lift (fun _ Kz => jv_Ev.steps jv_i41 1 (pc' := 283) (l' := [(9, .int (1 : Int32)), (8, .int (0 : Int32)), (0, .ref 10), (4, .int (vl_I (vc_F w).n)), (5, .int (vr_b wd)), (6, .ref d), (7, .ref y)]) (st' := [.ref d]) rfl Kz) ?_
              refine jv_Wp.lift (fun _ Kz => jv_Ev.m jv_i41 (pc' := 286) (st' := [.int (I d 6)]) (G' := (jv_H K I L R)) rfl rfl (jv_m_getI hd rfl rfl rfl) Kz) ?_
              refine jv_Wp.lift (fun _ Kz => jv_Ev.steps jv_i41 1 (pc' := 287) (l' := [(9, .int (1 : Int32)), (8, .int (0 : Int32)), (0, .ref 10), (4, .int (vl_I (vc_F w).n)), (5, .int (vr_b wd)), (6, .ref d), (7, .ref y)]) (st' := [.int (5 : Int32), .int (I d 6)]) rfl Kz) ?_
              refine jv_Wp.cnd jv_i41 (pt := 311) (pe := 290) (p := (¬ (I d 6) = (5 : Int32))) (q := (¬ (I d 6) = (5 : Int32))) rfl jv_bc_ne rfl rfl Iff.rfl (fun _ => ?_) (fun hz => absurd (fun z => absurd (z.symm.trans (Classical.not_not.mp h13)) (by decide)) hz)
              refine jv_Wp.lift (fun _ Kz => jv_Ev.steps jv_i41 1 (pc' := 312) (l' := [(9, .int (1 : Int32)), (8, .int (0 : Int32)), (0, .ref 10), (4, .int (vl_I (vc_F w).n)), (5, .int (vr_b wd)), (6, .ref d), (7, .ref y)]) (st' := [.int (2 : Int32)]) rfl Kz) ?_
              refine jv_Wp.of (jv_Ev.ret jv_i41 rfl rfl) ?_
              rw [hQ]
              have f1 : ¬ (vc_F w).n = 1 := fun z => h1 (by rw [z]; rfl)
              have f2 : ¬ (vc_F w).n = 5 := fun z => h6 (by rw [z]; rfl)
              have f3 : (vc_F w).kind = 5 := of_decide_eq_true (hwd.symm.trans (by cases wd <;> first | rfl | exact absurd rfl h7))
              have f4 : (vc_F w).n = 2 := (vl_I_inj (by omega) (by decide)).mp h12
              have f5 : (vc_T I L d).sort = 4 := (vc_is4 od).mpr (Classical.not_not.mp h13)
              have f6 : ¬ (vc_T I L y).sort = 5 := fun z => h16 ((vc_is5 oy).mp z)
              have g1 : ¬ vx_j1 (vc_F w) (vc_A I L 12) := by unfold vx_j1; rw [← eD, ← eY]; exact j1
              have g2 : ¬ vx_j2 (vc_F w) (vc_A I L 12) := by unfold vx_j2; rw [← eD, ← eY]; exact j2
              have g3 : ¬ vx_j3 (vc_F w) (vc_A I L 12) := by unfold vx_j3; rw [← eD, ← eY]; omega
              have g4 : ¬ vx_j4 (vc_F w) (vc_A I L 12) := by unfold vx_j4; rw [← eD, ← eY]; omega
              have e := vx_jp5 g1 g2 g3 g4
              exact ⟨_, _, by rw [e]; rfl, fun z => by rw [e] at z; exact absurd (show (2 : Nat) = 0 from z) (by decide), o89, vc_fr_refl _ _, fun _ => ⟨rfl, rfl⟩⟩
        · refine jv_Wp.lift (fun _ Kz => jv_Ev.steps jv_i41 2 (pc' := 229) (l' := [(8, .int (0 : Int32)), (0, .ref 10), (4, .int (vl_I (vc_F w).n)), (5, .int (vr_b wd)), (6, .ref d), (7, .ref y)]) (st' := [.int (3 : Int32), .int (vl_I (vc_F w).n)]) rfl Kz) ?_
          refine jv_Wp.cnd jv_i41 (pt := 246) (pe := 232) (p := ((vl_I (vc_F w).n) = (3 : Int32))) (q := ((vl_I (vc_F w).n) = (3 : Int32))) rfl jv_bc_eq rfl rfl Iff.rfl (fun h17 => ?_) (fun h17 => ?_)
          · refine jv_Wp.lift (fun _ Kz => jv_Ev.steps jv_i41 4 (pc' := 255) (l' := [(9, .int (1 : Int32)), (8, .int (0 : Int32)), (0, .ref 10), (4, .int (vl_I (vc_F w).n)), (5, .int (vr_b wd)), (6, .ref d), (7, .ref y)]) (st' := [.int (vr_b wd)]) rfl Kz) ?_
            refine jv_Wp.cnd jv_i41 (pt := 311) (pe := 258) (p := ((vr_b wd) = 0)) (q := ((vr_b wd) = 0)) rfl jv_bi_eq rfl rfl Iff.rfl (fun hz => absurd hz h7) (fun _ => ?_)
            refine jv_Wp.lift (fun _ Kz => jv_Ev.steps jv_i41 1 (pc' := 260) (l' := [(9, .int (1 : Int32)), (8, .int (0 : Int32)), (0, .ref 10), (4, .int (vl_I (vc_F w).n)), (5, .int (vr_b wd)), (6, .ref d), (7, .ref y)]) (st' := [.int (1 : Int32)]) rfl Kz) ?_
            refine jv_Wp.lift (fun _ Kz => jv_Ev.br jv_i41 (pc' := 263) (st' := []) rfl (by rfl) Kz) ?_
            refine jv_Wp.lift (fun _ Kz => jv_Ev.steps jv_i41 1 (pc' := 265) (l' := [(9, .int (1 : Int32)), (8, .int (0 : Int32)), (0, .ref 10), (4, .int (vl_I (vc_F w).n)), (5, .int (vr_b wd)), (6, .ref d), (7, .ref y)]) (st' := [.ref d]) rfl Kz) ?_
            refine jv_Wp.lift (fun _ Kz => jv_Ev.m jv_i41 (pc' := 268) (st' := [.int (I d 6)]) (G' := (jv_H K I L R)) rfl rfl (jv_m_getI hd rfl rfl rfl) Kz) ?_
            refine jv_Wp.lift (fun _ Kz => jv_Ev.steps jv_i41 1 (pc' := 269) (l' := [(9, .int (1 : Int32)), (8, .int (0 : Int32)), (0, .ref 10), (4, .int (vl_I (vc_F w).n)), (5, .int (vr_b wd)), (6, .ref d), (7, .ref y)]) (st' := [.int (4 : Int32), .int (I d 6)]) rfl Kz) ?_
            refine jv_Wp.cnd jv_i41 (pt := 281) (pe := 272) (p := (¬ (I d 6) = (4 : Int32))) (q := (¬ (I d 6) = (4 : Int32))) rfl jv_bc_ne rfl rfl Iff.rfl (fun h18 => ?_) (fun h18 => ?_)
            · refine jv_Wp.lift (fun _ Kz => jv_Ev.steps jv_i41 1 (pc' := 283) (l' := [(9, .int (1 : Int32)), (8, .int (0 : Int32)), (0, .ref 10), (4, .int (vl_I (vc_F w).n)), (5, .int (vr_b wd)), (6, .ref d), (7, .ref y)]) (st' := [.ref d]) rfl Kz) ?_
              refine jv_Wp.lift (fun _ Kz => jv_Ev.m jv_i41 (pc' := 286) (st' := [.int (I d 6)]) (G' := (jv_H K I L R)) rfl rfl (jv_m_getI hd rfl rfl rfl) Kz) ?_
              refine jv_Wp.lift (fun _ Kz => jv_Ev.steps jv_i41 1 (pc' := 287) (l' := [(9, .int (1 : Int32)), (8, .int (0 : Int32)), (0, .ref 10), (4, .int (vl_I (vc_F w).n)), (5, .int (vr_b wd)), (6, .ref d), (7, .ref y)]) (st' := [.int (5 : Int32), .int (I d 6)]) rfl Kz) ?_
              refine jv_Wp.cnd jv_i41 (pt := 311) (pe := 290) (p := (¬ (I d 6) = (5 : Int32))) (q := (¬ (I d 6) = (5 : Int32))) rfl jv_bc_ne rfl rfl Iff.rfl (fun h19 => ?_) (fun h19 => ?_)
              · refine jv_Wp.lift (fun _ Kz => jv_Ev.steps jv_i41 1 (pc' := 312) (l' := [(9, .int (1 : Int32)), (8, .int (0 : Int32)), (0, .ref 10), (4, .int (vl_I (vc_F w).n)), (5, .int (vr_b wd)), (6, .ref d), (7, .ref y)]) (st' := [.int (2 : Int32)]) rfl Kz) ?_
                refine jv_Wp.of (jv_Ev.ret jv_i41 rfl rfl) ?_
                rw [hQ]
                have f1 : ¬ (vc_F w).n = 1 := fun z => h1 (by rw [z]; rfl)
                have f2 : ¬ (vc_F w).n = 5 := fun z => h6 (by rw [z]; rfl)
                have f3 : (vc_F w).kind = 5 := of_decide_eq_true (hwd.symm.trans (by cases wd <;> first | rfl | exact absurd rfl h7))
                have f4 : ¬ (vc_F w).n = 2 := fun z => h12 (by rw [z]; rfl)
                have f5 : (vc_F w).n = 3 := (vl_I_inj (by omega) (by decide)).mp h17
                have f6 : ¬ (vc_T I L d).sort = 4 := fun z => h18 ((vc_is4 od).mp z)
                have f7 : ¬ (vc_T I L d).sort = 5 := fun z => h19 ((vc_is5 od).mp z)
                have g1 : ¬ vx_j1 (vc_F w) (vc_A I L 12) := by unfold vx_j1; rw [← eD, ← eY]; exact j1
                have g2 : ¬ vx_j2 (vc_F w) (vc_A I L 12) := by unfold vx_j2; rw [← eD, ← eY]; exact j2
                have g3 : ¬ vx_j3 (vc_F w) (vc_A I L 12) := by unfold vx_j3; rw [← eD, ← eY]; omega
                have g4 : ¬ vx_j4 (vc_F w) (vc_A I L 12) := by unfold vx_j4; rw [← eD, ← eY]; omega
                have e := vx_jp5 g1 g2 g3 g4
                exact ⟨_, _, by rw [e]; rfl, fun z => by rw [e] at z; exact absurd (show (2 : Nat) = 0 from z) (by decide), o89, vc_fr_refl _ _, fun _ => ⟨rfl, rfl⟩⟩
              · refine jv_Wp.lift (fun _ Kz => jv_Ev.steps jv_i41 1 (pc' := 292) (l' := [(9, .int (1 : Int32)), (8, .int (0 : Int32)), (0, .ref 10), (4, .int (vl_I (vc_F w).n)), (5, .int (vr_b wd)), (6, .ref d), (7, .ref y)]) (st' := [.ref y]) rfl Kz) ?_
                refine jv_Wp.lift (fun _ Kz => jv_Ev.m jv_i41 (pc' := 295) (st' := [.int (I y 6)]) (G' := (jv_H K I L R)) rfl rfl (jv_m_getI hy rfl rfl rfl) Kz) ?_
                refine jv_Wp.lift (fun _ Kz => jv_Ev.steps jv_i41 1 (pc' := 296) (l' := [(9, .int (1 : Int32)), (8, .int (0 : Int32)), (0, .ref 10), (4, .int (vl_I (vc_F w).n)), (5, .int (vr_b wd)), (6, .ref d), (7, .ref y)]) (st' := [.int (4 : Int32), .int (I y 6)]) rfl Kz) ?_
                refine jv_Wp.cnd jv_i41 (pt := 311) (pe := 299) (p := (¬ (I y 6) = (4 : Int32))) (q := (¬ (I y 6) = (4 : Int32))) rfl jv_bc_ne rfl rfl Iff.rfl (fun h20 => ?_) (fun h20 => ?_)
                · refine jv_Wp.lift (fun _ Kz => jv_Ev.steps jv_i41 1 (pc' := 312) (l' := [(9, .int (1 : Int32)), (8, .int (0 : Int32)), (0, .ref 10), (4, .int (vl_I (vc_F w).n)), (5, .int (vr_b wd)), (6, .ref d), (7, .ref y)]) (st' := [.int (2 : Int32)]) rfl Kz) ?_
                  refine jv_Wp.of (jv_Ev.ret jv_i41 rfl rfl) ?_
                  rw [hQ]
                  have f1 : ¬ (vc_F w).n = 1 := fun z => h1 (by rw [z]; rfl)
                  have f2 : ¬ (vc_F w).n = 5 := fun z => h6 (by rw [z]; rfl)
                  have f3 : (vc_F w).kind = 5 := of_decide_eq_true (hwd.symm.trans (by cases wd <;> first | rfl | exact absurd rfl h7))
                  have f4 : ¬ (vc_F w).n = 2 := fun z => h12 (by rw [z]; rfl)
                  have f5 : (vc_F w).n = 3 := (vl_I_inj (by omega) (by decide)).mp h17
                  have f6 : ¬ (vc_T I L d).sort = 4 := fun z => h18 ((vc_is4 od).mp z)
                  have f7 : (vc_T I L d).sort = 5 := (vc_is5 od).mpr (Classical.not_not.mp h19)
                  have f8 : ¬ (vc_T I L y).sort = 4 := fun z => h20 ((vc_is4 oy).mp z)
                  have g1 : ¬ vx_j1 (vc_F w) (vc_A I L 12) := by unfold vx_j1; rw [← eD, ← eY]; exact j1
                  have g2 : ¬ vx_j2 (vc_F w) (vc_A I L 12) := by unfold vx_j2; rw [← eD, ← eY]; exact j2
                  have g3 : ¬ vx_j3 (vc_F w) (vc_A I L 12) := by unfold vx_j3; rw [← eD, ← eY]; omega
                  have g4 : ¬ vx_j4 (vc_F w) (vc_A I L 12) := by unfold vx_j4; rw [← eD, ← eY]; omega
                  have e := vx_jp5 g1 g2 g3 g4
                  exact ⟨_, _, by rw [e]; rfl, fun z => by rw [e] at z; exact absurd (show (2 : Nat) = 0 from z) (by decide), o89, vc_fr_refl _ _, fun _ => ⟨rfl, rfl⟩⟩
                · refine jv_Wp.lift (fun _ Kz => jv_Ev.steps jv_i41 4 (pc' := 306) (l' := [(9, .int (1 : Int32)), (8, .int (0 : Int32)), (0, .ref 10), (4, .int (vl_I (vc_F w).n)), (5, .int (vr_b wd)), (6, .ref d), (7, .ref y)]) (st' := [.ref y, .ref d, .int (vl_I (vc_F w).n), .ref 10]) rfl Kz) ?_
                  have f1 : ¬ (vc_F w).n = 1 := fun z => h1 (by rw [z]; rfl)
                  have f2 : ¬ (vc_F w).n = 5 := fun z => h6 (by rw [z]; rfl)
                  have f3 : (vc_F w).kind = 5 := of_decide_eq_true (hwd.symm.trans (by cases wd <;> first | rfl | exact absurd rfl h7))
                  have f4 : ¬ (vc_F w).n = 2 := fun z => h12 (by rw [z]; rfl)
                  have f5 : (vc_F w).n = 3 := (vl_I_inj (by omega) (by decide)).mp h17
                  have f6 : ¬ (vc_T I L d).sort = 4 := fun z => h18 ((vc_is4 od).mp z)
                  have f7 : (vc_T I L d).sort = 5 := (vc_is5 od).mpr (Classical.not_not.mp h19)
                  have f8 : (vc_T I L y).sort = 4 := (vc_is4 oy).mpr (Classical.not_not.mp h20)
                  obtain ⟨I5, L5, H5, T5, U5, O5, P5, F5, G5⟩ := vc_measure (I := I) (L := L) (R := R) (n := n) (sl := sl) (vc_F w).n false (d := d) (y := y) hC od (by omega) hd hy ((decide_eq_false h18).symm) (fun z => absurd z h18) (fun _ => hby (Classical.not_not.mp h20)) o12 o89
                  refine jv_Wp.lift (fun _ Kz => jv_Ev.c jv_i41 (pc' := 309) (S' := []) (G1 := (jv_H K I5 L5 R)) jv_i44 [.ref 10, .int (vl_I (vc_F w).n), .ref d, .ref y] rfl rfl rfl rfl (jv_cal rfl (jv_H_at hC.k) rfl rfl) rfl H5 rfl rfl Kz) ?_
                  refine jv_Wp.lift (fun _ Kz => jv_Ev.steps jv_i41 1 (pc' := 310) (l' := [(9, .int (1 : Int32)), (8, .int (0 : Int32)), (0, .ref 10), (4, .int (vl_I (vc_F w).n)), (5, .int (vr_b wd)), (6, .ref d), (7, .ref y)]) (st' := [.int (0 : Int32)]) rfl Kz) ?_
                  refine jv_Wp.of (jv_Ev.ret jv_i41 rfl rfl) ?_
                  rw [hQ]
                  have f1 : ¬ (vc_F w).n = 1 := fun z => h1 (by rw [z]; rfl)
                  have f2 : ¬ (vc_F w).n = 5 := fun z => h6 (by rw [z]; rfl)
                  have f3 : (vc_F w).kind = 5 := of_decide_eq_true (hwd.symm.trans (by cases wd <;> first | rfl | exact absurd rfl h7))
                  have f4 : ¬ (vc_F w).n = 2 := fun z => h12 (by rw [z]; rfl)
                  have f5 : (vc_F w).n = 3 := (vl_I_inj (by omega) (by decide)).mp h17
                  have f6 : ¬ (vc_T I L d).sort = 4 := fun z => h18 ((vc_is4 od).mp z)
                  have f7 : (vc_T I L d).sort = 5 := (vc_is5 od).mpr (Classical.not_not.mp h19)
                  have f8 : (vc_T I L y).sort = 4 := (vc_is4 oy).mpr (Classical.not_not.mp h20)
                  have g1 : ¬ vx_j1 (vc_F w) (vc_A I L 12) := by unfold vx_j1; rw [← eD, ← eY]; exact j1
                  have g2 : ¬ vx_j2 (vc_F w) (vc_A I L 12) := by unfold vx_j2; rw [← eD, ← eY]; exact j2
                  have g3 : ¬ vx_j3 (vc_F w) (vc_A I L 12) := by unfold vx_j3; rw [← eD, ← eY]; omega
                  have g4 : vx_j4 (vc_F w) (vc_A I L 12) := by unfold vx_j4; rw [← eD, ← eY]; omega
                  have e := vx_jp4 g1 g2 g3 g4 (v := vl_S L y) (pf := false) (by rw [← eD]; exact (decide_eq_false (by omega)).symm) (by rw [if_neg (by decide), ← eY]; exact (vc_valv (Or.inr (Or.inl ((vc_is4 oy).mp (by omega))))).symm)
                  rw [if_neg (by decide)] at T5 U5
                  rw [e89] at T5 U5
                  rw [e]
                  exact ⟨_, _, rfl, fun _ => vc_jp_some ((F5 10 (by unfold vc_in; omega)).1 9) ((F5 10 (by unfold vc_in; omega)).1 10) T5 U5 O5 P5, P5, F5, G5⟩
            · refine jv_Wp.lift (fun _ Kz => jv_Ev.steps jv_i41 1 (pc' := 274) (l' := [(9, .int (1 : Int32)), (8, .int (0 : Int32)), (0, .ref 10), (4, .int (vl_I (vc_F w).n)), (5, .int (vr_b wd)), (6, .ref d), (7, .ref y)]) (st' := [.ref y]) rfl Kz) ?_
              refine jv_Wp.lift (fun _ Kz => jv_Ev.m jv_i41 (pc' := 277) (st' := [.int (I y 6)]) (G' := (jv_H K I L R)) rfl rfl (jv_m_getI hy rfl rfl rfl) Kz) ?_
              refine jv_Wp.lift (fun _ Kz => jv_Ev.steps jv_i41 1 (pc' := 278) (l' := [(9, .int (1 : Int32)), (8, .int (0 : Int32)), (0, .ref 10), (4, .int (vl_I (vc_F w).n)), (5, .int (vr_b wd)), (6, .ref d), (7, .ref y)]) (st' := [.int (5 : Int32), .int (I y 6)]) rfl Kz) ?_
              refine jv_Wp.cnd jv_i41 (pt := 299) (pe := 281) (p := ((I y 6) = (5 : Int32))) (q := ((I y 6) = (5 : Int32))) rfl jv_bc_eq rfl rfl Iff.rfl (fun h21 => ?_) (fun h21 => ?_)
              · refine jv_Wp.lift (fun _ Kz => jv_Ev.steps jv_i41 4 (pc' := 306) (l' := [(9, .int (1 : Int32)), (8, .int (0 : Int32)), (0, .ref 10), (4, .int (vl_I (vc_F w).n)), (5, .int (vr_b wd)), (6, .ref d), (7, .ref y)]) (st' := [.ref y, .ref d, .int (vl_I (vc_F w).n), .ref 10]) rfl Kz) ?_
                have f1 : ¬ (vc_F w).n = 1 := fun z => h1 (by rw [z]; rfl)
                have f2 : ¬ (vc_F w).n = 5 := fun z => h6 (by rw [z]; rfl)
                have f3 : (vc_F w).kind = 5 := of_decide_eq_true (hwd.symm.trans (by cases wd <;> first | rfl | exact absurd rfl h7))
                have f4 : ¬ (vc_F w).n = 2 := fun z => h12 (by rw [z]; rfl)
                have f5 : (vc_F w).n = 3 := (vl_I_inj (by omega) (by decide)).mp h17
                have f6 : (vc_T I L d).sort = 4 := (vc_is4 od).mpr (Classical.not_not.mp h18)
                have f7 : (vc_T I L y).sort = 5 := (vc_is5 oy).mpr h21
                obtain ⟨I6, L6, H6, T6, U6, O6, P6, F6, G6⟩ := vc_measure (I := I) (L := L) (R := R) (n := n) (sl := sl) (vc_F w).n true (d := d) (y := y) hC od (by omega) hd hy ((decide_eq_true (Classical.not_not.mp h18)).symm) hbd (fun z => absurd (Classical.not_not.mp h18) z) o12 o89
                refine jv_Wp.lift (fun _ Kz => jv_Ev.c jv_i41 (pc' := 309) (S' := []) (G1 := (jv_H K I6 L6 R)) jv_i44 [.ref 10, .int (vl_I (vc_F w).n), .ref d, .ref y] rfl rfl rfl rfl (jv_cal rfl (jv_H_at hC.k) rfl rfl) rfl H6 rfl rfl Kz) ?_
                refine jv_Wp.lift (fun _ Kz => jv_Ev.steps jv_i41 1 (pc' := 310) (l' := [(9, .int (1 : Int32)), (8, .int (0 : Int32)), (0, .ref 10), (4, .int (vl_I (vc_F w).n)), (5, .int (vr_b wd)), (6, .ref d), (7, .ref y)]) (st' := [.int (0 : Int32)]) rfl Kz) ?_
                refine jv_Wp.of (jv_Ev.ret jv_i41 rfl rfl) ?_
                rw [hQ]
                have f1 : ¬ (vc_F w).n = 1 := fun z => h1 (by rw [z]; rfl)
                have f2 : ¬ (vc_F w).n = 5 := fun z => h6 (by rw [z]; rfl)
                have f3 : (vc_F w).kind = 5 := of_decide_eq_true (hwd.symm.trans (by cases wd <;> first | rfl | exact absurd rfl h7))
                have f4 : ¬ (vc_F w).n = 2 := fun z => h12 (by rw [z]; rfl)
                have f5 : (vc_F w).n = 3 := (vl_I_inj (by omega) (by decide)).mp h17
                have f6 : (vc_T I L d).sort = 4 := (vc_is4 od).mpr (Classical.not_not.mp h18)
                have f7 : (vc_T I L y).sort = 5 := (vc_is5 oy).mpr h21
                have g1 : ¬ vx_j1 (vc_F w) (vc_A I L 12) := by unfold vx_j1; rw [← eD, ← eY]; exact j1
                have g2 : ¬ vx_j2 (vc_F w) (vc_A I L 12) := by unfold vx_j2; rw [← eD, ← eY]; exact j2
                have g3 : ¬ vx_j3 (vc_F w) (vc_A I L 12) := by unfold vx_j3; rw [← eD, ← eY]; omega
                have g4 : vx_j4 (vc_F w) (vc_A I L 12) := by unfold vx_j4; rw [← eD, ← eY]; omega
                have e := vx_jp4 g1 g2 g3 g4 (v := vl_S L d) (pf := true) (by rw [← eD]; exact (decide_eq_true (by omega)).symm) (by rw [if_pos rfl, ← eD]; exact (vc_valv (Or.inr (Or.inl ((vc_is4 od).mp (by omega))))).symm)
                rw [if_pos rfl] at T6 U6
                rw [e89] at T6 U6
                rw [e]
                exact ⟨_, _, rfl, fun _ => vc_jp_some ((F6 10 (by unfold vc_in; omega)).1 9) ((F6 10 (by unfold vc_in; omega)).1 10) T6 U6 O6 P6, P6, F6, G6⟩
              · refine jv_Wp.lift (fun _ Kz => jv_Ev.steps jv_i41 1 (pc' := 283) (l' := [(9, .int (1 : Int32)), (8, .int (0 : Int32)), (0, .ref 10), (4, .int (vl_I (vc_F w).n)), (5, .int (vr_b wd)), (6, .ref d), (7, .ref y)]) (st' := [.ref d]) rfl Kz) ?_
                refine jv_Wp.lift (fun _ Kz => jv_Ev.m jv_i41 (pc' := 286) (st' := [.int (I d 6)]) (G' := (jv_H K I L R)) rfl rfl (jv_m_getI hd rfl rfl rfl) Kz) ?_
                refine jv_Wp.lift (fun _ Kz => jv_Ev.steps jv_i41 1 (pc' := 287) (l' := [(9, .int (1 : Int32)), (8, .int (0 : Int32)), (0, .ref 10), (4, .int (vl_I (vc_F w).n)), (5, .int (vr_b wd)), (6, .ref d), (7, .ref y)]) (st' := [.int (5 : Int32), .int (I d 6)]) rfl Kz) ?_
                refine jv_Wp.cnd jv_i41 (pt := 311) (pe := 290) (p := (¬ (I d 6) = (5 : Int32))) (q := (¬ (I d 6) = (5 : Int32))) rfl jv_bc_ne rfl rfl Iff.rfl (fun _ => ?_) (fun hz => absurd (fun z => absurd (z.symm.trans (Classical.not_not.mp h18)) (by decide)) hz)
                refine jv_Wp.lift (fun _ Kz => jv_Ev.steps jv_i41 1 (pc' := 312) (l' := [(9, .int (1 : Int32)), (8, .int (0 : Int32)), (0, .ref 10), (4, .int (vl_I (vc_F w).n)), (5, .int (vr_b wd)), (6, .ref d), (7, .ref y)]) (st' := [.int (2 : Int32)]) rfl Kz) ?_
                refine jv_Wp.of (jv_Ev.ret jv_i41 rfl rfl) ?_
                rw [hQ]
                have f1 : ¬ (vc_F w).n = 1 := fun z => h1 (by rw [z]; rfl)
                have f2 : ¬ (vc_F w).n = 5 := fun z => h6 (by rw [z]; rfl)
                have f3 : (vc_F w).kind = 5 := of_decide_eq_true (hwd.symm.trans (by cases wd <;> first | rfl | exact absurd rfl h7))
                have f4 : ¬ (vc_F w).n = 2 := fun z => h12 (by rw [z]; rfl)
                have f5 : (vc_F w).n = 3 := (vl_I_inj (by omega) (by decide)).mp h17
                have f6 : (vc_T I L d).sort = 4 := (vc_is4 od).mpr (Classical.not_not.mp h18)
                have f7 : ¬ (vc_T I L y).sort = 5 := fun z => h21 ((vc_is5 oy).mp z)
                have g1 : ¬ vx_j1 (vc_F w) (vc_A I L 12) := by unfold vx_j1; rw [← eD, ← eY]; exact j1
                have g2 : ¬ vx_j2 (vc_F w) (vc_A I L 12) := by unfold vx_j2; rw [← eD, ← eY]; exact j2
                have g3 : ¬ vx_j3 (vc_F w) (vc_A I L 12) := by unfold vx_j3; rw [← eD, ← eY]; omega
                have g4 : ¬ vx_j4 (vc_F w) (vc_A I L 12) := by unfold vx_j4; rw [← eD, ← eY]; omega
                have e := vx_jp5 g1 g2 g3 g4
                exact ⟨_, _, by rw [e]; rfl, fun z => by rw [e] at z; exact absurd (show (2 : Nat) = 0 from z) (by decide), o89, vc_fr_refl _ _, fun _ => ⟨rfl, rfl⟩⟩
          · refine jv_Wp.lift (fun _ Kz => jv_Ev.steps jv_i41 2 (pc' := 236) (l' := [(8, .int (0 : Int32)), (0, .ref 10), (4, .int (vl_I (vc_F w).n)), (5, .int (vr_b wd)), (6, .ref d), (7, .ref y)]) (st' := [.int (10 : Int32), .int (vl_I (vc_F w).n)]) rfl Kz) ?_
            refine jv_Wp.cnd jv_i41 (pt := 246) (pe := 239) (p := ((vl_I (vc_F w).n) = (10 : Int32))) (q := ((vl_I (vc_F w).n) = (10 : Int32))) rfl jv_bc_eq rfl rfl Iff.rfl (fun h22 => ?_) (fun h22 => ?_)
            · refine jv_Wp.lift (fun _ Kz => jv_Ev.steps jv_i41 4 (pc' := 255) (l' := [(9, .int (1 : Int32)), (8, .int (0 : Int32)), (0, .ref 10), (4, .int (vl_I (vc_F w).n)), (5, .int (vr_b wd)), (6, .ref d), (7, .ref y)]) (st' := [.int (vr_b wd)]) rfl Kz) ?_
              refine jv_Wp.cnd jv_i41 (pt := 311) (pe := 258) (p := ((vr_b wd) = 0)) (q := ((vr_b wd) = 0)) rfl jv_bi_eq rfl rfl Iff.rfl (fun hz => absurd hz h7) (fun _ => ?_)
              refine jv_Wp.lift (fun _ Kz => jv_Ev.steps jv_i41 1 (pc' := 260) (l' := [(9, .int (1 : Int32)), (8, .int (0 : Int32)), (0, .ref 10), (4, .int (vl_I (vc_F w).n)), (5, .int (vr_b wd)), (6, .ref d), (7, .ref y)]) (st' := [.int (1 : Int32)]) rfl Kz) ?_
              refine jv_Wp.lift (fun _ Kz => jv_Ev.br jv_i41 (pc' := 263) (st' := []) rfl (by rfl) Kz) ?_
              refine jv_Wp.lift (fun _ Kz => jv_Ev.steps jv_i41 1 (pc' := 265) (l' := [(9, .int (1 : Int32)), (8, .int (0 : Int32)), (0, .ref 10), (4, .int (vl_I (vc_F w).n)), (5, .int (vr_b wd)), (6, .ref d), (7, .ref y)]) (st' := [.ref d]) rfl Kz) ?_
              refine jv_Wp.lift (fun _ Kz => jv_Ev.m jv_i41 (pc' := 268) (st' := [.int (I d 6)]) (G' := (jv_H K I L R)) rfl rfl (jv_m_getI hd rfl rfl rfl) Kz) ?_
              refine jv_Wp.lift (fun _ Kz => jv_Ev.steps jv_i41 1 (pc' := 269) (l' := [(9, .int (1 : Int32)), (8, .int (0 : Int32)), (0, .ref 10), (4, .int (vl_I (vc_F w).n)), (5, .int (vr_b wd)), (6, .ref d), (7, .ref y)]) (st' := [.int (4 : Int32), .int (I d 6)]) rfl Kz) ?_
              refine jv_Wp.cnd jv_i41 (pt := 281) (pe := 272) (p := (¬ (I d 6) = (4 : Int32))) (q := (¬ (I d 6) = (4 : Int32))) rfl jv_bc_ne rfl rfl Iff.rfl (fun h23 => ?_) (fun h23 => ?_)
              · refine jv_Wp.lift (fun _ Kz => jv_Ev.steps jv_i41 1 (pc' := 283) (l' := [(9, .int (1 : Int32)), (8, .int (0 : Int32)), (0, .ref 10), (4, .int (vl_I (vc_F w).n)), (5, .int (vr_b wd)), (6, .ref d), (7, .ref y)]) (st' := [.ref d]) rfl Kz) ?_
                refine jv_Wp.lift (fun _ Kz => jv_Ev.m jv_i41 (pc' := 286) (st' := [.int (I d 6)]) (G' := (jv_H K I L R)) rfl rfl (jv_m_getI hd rfl rfl rfl) Kz) ?_
                refine jv_Wp.lift (fun _ Kz => jv_Ev.steps jv_i41 1 (pc' := 287) (l' := [(9, .int (1 : Int32)), (8, .int (0 : Int32)), (0, .ref 10), (4, .int (vl_I (vc_F w).n)), (5, .int (vr_b wd)), (6, .ref d), (7, .ref y)]) (st' := [.int (5 : Int32), .int (I d 6)]) rfl Kz) ?_
                refine jv_Wp.cnd jv_i41 (pt := 311) (pe := 290) (p := (¬ (I d 6) = (5 : Int32))) (q := (¬ (I d 6) = (5 : Int32))) rfl jv_bc_ne rfl rfl Iff.rfl (fun h24 => ?_) (fun h24 => ?_)
                · refine jv_Wp.lift (fun _ Kz => jv_Ev.steps jv_i41 1 (pc' := 312) (l' := [(9, .int (1 : Int32)), (8, .int (0 : Int32)), (0, .ref 10), (4, .int (vl_I (vc_F w).n)), (5, .int (vr_b wd)), (6, .ref d), (7, .ref y)]) (st' := [.int (2 : Int32)]) rfl Kz) ?_
                  refine jv_Wp.of (jv_Ev.ret jv_i41 rfl rfl) ?_
                  rw [hQ]
                  have f1 : ¬ (vc_F w).n = 1 := fun z => h1 (by rw [z]; rfl)
                  have f2 : ¬ (vc_F w).n = 5 := fun z => h6 (by rw [z]; rfl)
                  have f3 : (vc_F w).kind = 5 := of_decide_eq_true (hwd.symm.trans (by cases wd <;> first | rfl | exact absurd rfl h7))
                  have f4 : ¬ (vc_F w).n = 2 := fun z => h12 (by rw [z]; rfl)
                  have f5 : ¬ (vc_F w).n = 3 := fun z => h17 (by rw [z]; rfl)
                  have f6 : (vc_F w).n = 10 := (vl_I_inj (by omega) (by decide)).mp h22
                  have f7 : ¬ (vc_T I L d).sort = 4 := fun z => h23 ((vc_is4 od).mp z)
                  have f8 : ¬ (vc_T I L d).sort = 5 := fun z => h24 ((vc_is5 od).mp z)
                  have g1 : ¬ vx_j1 (vc_F w) (vc_A I L 12) := by unfold vx_j1; rw [← eD, ← eY]; exact j1
                  have g2 : ¬ vx_j2 (vc_F w) (vc_A I L 12) := by unfold vx_j2; rw [← eD, ← eY]; exact j2
                  have g3 : ¬ vx_j3 (vc_F w) (vc_A I L 12) := by unfold vx_j3; rw [← eD, ← eY]; omega
                  have g4 : ¬ vx_j4 (vc_F w) (vc_A I L 12) := by unfold vx_j4; rw [← eD, ← eY]; omega
                  have e := vx_jp5 g1 g2 g3 g4
                  exact ⟨_, _, by rw [e]; rfl, fun z => by rw [e] at z; exact absurd (show (2 : Nat) = 0 from z) (by decide), o89, vc_fr_refl _ _, fun _ => ⟨rfl, rfl⟩⟩
                · refine jv_Wp.lift (fun _ Kz => jv_Ev.steps jv_i41 1 (pc' := 292) (l' := [(9, .int (1 : Int32)), (8, .int (0 : Int32)), (0, .ref 10), (4, .int (vl_I (vc_F w).n)), (5, .int (vr_b wd)), (6, .ref d), (7, .ref y)]) (st' := [.ref y]) rfl Kz) ?_
                  refine jv_Wp.lift (fun _ Kz => jv_Ev.m jv_i41 (pc' := 295) (st' := [.int (I y 6)]) (G' := (jv_H K I L R)) rfl rfl (jv_m_getI hy rfl rfl rfl) Kz) ?_
                  refine jv_Wp.lift (fun _ Kz => jv_Ev.steps jv_i41 1 (pc' := 296) (l' := [(9, .int (1 : Int32)), (8, .int (0 : Int32)), (0, .ref 10), (4, .int (vl_I (vc_F w).n)), (5, .int (vr_b wd)), (6, .ref d), (7, .ref y)]) (st' := [.int (4 : Int32), .int (I y 6)]) rfl Kz) ?_
                  refine jv_Wp.cnd jv_i41 (pt := 311) (pe := 299) (p := (¬ (I y 6) = (4 : Int32))) (q := (¬ (I y 6) = (4 : Int32))) rfl jv_bc_ne rfl rfl Iff.rfl (fun h25 => ?_) (fun h25 => ?_)
                  · refine jv_Wp.lift (fun _ Kz => jv_Ev.steps jv_i41 1 (pc' := 312) (l' := [(9, .int (1 : Int32)), (8, .int (0 : Int32)), (0, .ref 10), (4, .int (vl_I (vc_F w).n)), (5, .int (vr_b wd)), (6, .ref d), (7, .ref y)]) (st' := [.int (2 : Int32)]) rfl Kz) ?_
                    refine jv_Wp.of (jv_Ev.ret jv_i41 rfl rfl) ?_
                    rw [hQ]
                    have f1 : ¬ (vc_F w).n = 1 := fun z => h1 (by rw [z]; rfl)
                    have f2 : ¬ (vc_F w).n = 5 := fun z => h6 (by rw [z]; rfl)
                    have f3 : (vc_F w).kind = 5 := of_decide_eq_true (hwd.symm.trans (by cases wd <;> first | rfl | exact absurd rfl h7))
                    have f4 : ¬ (vc_F w).n = 2 := fun z => h12 (by rw [z]; rfl)
                    have f5 : ¬ (vc_F w).n = 3 := fun z => h17 (by rw [z]; rfl)
                    have f6 : (vc_F w).n = 10 := (vl_I_inj (by omega) (by decide)).mp h22
                    have f7 : ¬ (vc_T I L d).sort = 4 := fun z => h23 ((vc_is4 od).mp z)
                    have f8 : (vc_T I L d).sort = 5 := (vc_is5 od).mpr (Classical.not_not.mp h24)
                    have f9 : ¬ (vc_T I L y).sort = 4 := fun z => h25 ((vc_is4 oy).mp z)
                    have g1 : ¬ vx_j1 (vc_F w) (vc_A I L 12) := by unfold vx_j1; rw [← eD, ← eY]; exact j1
                    have g2 : ¬ vx_j2 (vc_F w) (vc_A I L 12) := by unfold vx_j2; rw [← eD, ← eY]; exact j2
                    have g3 : ¬ vx_j3 (vc_F w) (vc_A I L 12) := by unfold vx_j3; rw [← eD, ← eY]; omega
                    have g4 : ¬ vx_j4 (vc_F w) (vc_A I L 12) := by unfold vx_j4; rw [← eD, ← eY]; omega
                    have e := vx_jp5 g1 g2 g3 g4
                    exact ⟨_, _, by rw [e]; rfl, fun z => by rw [e] at z; exact absurd (show (2 : Nat) = 0 from z) (by decide), o89, vc_fr_refl _ _, fun _ => ⟨rfl, rfl⟩⟩
                  · refine jv_Wp.lift (fun _ Kz => jv_Ev.steps jv_i41 4 (pc' := 306) (l' := [(9, .int (1 : Int32)), (8, .int (0 : Int32)), (0, .ref 10), (4, .int (vl_I (vc_F w).n)), (5, .int (vr_b wd)), (6, .ref d), (7, .ref y)]) (st' := [.ref y, .ref d, .int (vl_I (vc_F w).n), .ref 10]) rfl Kz) ?_
                    have f1 : ¬ (vc_F w).n = 1 := fun z => h1 (by rw [z]; rfl)
                    have f2 : ¬ (vc_F w).n = 5 := fun z => h6 (by rw [z]; rfl)
                    have f3 : (vc_F w).kind = 5 := of_decide_eq_true (hwd.symm.trans (by cases wd <;> first | rfl | exact absurd rfl h7))
                    have f4 : ¬ (vc_F w).n = 2 := fun z => h12 (by rw [z]; rfl)
                    have f5 : ¬ (vc_F w).n = 3 := fun z => h17 (by rw [z]; rfl)
                    have f6 : (vc_F w).n = 10 := (vl_I_inj (by omega) (by decide)).mp h22
                    have f7 : ¬ (vc_T I L d).sort = 4 := fun z => h23 ((vc_is4 od).mp z)
                    have f8 : (vc_T I L d).sort = 5 := (vc_is5 od).mpr (Classical.not_not.mp h24)
                    have f9 : (vc_T I L y).sort = 4 := (vc_is4 oy).mpr (Classical.not_not.mp h25)
                    obtain ⟨I7, L7, H7, T7, U7, O7, P7, F7, G7⟩ := vc_measure (I := I) (L := L) (R := R) (n := n) (sl := sl) (vc_F w).n false (d := d) (y := y) hC od (by omega) hd hy ((decide_eq_false h23).symm) (fun z => absurd z h23) (fun _ => hby (Classical.not_not.mp h25)) o12 o89
                    refine jv_Wp.lift (fun _ Kz => jv_Ev.c jv_i41 (pc' := 309) (S' := []) (G1 := (jv_H K I7 L7 R)) jv_i44 [.ref 10, .int (vl_I (vc_F w).n), .ref d, .ref y] rfl rfl rfl rfl (jv_cal rfl (jv_H_at hC.k) rfl rfl) rfl H7 rfl rfl Kz) ?_
                    refine jv_Wp.lift (fun _ Kz => jv_Ev.steps jv_i41 1 (pc' := 310) (l' := [(9, .int (1 : Int32)), (8, .int (0 : Int32)), (0, .ref 10), (4, .int (vl_I (vc_F w).n)), (5, .int (vr_b wd)), (6, .ref d), (7, .ref y)]) (st' := [.int (0 : Int32)]) rfl Kz) ?_
                    refine jv_Wp.of (jv_Ev.ret jv_i41 rfl rfl) ?_
                    rw [hQ]
                    have f1 : ¬ (vc_F w).n = 1 := fun z => h1 (by rw [z]; rfl)
                    have f2 : ¬ (vc_F w).n = 5 := fun z => h6 (by rw [z]; rfl)
                    have f3 : (vc_F w).kind = 5 := of_decide_eq_true (hwd.symm.trans (by cases wd <;> first | rfl | exact absurd rfl h7))
                    have f4 : ¬ (vc_F w).n = 2 := fun z => h12 (by rw [z]; rfl)
                    have f5 : ¬ (vc_F w).n = 3 := fun z => h17 (by rw [z]; rfl)
                    have f6 : (vc_F w).n = 10 := (vl_I_inj (by omega) (by decide)).mp h22
                    have f7 : ¬ (vc_T I L d).sort = 4 := fun z => h23 ((vc_is4 od).mp z)
                    have f8 : (vc_T I L d).sort = 5 := (vc_is5 od).mpr (Classical.not_not.mp h24)
                    have f9 : (vc_T I L y).sort = 4 := (vc_is4 oy).mpr (Classical.not_not.mp h25)
                    have g1 : ¬ vx_j1 (vc_F w) (vc_A I L 12) := by unfold vx_j1; rw [← eD, ← eY]; exact j1
                    have g2 : ¬ vx_j2 (vc_F w) (vc_A I L 12) := by unfold vx_j2; rw [← eD, ← eY]; exact j2
                    have g3 : ¬ vx_j3 (vc_F w) (vc_A I L 12) := by unfold vx_j3; rw [← eD, ← eY]; omega
                    have g4 : vx_j4 (vc_F w) (vc_A I L 12) := by unfold vx_j4; rw [← eD, ← eY]; omega
                    have e := vx_jp4 g1 g2 g3 g4 (v := vl_S L y) (pf := false) (by rw [← eD]; exact (decide_eq_false (by omega)).symm) (by rw [if_neg (by decide), ← eY]; exact (vc_valv (Or.inr (Or.inl ((vc_is4 oy).mp (by omega))))).symm)
                    rw [if_neg (by decide)] at T7 U7
                    rw [e89] at T7 U7
                    rw [e]
                    exact ⟨_, _, rfl, fun _ => vc_jp_some ((F7 10 (by unfold vc_in; omega)).1 9) ((F7 10 (by unfold vc_in; omega)).1 10) T7 U7 O7 P7, P7, F7, G7⟩
              · refine jv_Wp.lift (fun _ Kz => jv_Ev.steps jv_i41 1 (pc' := 274) (l' := [(9, .int (1 : Int32)), (8, .int (0 : Int32)), (0, .ref 10), (4, .int (vl_I (vc_F w).n)), (5, .int (vr_b wd)), (6, .ref d), (7, .ref y)]) (st' := [.ref y]) rfl Kz) ?_
                refine jv_Wp.lift (fun _ Kz => jv_Ev.m jv_i41 (pc' := 277) (st' := [.int (I y 6)]) (G' := (jv_H K I L R)) rfl rfl (jv_m_getI hy rfl rfl rfl) Kz) ?_
                refine jv_Wp.lift (fun _ Kz => jv_Ev.steps jv_i41 1 (pc' := 278) (l' := [(9, .int (1 : Int32)), (8, .int (0 : Int32)), (0, .ref 10), (4, .int (vl_I (vc_F w).n)), (5, .int (vr_b wd)), (6, .ref d), (7, .ref y)]) (st' := [.int (5 : Int32), .int (I y 6)]) rfl Kz) ?_
                refine jv_Wp.cnd jv_i41 (pt := 299) (pe := 281) (p := ((I y 6) = (5 : Int32))) (q := ((I y 6) = (5 : Int32))) rfl jv_bc_eq rfl rfl Iff.rfl (fun h26 => ?_) (fun h26 => ?_)
                · refine jv_Wp.lift (fun _ Kz => jv_Ev.steps jv_i41 4 (pc' := 306) (l' := [(9, .int (1 : Int32)), (8, .int (0 : Int32)), (0, .ref 10), (4, .int (vl_I (vc_F w).n)), (5, .int (vr_b wd)), (6, .ref d), (7, .ref y)]) (st' := [.ref y, .ref d, .int (vl_I (vc_F w).n), .ref 10]) rfl Kz) ?_
                  have f1 : ¬ (vc_F w).n = 1 := fun z => h1 (by rw [z]; rfl)
                  have f2 : ¬ (vc_F w).n = 5 := fun z => h6 (by rw [z]; rfl)
                  have f3 : (vc_F w).kind = 5 := of_decide_eq_true (hwd.symm.trans (by cases wd <;> first | rfl | exact absurd rfl h7))
                  have f4 : ¬ (vc_F w).n = 2 := fun z => h12 (by rw [z]; rfl)
                  have f5 : ¬ (vc_F w).n = 3 := fun z => h17 (by rw [z]; rfl)
                  have f6 : (vc_F w).n = 10 := (vl_I_inj (by omega) (by decide)).mp h22
                  have f7 : (vc_T I L d).sort = 4 := (vc_is4 od).mpr (Classical.not_not.mp h23)
                  have f8 : (vc_T I L y).sort = 5 := (vc_is5 oy).mpr h26
                  obtain ⟨I8, L8, H8, T8, U8, O8, P8, F8, G8⟩ := vc_measure (I := I) (L := L) (R := R) (n := n) (sl := sl) (vc_F w).n true (d := d) (y := y) hC od (by omega) hd hy ((decide_eq_true (Classical.not_not.mp h23)).symm) hbd (fun z => absurd (Classical.not_not.mp h23) z) o12 o89
                  refine jv_Wp.lift (fun _ Kz => jv_Ev.c jv_i41 (pc' := 309) (S' := []) (G1 := (jv_H K I8 L8 R)) jv_i44 [.ref 10, .int (vl_I (vc_F w).n), .ref d, .ref y] rfl rfl rfl rfl (jv_cal rfl (jv_H_at hC.k) rfl rfl) rfl H8 rfl rfl Kz) ?_
                  refine jv_Wp.lift (fun _ Kz => jv_Ev.steps jv_i41 1 (pc' := 310) (l' := [(9, .int (1 : Int32)), (8, .int (0 : Int32)), (0, .ref 10), (4, .int (vl_I (vc_F w).n)), (5, .int (vr_b wd)), (6, .ref d), (7, .ref y)]) (st' := [.int (0 : Int32)]) rfl Kz) ?_
                  refine jv_Wp.of (jv_Ev.ret jv_i41 rfl rfl) ?_
                  rw [hQ]
                  have f1 : ¬ (vc_F w).n = 1 := fun z => h1 (by rw [z]; rfl)
                  have f2 : ¬ (vc_F w).n = 5 := fun z => h6 (by rw [z]; rfl)
                  have f3 : (vc_F w).kind = 5 := of_decide_eq_true (hwd.symm.trans (by cases wd <;> first | rfl | exact absurd rfl h7))
                  have f4 : ¬ (vc_F w).n = 2 := fun z => h12 (by rw [z]; rfl)
                  have f5 : ¬ (vc_F w).n = 3 := fun z => h17 (by rw [z]; rfl)
                  have f6 : (vc_F w).n = 10 := (vl_I_inj (by omega) (by decide)).mp h22
                  have f7 : (vc_T I L d).sort = 4 := (vc_is4 od).mpr (Classical.not_not.mp h23)
                  have f8 : (vc_T I L y).sort = 5 := (vc_is5 oy).mpr h26
                  have g1 : ¬ vx_j1 (vc_F w) (vc_A I L 12) := by unfold vx_j1; rw [← eD, ← eY]; exact j1
                  have g2 : ¬ vx_j2 (vc_F w) (vc_A I L 12) := by unfold vx_j2; rw [← eD, ← eY]; exact j2
                  have g3 : ¬ vx_j3 (vc_F w) (vc_A I L 12) := by unfold vx_j3; rw [← eD, ← eY]; omega
                  have g4 : vx_j4 (vc_F w) (vc_A I L 12) := by unfold vx_j4; rw [← eD, ← eY]; omega
                  have e := vx_jp4 g1 g2 g3 g4 (v := vl_S L d) (pf := true) (by rw [← eD]; exact (decide_eq_true (by omega)).symm) (by rw [if_pos rfl, ← eD]; exact (vc_valv (Or.inr (Or.inl ((vc_is4 od).mp (by omega))))).symm)
                  rw [if_pos rfl] at T8 U8
                  rw [e89] at T8 U8
                  rw [e]
                  exact ⟨_, _, rfl, fun _ => vc_jp_some ((F8 10 (by unfold vc_in; omega)).1 9) ((F8 10 (by unfold vc_in; omega)).1 10) T8 U8 O8 P8, P8, F8, G8⟩
                · refine jv_Wp.lift (fun _ Kz => jv_Ev.steps jv_i41 1 (pc' := 283) (l' := [(9, .int (1 : Int32)), (8, .int (0 : Int32)), (0, .ref 10), (4, .int (vl_I (vc_F w).n)), (5, .int (vr_b wd)), (6, .ref d), (7, .ref y)]) (st' := [.ref d]) rfl Kz) ?_
                  refine jv_Wp.lift (fun _ Kz => jv_Ev.m jv_i41 (pc' := 286) (st' := [.int (I d 6)]) (G' := (jv_H K I L R)) rfl rfl (jv_m_getI hd rfl rfl rfl) Kz) ?_
                  refine jv_Wp.lift (fun _ Kz => jv_Ev.steps jv_i41 1 (pc' := 287) (l' := [(9, .int (1 : Int32)), (8, .int (0 : Int32)), (0, .ref 10), (4, .int (vl_I (vc_F w).n)), (5, .int (vr_b wd)), (6, .ref d), (7, .ref y)]) (st' := [.int (5 : Int32), .int (I d 6)]) rfl Kz) ?_
                  refine jv_Wp.cnd jv_i41 (pt := 311) (pe := 290) (p := (¬ (I d 6) = (5 : Int32))) (q := (¬ (I d 6) = (5 : Int32))) rfl jv_bc_ne rfl rfl Iff.rfl (fun _ => ?_) (fun hz => absurd (fun z => absurd (z.symm.trans (Classical.not_not.mp h23)) (by decide)) hz)
                  refine jv_Wp.lift (fun _ Kz => jv_Ev.steps jv_i41 1 (pc' := 312) (l' := [(9, .int (1 : Int32)), (8, .int (0 : Int32)), (0, .ref 10), (4, .int (vl_I (vc_F w).n)), (5, .int (vr_b wd)), (6, .ref d), (7, .ref y)]) (st' := [.int (2 : Int32)]) rfl Kz) ?_
                  refine jv_Wp.of (jv_Ev.ret jv_i41 rfl rfl) ?_
                  rw [hQ]
                  have f1 : ¬ (vc_F w).n = 1 := fun z => h1 (by rw [z]; rfl)
                  have f2 : ¬ (vc_F w).n = 5 := fun z => h6 (by rw [z]; rfl)
                  have f3 : (vc_F w).kind = 5 := of_decide_eq_true (hwd.symm.trans (by cases wd <;> first | rfl | exact absurd rfl h7))
                  have f4 : ¬ (vc_F w).n = 2 := fun z => h12 (by rw [z]; rfl)
                  have f5 : ¬ (vc_F w).n = 3 := fun z => h17 (by rw [z]; rfl)
                  have f6 : (vc_F w).n = 10 := (vl_I_inj (by omega) (by decide)).mp h22
                  have f7 : (vc_T I L d).sort = 4 := (vc_is4 od).mpr (Classical.not_not.mp h23)
                  have f8 : ¬ (vc_T I L y).sort = 5 := fun z => h26 ((vc_is5 oy).mp z)
                  have g1 : ¬ vx_j1 (vc_F w) (vc_A I L 12) := by unfold vx_j1; rw [← eD, ← eY]; exact j1
                  have g2 : ¬ vx_j2 (vc_F w) (vc_A I L 12) := by unfold vx_j2; rw [← eD, ← eY]; exact j2
                  have g3 : ¬ vx_j3 (vc_F w) (vc_A I L 12) := by unfold vx_j3; rw [← eD, ← eY]; omega
                  have g4 : ¬ vx_j4 (vc_F w) (vc_A I L 12) := by unfold vx_j4; rw [← eD, ← eY]; omega
                  have e := vx_jp5 g1 g2 g3 g4
                  exact ⟨_, _, by rw [e]; rfl, fun z => by rw [e] at z; exact absurd (show (2 : Nat) = 0 from z) (by decide), o89, vc_fr_refl _ _, fun _ => ⟨rfl, rfl⟩⟩
            · refine jv_Wp.lift (fun _ Kz => jv_Ev.steps jv_i41 2 (pc' := 243) (l' := [(8, .int (0 : Int32)), (0, .ref 10), (4, .int (vl_I (vc_F w).n)), (5, .int (vr_b wd)), (6, .ref d), (7, .ref y)]) (st' := [.int (11 : Int32), .int (vl_I (vc_F w).n)]) rfl Kz) ?_
              refine jv_Wp.cnd jv_i41 (pt := 250) (pe := 246) (p := (¬ (vl_I (vc_F w).n) = (11 : Int32))) (q := (¬ (vl_I (vc_F w).n) = (11 : Int32))) rfl jv_bc_ne rfl rfl Iff.rfl (fun h27 => ?_) (fun h27 => ?_)
              · refine jv_Wp.lift (fun _ Kz => jv_Ev.steps jv_i41 3 (pc' := 255) (l' := [(9, .int (0 : Int32)), (8, .int (0 : Int32)), (0, .ref 10), (4, .int (vl_I (vc_F w).n)), (5, .int (vr_b wd)), (6, .ref d), (7, .ref y)]) (st' := [.int (vr_b wd)]) rfl Kz) ?_
                refine jv_Wp.cnd jv_i41 (pt := 311) (pe := 258) (p := ((vr_b wd) = 0)) (q := ((vr_b wd) = 0)) rfl jv_bi_eq rfl rfl Iff.rfl (fun hz => absurd hz h7) (fun _ => ?_)
                refine jv_Wp.lift (fun _ Kz => jv_Ev.steps jv_i41 1 (pc' := 260) (l' := [(9, .int (0 : Int32)), (8, .int (0 : Int32)), (0, .ref 10), (4, .int (vl_I (vc_F w).n)), (5, .int (vr_b wd)), (6, .ref d), (7, .ref y)]) (st' := [.int (0 : Int32)]) rfl Kz) ?_
                refine jv_Wp.lift (fun _ Kz => jv_Ev.br jv_i41 (pc' := 311) (st' := []) rfl (by rfl) Kz) ?_
                refine jv_Wp.lift (fun _ Kz => jv_Ev.steps jv_i41 1 (pc' := 312) (l' := [(9, .int (0 : Int32)), (8, .int (0 : Int32)), (0, .ref 10), (4, .int (vl_I (vc_F w).n)), (5, .int (vr_b wd)), (6, .ref d), (7, .ref y)]) (st' := [.int (2 : Int32)]) rfl Kz) ?_
                refine jv_Wp.of (jv_Ev.ret jv_i41 rfl rfl) ?_
                rw [hQ]
                have f1 : ¬ (vc_F w).n = 1 := fun z => h1 (by rw [z]; rfl)
                have f2 : ¬ (vc_F w).n = 5 := fun z => h6 (by rw [z]; rfl)
                have f3 : (vc_F w).kind = 5 := of_decide_eq_true (hwd.symm.trans (by cases wd <;> first | rfl | exact absurd rfl h7))
                have f4 : ¬ (vc_F w).n = 2 := fun z => h12 (by rw [z]; rfl)
                have f5 : ¬ (vc_F w).n = 3 := fun z => h17 (by rw [z]; rfl)
                have f6 : ¬ (vc_F w).n = 10 := fun z => h22 (by rw [z]; rfl)
                have f7 : ¬ (vc_F w).n = 11 := fun z => h27 (by rw [z]; rfl)
                have g1 : ¬ vx_j1 (vc_F w) (vc_A I L 12) := by unfold vx_j1; rw [← eD, ← eY]; exact j1
                have g2 : ¬ vx_j2 (vc_F w) (vc_A I L 12) := by unfold vx_j2; rw [← eD, ← eY]; exact j2
                have g3 : ¬ vx_j3 (vc_F w) (vc_A I L 12) := by unfold vx_j3; rw [← eD, ← eY]; omega
                have g4 : ¬ vx_j4 (vc_F w) (vc_A I L 12) := by unfold vx_j4; rw [← eD, ← eY]; omega
                have e := vx_jp5 g1 g2 g3 g4
                exact ⟨_, _, by rw [e]; rfl, fun z => by rw [e] at z; exact absurd (show (2 : Nat) = 0 from z) (by decide), o89, vc_fr_refl _ _, fun _ => ⟨rfl, rfl⟩⟩
              · refine jv_Wp.lift (fun _ Kz => jv_Ev.steps jv_i41 4 (pc' := 255) (l' := [(9, .int (1 : Int32)), (8, .int (0 : Int32)), (0, .ref 10), (4, .int (vl_I (vc_F w).n)), (5, .int (vr_b wd)), (6, .ref d), (7, .ref y)]) (st' := [.int (vr_b wd)]) rfl Kz) ?_
                refine jv_Wp.cnd jv_i41 (pt := 311) (pe := 258) (p := ((vr_b wd) = 0)) (q := ((vr_b wd) = 0)) rfl jv_bi_eq rfl rfl Iff.rfl (fun hz => absurd hz h7) (fun _ => ?_)
                refine jv_Wp.lift (fun _ Kz => jv_Ev.steps jv_i41 1 (pc' := 260) (l' := [(9, .int (1 : Int32)), (8, .int (0 : Int32)), (0, .ref 10), (4, .int (vl_I (vc_F w).n)), (5, .int (vr_b wd)), (6, .ref d), (7, .ref y)]) (st' := [.int (1 : Int32)]) rfl Kz) ?_
                refine jv_Wp.lift (fun _ Kz => jv_Ev.br jv_i41 (pc' := 263) (st' := []) rfl (by rfl) Kz) ?_
                refine jv_Wp.lift (fun _ Kz => jv_Ev.steps jv_i41 1 (pc' := 265) (l' := [(9, .int (1 : Int32)), (8, .int (0 : Int32)), (0, .ref 10), (4, .int (vl_I (vc_F w).n)), (5, .int (vr_b wd)), (6, .ref d), (7, .ref y)]) (st' := [.ref d]) rfl Kz) ?_
                refine jv_Wp.lift (fun _ Kz => jv_Ev.m jv_i41 (pc' := 268) (st' := [.int (I d 6)]) (G' := (jv_H K I L R)) rfl rfl (jv_m_getI hd rfl rfl rfl) Kz) ?_
                refine jv_Wp.lift (fun _ Kz => jv_Ev.steps jv_i41 1 (pc' := 269) (l' := [(9, .int (1 : Int32)), (8, .int (0 : Int32)), (0, .ref 10), (4, .int (vl_I (vc_F w).n)), (5, .int (vr_b wd)), (6, .ref d), (7, .ref y)]) (st' := [.int (4 : Int32), .int (I d 6)]) rfl Kz) ?_
                refine jv_Wp.cnd jv_i41 (pt := 281) (pe := 272) (p := (¬ (I d 6) = (4 : Int32))) (q := (¬ (I d 6) = (4 : Int32))) rfl jv_bc_ne rfl rfl Iff.rfl (fun h28 => ?_) (fun h28 => ?_)
                · refine jv_Wp.lift (fun _ Kz => jv_Ev.steps jv_i41 1 (pc' := 283) (l' := [(9, .int (1 : Int32)), (8, .int (0 : Int32)), (0, .ref 10), (4, .int (vl_I (vc_F w).n)), (5, .int (vr_b wd)), (6, .ref d), (7, .ref y)]) (st' := [.ref d]) rfl Kz) ?_
                  refine jv_Wp.lift (fun _ Kz => jv_Ev.m jv_i41 (pc' := 286) (st' := [.int (I d 6)]) (G' := (jv_H K I L R)) rfl rfl (jv_m_getI hd rfl rfl rfl) Kz) ?_
                  refine jv_Wp.lift (fun _ Kz => jv_Ev.steps jv_i41 1 (pc' := 287) (l' := [(9, .int (1 : Int32)), (8, .int (0 : Int32)), (0, .ref 10), (4, .int (vl_I (vc_F w).n)), (5, .int (vr_b wd)), (6, .ref d), (7, .ref y)]) (st' := [.int (5 : Int32), .int (I d 6)]) rfl Kz) ?_
                  refine jv_Wp.cnd jv_i41 (pt := 311) (pe := 290) (p := (¬ (I d 6) = (5 : Int32))) (q := (¬ (I d 6) = (5 : Int32))) rfl jv_bc_ne rfl rfl Iff.rfl (fun h29 => ?_) (fun h29 => ?_)
                  · refine jv_Wp.lift (fun _ Kz => jv_Ev.steps jv_i41 1 (pc' := 312) (l' := [(9, .int (1 : Int32)), (8, .int (0 : Int32)), (0, .ref 10), (4, .int (vl_I (vc_F w).n)), (5, .int (vr_b wd)), (6, .ref d), (7, .ref y)]) (st' := [.int (2 : Int32)]) rfl Kz) ?_
                    refine jv_Wp.of (jv_Ev.ret jv_i41 rfl rfl) ?_
                    rw [hQ]
                    have f1 : ¬ (vc_F w).n = 1 := fun z => h1 (by rw [z]; rfl)
                    have f2 : ¬ (vc_F w).n = 5 := fun z => h6 (by rw [z]; rfl)
                    have f3 : (vc_F w).kind = 5 := of_decide_eq_true (hwd.symm.trans (by cases wd <;> first | rfl | exact absurd rfl h7))
                    have f4 : ¬ (vc_F w).n = 2 := fun z => h12 (by rw [z]; rfl)
                    have f5 : ¬ (vc_F w).n = 3 := fun z => h17 (by rw [z]; rfl)
                    have f6 : ¬ (vc_F w).n = 10 := fun z => h22 (by rw [z]; rfl)
                    have f7 : (vc_F w).n = 11 := (vl_I_inj (by omega) (by decide)).mp (Classical.not_not.mp h27)
                    have f8 : ¬ (vc_T I L d).sort = 4 := fun z => h28 ((vc_is4 od).mp z)
                    have f9 : ¬ (vc_T I L d).sort = 5 := fun z => h29 ((vc_is5 od).mp z)
                    have g1 : ¬ vx_j1 (vc_F w) (vc_A I L 12) := by unfold vx_j1; rw [← eD, ← eY]; exact j1
                    have g2 : ¬ vx_j2 (vc_F w) (vc_A I L 12) := by unfold vx_j2; rw [← eD, ← eY]; exact j2
                    have g3 : ¬ vx_j3 (vc_F w) (vc_A I L 12) := by unfold vx_j3; rw [← eD, ← eY]; omega
                    have g4 : ¬ vx_j4 (vc_F w) (vc_A I L 12) := by unfold vx_j4; rw [← eD, ← eY]; omega
                    have e := vx_jp5 g1 g2 g3 g4
                    exact ⟨_, _, by rw [e]; rfl, fun z => by rw [e] at z; exact absurd (show (2 : Nat) = 0 from z) (by decide), o89, vc_fr_refl _ _, fun _ => ⟨rfl, rfl⟩⟩
                  · refine jv_Wp.lift (fun _ Kz => jv_Ev.steps jv_i41 1 (pc' := 292) (l' := [(9, .int (1 : Int32)), (8, .int (0 : Int32)), (0, .ref 10), (4, .int (vl_I (vc_F w).n)), (5, .int (vr_b wd)), (6, .ref d), (7, .ref y)]) (st' := [.ref y]) rfl Kz) ?_
                    refine jv_Wp.lift (fun _ Kz => jv_Ev.m jv_i41 (pc' := 295) (st' := [.int (I y 6)]) (G' := (jv_H K I L R)) rfl rfl (jv_m_getI hy rfl rfl rfl) Kz) ?_
                    refine jv_Wp.lift (fun _ Kz => jv_Ev.steps jv_i41 1 (pc' := 296) (l' := [(9, .int (1 : Int32)), (8, .int (0 : Int32)), (0, .ref 10), (4, .int (vl_I (vc_F w).n)), (5, .int (vr_b wd)), (6, .ref d), (7, .ref y)]) (st' := [.int (4 : Int32), .int (I y 6)]) rfl Kz) ?_
                    refine jv_Wp.cnd jv_i41 (pt := 311) (pe := 299) (p := (¬ (I y 6) = (4 : Int32))) (q := (¬ (I y 6) = (4 : Int32))) rfl jv_bc_ne rfl rfl Iff.rfl (fun h30 => ?_) (fun h30 => ?_)
                    · refine jv_Wp.lift (fun _ Kz => jv_Ev.steps jv_i41 1 (pc' := 312) (l' := [(9, .int (1 : Int32)), (8, .int (0 : Int32)), (0, .ref 10), (4, .int (vl_I (vc_F w).n)), (5, .int (vr_b wd)), (6, .ref d), (7, .ref y)]) (st' := [.int (2 : Int32)]) rfl Kz) ?_
                      refine jv_Wp.of (jv_Ev.ret jv_i41 rfl rfl) ?_
                      rw [hQ]
                      have f1 : ¬ (vc_F w).n = 1 := fun z => h1 (by rw [z]; rfl)
                      have f2 : ¬ (vc_F w).n = 5 := fun z => h6 (by rw [z]; rfl)
                      have f3 : (vc_F w).kind = 5 := of_decide_eq_true (hwd.symm.trans (by cases wd <;> first | rfl | exact absurd rfl h7))
                      have f4 : ¬ (vc_F w).n = 2 := fun z => h12 (by rw [z]; rfl)
                      have f5 : ¬ (vc_F w).n = 3 := fun z => h17 (by rw [z]; rfl)
                      have f6 : ¬ (vc_F w).n = 10 := fun z => h22 (by rw [z]; rfl)
                      have f7 : (vc_F w).n = 11 := (vl_I_inj (by omega) (by decide)).mp (Classical.not_not.mp h27)
                      have f8 : ¬ (vc_T I L d).sort = 4 := fun z => h28 ((vc_is4 od).mp z)
                      have f9 : (vc_T I L d).sort = 5 := (vc_is5 od).mpr (Classical.not_not.mp h29)
                      have f10 : ¬ (vc_T I L y).sort = 4 := fun z => h30 ((vc_is4 oy).mp z)
                      have g1 : ¬ vx_j1 (vc_F w) (vc_A I L 12) := by unfold vx_j1; rw [← eD, ← eY]; exact j1
                      have g2 : ¬ vx_j2 (vc_F w) (vc_A I L 12) := by unfold vx_j2; rw [← eD, ← eY]; exact j2
                      have g3 : ¬ vx_j3 (vc_F w) (vc_A I L 12) := by unfold vx_j3; rw [← eD, ← eY]; omega
                      have g4 : ¬ vx_j4 (vc_F w) (vc_A I L 12) := by unfold vx_j4; rw [← eD, ← eY]; omega
                      have e := vx_jp5 g1 g2 g3 g4
                      exact ⟨_, _, by rw [e]; rfl, fun z => by rw [e] at z; exact absurd (show (2 : Nat) = 0 from z) (by decide), o89, vc_fr_refl _ _, fun _ => ⟨rfl, rfl⟩⟩
                    · refine jv_Wp.lift (fun _ Kz => jv_Ev.steps jv_i41 4 (pc' := 306) (l' := [(9, .int (1 : Int32)), (8, .int (0 : Int32)), (0, .ref 10), (4, .int (vl_I (vc_F w).n)), (5, .int (vr_b wd)), (6, .ref d), (7, .ref y)]) (st' := [.ref y, .ref d, .int (vl_I (vc_F w).n), .ref 10]) rfl Kz) ?_
                      have f1 : ¬ (vc_F w).n = 1 := fun z => h1 (by rw [z]; rfl)
                      have f2 : ¬ (vc_F w).n = 5 := fun z => h6 (by rw [z]; rfl)
                      have f3 : (vc_F w).kind = 5 := of_decide_eq_true (hwd.symm.trans (by cases wd <;> first | rfl | exact absurd rfl h7))
                      have f4 : ¬ (vc_F w).n = 2 := fun z => h12 (by rw [z]; rfl)
                      have f5 : ¬ (vc_F w).n = 3 := fun z => h17 (by rw [z]; rfl)
                      have f6 : ¬ (vc_F w).n = 10 := fun z => h22 (by rw [z]; rfl)
                      have f7 : (vc_F w).n = 11 := (vl_I_inj (by omega) (by decide)).mp (Classical.not_not.mp h27)
                      have f8 : ¬ (vc_T I L d).sort = 4 := fun z => h28 ((vc_is4 od).mp z)
                      have f9 : (vc_T I L d).sort = 5 := (vc_is5 od).mpr (Classical.not_not.mp h29)
                      have f10 : (vc_T I L y).sort = 4 := (vc_is4 oy).mpr (Classical.not_not.mp h30)
                      obtain ⟨I9, L9, H9, T9, U9, O9, P9, F9, G9⟩ := vc_measure (I := I) (L := L) (R := R) (n := n) (sl := sl) (vc_F w).n false (d := d) (y := y) hC od (by omega) hd hy ((decide_eq_false h28).symm) (fun z => absurd z h28) (fun _ => hby (Classical.not_not.mp h30)) o12 o89
                      refine jv_Wp.lift (fun _ Kz => jv_Ev.c jv_i41 (pc' := 309) (S' := []) (G1 := (jv_H K I9 L9 R)) jv_i44 [.ref 10, .int (vl_I (vc_F w).n), .ref d, .ref y] rfl rfl rfl rfl (jv_cal rfl (jv_H_at hC.k) rfl rfl) rfl H9 rfl rfl Kz) ?_
                      refine jv_Wp.lift (fun _ Kz => jv_Ev.steps jv_i41 1 (pc' := 310) (l' := [(9, .int (1 : Int32)), (8, .int (0 : Int32)), (0, .ref 10), (4, .int (vl_I (vc_F w).n)), (5, .int (vr_b wd)), (6, .ref d), (7, .ref y)]) (st' := [.int (0 : Int32)]) rfl Kz) ?_
                      refine jv_Wp.of (jv_Ev.ret jv_i41 rfl rfl) ?_
                      rw [hQ]
                      have f1 : ¬ (vc_F w).n = 1 := fun z => h1 (by rw [z]; rfl)
                      have f2 : ¬ (vc_F w).n = 5 := fun z => h6 (by rw [z]; rfl)
                      have f3 : (vc_F w).kind = 5 := of_decide_eq_true (hwd.symm.trans (by cases wd <;> first | rfl | exact absurd rfl h7))
                      have f4 : ¬ (vc_F w).n = 2 := fun z => h12 (by rw [z]; rfl)
                      have f5 : ¬ (vc_F w).n = 3 := fun z => h17 (by rw [z]; rfl)
                      have f6 : ¬ (vc_F w).n = 10 := fun z => h22 (by rw [z]; rfl)
                      have f7 : (vc_F w).n = 11 := (vl_I_inj (by omega) (by decide)).mp (Classical.not_not.mp h27)
                      have f8 : ¬ (vc_T I L d).sort = 4 := fun z => h28 ((vc_is4 od).mp z)
                      have f9 : (vc_T I L d).sort = 5 := (vc_is5 od).mpr (Classical.not_not.mp h29)
                      have f10 : (vc_T I L y).sort = 4 := (vc_is4 oy).mpr (Classical.not_not.mp h30)
                      have g1 : ¬ vx_j1 (vc_F w) (vc_A I L 12) := by unfold vx_j1; rw [← eD, ← eY]; exact j1
                      have g2 : ¬ vx_j2 (vc_F w) (vc_A I L 12) := by unfold vx_j2; rw [← eD, ← eY]; exact j2
                      have g3 : ¬ vx_j3 (vc_F w) (vc_A I L 12) := by unfold vx_j3; rw [← eD, ← eY]; omega
                      have g4 : vx_j4 (vc_F w) (vc_A I L 12) := by unfold vx_j4; rw [← eD, ← eY]; omega
                      have e := vx_jp4 g1 g2 g3 g4 (v := vl_S L y) (pf := false) (by rw [← eD]; exact (decide_eq_false (by omega)).symm) (by rw [if_neg (by decide), ← eY]; exact (vc_valv (Or.inr (Or.inl ((vc_is4 oy).mp (by omega))))).symm)
                      rw [if_neg (by decide)] at T9 U9
                      rw [e89] at T9 U9
                      rw [e]
                      exact ⟨_, _, rfl, fun _ => vc_jp_some ((F9 10 (by unfold vc_in; omega)).1 9) ((F9 10 (by unfold vc_in; omega)).1 10) T9 U9 O9 P9, P9, F9, G9⟩
                · refine jv_Wp.lift (fun _ Kz => jv_Ev.steps jv_i41 1 (pc' := 274) (l' := [(9, .int (1 : Int32)), (8, .int (0 : Int32)), (0, .ref 10), (4, .int (vl_I (vc_F w).n)), (5, .int (vr_b wd)), (6, .ref d), (7, .ref y)]) (st' := [.ref y]) rfl Kz) ?_
                  refine jv_Wp.lift (fun _ Kz => jv_Ev.m jv_i41 (pc' := 277) (st' := [.int (I y 6)]) (G' := (jv_H K I L R)) rfl rfl (jv_m_getI hy rfl rfl rfl) Kz) ?_
                  refine jv_Wp.lift (fun _ Kz => jv_Ev.steps jv_i41 1 (pc' := 278) (l' := [(9, .int (1 : Int32)), (8, .int (0 : Int32)), (0, .ref 10), (4, .int (vl_I (vc_F w).n)), (5, .int (vr_b wd)), (6, .ref d), (7, .ref y)]) (st' := [.int (5 : Int32), .int (I y 6)]) rfl Kz) ?_
                  refine jv_Wp.cnd jv_i41 (pt := 299) (pe := 281) (p := ((I y 6) = (5 : Int32))) (q := ((I y 6) = (5 : Int32))) rfl jv_bc_eq rfl rfl Iff.rfl (fun h31 => ?_) (fun h31 => ?_)
                  · refine jv_Wp.lift (fun _ Kz => jv_Ev.steps jv_i41 4 (pc' := 306) (l' := [(9, .int (1 : Int32)), (8, .int (0 : Int32)), (0, .ref 10), (4, .int (vl_I (vc_F w).n)), (5, .int (vr_b wd)), (6, .ref d), (7, .ref y)]) (st' := [.ref y, .ref d, .int (vl_I (vc_F w).n), .ref 10]) rfl Kz) ?_
                    have f1 : ¬ (vc_F w).n = 1 := fun z => h1 (by rw [z]; rfl)
                    have f2 : ¬ (vc_F w).n = 5 := fun z => h6 (by rw [z]; rfl)
                    have f3 : (vc_F w).kind = 5 := of_decide_eq_true (hwd.symm.trans (by cases wd <;> first | rfl | exact absurd rfl h7))
                    have f4 : ¬ (vc_F w).n = 2 := fun z => h12 (by rw [z]; rfl)
                    have f5 : ¬ (vc_F w).n = 3 := fun z => h17 (by rw [z]; rfl)
                    have f6 : ¬ (vc_F w).n = 10 := fun z => h22 (by rw [z]; rfl)
                    have f7 : (vc_F w).n = 11 := (vl_I_inj (by omega) (by decide)).mp (Classical.not_not.mp h27)
                    have f8 : (vc_T I L d).sort = 4 := (vc_is4 od).mpr (Classical.not_not.mp h28)
                    have f9 : (vc_T I L y).sort = 5 := (vc_is5 oy).mpr h31
                    obtain ⟨I10, L10, H10, T10, U10, O10, P10, F10, G10⟩ := vc_measure (I := I) (L := L) (R := R) (n := n) (sl := sl) (vc_F w).n true (d := d) (y := y) hC od (by omega) hd hy ((decide_eq_true (Classical.not_not.mp h28)).symm) hbd (fun z => absurd (Classical.not_not.mp h28) z) o12 o89
                    refine jv_Wp.lift (fun _ Kz => jv_Ev.c jv_i41 (pc' := 309) (S' := []) (G1 := (jv_H K I10 L10 R)) jv_i44 [.ref 10, .int (vl_I (vc_F w).n), .ref d, .ref y] rfl rfl rfl rfl (jv_cal rfl (jv_H_at hC.k) rfl rfl) rfl H10 rfl rfl Kz) ?_
                    refine jv_Wp.lift (fun _ Kz => jv_Ev.steps jv_i41 1 (pc' := 310) (l' := [(9, .int (1 : Int32)), (8, .int (0 : Int32)), (0, .ref 10), (4, .int (vl_I (vc_F w).n)), (5, .int (vr_b wd)), (6, .ref d), (7, .ref y)]) (st' := [.int (0 : Int32)]) rfl Kz) ?_
                    refine jv_Wp.of (jv_Ev.ret jv_i41 rfl rfl) ?_
                    rw [hQ]
                    have f1 : ¬ (vc_F w).n = 1 := fun z => h1 (by rw [z]; rfl)
                    have f2 : ¬ (vc_F w).n = 5 := fun z => h6 (by rw [z]; rfl)
                    have f3 : (vc_F w).kind = 5 := of_decide_eq_true (hwd.symm.trans (by cases wd <;> first | rfl | exact absurd rfl h7))
                    have f4 : ¬ (vc_F w).n = 2 := fun z => h12 (by rw [z]; rfl)
                    have f5 : ¬ (vc_F w).n = 3 := fun z => h17 (by rw [z]; rfl)
                    have f6 : ¬ (vc_F w).n = 10 := fun z => h22 (by rw [z]; rfl)
                    have f7 : (vc_F w).n = 11 := (vl_I_inj (by omega) (by decide)).mp (Classical.not_not.mp h27)
                    have f8 : (vc_T I L d).sort = 4 := (vc_is4 od).mpr (Classical.not_not.mp h28)
                    have f9 : (vc_T I L y).sort = 5 := (vc_is5 oy).mpr h31
                    have g1 : ¬ vx_j1 (vc_F w) (vc_A I L 12) := by unfold vx_j1; rw [← eD, ← eY]; exact j1
                    have g2 : ¬ vx_j2 (vc_F w) (vc_A I L 12) := by unfold vx_j2; rw [← eD, ← eY]; exact j2
                    have g3 : ¬ vx_j3 (vc_F w) (vc_A I L 12) := by unfold vx_j3; rw [← eD, ← eY]; omega
                    have g4 : vx_j4 (vc_F w) (vc_A I L 12) := by unfold vx_j4; rw [← eD, ← eY]; omega
                    have e := vx_jp4 g1 g2 g3 g4 (v := vl_S L d) (pf := true) (by rw [← eD]; exact (decide_eq_true (by omega)).symm) (by rw [if_pos rfl, ← eD]; exact (vc_valv (Or.inr (Or.inl ((vc_is4 od).mp (by omega))))).symm)
                    rw [if_pos rfl] at T10 U10
                    rw [e89] at T10 U10
                    rw [e]
                    exact ⟨_, _, rfl, fun _ => vc_jp_some ((F10 10 (by unfold vc_in; omega)).1 9) ((F10 10 (by unfold vc_in; omega)).1 10) T10 U10 O10 P10, P10, F10, G10⟩
                  · refine jv_Wp.lift (fun _ Kz => jv_Ev.steps jv_i41 1 (pc' := 283) (l' := [(9, .int (1 : Int32)), (8, .int (0 : Int32)), (0, .ref 10), (4, .int (vl_I (vc_F w).n)), (5, .int (vr_b wd)), (6, .ref d), (7, .ref y)]) (st' := [.ref d]) rfl Kz) ?_
                    refine jv_Wp.lift (fun _ Kz => jv_Ev.m jv_i41 (pc' := 286) (st' := [.int (I d 6)]) (G' := (jv_H K I L R)) rfl rfl (jv_m_getI hd rfl rfl rfl) Kz) ?_
                    refine jv_Wp.lift (fun _ Kz => jv_Ev.steps jv_i41 1 (pc' := 287) (l' := [(9, .int (1 : Int32)), (8, .int (0 : Int32)), (0, .ref 10), (4, .int (vl_I (vc_F w).n)), (5, .int (vr_b wd)), (6, .ref d), (7, .ref y)]) (st' := [.int (5 : Int32), .int (I d 6)]) rfl Kz) ?_
                    refine jv_Wp.cnd jv_i41 (pt := 311) (pe := 290) (p := (¬ (I d 6) = (5 : Int32))) (q := (¬ (I d 6) = (5 : Int32))) rfl jv_bc_ne rfl rfl Iff.rfl (fun _ => ?_) (fun hz => absurd (fun z => absurd (z.symm.trans (Classical.not_not.mp h28)) (by decide)) hz)
                    refine jv_Wp.lift (fun _ Kz => jv_Ev.steps jv_i41 1 (pc' := 312) (l' := [(9, .int (1 : Int32)), (8, .int (0 : Int32)), (0, .ref 10), (4, .int (vl_I (vc_F w).n)), (5, .int (vr_b wd)), (6, .ref d), (7, .ref y)]) (st' := [.int (2 : Int32)]) rfl Kz) ?_
                    refine jv_Wp.of (jv_Ev.ret jv_i41 rfl rfl) ?_
                    rw [hQ]
                    have f1 : ¬ (vc_F w).n = 1 := fun z => h1 (by rw [z]; rfl)
                    have f2 : ¬ (vc_F w).n = 5 := fun z => h6 (by rw [z]; rfl)
                    have f3 : (vc_F w).kind = 5 := of_decide_eq_true (hwd.symm.trans (by cases wd <;> first | rfl | exact absurd rfl h7))
                    have f4 : ¬ (vc_F w).n = 2 := fun z => h12 (by rw [z]; rfl)
                    have f5 : ¬ (vc_F w).n = 3 := fun z => h17 (by rw [z]; rfl)
                    have f6 : ¬ (vc_F w).n = 10 := fun z => h22 (by rw [z]; rfl)
                    have f7 : (vc_F w).n = 11 := (vl_I_inj (by omega) (by decide)).mp (Classical.not_not.mp h27)
                    have f8 : (vc_T I L d).sort = 4 := (vc_is4 od).mpr (Classical.not_not.mp h28)
                    have f9 : ¬ (vc_T I L y).sort = 5 := fun z => h31 ((vc_is5 oy).mp z)
                    have g1 : ¬ vx_j1 (vc_F w) (vc_A I L 12) := by unfold vx_j1; rw [← eD, ← eY]; exact j1
                    have g2 : ¬ vx_j2 (vc_F w) (vc_A I L 12) := by unfold vx_j2; rw [← eD, ← eY]; exact j2
                    have g3 : ¬ vx_j3 (vc_F w) (vc_A I L 12) := by unfold vx_j3; rw [← eD, ← eY]; omega
                    have g4 : ¬ vx_j4 (vc_F w) (vc_A I L 12) := by unfold vx_j4; rw [← eD, ← eY]; omega
                    have e := vx_jp5 g1 g2 g3 g4
                    exact ⟨_, _, by rw [e]; rfl, fun z => by rw [e] at z; exact absurd (show (2 : Nat) = 0 from z) (by decide), o89, vc_fr_refl _ _, fun _ => ⟨rfl, rfl⟩⟩
    · refine jv_Wp.lift (fun _ Kz => jv_Ev.steps jv_i41 4 (pc' := 135) (l' := [(8, .int (1 : Int32)), (0, .ref 10), (4, .int (vl_I (vc_F w).n)), (5, .int (vr_b wd)), (6, .ref d), (7, .ref y)]) (st' := [.int (vr_b wd)]) rfl Kz) ?_
      refine jv_Wp.cnd jv_i41 (pt := 220) (pe := 138) (p := ((vr_b wd) = 0)) (q := ((vr_b wd) = 0)) rfl jv_bi_eq rfl rfl Iff.rfl (fun h32 => ?_) (fun h32 => ?_)
      · refine jv_Wp.lift (fun _ Kz => jv_Ev.steps jv_i41 2 (pc' := 223) (l' := [(8, .int (1 : Int32)), (0, .ref 10), (4, .int (vl_I (vc_F w).n)), (5, .int (vr_b wd)), (6, .ref d), (7, .ref y)]) (st' := [.int (2 : Int32), .int (vl_I (vc_F w).n)]) rfl Kz) ?_
        refine jv_Wp.cnd jv_i41 (pt := 246) (pe := 226) (p := ((vl_I (vc_F w).n) = (2 : Int32))) (q := ((vl_I (vc_F w).n) = (2 : Int32))) rfl jv_bc_eq rfl rfl Iff.rfl (fun hz => absurd hz (fun z => absurd (z.symm.trans (Classical.not_not.mp h6)) (by decide))) (fun _ => ?_)
        refine jv_Wp.lift (fun _ Kz => jv_Ev.steps jv_i41 2 (pc' := 229) (l' := [(8, .int (1 : Int32)), (0, .ref 10), (4, .int (vl_I (vc_F w).n)), (5, .int (vr_b wd)), (6, .ref d), (7, .ref y)]) (st' := [.int (3 : Int32), .int (vl_I (vc_F w).n)]) rfl Kz) ?_
        refine jv_Wp.cnd jv_i41 (pt := 246) (pe := 232) (p := ((vl_I (vc_F w).n) = (3 : Int32))) (q := ((vl_I (vc_F w).n) = (3 : Int32))) rfl jv_bc_eq rfl rfl Iff.rfl (fun hz => absurd hz (fun z => absurd (z.symm.trans (Classical.not_not.mp h6)) (by decide))) (fun _ => ?_)
        refine jv_Wp.lift (fun _ Kz => jv_Ev.steps jv_i41 2 (pc' := 236) (l' := [(8, .int (1 : Int32)), (0, .ref 10), (4, .int (vl_I (vc_F w).n)), (5, .int (vr_b wd)), (6, .ref d), (7, .ref y)]) (st' := [.int (10 : Int32), .int (vl_I (vc_F w).n)]) rfl Kz) ?_
        refine jv_Wp.cnd jv_i41 (pt := 246) (pe := 239) (p := ((vl_I (vc_F w).n) = (10 : Int32))) (q := ((vl_I (vc_F w).n) = (10 : Int32))) rfl jv_bc_eq rfl rfl Iff.rfl (fun hz => absurd hz (fun z => absurd (z.symm.trans (Classical.not_not.mp h6)) (by decide))) (fun _ => ?_)
        refine jv_Wp.lift (fun _ Kz => jv_Ev.steps jv_i41 2 (pc' := 243) (l' := [(8, .int (1 : Int32)), (0, .ref 10), (4, .int (vl_I (vc_F w).n)), (5, .int (vr_b wd)), (6, .ref d), (7, .ref y)]) (st' := [.int (11 : Int32), .int (vl_I (vc_F w).n)]) rfl Kz) ?_
        refine jv_Wp.cnd jv_i41 (pt := 250) (pe := 246) (p := (¬ (vl_I (vc_F w).n) = (11 : Int32))) (q := (¬ (vl_I (vc_F w).n) = (11 : Int32))) rfl jv_bc_ne rfl rfl Iff.rfl (fun _ => ?_) (fun hz => absurd (fun z => absurd (z.symm.trans (Classical.not_not.mp h6)) (by decide)) hz)
        refine jv_Wp.lift (fun _ Kz => jv_Ev.steps jv_i41 3 (pc' := 255) (l' := [(9, .int (0 : Int32)), (8, .int (1 : Int32)), (0, .ref 10), (4, .int (vl_I (vc_F w).n)), (5, .int (vr_b wd)), (6, .ref d), (7, .ref y)]) (st' := [.int (vr_b wd)]) rfl Kz) ?_
        refine jv_Wp.cnd jv_i41 (pt := 311) (pe := 258) (p := ((vr_b wd) = 0)) (q := ((vr_b wd) = 0)) rfl jv_bi_eq rfl rfl Iff.rfl (fun _ => ?_) (fun hz => absurd h32 hz)
        refine jv_Wp.lift (fun _ Kz => jv_Ev.steps jv_i41 1 (pc' := 312) (l' := [(9, .int (0 : Int32)), (8, .int (1 : Int32)), (0, .ref 10), (4, .int (vl_I (vc_F w).n)), (5, .int (vr_b wd)), (6, .ref d), (7, .ref y)]) (st' := [.int (2 : Int32)]) rfl Kz) ?_
        refine jv_Wp.of (jv_Ev.ret jv_i41 rfl rfl) ?_
        rw [hQ]
        have f1 : ¬ (vc_F w).n = 1 := fun z => h1 (by rw [z]; rfl)
        have f2 : (vc_F w).n = 5 := (vl_I_inj (by omega) (by decide)).mp (Classical.not_not.mp h6)
        have f3 : ¬ (vc_F w).kind = 5 := of_decide_eq_false (hwd.symm.trans (by cases wd <;> first | rfl | exact absurd h32 (by decide)))
        have g1 : ¬ vx_j1 (vc_F w) (vc_A I L 12) := by unfold vx_j1; rw [← eD, ← eY]; exact j1
        have g2 : ¬ vx_j2 (vc_F w) (vc_A I L 12) := by unfold vx_j2; rw [← eD, ← eY]; exact j2
        have g3 : ¬ vx_j3 (vc_F w) (vc_A I L 12) := by unfold vx_j3; rw [← eD, ← eY]; omega
        have g4 : ¬ vx_j4 (vc_F w) (vc_A I L 12) := by unfold vx_j4; rw [← eD, ← eY]; omega
        have e := vx_jp5 g1 g2 g3 g4
        exact ⟨_, _, by rw [e]; rfl, fun z => by rw [e] at z; exact absurd (show (2 : Nat) = 0 from z) (by decide), o89, vc_fr_refl _ _, fun _ => ⟨rfl, rfl⟩⟩
      · refine jv_Wp.lift (fun _ Kz => jv_Ev.steps jv_i41 1 (pc' := 140) (l' := [(8, .int (1 : Int32)), (0, .ref 10), (4, .int (vl_I (vc_F w).n)), (5, .int (vr_b wd)), (6, .ref d), (7, .ref y)]) (st' := [.int (1 : Int32)]) rfl Kz) ?_
        refine jv_Wp.lift (fun _ Kz => jv_Ev.br jv_i41 (pc' := 143) (st' := []) rfl (by rfl) Kz) ?_
        refine jv_Wp.lift (fun _ Kz => jv_Ev.steps jv_i41 1 (pc' := 145) (l' := [(8, .int (1 : Int32)), (0, .ref 10), (4, .int (vl_I (vc_F w).n)), (5, .int (vr_b wd)), (6, .ref d), (7, .ref y)]) (st' := [.ref d]) rfl Kz) ?_
        refine jv_Wp.lift (fun _ Kz => jv_Ev.m jv_i41 (pc' := 148) (st' := [.int (I d 6)]) (G' := (jv_H K I L R)) rfl rfl (jv_m_getI hd rfl rfl rfl) Kz) ?_
        refine jv_Wp.lift (fun _ Kz => jv_Ev.steps jv_i41 1 (pc' := 150) (l' := [(8, .int (1 : Int32)), (0, .ref 10), (4, .int (vl_I (vc_F w).n)), (5, .int (vr_b wd)), (6, .ref d), (7, .ref y)]) (st' := [.int (8 : Int32), .int (I d 6)]) rfl Kz) ?_
        refine jv_Wp.cnd jv_i41 (pt := 220) (pe := 153) (p := (¬ (I d 6) = (8 : Int32))) (q := (¬ (I d 6) = (8 : Int32))) rfl jv_bc_ne rfl rfl Iff.rfl (fun h33 => ?_) (fun h33 => ?_)
        · refine jv_Wp.lift (fun _ Kz => jv_Ev.steps jv_i41 2 (pc' := 223) (l' := [(8, .int (1 : Int32)), (0, .ref 10), (4, .int (vl_I (vc_F w).n)), (5, .int (vr_b wd)), (6, .ref d), (7, .ref y)]) (st' := [.int (2 : Int32), .int (vl_I (vc_F w).n)]) rfl Kz) ?_
          refine jv_Wp.cnd jv_i41 (pt := 246) (pe := 226) (p := ((vl_I (vc_F w).n) = (2 : Int32))) (q := ((vl_I (vc_F w).n) = (2 : Int32))) rfl jv_bc_eq rfl rfl Iff.rfl (fun hz => absurd hz (fun z => absurd (z.symm.trans (Classical.not_not.mp h6)) (by decide))) (fun _ => ?_)
          refine jv_Wp.lift (fun _ Kz => jv_Ev.steps jv_i41 2 (pc' := 229) (l' := [(8, .int (1 : Int32)), (0, .ref 10), (4, .int (vl_I (vc_F w).n)), (5, .int (vr_b wd)), (6, .ref d), (7, .ref y)]) (st' := [.int (3 : Int32), .int (vl_I (vc_F w).n)]) rfl Kz) ?_
          refine jv_Wp.cnd jv_i41 (pt := 246) (pe := 232) (p := ((vl_I (vc_F w).n) = (3 : Int32))) (q := ((vl_I (vc_F w).n) = (3 : Int32))) rfl jv_bc_eq rfl rfl Iff.rfl (fun hz => absurd hz (fun z => absurd (z.symm.trans (Classical.not_not.mp h6)) (by decide))) (fun _ => ?_)
          refine jv_Wp.lift (fun _ Kz => jv_Ev.steps jv_i41 2 (pc' := 236) (l' := [(8, .int (1 : Int32)), (0, .ref 10), (4, .int (vl_I (vc_F w).n)), (5, .int (vr_b wd)), (6, .ref d), (7, .ref y)]) (st' := [.int (10 : Int32), .int (vl_I (vc_F w).n)]) rfl Kz) ?_
          refine jv_Wp.cnd jv_i41 (pt := 246) (pe := 239) (p := ((vl_I (vc_F w).n) = (10 : Int32))) (q := ((vl_I (vc_F w).n) = (10 : Int32))) rfl jv_bc_eq rfl rfl Iff.rfl (fun hz => absurd hz (fun z => absurd (z.symm.trans (Classical.not_not.mp h6)) (by decide))) (fun _ => ?_)
          refine jv_Wp.lift (fun _ Kz => jv_Ev.steps jv_i41 2 (pc' := 243) (l' := [(8, .int (1 : Int32)), (0, .ref 10), (4, .int (vl_I (vc_F w).n)), (5, .int (vr_b wd)), (6, .ref d), (7, .ref y)]) (st' := [.int (11 : Int32), .int (vl_I (vc_F w).n)]) rfl Kz) ?_
          refine jv_Wp.cnd jv_i41 (pt := 250) (pe := 246) (p := (¬ (vl_I (vc_F w).n) = (11 : Int32))) (q := (¬ (vl_I (vc_F w).n) = (11 : Int32))) rfl jv_bc_ne rfl rfl Iff.rfl (fun _ => ?_) (fun hz => absurd (fun z => absurd (z.symm.trans (Classical.not_not.mp h6)) (by decide)) hz)
          refine jv_Wp.lift (fun _ Kz => jv_Ev.steps jv_i41 3 (pc' := 255) (l' := [(9, .int (0 : Int32)), (8, .int (1 : Int32)), (0, .ref 10), (4, .int (vl_I (vc_F w).n)), (5, .int (vr_b wd)), (6, .ref d), (7, .ref y)]) (st' := [.int (vr_b wd)]) rfl Kz) ?_
          refine jv_Wp.cnd jv_i41 (pt := 311) (pe := 258) (p := ((vr_b wd) = 0)) (q := ((vr_b wd) = 0)) rfl jv_bi_eq rfl rfl Iff.rfl (fun hz => absurd hz h32) (fun _ => ?_)
          refine jv_Wp.lift (fun _ Kz => jv_Ev.steps jv_i41 1 (pc' := 260) (l' := [(9, .int (0 : Int32)), (8, .int (1 : Int32)), (0, .ref 10), (4, .int (vl_I (vc_F w).n)), (5, .int (vr_b wd)), (6, .ref d), (7, .ref y)]) (st' := [.int (0 : Int32)]) rfl Kz) ?_
          refine jv_Wp.lift (fun _ Kz => jv_Ev.br jv_i41 (pc' := 311) (st' := []) rfl (by rfl) Kz) ?_
          refine jv_Wp.lift (fun _ Kz => jv_Ev.steps jv_i41 1 (pc' := 312) (l' := [(9, .int (0 : Int32)), (8, .int (1 : Int32)), (0, .ref 10), (4, .int (vl_I (vc_F w).n)), (5, .int (vr_b wd)), (6, .ref d), (7, .ref y)]) (st' := [.int (2 : Int32)]) rfl Kz) ?_
          refine jv_Wp.of (jv_Ev.ret jv_i41 rfl rfl) ?_
          rw [hQ]
          have f1 : ¬ (vc_F w).n = 1 := fun z => h1 (by rw [z]; rfl)
          have f2 : (vc_F w).n = 5 := (vl_I_inj (by omega) (by decide)).mp (Classical.not_not.mp h6)
          have f3 : (vc_F w).kind = 5 := of_decide_eq_true (hwd.symm.trans (by cases wd <;> first | rfl | exact absurd rfl h32))
          have f4 : ¬ (vc_T I L d).sort = 8 := fun z => h33 ((vc_is8 od).mp z)
          have g1 : ¬ vx_j1 (vc_F w) (vc_A I L 12) := by unfold vx_j1; rw [← eD, ← eY]; exact j1
          have g2 : ¬ vx_j2 (vc_F w) (vc_A I L 12) := by unfold vx_j2; rw [← eD, ← eY]; exact j2
          have g3 : ¬ vx_j3 (vc_F w) (vc_A I L 12) := by unfold vx_j3; rw [← eD, ← eY]; omega
          have g4 : ¬ vx_j4 (vc_F w) (vc_A I L 12) := by unfold vx_j4; rw [← eD, ← eY]; omega
          have e := vx_jp5 g1 g2 g3 g4
          exact ⟨_, _, by rw [e]; rfl, fun z => by rw [e] at z; exact absurd (show (2 : Nat) = 0 from z) (by decide), o89, vc_fr_refl _ _, fun _ => ⟨rfl, rfl⟩⟩
        · refine jv_Wp.lift (fun _ Kz => jv_Ev.steps jv_i41 1 (pc' := 155) (l' := [(8, .int (1 : Int32)), (0, .ref 10), (4, .int (vl_I (vc_F w).n)), (5, .int (vr_b wd)), (6, .ref d), (7, .ref y)]) (st' := [.ref y]) rfl Kz) ?_
          refine jv_Wp.lift (fun _ Kz => jv_Ev.m jv_i41 (pc' := 158) (st' := [.int (I y 6)]) (G' := (jv_H K I L R)) rfl rfl (jv_m_getI hy rfl rfl rfl) Kz) ?_
          refine jv_Wp.lift (fun _ Kz => jv_Ev.steps jv_i41 1 (pc' := 159) (l' := [(8, .int (1 : Int32)), (0, .ref 10), (4, .int (vl_I (vc_F w).n)), (5, .int (vr_b wd)), (6, .ref d), (7, .ref y)]) (st' := [.int (1 : Int32), .int (I y 6)]) rfl Kz) ?_
          refine jv_Wp.cnd jv_i41 (pt := 220) (pe := 162) (p := (¬ (I y 6) = (1 : Int32))) (q := (¬ (I y 6) = (1 : Int32))) rfl jv_bc_ne rfl rfl Iff.rfl (fun h34 => ?_) (fun h34 => ?_)
          · refine jv_Wp.lift (fun _ Kz => jv_Ev.steps jv_i41 2 (pc' := 223) (l' := [(8, .int (1 : Int32)), (0, .ref 10), (4, .int (vl_I (vc_F w).n)), (5, .int (vr_b wd)), (6, .ref d), (7, .ref y)]) (st' := [.int (2 : Int32), .int (vl_I (vc_F w).n)]) rfl Kz) ?_
            refine jv_Wp.cnd jv_i41 (pt := 246) (pe := 226) (p := ((vl_I (vc_F w).n) = (2 : Int32))) (q := ((vl_I (vc_F w).n) = (2 : Int32))) rfl jv_bc_eq rfl rfl Iff.rfl (fun hz => absurd hz (fun z => absurd (z.symm.trans (Classical.not_not.mp h6)) (by decide))) (fun _ => ?_)
            refine jv_Wp.lift (fun _ Kz => jv_Ev.steps jv_i41 2 (pc' := 229) (l' := [(8, .int (1 : Int32)), (0, .ref 10), (4, .int (vl_I (vc_F w).n)), (5, .int (vr_b wd)), (6, .ref d), (7, .ref y)]) (st' := [.int (3 : Int32), .int (vl_I (vc_F w).n)]) rfl Kz) ?_
            refine jv_Wp.cnd jv_i41 (pt := 246) (pe := 232) (p := ((vl_I (vc_F w).n) = (3 : Int32))) (q := ((vl_I (vc_F w).n) = (3 : Int32))) rfl jv_bc_eq rfl rfl Iff.rfl (fun hz => absurd hz (fun z => absurd (z.symm.trans (Classical.not_not.mp h6)) (by decide))) (fun _ => ?_)
            refine jv_Wp.lift (fun _ Kz => jv_Ev.steps jv_i41 2 (pc' := 236) (l' := [(8, .int (1 : Int32)), (0, .ref 10), (4, .int (vl_I (vc_F w).n)), (5, .int (vr_b wd)), (6, .ref d), (7, .ref y)]) (st' := [.int (10 : Int32), .int (vl_I (vc_F w).n)]) rfl Kz) ?_
            refine jv_Wp.cnd jv_i41 (pt := 246) (pe := 239) (p := ((vl_I (vc_F w).n) = (10 : Int32))) (q := ((vl_I (vc_F w).n) = (10 : Int32))) rfl jv_bc_eq rfl rfl Iff.rfl (fun hz => absurd hz (fun z => absurd (z.symm.trans (Classical.not_not.mp h6)) (by decide))) (fun _ => ?_)
            refine jv_Wp.lift (fun _ Kz => jv_Ev.steps jv_i41 2 (pc' := 243) (l' := [(8, .int (1 : Int32)), (0, .ref 10), (4, .int (vl_I (vc_F w).n)), (5, .int (vr_b wd)), (6, .ref d), (7, .ref y)]) (st' := [.int (11 : Int32), .int (vl_I (vc_F w).n)]) rfl Kz) ?_
            refine jv_Wp.cnd jv_i41 (pt := 250) (pe := 246) (p := (¬ (vl_I (vc_F w).n) = (11 : Int32))) (q := (¬ (vl_I (vc_F w).n) = (11 : Int32))) rfl jv_bc_ne rfl rfl Iff.rfl (fun _ => ?_) (fun hz => absurd (fun z => absurd (z.symm.trans (Classical.not_not.mp h6)) (by decide)) hz)
            refine jv_Wp.lift (fun _ Kz => jv_Ev.steps jv_i41 3 (pc' := 255) (l' := [(9, .int (0 : Int32)), (8, .int (1 : Int32)), (0, .ref 10), (4, .int (vl_I (vc_F w).n)), (5, .int (vr_b wd)), (6, .ref d), (7, .ref y)]) (st' := [.int (vr_b wd)]) rfl Kz) ?_
            refine jv_Wp.cnd jv_i41 (pt := 311) (pe := 258) (p := ((vr_b wd) = 0)) (q := ((vr_b wd) = 0)) rfl jv_bi_eq rfl rfl Iff.rfl (fun hz => absurd hz h32) (fun _ => ?_)
            refine jv_Wp.lift (fun _ Kz => jv_Ev.steps jv_i41 1 (pc' := 260) (l' := [(9, .int (0 : Int32)), (8, .int (1 : Int32)), (0, .ref 10), (4, .int (vl_I (vc_F w).n)), (5, .int (vr_b wd)), (6, .ref d), (7, .ref y)]) (st' := [.int (0 : Int32)]) rfl Kz) ?_
            refine jv_Wp.lift (fun _ Kz => jv_Ev.br jv_i41 (pc' := 311) (st' := []) rfl (by rfl) Kz) ?_
            refine jv_Wp.lift (fun _ Kz => jv_Ev.steps jv_i41 1 (pc' := 312) (l' := [(9, .int (0 : Int32)), (8, .int (1 : Int32)), (0, .ref 10), (4, .int (vl_I (vc_F w).n)), (5, .int (vr_b wd)), (6, .ref d), (7, .ref y)]) (st' := [.int (2 : Int32)]) rfl Kz) ?_
            refine jv_Wp.of (jv_Ev.ret jv_i41 rfl rfl) ?_
            rw [hQ]
            have f1 : ¬ (vc_F w).n = 1 := fun z => h1 (by rw [z]; rfl)
            have f2 : (vc_F w).n = 5 := (vl_I_inj (by omega) (by decide)).mp (Classical.not_not.mp h6)
            have f3 : (vc_F w).kind = 5 := of_decide_eq_true (hwd.symm.trans (by cases wd <;> first | rfl | exact absurd rfl h32))
            have f4 : (vc_T I L d).sort = 8 := (vc_is8 od).mpr (Classical.not_not.mp h33)
            have f5 : ¬ (vc_T I L y).sort = 1 := fun z => h34 ((vc_is1 oy).mp z)
            have g1 : ¬ vx_j1 (vc_F w) (vc_A I L 12) := by unfold vx_j1; rw [← eD, ← eY]; exact j1
            have g2 : ¬ vx_j2 (vc_F w) (vc_A I L 12) := by unfold vx_j2; rw [← eD, ← eY]; exact j2
            have g3 : ¬ vx_j3 (vc_F w) (vc_A I L 12) := by unfold vx_j3; rw [← eD, ← eY]; omega
            have g4 : ¬ vx_j4 (vc_F w) (vc_A I L 12) := by unfold vx_j4; rw [← eD, ← eY]; omega
            have e := vx_jp5 g1 g2 g3 g4
            exact ⟨_, _, by rw [e]; rfl, fun z => by rw [e] at z; exact absurd (show (2 : Nat) = 0 from z) (by decide), o89, vc_fr_refl _ _, fun _ => ⟨rfl, rfl⟩⟩
          · refine jv_Wp.lift (fun _ Kz => jv_Ev.steps jv_i41 2 (pc' := 165) (l' := [(8, .int (1 : Int32)), (0, .ref 10), (4, .int (vl_I (vc_F w).n)), (5, .int (vr_b wd)), (6, .ref d), (7, .ref y)]) (st' := [.long (0 : Int64), .ref y]) rfl Kz) ?_
            refine jv_Wp.lift (fun _ Kz => jv_Ev.c jv_i41 (pc' := 168) (S' := [.int (vr_b (decide ((vl_S L y).low = 0 ∧ (vl_S L y).high = 0)))]) jv_i154 [.ref y, .long (0 : Int64)] rfl rfl rfl rfl (jv_cal rfl (jv_H_at hy) rfl rfl) rfl (vl_isJust0 (Or.inr hy)) rfl rfl Kz) ?_
            refine jv_Wp.cnd jv_i41 (pt := 220) (pe := 171) (p := ((vr_b (decide ((vl_S L y).low = 0 ∧ (vl_S L y).high = 0))) = 0)) (q := ((vr_b (decide ((vl_S L y).low = 0 ∧ (vl_S L y).high = 0))) = 0)) rfl jv_bi_eq rfl rfl Iff.rfl (fun h35 => ?_) (fun h35 => ?_)
            · refine jv_Wp.lift (fun _ Kz => jv_Ev.steps jv_i41 2 (pc' := 223) (l' := [(8, .int (1 : Int32)), (0, .ref 10), (4, .int (vl_I (vc_F w).n)), (5, .int (vr_b wd)), (6, .ref d), (7, .ref y)]) (st' := [.int (2 : Int32), .int (vl_I (vc_F w).n)]) rfl Kz) ?_
              refine jv_Wp.cnd jv_i41 (pt := 246) (pe := 226) (p := ((vl_I (vc_F w).n) = (2 : Int32))) (q := ((vl_I (vc_F w).n) = (2 : Int32))) rfl jv_bc_eq rfl rfl Iff.rfl (fun hz => absurd hz (fun z => absurd (z.symm.trans (Classical.not_not.mp h6)) (by decide))) (fun _ => ?_)
              refine jv_Wp.lift (fun _ Kz => jv_Ev.steps jv_i41 2 (pc' := 229) (l' := [(8, .int (1 : Int32)), (0, .ref 10), (4, .int (vl_I (vc_F w).n)), (5, .int (vr_b wd)), (6, .ref d), (7, .ref y)]) (st' := [.int (3 : Int32), .int (vl_I (vc_F w).n)]) rfl Kz) ?_
              refine jv_Wp.cnd jv_i41 (pt := 246) (pe := 232) (p := ((vl_I (vc_F w).n) = (3 : Int32))) (q := ((vl_I (vc_F w).n) = (3 : Int32))) rfl jv_bc_eq rfl rfl Iff.rfl (fun hz => absurd hz (fun z => absurd (z.symm.trans (Classical.not_not.mp h6)) (by decide))) (fun _ => ?_)
              refine jv_Wp.lift (fun _ Kz => jv_Ev.steps jv_i41 2 (pc' := 236) (l' := [(8, .int (1 : Int32)), (0, .ref 10), (4, .int (vl_I (vc_F w).n)), (5, .int (vr_b wd)), (6, .ref d), (7, .ref y)]) (st' := [.int (10 : Int32), .int (vl_I (vc_F w).n)]) rfl Kz) ?_
              refine jv_Wp.cnd jv_i41 (pt := 246) (pe := 239) (p := ((vl_I (vc_F w).n) = (10 : Int32))) (q := ((vl_I (vc_F w).n) = (10 : Int32))) rfl jv_bc_eq rfl rfl Iff.rfl (fun hz => absurd hz (fun z => absurd (z.symm.trans (Classical.not_not.mp h6)) (by decide))) (fun _ => ?_)
              refine jv_Wp.lift (fun _ Kz => jv_Ev.steps jv_i41 2 (pc' := 243) (l' := [(8, .int (1 : Int32)), (0, .ref 10), (4, .int (vl_I (vc_F w).n)), (5, .int (vr_b wd)), (6, .ref d), (7, .ref y)]) (st' := [.int (11 : Int32), .int (vl_I (vc_F w).n)]) rfl Kz) ?_
              refine jv_Wp.cnd jv_i41 (pt := 250) (pe := 246) (p := (¬ (vl_I (vc_F w).n) = (11 : Int32))) (q := (¬ (vl_I (vc_F w).n) = (11 : Int32))) rfl jv_bc_ne rfl rfl Iff.rfl (fun _ => ?_) (fun hz => absurd (fun z => absurd (z.symm.trans (Classical.not_not.mp h6)) (by decide)) hz)
              refine jv_Wp.lift (fun _ Kz => jv_Ev.steps jv_i41 3 (pc' := 255) (l' := [(9, .int (0 : Int32)), (8, .int (1 : Int32)), (0, .ref 10), (4, .int (vl_I (vc_F w).n)), (5, .int (vr_b wd)), (6, .ref d), (7, .ref y)]) (st' := [.int (vr_b wd)]) rfl Kz) ?_
              refine jv_Wp.cnd jv_i41 (pt := 311) (pe := 258) (p := ((vr_b wd) = 0)) (q := ((vr_b wd) = 0)) rfl jv_bi_eq rfl rfl Iff.rfl (fun hz => absurd hz h32) (fun _ => ?_)
              refine jv_Wp.lift (fun _ Kz => jv_Ev.steps jv_i41 1 (pc' := 260) (l' := [(9, .int (0 : Int32)), (8, .int (1 : Int32)), (0, .ref 10), (4, .int (vl_I (vc_F w).n)), (5, .int (vr_b wd)), (6, .ref d), (7, .ref y)]) (st' := [.int (0 : Int32)]) rfl Kz) ?_
              refine jv_Wp.lift (fun _ Kz => jv_Ev.br jv_i41 (pc' := 311) (st' := []) rfl (by rfl) Kz) ?_
              refine jv_Wp.lift (fun _ Kz => jv_Ev.steps jv_i41 1 (pc' := 312) (l' := [(9, .int (0 : Int32)), (8, .int (1 : Int32)), (0, .ref 10), (4, .int (vl_I (vc_F w).n)), (5, .int (vr_b wd)), (6, .ref d), (7, .ref y)]) (st' := [.int (2 : Int32)]) rfl Kz) ?_
              refine jv_Wp.of (jv_Ev.ret jv_i41 rfl rfl) ?_
              rw [hQ]
              have f1 : ¬ (vc_F w).n = 1 := fun z => h1 (by rw [z]; rfl)
              have f2 : (vc_F w).n = 5 := (vl_I_inj (by omega) (by decide)).mp (Classical.not_not.mp h6)
              have f3 : (vc_F w).kind = 5 := of_decide_eq_true (hwd.symm.trans (by cases wd <;> first | rfl | exact absurd rfl h32))
              have f4 : (vc_T I L d).sort = 8 := (vc_is8 od).mpr (Classical.not_not.mp h33)
              have f5 : (vc_T I L y).sort = 1 := (vc_is1 oy).mpr (Classical.not_not.mp h34)
              have g1 : ¬ vx_j1 (vc_F w) (vc_A I L 12) := by unfold vx_j1; rw [← eD, ← eY]; exact j1
              have g2 : ¬ vx_j2 (vc_F w) (vc_A I L 12) := by unfold vx_j2; rw [← eD, ← eY]; exact j2
              have ji : ¬ ((vl_S L y).low = 0 ∧ (vl_S L y).high = 0) := of_decide_eq_false (vr_b_f h35)
              have vy : (vc_T I L y).val = vl_S L y := vc_valv (Or.inl ((vc_is1 oy).mp (by omega)))
              have g3 : ¬ vx_j3 (vc_F w) (vc_A I L 12) := by unfold vx_j3; rw [← eD, ← eY, vy]; exact fun z => ji z.2.2.2.2
              have g4 : ¬ vx_j4 (vc_F w) (vc_A I L 12) := by unfold vx_j4; rw [← eD, ← eY]; omega
              have e := vx_jp5 g1 g2 g3 g4
              exact ⟨_, _, by rw [e]; rfl, fun z => by rw [e] at z; exact absurd (show (2 : Nat) = 0 from z) (by decide), o89, vc_fr_refl _ _, fun _ => ⟨rfl, rfl⟩⟩
            · refine jv_Wp.lift (fun _ Kz => jv_Ev.steps jv_i41 1 (pc' := 173) (l' := [(8, .int (1 : Int32)), (0, .ref 10), (4, .int (vl_I (vc_F w).n)), (5, .int (vr_b wd)), (6, .ref d), (7, .ref y)]) (st' := [.ref d]) rfl Kz) ?_
              refine jv_Wp.lift (fun _ Kz => jv_Ev.m jv_i41 (pc' := 176) (st' := [.long (L d 8)]) (G' := (jv_H K I L R)) rfl rfl (jv_m_getL hd rfl rfl rfl) Kz) ?_
              refine jv_Wp.lift (fun _ Kz => jv_Ev.steps jv_i41 2 (pc' := 179) (l' := [(9, .long (L d 8)), (8, .int (1 : Int32)), (0, .ref 10), (4, .int (vl_I (vc_F w).n)), (5, .int (vr_b wd)), (6, .ref d), (7, .ref y)]) (st' := [.ref 10]) rfl Kz) ?_
              refine jv_Wp.lift (fun _ Kz => jv_Ev.m jv_i41 (pc' := 182) (st' := [.ref 89]) (G' := (jv_H K I L R)) rfl rfl (jv_m_getR hC.k rfl rfl hC.rjumped) Kz) ?_
              refine jv_Wp.lift (fun _ Kz => jv_Ev.steps jv_i41 3 (pc' := 187) (l' := [(9, .long (L d 8)), (8, .int (1 : Int32)), (0, .ref 10), (4, .int (vl_I (vc_F w).n)), (5, .int (vr_b wd)), (6, .ref d), (7, .ref y)]) (st' := [.int (5 : Int32), .int (vl_I (vc_F w).n), .long (L d 8), .ref 89]) rfl Kz) ?_
              refine jv_Wp.cnd jv_i41 (pt := 194) (pe := 190) (p := (¬ (vl_I (vc_F w).n) = (5 : Int32))) (q := (¬ (vl_I (vc_F w).n) = (5 : Int32))) rfl jv_bc_ne rfl rfl Iff.rfl (fun hz => absurd hz (fun z => z (Classical.not_not.mp h6))) (fun _ => ?_)
              refine jv_Wp.lift (fun _ Kz => jv_Ev.steps jv_i41 2 (pc' := 195) (l' := [(9, .long (L d 8)), (8, .int (1 : Int32)), (0, .ref 10), (4, .int (vl_I (vc_F w).n)), (5, .int (vr_b wd)), (6, .ref d), (7, .ref y)]) (st' := [.int (1 : Int32), .long (L d 8), .ref 89]) rfl Kz) ?_
              obtain ⟨I11, L11, H11, T11, O11, F11, G11⟩ := vc_settle (I := I) (L := L) (R := R) (n := n) (sl := sl) (L d 8) true hC.jumped o89
              refine jv_Wp.lift (fun _ Kz => jv_Ev.c jv_i41 (pc' := 198) (S' := []) (G1 := (jv_H K I11 L11 R)) jv_i117 [.ref 89, .long (L d 8), .int (1 : Int32)] rfl rfl rfl rfl (jv_cal rfl (jv_H_at hC.jumped.k) rfl rfl) rfl H11 rfl rfl Kz) ?_
              refine jv_Wp.lift (fun _ Kz => jv_Ev.steps jv_i41 1 (pc' := 199) (l' := [(9, .long (L d 8)), (8, .int (1 : Int32)), (0, .ref 10), (4, .int (vl_I (vc_F w).n)), (5, .int (vr_b wd)), (6, .ref d), (7, .ref y)]) (st' := [.ref 10]) rfl Kz) ?_
              refine jv_Wp.lift (fun _ Kz => jv_Ev.m jv_i41 (pc' := 202) (st' := [.ref 12]) (G' := (jv_H K I11 L11 R)) rfl rfl (jv_m_getR hC.k rfl rfl hC.rnow) Kz) ?_
              refine jv_Wp.lift (fun _ Kz => jv_Ev.steps jv_i41 3 (pc' := 207) (l' := [(9, .long (L d 8)), (8, .int (1 : Int32)), (0, .ref 10), (4, .int (vl_I (vc_F w).n)), (5, .int (vr_b wd)), (6, .ref d), (7, .ref y)]) (st' := [.int (1 : Int32), .int (vl_I (vc_F w).n), .long (L d 8), .ref 12]) rfl Kz) ?_
              refine jv_Wp.cnd jv_i41 (pt := 214) (pe := 210) (p := (¬ (vl_I (vc_F w).n) = (1 : Int32))) (q := (¬ (vl_I (vc_F w).n) = (1 : Int32))) rfl jv_bc_ne rfl rfl Iff.rfl (fun _ => ?_) (fun hz => absurd h1 hz)
              refine jv_Wp.lift (fun _ Kz => jv_Ev.steps jv_i41 1 (pc' := 215) (l' := [(9, .long (L d 8)), (8, .int (1 : Int32)), (0, .ref 10), (4, .int (vl_I (vc_F w).n)), (5, .int (vr_b wd)), (6, .ref d), (7, .ref y)]) (st' := [.int (0 : Int32), .long (L d 8), .ref 12]) rfl Kz) ?_
              obtain ⟨I12, L12, H12, T12, O12, F12, G12⟩ := vc_settle (I := I11) (L := L11) (R := R) (n := n) (sl := sl) (L d 8) false hC.now (vc_fr_okA F11 (fun p z => vc_apart z) o12)
              refine jv_Wp.lift (fun _ Kz => jv_Ev.c jv_i41 (pc' := 218) (S' := []) (G1 := (jv_H K I12 L12 R)) jv_i117 [.ref 12, .long (L d 8), .int (0 : Int32)] rfl rfl rfl rfl (jv_cal rfl (jv_H_at hC.now.k) rfl rfl) rfl H12 rfl rfl Kz) ?_
              refine jv_Wp.lift (fun _ Kz => jv_Ev.steps jv_i41 1 (pc' := 219) (l' := [(9, .long (L d 8)), (8, .int (1 : Int32)), (0, .ref 10), (4, .int (vl_I (vc_F w).n)), (5, .int (vr_b wd)), (6, .ref d), (7, .ref y)]) (st' := [.int (0 : Int32)]) rfl Kz) ?_
              refine jv_Wp.of (jv_Ev.ret jv_i41 rfl rfl) ?_
              rw [hQ]
              have f1 : ¬ (vc_F w).n = 1 := fun z => h1 (by rw [z]; rfl)
              have f2 : (vc_F w).n = 5 := (vl_I_inj (by omega) (by decide)).mp (Classical.not_not.mp h6)
              have f3 : (vc_F w).kind = 5 := of_decide_eq_true (hwd.symm.trans (by cases wd <;> first | rfl | exact absurd rfl h32))
              have f4 : (vc_T I L d).sort = 8 := (vc_is8 od).mpr (Classical.not_not.mp h33)
              have f5 : (vc_T I L y).sort = 1 := (vc_is1 oy).mpr (Classical.not_not.mp h34)
              have g1 : ¬ vx_j1 (vc_F w) (vc_A I L 12) := by unfold vx_j1; rw [← eD, ← eY]; exact j1
              have g2 : ¬ vx_j2 (vc_F w) (vc_A I L 12) := by unfold vx_j2; rw [← eD, ← eY]; exact j2
              have ji : ((vl_S L y).low = 0 ∧ (vl_S L y).high = 0) := of_decide_eq_true (vr_b_t h35)
              have vy : (vc_T I L y).val = vl_S L y := vc_valv (Or.inl ((vc_is1 oy).mp (by omega)))
              have g3 : vx_j3 (vc_F w) (vc_A I L 12) := by unfold vx_j3; rw [← eD, ← eY, vy]; exact ⟨by omega, by omega, by omega, by omega, ji.1, ji.2⟩
              have e := vx_jp3 g1 g2 g3
              have eo : ((vc_A I L 12).1 (vc_F w).d).org = (L d 8).toInt := by rw [← eD]; exact vc_org8 ((vc_is8 od).mp (by omega))
              rw [eo, decide_eq_false (show ¬ (vc_F w).n = 1 by omega), decide_eq_true (show (vc_F w).n = 5 by omega)] at e
              rw [e]
              exact ⟨_, _, rfl, fun _ => vc_jp_some (((F12 10 (by unfold vc_in; omega)).1 9).trans ((F11 10 (by unfold vc_in; omega)).1 9)) (((F12 10 (by unfold vc_in; omega)).1 10).trans ((F11 10 (by unfold vc_in; omega)).1 10)) (T12.trans (congrArg (fun Z => vx_settle Z _ _) (vc_fr_A F11 (fun p z => vc_apart z)))) ((vc_fr_A F12 (fun p z => vc_apart' z)).trans (T11.trans (congrArg (fun Z => vx_settle Z _ _) e89))) O12 (vc_fr_okA F12 (fun p z => vc_apart' z) O11), (vc_fr_okA F12 (fun p z => vc_apart' z) O11), vc_fr_trans (vc_fr_mono F11 (fun p z => Or.inr z)) (vc_fr_mono F12 (fun p z => Or.inl z)), fun f => ⟨(G12 f).trans ((F11 12 (vc_apart ⟨by decide, by decide⟩)).1 f), ((F12 89 (vc_apart' ⟨by decide, by decide⟩)).1 f).trans (G11 f)⟩⟩
theorem vc_jumpR {K : Nat → Option (Nat × Nat)} {I : Nat → Nat → Int32} {L : Nat → Nat → Int64} {R : Nat → Nat → Value} (w : Int64) (p : Nat) (hC : vc_C K R) (hct : K (1000000 + 0) = some (110, 16)) (hcv : ∀ j, j < 16 → I (1000000 + 0) j = vl_I (vx_cmp j)) (hst : K (1000000 + 1) = some (110, 12)) (hov : ∀ j, j < 12 → I (1000000 + 1) j = vl_I (vb_opp j)) (hb : (vc_F w).bit3 = true) (oa : vc_okA I L 12) (oj : vc_okA I L 89) (pA : ∀ q, q < 75 → I (12 + 2 + q) 6 = 4 → (vl_S L (12 + 2 + q)).low = (vl_S L (12 + 2 + q)).high → (L (12 + 2 + q) 2).toInt ≤ 1073000000) {n sl : Nat} : ∃ I1 L1, jv_Ms 41 [.ref 10, .int (vl_I p), .long w] (jv_H K I L R) n sl (some (.int (vl_I (vx_jump (vc_F w) (vc_A I L 12)).1)), jv_H K I1 L1 R, n, sl) ∧ ((vx_jump (vc_F w) (vc_A I L 12)).1 = 0 → vc_jp (vx_jump (vc_F w) (vc_A I L 12)) (I 10 9) (((vl_I p) + (1 : Int32)) + (jv_wfoffset w)) I1 L1) ∧ vc_okA I1 L1 89 ∧ vc_fr (fun p => vc_in 12 p ∨ vc_in 89 p ∨ p = 166 ∨ p = 10) I L I1 L1 ∧ ∀ f, I1 12 f = I 12 f ∧ I1 89 f = I 89 f ∧ (f ≠ 9 → f ≠ 10 → I1 10 f = I 10 f) := by
  obtain ⟨Q, hQ⟩ : ∃ Q : jv_R → Prop, Q = fun X => ∃ I1 L1, X = (some (.int (vl_I (vx_jump (vc_F w) (vc_A I L 12)).1)), jv_H K I1 L1 R, n, sl) ∧ ((vx_jump (vc_F w) (vc_A I L 12)).1 = 0 → vc_jp (vx_jump (vc_F w) (vc_A I L 12)) (I 10 9) (((vl_I p) + (1 : Int32)) + (jv_wfoffset w)) I1 L1) ∧ vc_okA I1 L1 89 ∧ vc_fr (fun p => vc_in 12 p ∨ vc_in 89 p ∨ p = 166 ∨ p = 10) I L I1 L1 ∧ ∀ f, I1 12 f = I 12 f ∧ I1 89 f = I 89 f ∧ (f ≠ 9 → f ≠ 10 → I1 10 f = I 10 f) := ⟨_, rfl⟩
  suffices h : jv_Wp 41 0 [(0, .ref 10), (1, .int (vl_I p)), (2, .long w)] [] (jv_H K I L R) n sl Q by
    rw [hQ] at h
    obtain ⟨X, h, I1, L1, e, h'⟩ := h
    subst e
    exact ⟨I1, L1, h, h'⟩
  have hd75 := vw_d75 w
  have hs75 := vw_s75 w
  have hn16 := vw_n16 w
  refine jv_Wp.lift (fun _ Kz => jv_Ev.steps jv_i41 1 (pc' := 1) (l' := [(0, .ref 10), (1, .int (vl_I p)), (2, .long w)]) (st' := [.long w]) rfl Kz) ?_
  refine jv_Wp.lift (fun _ Kz => jv_Ev.c jv_i41 (pc' := 4) (S' := [.int (vl_I (vc_F w).n)]) jv_i82 [.long w] rfl rfl rfl rfl rfl rfl (vw_m82 w) rfl rfl Kz) ?_
  refine jv_Wp.lift (fun _ Kz => jv_Ev.steps jv_i41 2 (pc' := 7) (l' := [(4, .int (vl_I (vc_F w).n)), (0, .ref 10), (1, .int (vl_I p)), (2, .long w)]) (st' := [.long w]) rfl Kz) ?_
  refine jv_Wp.lift (fun _ Kz => jv_Ev.c jv_i41 (pc' := 10) (S' := [.int (vl_I (vc_F w).kind)]) jv_i81 [.long w] rfl rfl rfl rfl rfl rfl (vw_m81 w) rfl rfl Kz) ?_
  refine jv_Wp.lift (fun _ Kz => jv_Ev.steps jv_i41 1 (pc' := 11) (l' := [(4, .int (vl_I (vc_F w).n)), (0, .ref 10), (1, .int (vl_I p)), (2, .long w)]) (st' := [.int (5 : Int32), .int (vl_I (vc_F w).kind)]) rfl Kz) ?_
  refine jv_Wp.cnd jv_i41 (pt := 18) (pe := 14) (p := (¬ (vl_I (vc_F w).kind) = (5 : Int32))) (q := (¬ (vl_I (vc_F w).kind) = (5 : Int32))) rfl jv_bc_ne rfl rfl Iff.rfl (fun h1 => ?_) (fun h1 => ?_)
  · refine jv_Wp.lift (fun _ Kz => jv_Ev.steps jv_i41 3 (pc' := 22) (l' := [(5, .int (0 : Int32)), (4, .int (vl_I (vc_F w).n)), (0, .ref 10), (1, .int (vl_I p)), (2, .long w)]) (st' := [.ref 10]) rfl Kz) ?_
    refine jv_Wp.lift (fun _ Kz => jv_Ev.m jv_i41 (pc' := 25) (st' := [.ref 12]) (G' := (jv_H K I L R)) rfl rfl (jv_m_getR hC.k rfl rfl hC.rnow) Kz) ?_
    refine jv_Wp.lift (fun _ Kz => jv_Ev.m jv_i41 (pc' := 28) (st' := [.ref (12 + 1)]) (G' := (jv_H K I L R)) rfl rfl (jv_m_getR hC.now.k rfl rfl hC.now.r) Kz) ?_
    refine jv_Wp.lift (fun _ Kz => jv_Ev.steps jv_i41 1 (pc' := 29) (l' := [(5, .int (0 : Int32)), (4, .int (vl_I (vc_F w).n)), (0, .ref 10), (1, .int (vl_I p)), (2, .long w)]) (st' := [.long w, .ref (12 + 1)]) rfl Kz) ?_
    refine jv_Wp.lift (fun _ Kz => jv_Ev.c jv_i41 (pc' := 32) (S' := [.int (vl_I (vc_F w).d), .ref (12 + 1)]) jv_i86 [.long w] rfl rfl rfl rfl rfl rfl (vw_m86 w) rfl rfl Kz) ?_
    refine jv_Wp.lift (fun _ Kz => jv_Ev.m jv_i41 (pc' := 33) (st' := [.ref (12 + 2 + (vc_F w).d)]) (G' := (jv_H K I L R)) rfl rfl (jv_m_aaldR hC.now.kt rfl (vl_I_ix (vw_d75 w) (by decide)) rfl (vc_St_rt hC.now (vw_d75 w))) Kz) ?_
    refine jv_Wp.lift (fun _ Kz => jv_Ev.steps jv_i41 3 (pc' := 37) (l' := [(6, .ref (12 + 2 + (vc_F w).d)), (5, .int (0 : Int32)), (4, .int (vl_I (vc_F w).n)), (0, .ref 10), (1, .int (vl_I p)), (2, .long w)]) (st' := [.long w, .ref 10]) rfl Kz) ?_
    obtain ⟨I13, L13, H13, ei, el⟩ := vc_opR (I := I) (L := L) (R := R) (n := n) (sl := sl) w hC hb
    rw [ei, el] at H13
    refine jv_Wp.lift (fun _ Kz => jv_Ev.c jv_i41 (pc' := 40) (S' := [.ref (12 + 2 + (vc_F w).s)]) jv_i27 [.ref 10, .long w] rfl rfl rfl rfl (jv_cal rfl (jv_H_at hC.k) rfl rfl) rfl H13 rfl rfl Kz) ?_
    refine jv_Wp.lift (fun _ Kz => jv_Ev.steps jv_i41 2 (pc' := 44) (l' := [(7, .ref (12 + 2 + (vc_F w).s)), (6, .ref (12 + 2 + (vc_F w).d)), (5, .int (0 : Int32)), (4, .int (vl_I (vc_F w).n)), (0, .ref 10), (1, .int (vl_I p)), (2, .long w)]) (st' := [.ref (12 + 2 + (vc_F w).d)]) rfl Kz) ?_
    refine jv_Wp.lift (fun _ Kz => jv_Ev.m jv_i41 (pc' := 47) (st' := [.int (I (12 + 2 + (vc_F w).d) 6)]) (G' := (jv_H K I L R)) rfl rfl (jv_m_getI (hC.now.kk _ (vw_d75 w)) rfl rfl rfl) Kz) ?_
    refine jv_Wp.cnd jv_i41 (pt := 58) (pe := 50) (p := ((I (12 + 2 + (vc_F w).d) 6) = 0)) (q := ((I (12 + 2 + (vc_F w).d) 6) = 0)) rfl jv_bi_eq rfl rfl Iff.rfl (fun h2 => ?_) (fun h2 => ?_)
    · refine jv_Wp.lift (fun _ Kz => jv_Ev.steps jv_i41 1 (pc' := 59) (l' := [(7, .ref (12 + 2 + (vc_F w).s)), (6, .ref (12 + 2 + (vc_F w).d)), (5, .int (0 : Int32)), (4, .int (vl_I (vc_F w).n)), (0, .ref 10), (1, .int (vl_I p)), (2, .long w)]) (st' := [.int (1 : Int32)]) rfl Kz) ?_
      refine jv_Wp.loc (l := [(0, .ref 10), (4, .int (vl_I (vc_F w).n)), (5, .int (0 : Int32)), (6, .ref (12 + 2 + (vc_F w).d)), (7, .ref (12 + 2 + (vc_F w).s))]) ⟨List.forall_mem_cons.mpr ⟨.tail _ (.tail _ (.tail _ (.tail _ (.head _)))), List.forall_mem_cons.mpr ⟨.tail _ (.tail _ (.tail _ (.head _))), List.forall_mem_cons.mpr ⟨.tail _ (.tail _ (.head _)), List.forall_mem_cons.mpr ⟨.tail _ (.head _), List.forall_mem_cons.mpr ⟨.head _, fun _ h => absurd h List.not_mem_nil⟩⟩⟩⟩⟩, by show List.Nodup [7, 6, 5, 4, 0, 1, 2]; decide⟩ ?_
      refine jv_Wp.of (jv_Ev.ret jv_i41 rfl rfl) ?_
      rw [hQ]
      have d0 : (vc_T I L (12 + 2 + (vc_F w).d)).sort = 0 := (vc_is0 (oa _ hd75)).mpr h2
      have g : vx_j1 (vc_F w) (vc_A I L 12) := by unfold vx_j1 vx_y; rw [if_pos hb, vc_A1 hd75, vc_A1 hs75]; omega
      have e := vx_jp1 g
      exact ⟨_, _, by rw [e]; rfl, fun z => by rw [e] at z; exact absurd (show (1 : Nat) = 0 from z) (by decide), oj, vc_fr_refl _ _, fun _ => ⟨rfl, rfl, fun _ _ => rfl⟩⟩
    · refine jv_Wp.lift (fun _ Kz => jv_Ev.steps jv_i41 1 (pc' := 52) (l' := [(7, .ref (12 + 2 + (vc_F w).s)), (6, .ref (12 + 2 + (vc_F w).d)), (5, .int (0 : Int32)), (4, .int (vl_I (vc_F w).n)), (0, .ref 10), (1, .int (vl_I p)), (2, .long w)]) (st' := [.ref (12 + 2 + (vc_F w).s)]) rfl Kz) ?_
      refine jv_Wp.lift (fun _ Kz => jv_Ev.m jv_i41 (pc' := 55) (st' := [.int (I (12 + 2 + (vc_F w).s) 6)]) (G' := (jv_H K I L R)) rfl rfl (jv_m_getI (hC.now.kk _ (vw_s75 w)) rfl rfl rfl) Kz) ?_
      refine jv_Wp.cnd jv_i41 (pt := 60) (pe := 58) (p := (¬ (I (12 + 2 + (vc_F w).s) 6) = 0)) (q := (¬ (I (12 + 2 + (vc_F w).s) 6) = 0)) rfl jv_bi_ne rfl rfl Iff.rfl (fun h3 => ?_) (fun h3 => ?_)
      · refine jv_Wp.lift (fun _ Kz => jv_Ev.steps jv_i41 5 (pc' := 65) (l' := [(7, .ref (12 + 2 + (vc_F w).s)), (6, .ref (12 + 2 + (vc_F w).d)), (5, .int (0 : Int32)), (4, .int (vl_I (vc_F w).n)), (0, .ref 10), (1, .int (vl_I p)), (2, .long w)]) (st' := [.long w, .int ((vl_I p) + (1 : Int32)), .ref 10]) rfl Kz) ?_
        refine jv_Wp.lift (fun _ Kz => jv_Ev.c jv_i41 (pc' := 68) (S' := [.int (jv_wfoffset w), .int ((vl_I p) + (1 : Int32)), .ref 10]) jv_i88 [.long w] rfl rfl rfl rfl rfl rfl (jv_s88 w) rfl rfl Kz) ?_
        refine jv_Wp.lift (fun _ Kz => jv_Ev.steps jv_i41 1 (pc' := 69) (l' := [(7, .ref (12 + 2 + (vc_F w).s)), (6, .ref (12 + 2 + (vc_F w).d)), (5, .int (0 : Int32)), (4, .int (vl_I (vc_F w).n)), (0, .ref 10), (1, .int (vl_I p)), (2, .long w)]) (st' := [.int (((vl_I p) + (1 : Int32)) + (jv_wfoffset w)), .ref 10]) rfl Kz) ?_
        refine jv_Wp.lift (fun _ Kz => jv_Ev.m jv_i41 (pc' := 72) (st' := []) (G' := (jv_H K (jv_u I 10 10 (((vl_I p) + (1 : Int32)) + (jv_wfoffset w))) L R)) rfl rfl (jv_m_putI hC.k rfl rfl rfl rfl) Kz) ?_
        refine jv_Wp.lift (fun _ Kz => jv_Ev.steps jv_i41 1 (pc' := 73) (l' := [(7, .ref (12 + 2 + (vc_F w).s)), (6, .ref (12 + 2 + (vc_F w).d)), (5, .int (0 : Int32)), (4, .int (vl_I (vc_F w).n)), (0, .ref 10), (1, .int (vl_I p)), (2, .long w)]) (st' := [.ref 10]) rfl Kz) ?_
        refine jv_Wp.lift (fun _ Kz => jv_Ev.m jv_i41 (pc' := 76) (st' := [.ref 89]) (G' := (jv_H K (jv_u I 10 10 (((vl_I p) + (1 : Int32)) + (jv_wfoffset w))) L R)) rfl rfl (jv_m_getR hC.k rfl rfl hC.rjumped) Kz) ?_
        refine jv_Wp.lift (fun _ Kz => jv_Ev.steps jv_i41 1 (pc' := 77) (l' := [(7, .ref (12 + 2 + (vc_F w).s)), (6, .ref (12 + 2 + (vc_F w).d)), (5, .int (0 : Int32)), (4, .int (vl_I (vc_F w).n)), (0, .ref 10), (1, .int (vl_I p)), (2, .long w)]) (st' := [.ref 10, .ref 89]) rfl Kz) ?_
        refine jv_Wp.lift (fun _ Kz => jv_Ev.m jv_i41 (pc' := 80) (st' := [.ref 12, .ref 89]) (G' := (jv_H K (jv_u I 10 10 (((vl_I p) + (1 : Int32)) + (jv_wfoffset w))) L R)) rfl rfl (jv_m_getR hC.k rfl rfl hC.rnow) Kz) ?_
        obtain ⟨I14, L14, H14, T14, O14, F14, G14⟩ := vc_sbec (I := (jv_u I 10 10 (((vl_I p) + (1 : Int32)) + (jv_wfoffset w)))) (L := L) (R := R) (n := n) (sl := sl) hC.jumped hC.now (Or.inr (by omega)) (vc_fr_okA (vc_fr_u10 I L 10 _) (fun p z => by unfold vc_in at z; omega) oj) (vc_fr_okA (vc_fr_u10 I L 10 _) (fun p z => by unfold vc_in at z; omega) oa)
        refine jv_Wp.lift (fun _ Kz => jv_Ev.c jv_i41 (pc' := 83) (S' := []) (G1 := (jv_H K I14 L14 R)) jv_i112 [.ref 89, .ref 12] rfl rfl rfl rfl (jv_cal rfl (jv_H_at hC.jumped.k) rfl rfl) rfl H14 rfl rfl Kz) ?_
        refine jv_Wp.lift (fun _ Kz => jv_Ev.steps jv_i41 1 (pc' := 85) (l' := [(7, .ref (12 + 2 + (vc_F w).s)), (6, .ref (12 + 2 + (vc_F w).d)), (5, .int (0 : Int32)), (4, .int (vl_I (vc_F w).n)), (0, .ref 10), (1, .int (vl_I p)), (2, .long w)]) (st' := [.ref (12 + 2 + (vc_F w).d)]) rfl Kz) ?_
        refine jv_Wp.lift (fun _ Kz => jv_Ev.m jv_i41 (pc' := 88) (st' := [.int (I14 (12 + 2 + (vc_F w).d) 6)]) (G' := (jv_H K I14 L14 R)) rfl rfl (jv_m_getI (hC.now.kk _ (vw_d75 w)) rfl rfl rfl) Kz) ?_
        refine jv_Wp.lift (fun _ Kz => jv_Ev.steps jv_i41 1 (pc' := 89) (l' := [(7, .ref (12 + 2 + (vc_F w).s)), (6, .ref (12 + 2 + (vc_F w).d)), (5, .int (0 : Int32)), (4, .int (vl_I (vc_F w).n)), (0, .ref 10), (1, .int (vl_I p)), (2, .long w)]) (st' := [.int (1 : Int32), .int (I14 (12 + 2 + (vc_F w).d) 6)]) rfl Kz) ?_
        refine jv_Wp.cnd jv_i41 (pt := 114) (pe := 92) (p := (¬ (I14 (12 + 2 + (vc_F w).d) 6) = (1 : Int32))) (q := (¬ (I14 (12 + 2 + (vc_F w).d) 6) = (1 : Int32))) rfl jv_bc_ne rfl rfl Iff.rfl (fun h4 => ?_) (fun h4 => ?_)
        · refine jv_Wp.loc (l := [(0, .ref 10), (4, .int (vl_I (vc_F w).n)), (5, .int (0 : Int32)), (6, .ref (12 + 2 + (vc_F w).d)), (7, .ref (12 + 2 + (vc_F w).s))]) ⟨List.forall_mem_cons.mpr ⟨.tail _ (.tail _ (.tail _ (.tail _ (.head _)))), List.forall_mem_cons.mpr ⟨.tail _ (.tail _ (.tail _ (.head _))), List.forall_mem_cons.mpr ⟨.tail _ (.tail _ (.head _)), List.forall_mem_cons.mpr ⟨.tail _ (.head _), List.forall_mem_cons.mpr ⟨.head _, fun _ h => absurd h List.not_mem_nil⟩⟩⟩⟩⟩, by show List.Nodup [7, 6, 5, 4, 0, 1, 2]; decide⟩ ?_
          have FF : vc_fr (fun p => vc_in 89 p ∨ p = 166 ∨ p = 10) I L I14 L14 := vc_fr_trans (vc_fr_mono (vc_fr_u10 I L 10 _) (fun p z => Or.inr (Or.inr z))) (vc_fr_mono F14 (fun p z => Or.inl z))
          have t10 : I14 10 10 = ((vl_I p) + (1 : Int32)) + (jv_wfoffset w) := ((F14 10 (by unfold vc_in; omega)).1 10).trans (jv_u_self _ _ _ _)
          have t9 : I14 10 9 = I 10 9 := ((F14 10 (by unfold vc_in; omega)).1 9).trans ((jv_u_j _ _ _ _ (by decide)).trans rfl)
          have a12 : vc_A I14 L14 12 = vc_A I L 12 := vc_fr_A FF (fun p z => by unfold vc_in at *; omega)
          have o12 : vc_okA I14 L14 12 := vc_fr_okA FF (fun p z => by unfold vc_in at *; omega) oa
          have a89 : vc_A I14 L14 89 = vc_A I14 L14 12 := T14.trans ((vc_fr_A F14 (fun p z => by unfold vc_in at *; omega)).symm)
          have kD : vc_T I14 L14 (12 + 2 + (vc_F w).d) = (vc_A I14 L14 12).1 (vc_F w).d := (vc_A1 hd75).symm
          have kY : vc_T I14 L14 (12 + 2 + (vc_F w).s) = vx_y (vc_F w) (vc_A I14 L14 12) := by unfold vx_y; rw [if_pos hb]; exact (vc_A1 hs75).symm
          have okY : vc_ok I14 L14 (12 + 2 + (vc_F w).s) := o12 _ hs75
          have cD : vc_T I14 L14 (12 + 2 + (vc_F w).d) = vc_T I L (12 + 2 + (vc_F w).d) := (vc_fr_T F14 (by unfold vc_in; omega)).trans (vc_fr_T (vc_fr_u10 I L 10 _) (by omega))
          have cY : vc_T I14 L14 (12 + 2 + (vc_F w).s) = vc_T I L (12 + 2 + (vc_F w).s) := (vc_fr_T F14 (by unfold vc_in; omega)).trans (vc_fr_T (vc_fr_u10 I L 10 _) (by omega))
          have d0 : ¬ (vc_T I L (12 + 2 + (vc_F w).d)).sort = 0 := fun z => h2 ((vc_is0 (oa _ hd75)).mp z)
          have y0 : ¬ (vc_T I L (12 + 2 + (vc_F w).s)).sort = 0 := fun z => h3 ((vc_is0 (oa _ hs75)).mp z)
          have d1j : ¬ (vc_T I14 L14 (12 + 2 + (vc_F w).d)).sort = 1 := fun z => h4 ((vc_is1 (o12 _ hd75)).mp z)
          have hwd : false = decide ((vc_F w).kind = 5) := (decide_eq_false (fun z => h1 (by rw [z]; rfl))).symm
          have gP : ∀ q, q < 75 → I14 (12 + 2 + q) 6 = 4 → (vl_S L14 (12 + 2 + q)).low = (vl_S L14 (12 + 2 + q)).high → (L14 (12 + 2 + q) 2).toInt ≤ 1073000000 := fun q hq h4 hs => by
            have z := FF (12 + 2 + q) (fun z => by unfold vc_in at z; omega)
            rw [z.2 2]; rw [vl_S_ext (fun f => z.2 f)] at hs; rw [z.1 6] at h4; exact pA q hq h4 hs
          refine jv_Wp.mono (vc_jtail (I := I14) (L := L14) w false hC hwd (hC.now.kk _ hd75) (hC.now.kk _ hs75) (o12 _ hd75) okY o12 O14 a89 kD kY (by rw [cD, cY]; omega) (by omega) (gP _ hd75) (gP _ hs75) rfl) ?_
          rintro X ⟨I9, L9, eX, hT, hO, hF, hG⟩
          rw [a12, t9, t10] at hT
          rw [a12] at eX
          rw [hQ]
          exact ⟨I9, L9, eX, hT, hO, vc_fr_trans (vc_fr_mono FF (fun p z => Or.inr z)) (vc_fr_mono hF (fun p z => z.imp id Or.inl)), fun f => ⟨(hG f).1.trans ((FF 12 (fun z => by unfold vc_in at z; omega)).1 f), (hG f).2.trans ((G14 f).trans (((vc_fr_u10 I L 10 _ 89 (by decide)).1 f).trans rfl)), fun h9 h10 => ((hF 10 (fun z => by unfold vc_in at z; omega)).1 f).trans (((F14 10 (by unfold vc_in; omega)).1 f).trans ((jv_u_j _ _ _ _ h10).trans rfl))⟩⟩
        · refine jv_Wp.lift (fun _ Kz => jv_Ev.steps jv_i41 1 (pc' := 94) (l' := [(7, .ref (12 + 2 + (vc_F w).s)), (6, .ref (12 + 2 + (vc_F w).d)), (5, .int (0 : Int32)), (4, .int (vl_I (vc_F w).n)), (0, .ref 10), (1, .int (vl_I p)), (2, .long w)]) (st' := [.ref (12 + 2 + (vc_F w).s)]) rfl Kz) ?_
          refine jv_Wp.lift (fun _ Kz => jv_Ev.m jv_i41 (pc' := 97) (st' := [.int (I14 (12 + 2 + (vc_F w).s) 6)]) (G' := (jv_H K I14 L14 R)) rfl rfl (jv_m_getI (hC.now.kk _ (vw_s75 w)) rfl rfl rfl) Kz) ?_
          refine jv_Wp.lift (fun _ Kz => jv_Ev.steps jv_i41 1 (pc' := 98) (l' := [(7, .ref (12 + 2 + (vc_F w).s)), (6, .ref (12 + 2 + (vc_F w).d)), (5, .int (0 : Int32)), (4, .int (vl_I (vc_F w).n)), (0, .ref 10), (1, .int (vl_I p)), (2, .long w)]) (st' := [.int (1 : Int32), .int (I14 (12 + 2 + (vc_F w).s) 6)]) rfl Kz) ?_
          refine jv_Wp.cnd jv_i41 (pt := 114) (pe := 101) (p := (¬ (I14 (12 + 2 + (vc_F w).s) 6) = (1 : Int32))) (q := (¬ (I14 (12 + 2 + (vc_F w).s) 6) = (1 : Int32))) rfl jv_bc_ne rfl rfl Iff.rfl (fun h5 => ?_) (fun h5 => ?_)
          · refine jv_Wp.loc (l := [(0, .ref 10), (4, .int (vl_I (vc_F w).n)), (5, .int (0 : Int32)), (6, .ref (12 + 2 + (vc_F w).d)), (7, .ref (12 + 2 + (vc_F w).s))]) ⟨List.forall_mem_cons.mpr ⟨.tail _ (.tail _ (.tail _ (.tail _ (.head _)))), List.forall_mem_cons.mpr ⟨.tail _ (.tail _ (.tail _ (.head _))), List.forall_mem_cons.mpr ⟨.tail _ (.tail _ (.head _)), List.forall_mem_cons.mpr ⟨.tail _ (.head _), List.forall_mem_cons.mpr ⟨.head _, fun _ h => absurd h List.not_mem_nil⟩⟩⟩⟩⟩, by show List.Nodup [7, 6, 5, 4, 0, 1, 2]; decide⟩ ?_
            have FF : vc_fr (fun p => vc_in 89 p ∨ p = 166 ∨ p = 10) I L I14 L14 := vc_fr_trans (vc_fr_mono (vc_fr_u10 I L 10 _) (fun p z => Or.inr (Or.inr z))) (vc_fr_mono F14 (fun p z => Or.inl z))
            have t10 : I14 10 10 = ((vl_I p) + (1 : Int32)) + (jv_wfoffset w) := ((F14 10 (by unfold vc_in; omega)).1 10).trans (jv_u_self _ _ _ _)
            have t9 : I14 10 9 = I 10 9 := ((F14 10 (by unfold vc_in; omega)).1 9).trans ((jv_u_j _ _ _ _ (by decide)).trans rfl)
            have a12 : vc_A I14 L14 12 = vc_A I L 12 := vc_fr_A FF (fun p z => by unfold vc_in at *; omega)
            have o12 : vc_okA I14 L14 12 := vc_fr_okA FF (fun p z => by unfold vc_in at *; omega) oa
            have a89 : vc_A I14 L14 89 = vc_A I14 L14 12 := T14.trans ((vc_fr_A F14 (fun p z => by unfold vc_in at *; omega)).symm)
            have kD : vc_T I14 L14 (12 + 2 + (vc_F w).d) = (vc_A I14 L14 12).1 (vc_F w).d := (vc_A1 hd75).symm
            have kY : vc_T I14 L14 (12 + 2 + (vc_F w).s) = vx_y (vc_F w) (vc_A I14 L14 12) := by unfold vx_y; rw [if_pos hb]; exact (vc_A1 hs75).symm
            have okY : vc_ok I14 L14 (12 + 2 + (vc_F w).s) := o12 _ hs75
            have cD : vc_T I14 L14 (12 + 2 + (vc_F w).d) = vc_T I L (12 + 2 + (vc_F w).d) := (vc_fr_T F14 (by unfold vc_in; omega)).trans (vc_fr_T (vc_fr_u10 I L 10 _) (by omega))
            have cY : vc_T I14 L14 (12 + 2 + (vc_F w).s) = vc_T I L (12 + 2 + (vc_F w).s) := (vc_fr_T F14 (by unfold vc_in; omega)).trans (vc_fr_T (vc_fr_u10 I L 10 _) (by omega))
            have d0 : ¬ (vc_T I L (12 + 2 + (vc_F w).d)).sort = 0 := fun z => h2 ((vc_is0 (oa _ hd75)).mp z)
            have y0 : ¬ (vc_T I L (12 + 2 + (vc_F w).s)).sort = 0 := fun z => h3 ((vc_is0 (oa _ hs75)).mp z)
            have d1j : (vc_T I14 L14 (12 + 2 + (vc_F w).d)).sort = 1 := (vc_is1 (o12 _ hd75)).mpr (Classical.not_not.mp h4)
            have y1j : ¬ (vc_T I14 L14 (12 + 2 + (vc_F w).s)).sort = 1 := fun z => h5 ((vc_is1 okY).mp z)
            have hwd : false = decide ((vc_F w).kind = 5) := (decide_eq_false (fun z => h1 (by rw [z]; rfl))).symm
            have gP : ∀ q, q < 75 → I14 (12 + 2 + q) 6 = 4 → (vl_S L14 (12 + 2 + q)).low = (vl_S L14 (12 + 2 + q)).high → (L14 (12 + 2 + q) 2).toInt ≤ 1073000000 := fun q hq h4 hs => by
              have z := FF (12 + 2 + q) (fun z => by unfold vc_in at z; omega)
              rw [z.2 2]; rw [vl_S_ext (fun f => z.2 f)] at hs; rw [z.1 6] at h4; exact pA q hq h4 hs
            refine jv_Wp.mono (vc_jtail (I := I14) (L := L14) w false hC hwd (hC.now.kk _ hd75) (hC.now.kk _ hs75) (o12 _ hd75) okY o12 O14 a89 kD kY (by rw [cD, cY]; omega) (by omega) (gP _ hd75) (gP _ hs75) rfl) ?_
            rintro X ⟨I9, L9, eX, hT, hO, hF, hG⟩
            rw [a12, t9, t10] at hT
            rw [a12] at eX
            rw [hQ]
            exact ⟨I9, L9, eX, hT, hO, vc_fr_trans (vc_fr_mono FF (fun p z => Or.inr z)) (vc_fr_mono hF (fun p z => z.imp id Or.inl)), fun f => ⟨(hG f).1.trans ((FF 12 (fun z => by unfold vc_in at z; omega)).1 f), (hG f).2.trans ((G14 f).trans (((vc_fr_u10 I L 10 _ 89 (by decide)).1 f).trans rfl)), fun h9 h10 => ((hF 10 (fun z => by unfold vc_in at z; omega)).1 f).trans (((F14 10 (by unfold vc_in; omega)).1 f).trans ((jv_u_j _ _ _ _ h10).trans rfl))⟩⟩
          · refine jv_Wp.lift (fun _ Kz => jv_Ev.steps jv_i41 5 (pc' := 109) (l' := [(7, .ref (12 + 2 + (vc_F w).s)), (6, .ref (12 + 2 + (vc_F w).d)), (5, .int (0 : Int32)), (4, .int (vl_I (vc_F w).n)), (0, .ref 10), (1, .int (vl_I p)), (2, .long w)]) (st' := [.ref (12 + 2 + (vc_F w).s), .ref (12 + 2 + (vc_F w).d), .int (0 : Int32), .long w, .ref 10]) rfl Kz) ?_
            have FF : vc_fr (fun p => vc_in 89 p ∨ p = 166 ∨ p = 10) I L I14 L14 := vc_fr_trans (vc_fr_mono (vc_fr_u10 I L 10 _) (fun p z => Or.inr (Or.inr z))) (vc_fr_mono F14 (fun p z => Or.inl z))
            have t10 : I14 10 10 = ((vl_I p) + (1 : Int32)) + (jv_wfoffset w) := ((F14 10 (by unfold vc_in; omega)).1 10).trans (jv_u_self _ _ _ _)
            have t9 : I14 10 9 = I 10 9 := ((F14 10 (by unfold vc_in; omega)).1 9).trans ((jv_u_j _ _ _ _ (by decide)).trans rfl)
            have a12 : vc_A I14 L14 12 = vc_A I L 12 := vc_fr_A FF (fun p z => by unfold vc_in at *; omega)
            have o12 : vc_okA I14 L14 12 := vc_fr_okA FF (fun p z => by unfold vc_in at *; omega) oa
            have a89 : vc_A I14 L14 89 = vc_A I14 L14 12 := T14.trans ((vc_fr_A F14 (fun p z => by unfold vc_in at *; omega)).symm)
            have kD : vc_T I14 L14 (12 + 2 + (vc_F w).d) = (vc_A I14 L14 12).1 (vc_F w).d := (vc_A1 hd75).symm
            have kY : vc_T I14 L14 (12 + 2 + (vc_F w).s) = vx_y (vc_F w) (vc_A I14 L14 12) := by unfold vx_y; rw [if_pos hb]; exact (vc_A1 hs75).symm
            have okY : vc_ok I14 L14 (12 + 2 + (vc_F w).s) := o12 _ hs75
            have cD : vc_T I14 L14 (12 + 2 + (vc_F w).d) = vc_T I L (12 + 2 + (vc_F w).d) := (vc_fr_T F14 (by unfold vc_in; omega)).trans (vc_fr_T (vc_fr_u10 I L 10 _) (by omega))
            have cY : vc_T I14 L14 (12 + 2 + (vc_F w).s) = vc_T I L (12 + 2 + (vc_F w).s) := (vc_fr_T F14 (by unfold vc_in; omega)).trans (vc_fr_T (vc_fr_u10 I L 10 _) (by omega))
            have d0 : ¬ (vc_T I L (12 + 2 + (vc_F w).d)).sort = 0 := fun z => h2 ((vc_is0 (oa _ hd75)).mp z)
            have y0 : ¬ (vc_T I L (12 + 2 + (vc_F w).s)).sort = 0 := fun z => h3 ((vc_is0 (oa _ hs75)).mp z)
            have d1j : (vc_T I14 L14 (12 + 2 + (vc_F w).d)).sort = 1 := (vc_is1 (o12 _ hd75)).mpr (Classical.not_not.mp h4)
            have y1j : (vc_T I14 L14 (12 + 2 + (vc_F w).s)).sort = 1 := (vc_is1 okY).mpr (Classical.not_not.mp h5)
            obtain ⟨I15, L15, H15, A15, B15, O15, P15, F15, G15⟩ := vc_compareR (I := I14) (L := L14) (R := R) (n := n) (sl := sl) w false hC hct (fun j hj => ((FF (1000000 + 0) (fun z => by unfold vc_in at z; omega)).1 _).trans (hcv j hj)) hst (fun j hj => ((FF (1000000 + 1) (fun z => by unfold vc_in at z; omega)).1 _).trans (hov j hj)) hb o12 O14 a89 (Classical.not_not.mp h4) (Classical.not_not.mp h5)
            refine jv_Wp.lift (fun _ Kz => jv_Ev.c jv_i41 (pc' := 112) (S' := []) (G1 := (jv_H K I15 L15 R)) jv_i42 [.ref 10, .long w, .int (0 : Int32), .ref (12 + 2 + (vc_F w).d), .ref (12 + 2 + (vc_F w).s)] rfl rfl rfl rfl (jv_cal rfl (jv_H_at hC.k) rfl rfl) rfl H15 rfl rfl Kz) ?_
            refine jv_Wp.lift (fun _ Kz => jv_Ev.steps jv_i41 1 (pc' := 113) (l' := [(7, .ref (12 + 2 + (vc_F w).s)), (6, .ref (12 + 2 + (vc_F w).d)), (5, .int (0 : Int32)), (4, .int (vl_I (vc_F w).n)), (0, .ref 10), (1, .int (vl_I p)), (2, .long w)]) (st' := [.int (0 : Int32)]) rfl Kz) ?_
            refine jv_Wp.loc (l := [(0, .ref 10), (4, .int (vl_I (vc_F w).n)), (5, .int (0 : Int32)), (6, .ref (12 + 2 + (vc_F w).d)), (7, .ref (12 + 2 + (vc_F w).s))]) ⟨List.forall_mem_cons.mpr ⟨.tail _ (.tail _ (.tail _ (.tail _ (.head _)))), List.forall_mem_cons.mpr ⟨.tail _ (.tail _ (.tail _ (.head _))), List.forall_mem_cons.mpr ⟨.tail _ (.tail _ (.head _)), List.forall_mem_cons.mpr ⟨.tail _ (.head _), List.forall_mem_cons.mpr ⟨.head _, fun _ h => absurd h List.not_mem_nil⟩⟩⟩⟩⟩, by show List.Nodup [7, 6, 5, 4, 0, 1, 2]; decide⟩ ?_
            refine jv_Wp.of (jv_Ev.ret jv_i41 rfl rfl) ?_
            rw [hQ]
            have hwd : false = decide ((vc_F w).kind = 5) := (decide_eq_false (fun z => h1 (by rw [z]; rfl))).symm
            have g1 : ¬ vx_j1 (vc_F w) (vc_A I L 12) := by unfold vx_j1; rw [← a12, ← kD, ← kY]; omega
            have g2 : vx_j2 (vc_F w) (vc_A I L 12) := by unfold vx_j2; rw [← a12, ← kD, ← kY]; omega
            rw [a12] at A15 B15
            rw [t9, t10] at B15
            have yv : vx_yv (vc_F w) (vc_A I L 12) = ((vc_A I L 12).1 (vc_F w).s).val := by unfold vx_yv vx_y; rw [if_pos hb, if_pos hb]
            rw [← yv] at A15 B15
            have kw : (false = false) ↔ (vc_F w).kind ≠ 5 := ⟨fun _ => of_decide_eq_false hwd.symm, fun _ => rfl⟩
            have cc : ((vc_F w).d = (vc_F w).s ∨ (false = false ∧ ¬ (vx_small ((vc_A I L 12).1 (vc_F w).d).val = true ∧ vx_small (vx_yv (vc_F w) (vc_A I L 12)) = true))) ↔ (((vc_F w).bit3 = true ∧ (vc_F w).d = (vc_F w).s) ∨ ((vc_F w).kind ≠ 5 ∧ ¬ (vx_small ((vc_A I L 12).1 (vc_F w).d).val = true ∧ vx_small (vx_yv (vc_F w) (vc_A I L 12)) = true))) := by
              rw [kw]; exact ⟨fun z => z.imp (fun z => ⟨hb, z⟩) id, fun z => z.imp (fun z => z.2) id⟩
            have rc : (vx_jump (vc_F w) (vc_A I L 12)).1 = 0 := by
              by_cases c : (((vc_F w).bit3 = true ∧ (vc_F w).d = (vc_F w).s) ∨ ((vc_F w).kind ≠ 5 ∧ ¬ (vx_small ((vc_A I L 12).1 (vc_F w).d).val = true ∧ vx_small (vx_yv (vc_F w) (vc_A I L 12)) = true)))
              · rw [vx_jp2 g1 g2 c]
              · rw [vx_jp2' g1 g2 c]
            refine ⟨_, _, by rw [rc]; rfl, fun _ => ?_, P15, vc_fr_trans (vc_fr_mono FF (fun p z => Or.inr z)) F15, fun f => ?_⟩
            · by_cases c : (((vc_F w).bit3 = true ∧ (vc_F w).d = (vc_F w).s) ∨ ((vc_F w).kind ≠ 5 ∧ ¬ (vx_small ((vc_A I L 12).1 (vc_F w).d).val = true ∧ vx_small (vx_yv (vc_F w) (vc_A I L 12)) = true)))
              · rw [vx_jp2 g1 g2 c]
                have q := A15 (cc.mpr c)
                exact vc_jp_some ((q.2.2 9).trans t9) ((q.2.2 10).trans t10) q.1 q.2.1 O15 P15
              · rw [vx_jp2' g1 g2 c]
                have q := B15 (fun z => c (cc.mp z))
                exact vc_jp_map q.1 q.2.1 q.2.2.2 q.2.2.1 O15 P15
            · exact ⟨(G15 f).1.trans ((FF 12 (fun z => by unfold vc_in at z; omega)).1 f), (G15 f).2.1.trans ((G14 f).trans (((vc_fr_u10 I L 10 _ 89 (by decide)).1 f).trans rfl)), fun h9 h10 => ((G15 f).2.2 h9 h10).trans (((F14 10 (by unfold vc_in; omega)).1 f).trans ((jv_u_j _ _ _ _ h10).trans rfl))⟩
      · refine jv_Wp.lift (fun _ Kz => jv_Ev.steps jv_i41 1 (pc' := 59) (l' := [(7, .ref (12 + 2 + (vc_F w).s)), (6, .ref (12 + 2 + (vc_F w).d)), (5, .int (0 : Int32)), (4, .int (vl_I (vc_F w).n)), (0, .ref 10), (1, .int (vl_I p)), (2, .long w)]) (st' := [.int (1 : Int32)]) rfl Kz) ?_
        refine jv_Wp.loc (l := [(0, .ref 10), (4, .int (vl_I (vc_F w).n)), (5, .int (0 : Int32)), (6, .ref (12 + 2 + (vc_F w).d)), (7, .ref (12 + 2 + (vc_F w).s))]) ⟨List.forall_mem_cons.mpr ⟨.tail _ (.tail _ (.tail _ (.tail _ (.head _)))), List.forall_mem_cons.mpr ⟨.tail _ (.tail _ (.tail _ (.head _))), List.forall_mem_cons.mpr ⟨.tail _ (.tail _ (.head _)), List.forall_mem_cons.mpr ⟨.tail _ (.head _), List.forall_mem_cons.mpr ⟨.head _, fun _ h => absurd h List.not_mem_nil⟩⟩⟩⟩⟩, by show List.Nodup [7, 6, 5, 4, 0, 1, 2]; decide⟩ ?_
        refine jv_Wp.of (jv_Ev.ret jv_i41 rfl rfl) ?_
        rw [hQ]
        have d0 : ¬ (vc_T I L (12 + 2 + (vc_F w).d)).sort = 0 := fun z => h2 ((vc_is0 (oa _ hd75)).mp z)
        have y0 : (vc_T I L (12 + 2 + (vc_F w).s)).sort = 0 := (vc_is0 (oa _ hs75)).mpr (Classical.not_not.mp h3)
        have g : vx_j1 (vc_F w) (vc_A I L 12) := by unfold vx_j1 vx_y; rw [if_pos hb, vc_A1 hd75, vc_A1 hs75]; omega
        have e := vx_jp1 g
        exact ⟨_, _, by rw [e]; rfl, fun z => by rw [e] at z; exact absurd (show (1 : Nat) = 0 from z) (by decide), oj, vc_fr_refl _ _, fun _ => ⟨rfl, rfl, fun _ _ => rfl⟩⟩
  · refine jv_Wp.lift (fun _ Kz => jv_Ev.steps jv_i41 4 (pc' := 22) (l' := [(5, .int (1 : Int32)), (4, .int (vl_I (vc_F w).n)), (0, .ref 10), (1, .int (vl_I p)), (2, .long w)]) (st' := [.ref 10]) rfl Kz) ?_
    refine jv_Wp.lift (fun _ Kz => jv_Ev.m jv_i41 (pc' := 25) (st' := [.ref 12]) (G' := (jv_H K I L R)) rfl rfl (jv_m_getR hC.k rfl rfl hC.rnow) Kz) ?_
    refine jv_Wp.lift (fun _ Kz => jv_Ev.m jv_i41 (pc' := 28) (st' := [.ref (12 + 1)]) (G' := (jv_H K I L R)) rfl rfl (jv_m_getR hC.now.k rfl rfl hC.now.r) Kz) ?_
    refine jv_Wp.lift (fun _ Kz => jv_Ev.steps jv_i41 1 (pc' := 29) (l' := [(5, .int (1 : Int32)), (4, .int (vl_I (vc_F w).n)), (0, .ref 10), (1, .int (vl_I p)), (2, .long w)]) (st' := [.long w, .ref (12 + 1)]) rfl Kz) ?_
    refine jv_Wp.lift (fun _ Kz => jv_Ev.c jv_i41 (pc' := 32) (S' := [.int (vl_I (vc_F w).d), .ref (12 + 1)]) jv_i86 [.long w] rfl rfl rfl rfl rfl rfl (vw_m86 w) rfl rfl Kz) ?_
    refine jv_Wp.lift (fun _ Kz => jv_Ev.m jv_i41 (pc' := 33) (st' := [.ref (12 + 2 + (vc_F w).d)]) (G' := (jv_H K I L R)) rfl rfl (jv_m_aaldR hC.now.kt rfl (vl_I_ix (vw_d75 w) (by decide)) rfl (vc_St_rt hC.now (vw_d75 w))) Kz) ?_
    refine jv_Wp.lift (fun _ Kz => jv_Ev.steps jv_i41 3 (pc' := 37) (l' := [(6, .ref (12 + 2 + (vc_F w).d)), (5, .int (1 : Int32)), (4, .int (vl_I (vc_F w).n)), (0, .ref 10), (1, .int (vl_I p)), (2, .long w)]) (st' := [.long w, .ref 10]) rfl Kz) ?_
    obtain ⟨I16, L16, H16, ei, el⟩ := vc_opR (I := I) (L := L) (R := R) (n := n) (sl := sl) w hC hb
    rw [ei, el] at H16
    refine jv_Wp.lift (fun _ Kz => jv_Ev.c jv_i41 (pc' := 40) (S' := [.ref (12 + 2 + (vc_F w).s)]) jv_i27 [.ref 10, .long w] rfl rfl rfl rfl (jv_cal rfl (jv_H_at hC.k) rfl rfl) rfl H16 rfl rfl Kz) ?_
    refine jv_Wp.lift (fun _ Kz => jv_Ev.steps jv_i41 2 (pc' := 44) (l' := [(7, .ref (12 + 2 + (vc_F w).s)), (6, .ref (12 + 2 + (vc_F w).d)), (5, .int (1 : Int32)), (4, .int (vl_I (vc_F w).n)), (0, .ref 10), (1, .int (vl_I p)), (2, .long w)]) (st' := [.ref (12 + 2 + (vc_F w).d)]) rfl Kz) ?_
    refine jv_Wp.lift (fun _ Kz => jv_Ev.m jv_i41 (pc' := 47) (st' := [.int (I (12 + 2 + (vc_F w).d) 6)]) (G' := (jv_H K I L R)) rfl rfl (jv_m_getI (hC.now.kk _ (vw_d75 w)) rfl rfl rfl) Kz) ?_
    refine jv_Wp.cnd jv_i41 (pt := 58) (pe := 50) (p := ((I (12 + 2 + (vc_F w).d) 6) = 0)) (q := ((I (12 + 2 + (vc_F w).d) 6) = 0)) rfl jv_bi_eq rfl rfl Iff.rfl (fun h6 => ?_) (fun h6 => ?_)
    · refine jv_Wp.lift (fun _ Kz => jv_Ev.steps jv_i41 1 (pc' := 59) (l' := [(7, .ref (12 + 2 + (vc_F w).s)), (6, .ref (12 + 2 + (vc_F w).d)), (5, .int (1 : Int32)), (4, .int (vl_I (vc_F w).n)), (0, .ref 10), (1, .int (vl_I p)), (2, .long w)]) (st' := [.int (1 : Int32)]) rfl Kz) ?_
      refine jv_Wp.loc (l := [(0, .ref 10), (4, .int (vl_I (vc_F w).n)), (5, .int (1 : Int32)), (6, .ref (12 + 2 + (vc_F w).d)), (7, .ref (12 + 2 + (vc_F w).s))]) ⟨List.forall_mem_cons.mpr ⟨.tail _ (.tail _ (.tail _ (.tail _ (.head _)))), List.forall_mem_cons.mpr ⟨.tail _ (.tail _ (.tail _ (.head _))), List.forall_mem_cons.mpr ⟨.tail _ (.tail _ (.head _)), List.forall_mem_cons.mpr ⟨.tail _ (.head _), List.forall_mem_cons.mpr ⟨.head _, fun _ h => absurd h List.not_mem_nil⟩⟩⟩⟩⟩, by show List.Nodup [7, 6, 5, 4, 0, 1, 2]; decide⟩ ?_
      refine jv_Wp.of (jv_Ev.ret jv_i41 rfl rfl) ?_
      rw [hQ]
      have d0 : (vc_T I L (12 + 2 + (vc_F w).d)).sort = 0 := (vc_is0 (oa _ hd75)).mpr h6
      have g : vx_j1 (vc_F w) (vc_A I L 12) := by unfold vx_j1 vx_y; rw [if_pos hb, vc_A1 hd75, vc_A1 hs75]; omega
      have e := vx_jp1 g
      exact ⟨_, _, by rw [e]; rfl, fun z => by rw [e] at z; exact absurd (show (1 : Nat) = 0 from z) (by decide), oj, vc_fr_refl _ _, fun _ => ⟨rfl, rfl, fun _ _ => rfl⟩⟩
    · refine jv_Wp.lift (fun _ Kz => jv_Ev.steps jv_i41 1 (pc' := 52) (l' := [(7, .ref (12 + 2 + (vc_F w).s)), (6, .ref (12 + 2 + (vc_F w).d)), (5, .int (1 : Int32)), (4, .int (vl_I (vc_F w).n)), (0, .ref 10), (1, .int (vl_I p)), (2, .long w)]) (st' := [.ref (12 + 2 + (vc_F w).s)]) rfl Kz) ?_
      refine jv_Wp.lift (fun _ Kz => jv_Ev.m jv_i41 (pc' := 55) (st' := [.int (I (12 + 2 + (vc_F w).s) 6)]) (G' := (jv_H K I L R)) rfl rfl (jv_m_getI (hC.now.kk _ (vw_s75 w)) rfl rfl rfl) Kz) ?_
      refine jv_Wp.cnd jv_i41 (pt := 60) (pe := 58) (p := (¬ (I (12 + 2 + (vc_F w).s) 6) = 0)) (q := (¬ (I (12 + 2 + (vc_F w).s) 6) = 0)) rfl jv_bi_ne rfl rfl Iff.rfl (fun h7 => ?_) (fun h7 => ?_)
      · refine jv_Wp.lift (fun _ Kz => jv_Ev.steps jv_i41 5 (pc' := 65) (l' := [(7, .ref (12 + 2 + (vc_F w).s)), (6, .ref (12 + 2 + (vc_F w).d)), (5, .int (1 : Int32)), (4, .int (vl_I (vc_F w).n)), (0, .ref 10), (1, .int (vl_I p)), (2, .long w)]) (st' := [.long w, .int ((vl_I p) + (1 : Int32)), .ref 10]) rfl Kz) ?_
        refine jv_Wp.lift (fun _ Kz => jv_Ev.c jv_i41 (pc' := 68) (S' := [.int (jv_wfoffset w), .int ((vl_I p) + (1 : Int32)), .ref 10]) jv_i88 [.long w] rfl rfl rfl rfl rfl rfl (jv_s88 w) rfl rfl Kz) ?_
        refine jv_Wp.lift (fun _ Kz => jv_Ev.steps jv_i41 1 (pc' := 69) (l' := [(7, .ref (12 + 2 + (vc_F w).s)), (6, .ref (12 + 2 + (vc_F w).d)), (5, .int (1 : Int32)), (4, .int (vl_I (vc_F w).n)), (0, .ref 10), (1, .int (vl_I p)), (2, .long w)]) (st' := [.int (((vl_I p) + (1 : Int32)) + (jv_wfoffset w)), .ref 10]) rfl Kz) ?_
        refine jv_Wp.lift (fun _ Kz => jv_Ev.m jv_i41 (pc' := 72) (st' := []) (G' := (jv_H K (jv_u I 10 10 (((vl_I p) + (1 : Int32)) + (jv_wfoffset w))) L R)) rfl rfl (jv_m_putI hC.k rfl rfl rfl rfl) Kz) ?_
        refine jv_Wp.lift (fun _ Kz => jv_Ev.steps jv_i41 1 (pc' := 73) (l' := [(7, .ref (12 + 2 + (vc_F w).s)), (6, .ref (12 + 2 + (vc_F w).d)), (5, .int (1 : Int32)), (4, .int (vl_I (vc_F w).n)), (0, .ref 10), (1, .int (vl_I p)), (2, .long w)]) (st' := [.ref 10]) rfl Kz) ?_
        refine jv_Wp.lift (fun _ Kz => jv_Ev.m jv_i41 (pc' := 76) (st' := [.ref 89]) (G' := (jv_H K (jv_u I 10 10 (((vl_I p) + (1 : Int32)) + (jv_wfoffset w))) L R)) rfl rfl (jv_m_getR hC.k rfl rfl hC.rjumped) Kz) ?_
        refine jv_Wp.lift (fun _ Kz => jv_Ev.steps jv_i41 1 (pc' := 77) (l' := [(7, .ref (12 + 2 + (vc_F w).s)), (6, .ref (12 + 2 + (vc_F w).d)), (5, .int (1 : Int32)), (4, .int (vl_I (vc_F w).n)), (0, .ref 10), (1, .int (vl_I p)), (2, .long w)]) (st' := [.ref 10, .ref 89]) rfl Kz) ?_
        refine jv_Wp.lift (fun _ Kz => jv_Ev.m jv_i41 (pc' := 80) (st' := [.ref 12, .ref 89]) (G' := (jv_H K (jv_u I 10 10 (((vl_I p) + (1 : Int32)) + (jv_wfoffset w))) L R)) rfl rfl (jv_m_getR hC.k rfl rfl hC.rnow) Kz) ?_
        obtain ⟨I17, L17, H17, T17, O17, F17, G17⟩ := vc_sbec (I := (jv_u I 10 10 (((vl_I p) + (1 : Int32)) + (jv_wfoffset w)))) (L := L) (R := R) (n := n) (sl := sl) hC.jumped hC.now (Or.inr (by omega)) (vc_fr_okA (vc_fr_u10 I L 10 _) (fun p z => by unfold vc_in at z; omega) oj) (vc_fr_okA (vc_fr_u10 I L 10 _) (fun p z => by unfold vc_in at z; omega) oa)
        refine jv_Wp.lift (fun _ Kz => jv_Ev.c jv_i41 (pc' := 83) (S' := []) (G1 := (jv_H K I17 L17 R)) jv_i112 [.ref 89, .ref 12] rfl rfl rfl rfl (jv_cal rfl (jv_H_at hC.jumped.k) rfl rfl) rfl H17 rfl rfl Kz) ?_
        refine jv_Wp.lift (fun _ Kz => jv_Ev.steps jv_i41 1 (pc' := 85) (l' := [(7, .ref (12 + 2 + (vc_F w).s)), (6, .ref (12 + 2 + (vc_F w).d)), (5, .int (1 : Int32)), (4, .int (vl_I (vc_F w).n)), (0, .ref 10), (1, .int (vl_I p)), (2, .long w)]) (st' := [.ref (12 + 2 + (vc_F w).d)]) rfl Kz) ?_
        refine jv_Wp.lift (fun _ Kz => jv_Ev.m jv_i41 (pc' := 88) (st' := [.int (I17 (12 + 2 + (vc_F w).d) 6)]) (G' := (jv_H K I17 L17 R)) rfl rfl (jv_m_getI (hC.now.kk _ (vw_d75 w)) rfl rfl rfl) Kz) ?_
        refine jv_Wp.lift (fun _ Kz => jv_Ev.steps jv_i41 1 (pc' := 89) (l' := [(7, .ref (12 + 2 + (vc_F w).s)), (6, .ref (12 + 2 + (vc_F w).d)), (5, .int (1 : Int32)), (4, .int (vl_I (vc_F w).n)), (0, .ref 10), (1, .int (vl_I p)), (2, .long w)]) (st' := [.int (1 : Int32), .int (I17 (12 + 2 + (vc_F w).d) 6)]) rfl Kz) ?_
        refine jv_Wp.cnd jv_i41 (pt := 114) (pe := 92) (p := (¬ (I17 (12 + 2 + (vc_F w).d) 6) = (1 : Int32))) (q := (¬ (I17 (12 + 2 + (vc_F w).d) 6) = (1 : Int32))) rfl jv_bc_ne rfl rfl Iff.rfl (fun h8 => ?_) (fun h8 => ?_)
        · refine jv_Wp.loc (l := [(0, .ref 10), (4, .int (vl_I (vc_F w).n)), (5, .int (1 : Int32)), (6, .ref (12 + 2 + (vc_F w).d)), (7, .ref (12 + 2 + (vc_F w).s))]) ⟨List.forall_mem_cons.mpr ⟨.tail _ (.tail _ (.tail _ (.tail _ (.head _)))), List.forall_mem_cons.mpr ⟨.tail _ (.tail _ (.tail _ (.head _))), List.forall_mem_cons.mpr ⟨.tail _ (.tail _ (.head _)), List.forall_mem_cons.mpr ⟨.tail _ (.head _), List.forall_mem_cons.mpr ⟨.head _, fun _ h => absurd h List.not_mem_nil⟩⟩⟩⟩⟩, by show List.Nodup [7, 6, 5, 4, 0, 1, 2]; decide⟩ ?_
          have FF : vc_fr (fun p => vc_in 89 p ∨ p = 166 ∨ p = 10) I L I17 L17 := vc_fr_trans (vc_fr_mono (vc_fr_u10 I L 10 _) (fun p z => Or.inr (Or.inr z))) (vc_fr_mono F17 (fun p z => Or.inl z))
          have t10 : I17 10 10 = ((vl_I p) + (1 : Int32)) + (jv_wfoffset w) := ((F17 10 (by unfold vc_in; omega)).1 10).trans (jv_u_self _ _ _ _)
          have t9 : I17 10 9 = I 10 9 := ((F17 10 (by unfold vc_in; omega)).1 9).trans ((jv_u_j _ _ _ _ (by decide)).trans rfl)
          have a12 : vc_A I17 L17 12 = vc_A I L 12 := vc_fr_A FF (fun p z => by unfold vc_in at *; omega)
          have o12 : vc_okA I17 L17 12 := vc_fr_okA FF (fun p z => by unfold vc_in at *; omega) oa
          have a89 : vc_A I17 L17 89 = vc_A I17 L17 12 := T17.trans ((vc_fr_A F17 (fun p z => by unfold vc_in at *; omega)).symm)
          have kD : vc_T I17 L17 (12 + 2 + (vc_F w).d) = (vc_A I17 L17 12).1 (vc_F w).d := (vc_A1 hd75).symm
          have kY : vc_T I17 L17 (12 + 2 + (vc_F w).s) = vx_y (vc_F w) (vc_A I17 L17 12) := by unfold vx_y; rw [if_pos hb]; exact (vc_A1 hs75).symm
          have okY : vc_ok I17 L17 (12 + 2 + (vc_F w).s) := o12 _ hs75
          have cD : vc_T I17 L17 (12 + 2 + (vc_F w).d) = vc_T I L (12 + 2 + (vc_F w).d) := (vc_fr_T F17 (by unfold vc_in; omega)).trans (vc_fr_T (vc_fr_u10 I L 10 _) (by omega))
          have cY : vc_T I17 L17 (12 + 2 + (vc_F w).s) = vc_T I L (12 + 2 + (vc_F w).s) := (vc_fr_T F17 (by unfold vc_in; omega)).trans (vc_fr_T (vc_fr_u10 I L 10 _) (by omega))
          have d0 : ¬ (vc_T I L (12 + 2 + (vc_F w).d)).sort = 0 := fun z => h6 ((vc_is0 (oa _ hd75)).mp z)
          have y0 : ¬ (vc_T I L (12 + 2 + (vc_F w).s)).sort = 0 := fun z => h7 ((vc_is0 (oa _ hs75)).mp z)
          have d1j : ¬ (vc_T I17 L17 (12 + 2 + (vc_F w).d)).sort = 1 := fun z => h8 ((vc_is1 (o12 _ hd75)).mp z)
          have hwd : true = decide ((vc_F w).kind = 5) := (decide_eq_true ((vl_I_inj (by have := vw_k8 w; omega) (by decide)).mp (Classical.not_not.mp h1))).symm
          have gP : ∀ q, q < 75 → I17 (12 + 2 + q) 6 = 4 → (vl_S L17 (12 + 2 + q)).low = (vl_S L17 (12 + 2 + q)).high → (L17 (12 + 2 + q) 2).toInt ≤ 1073000000 := fun q hq h4 hs => by
            have z := FF (12 + 2 + q) (fun z => by unfold vc_in at z; omega)
            rw [z.2 2]; rw [vl_S_ext (fun f => z.2 f)] at hs; rw [z.1 6] at h4; exact pA q hq h4 hs
          refine jv_Wp.mono (vc_jtail (I := I17) (L := L17) w true hC hwd (hC.now.kk _ hd75) (hC.now.kk _ hs75) (o12 _ hd75) okY o12 O17 a89 kD kY (by rw [cD, cY]; omega) (by omega) (gP _ hd75) (gP _ hs75) rfl) ?_
          rintro X ⟨I9, L9, eX, hT, hO, hF, hG⟩
          rw [a12, t9, t10] at hT
          rw [a12] at eX
          rw [hQ]
          exact ⟨I9, L9, eX, hT, hO, vc_fr_trans (vc_fr_mono FF (fun p z => Or.inr z)) (vc_fr_mono hF (fun p z => z.imp id Or.inl)), fun f => ⟨(hG f).1.trans ((FF 12 (fun z => by unfold vc_in at z; omega)).1 f), (hG f).2.trans ((G17 f).trans (((vc_fr_u10 I L 10 _ 89 (by decide)).1 f).trans rfl)), fun h9 h10 => ((hF 10 (fun z => by unfold vc_in at z; omega)).1 f).trans (((F17 10 (by unfold vc_in; omega)).1 f).trans ((jv_u_j _ _ _ _ h10).trans rfl))⟩⟩
        · refine jv_Wp.lift (fun _ Kz => jv_Ev.steps jv_i41 1 (pc' := 94) (l' := [(7, .ref (12 + 2 + (vc_F w).s)), (6, .ref (12 + 2 + (vc_F w).d)), (5, .int (1 : Int32)), (4, .int (vl_I (vc_F w).n)), (0, .ref 10), (1, .int (vl_I p)), (2, .long w)]) (st' := [.ref (12 + 2 + (vc_F w).s)]) rfl Kz) ?_
          refine jv_Wp.lift (fun _ Kz => jv_Ev.m jv_i41 (pc' := 97) (st' := [.int (I17 (12 + 2 + (vc_F w).s) 6)]) (G' := (jv_H K I17 L17 R)) rfl rfl (jv_m_getI (hC.now.kk _ (vw_s75 w)) rfl rfl rfl) Kz) ?_
          refine jv_Wp.lift (fun _ Kz => jv_Ev.steps jv_i41 1 (pc' := 98) (l' := [(7, .ref (12 + 2 + (vc_F w).s)), (6, .ref (12 + 2 + (vc_F w).d)), (5, .int (1 : Int32)), (4, .int (vl_I (vc_F w).n)), (0, .ref 10), (1, .int (vl_I p)), (2, .long w)]) (st' := [.int (1 : Int32), .int (I17 (12 + 2 + (vc_F w).s) 6)]) rfl Kz) ?_
          refine jv_Wp.cnd jv_i41 (pt := 114) (pe := 101) (p := (¬ (I17 (12 + 2 + (vc_F w).s) 6) = (1 : Int32))) (q := (¬ (I17 (12 + 2 + (vc_F w).s) 6) = (1 : Int32))) rfl jv_bc_ne rfl rfl Iff.rfl (fun h9 => ?_) (fun h9 => ?_)
          · refine jv_Wp.loc (l := [(0, .ref 10), (4, .int (vl_I (vc_F w).n)), (5, .int (1 : Int32)), (6, .ref (12 + 2 + (vc_F w).d)), (7, .ref (12 + 2 + (vc_F w).s))]) ⟨List.forall_mem_cons.mpr ⟨.tail _ (.tail _ (.tail _ (.tail _ (.head _)))), List.forall_mem_cons.mpr ⟨.tail _ (.tail _ (.tail _ (.head _))), List.forall_mem_cons.mpr ⟨.tail _ (.tail _ (.head _)), List.forall_mem_cons.mpr ⟨.tail _ (.head _), List.forall_mem_cons.mpr ⟨.head _, fun _ h => absurd h List.not_mem_nil⟩⟩⟩⟩⟩, by show List.Nodup [7, 6, 5, 4, 0, 1, 2]; decide⟩ ?_
            have FF : vc_fr (fun p => vc_in 89 p ∨ p = 166 ∨ p = 10) I L I17 L17 := vc_fr_trans (vc_fr_mono (vc_fr_u10 I L 10 _) (fun p z => Or.inr (Or.inr z))) (vc_fr_mono F17 (fun p z => Or.inl z))
            have t10 : I17 10 10 = ((vl_I p) + (1 : Int32)) + (jv_wfoffset w) := ((F17 10 (by unfold vc_in; omega)).1 10).trans (jv_u_self _ _ _ _)
            have t9 : I17 10 9 = I 10 9 := ((F17 10 (by unfold vc_in; omega)).1 9).trans ((jv_u_j _ _ _ _ (by decide)).trans rfl)
            have a12 : vc_A I17 L17 12 = vc_A I L 12 := vc_fr_A FF (fun p z => by unfold vc_in at *; omega)
            have o12 : vc_okA I17 L17 12 := vc_fr_okA FF (fun p z => by unfold vc_in at *; omega) oa
            have a89 : vc_A I17 L17 89 = vc_A I17 L17 12 := T17.trans ((vc_fr_A F17 (fun p z => by unfold vc_in at *; omega)).symm)
            have kD : vc_T I17 L17 (12 + 2 + (vc_F w).d) = (vc_A I17 L17 12).1 (vc_F w).d := (vc_A1 hd75).symm
            have kY : vc_T I17 L17 (12 + 2 + (vc_F w).s) = vx_y (vc_F w) (vc_A I17 L17 12) := by unfold vx_y; rw [if_pos hb]; exact (vc_A1 hs75).symm
            have okY : vc_ok I17 L17 (12 + 2 + (vc_F w).s) := o12 _ hs75
            have cD : vc_T I17 L17 (12 + 2 + (vc_F w).d) = vc_T I L (12 + 2 + (vc_F w).d) := (vc_fr_T F17 (by unfold vc_in; omega)).trans (vc_fr_T (vc_fr_u10 I L 10 _) (by omega))
            have cY : vc_T I17 L17 (12 + 2 + (vc_F w).s) = vc_T I L (12 + 2 + (vc_F w).s) := (vc_fr_T F17 (by unfold vc_in; omega)).trans (vc_fr_T (vc_fr_u10 I L 10 _) (by omega))
            have d0 : ¬ (vc_T I L (12 + 2 + (vc_F w).d)).sort = 0 := fun z => h6 ((vc_is0 (oa _ hd75)).mp z)
            have y0 : ¬ (vc_T I L (12 + 2 + (vc_F w).s)).sort = 0 := fun z => h7 ((vc_is0 (oa _ hs75)).mp z)
            have d1j : (vc_T I17 L17 (12 + 2 + (vc_F w).d)).sort = 1 := (vc_is1 (o12 _ hd75)).mpr (Classical.not_not.mp h8)
            have y1j : ¬ (vc_T I17 L17 (12 + 2 + (vc_F w).s)).sort = 1 := fun z => h9 ((vc_is1 okY).mp z)
            have hwd : true = decide ((vc_F w).kind = 5) := (decide_eq_true ((vl_I_inj (by have := vw_k8 w; omega) (by decide)).mp (Classical.not_not.mp h1))).symm
            have gP : ∀ q, q < 75 → I17 (12 + 2 + q) 6 = 4 → (vl_S L17 (12 + 2 + q)).low = (vl_S L17 (12 + 2 + q)).high → (L17 (12 + 2 + q) 2).toInt ≤ 1073000000 := fun q hq h4 hs => by
              have z := FF (12 + 2 + q) (fun z => by unfold vc_in at z; omega)
              rw [z.2 2]; rw [vl_S_ext (fun f => z.2 f)] at hs; rw [z.1 6] at h4; exact pA q hq h4 hs
            refine jv_Wp.mono (vc_jtail (I := I17) (L := L17) w true hC hwd (hC.now.kk _ hd75) (hC.now.kk _ hs75) (o12 _ hd75) okY o12 O17 a89 kD kY (by rw [cD, cY]; omega) (by omega) (gP _ hd75) (gP _ hs75) rfl) ?_
            rintro X ⟨I9, L9, eX, hT, hO, hF, hG⟩
            rw [a12, t9, t10] at hT
            rw [a12] at eX
            rw [hQ]
            exact ⟨I9, L9, eX, hT, hO, vc_fr_trans (vc_fr_mono FF (fun p z => Or.inr z)) (vc_fr_mono hF (fun p z => z.imp id Or.inl)), fun f => ⟨(hG f).1.trans ((FF 12 (fun z => by unfold vc_in at z; omega)).1 f), (hG f).2.trans ((G17 f).trans (((vc_fr_u10 I L 10 _ 89 (by decide)).1 f).trans rfl)), fun h9 h10 => ((hF 10 (fun z => by unfold vc_in at z; omega)).1 f).trans (((F17 10 (by unfold vc_in; omega)).1 f).trans ((jv_u_j _ _ _ _ h10).trans rfl))⟩⟩
          · refine jv_Wp.lift (fun _ Kz => jv_Ev.steps jv_i41 5 (pc' := 109) (l' := [(7, .ref (12 + 2 + (vc_F w).s)), (6, .ref (12 + 2 + (vc_F w).d)), (5, .int (1 : Int32)), (4, .int (vl_I (vc_F w).n)), (0, .ref 10), (1, .int (vl_I p)), (2, .long w)]) (st' := [.ref (12 + 2 + (vc_F w).s), .ref (12 + 2 + (vc_F w).d), .int (1 : Int32), .long w, .ref 10]) rfl Kz) ?_
            have FF : vc_fr (fun p => vc_in 89 p ∨ p = 166 ∨ p = 10) I L I17 L17 := vc_fr_trans (vc_fr_mono (vc_fr_u10 I L 10 _) (fun p z => Or.inr (Or.inr z))) (vc_fr_mono F17 (fun p z => Or.inl z))
            have t10 : I17 10 10 = ((vl_I p) + (1 : Int32)) + (jv_wfoffset w) := ((F17 10 (by unfold vc_in; omega)).1 10).trans (jv_u_self _ _ _ _)
            have t9 : I17 10 9 = I 10 9 := ((F17 10 (by unfold vc_in; omega)).1 9).trans ((jv_u_j _ _ _ _ (by decide)).trans rfl)
            have a12 : vc_A I17 L17 12 = vc_A I L 12 := vc_fr_A FF (fun p z => by unfold vc_in at *; omega)
            have o12 : vc_okA I17 L17 12 := vc_fr_okA FF (fun p z => by unfold vc_in at *; omega) oa
            have a89 : vc_A I17 L17 89 = vc_A I17 L17 12 := T17.trans ((vc_fr_A F17 (fun p z => by unfold vc_in at *; omega)).symm)
            have kD : vc_T I17 L17 (12 + 2 + (vc_F w).d) = (vc_A I17 L17 12).1 (vc_F w).d := (vc_A1 hd75).symm
            have kY : vc_T I17 L17 (12 + 2 + (vc_F w).s) = vx_y (vc_F w) (vc_A I17 L17 12) := by unfold vx_y; rw [if_pos hb]; exact (vc_A1 hs75).symm
            have okY : vc_ok I17 L17 (12 + 2 + (vc_F w).s) := o12 _ hs75
            have cD : vc_T I17 L17 (12 + 2 + (vc_F w).d) = vc_T I L (12 + 2 + (vc_F w).d) := (vc_fr_T F17 (by unfold vc_in; omega)).trans (vc_fr_T (vc_fr_u10 I L 10 _) (by omega))
            have cY : vc_T I17 L17 (12 + 2 + (vc_F w).s) = vc_T I L (12 + 2 + (vc_F w).s) := (vc_fr_T F17 (by unfold vc_in; omega)).trans (vc_fr_T (vc_fr_u10 I L 10 _) (by omega))
            have d0 : ¬ (vc_T I L (12 + 2 + (vc_F w).d)).sort = 0 := fun z => h6 ((vc_is0 (oa _ hd75)).mp z)
            have y0 : ¬ (vc_T I L (12 + 2 + (vc_F w).s)).sort = 0 := fun z => h7 ((vc_is0 (oa _ hs75)).mp z)
            have d1j : (vc_T I17 L17 (12 + 2 + (vc_F w).d)).sort = 1 := (vc_is1 (o12 _ hd75)).mpr (Classical.not_not.mp h8)
            have y1j : (vc_T I17 L17 (12 + 2 + (vc_F w).s)).sort = 1 := (vc_is1 okY).mpr (Classical.not_not.mp h9)
            obtain ⟨I18, L18, H18, A18, B18, O18, P18, F18, G18⟩ := vc_compareR (I := I17) (L := L17) (R := R) (n := n) (sl := sl) w true hC hct (fun j hj => ((FF (1000000 + 0) (fun z => by unfold vc_in at z; omega)).1 _).trans (hcv j hj)) hst (fun j hj => ((FF (1000000 + 1) (fun z => by unfold vc_in at z; omega)).1 _).trans (hov j hj)) hb o12 O17 a89 (Classical.not_not.mp h8) (Classical.not_not.mp h9)
            refine jv_Wp.lift (fun _ Kz => jv_Ev.c jv_i41 (pc' := 112) (S' := []) (G1 := (jv_H K I18 L18 R)) jv_i42 [.ref 10, .long w, .int (1 : Int32), .ref (12 + 2 + (vc_F w).d), .ref (12 + 2 + (vc_F w).s)] rfl rfl rfl rfl (jv_cal rfl (jv_H_at hC.k) rfl rfl) rfl H18 rfl rfl Kz) ?_
            refine jv_Wp.lift (fun _ Kz => jv_Ev.steps jv_i41 1 (pc' := 113) (l' := [(7, .ref (12 + 2 + (vc_F w).s)), (6, .ref (12 + 2 + (vc_F w).d)), (5, .int (1 : Int32)), (4, .int (vl_I (vc_F w).n)), (0, .ref 10), (1, .int (vl_I p)), (2, .long w)]) (st' := [.int (0 : Int32)]) rfl Kz) ?_
            refine jv_Wp.loc (l := [(0, .ref 10), (4, .int (vl_I (vc_F w).n)), (5, .int (1 : Int32)), (6, .ref (12 + 2 + (vc_F w).d)), (7, .ref (12 + 2 + (vc_F w).s))]) ⟨List.forall_mem_cons.mpr ⟨.tail _ (.tail _ (.tail _ (.tail _ (.head _)))), List.forall_mem_cons.mpr ⟨.tail _ (.tail _ (.tail _ (.head _))), List.forall_mem_cons.mpr ⟨.tail _ (.tail _ (.head _)), List.forall_mem_cons.mpr ⟨.tail _ (.head _), List.forall_mem_cons.mpr ⟨.head _, fun _ h => absurd h List.not_mem_nil⟩⟩⟩⟩⟩, by show List.Nodup [7, 6, 5, 4, 0, 1, 2]; decide⟩ ?_
            refine jv_Wp.of (jv_Ev.ret jv_i41 rfl rfl) ?_
            rw [hQ]
            have hwd : true = decide ((vc_F w).kind = 5) := (decide_eq_true ((vl_I_inj (by have := vw_k8 w; omega) (by decide)).mp (Classical.not_not.mp h1))).symm
            have g1 : ¬ vx_j1 (vc_F w) (vc_A I L 12) := by unfold vx_j1; rw [← a12, ← kD, ← kY]; omega
            have g2 : vx_j2 (vc_F w) (vc_A I L 12) := by unfold vx_j2; rw [← a12, ← kD, ← kY]; omega
            rw [a12] at A18 B18
            rw [t9, t10] at B18
            have yv : vx_yv (vc_F w) (vc_A I L 12) = ((vc_A I L 12).1 (vc_F w).s).val := by unfold vx_yv vx_y; rw [if_pos hb, if_pos hb]
            rw [← yv] at A18 B18
            have kw : (true = false) ↔ (vc_F w).kind ≠ 5 := ⟨fun z => absurd z (by decide), fun z => absurd (of_decide_eq_true hwd.symm) z⟩
            have cc : ((vc_F w).d = (vc_F w).s ∨ (true = false ∧ ¬ (vx_small ((vc_A I L 12).1 (vc_F w).d).val = true ∧ vx_small (vx_yv (vc_F w) (vc_A I L 12)) = true))) ↔ (((vc_F w).bit3 = true ∧ (vc_F w).d = (vc_F w).s) ∨ ((vc_F w).kind ≠ 5 ∧ ¬ (vx_small ((vc_A I L 12).1 (vc_F w).d).val = true ∧ vx_small (vx_yv (vc_F w) (vc_A I L 12)) = true))) := by
              rw [kw]; exact ⟨fun z => z.imp (fun z => ⟨hb, z⟩) id, fun z => z.imp (fun z => z.2) id⟩
            have rc : (vx_jump (vc_F w) (vc_A I L 12)).1 = 0 := by
              by_cases c : (((vc_F w).bit3 = true ∧ (vc_F w).d = (vc_F w).s) ∨ ((vc_F w).kind ≠ 5 ∧ ¬ (vx_small ((vc_A I L 12).1 (vc_F w).d).val = true ∧ vx_small (vx_yv (vc_F w) (vc_A I L 12)) = true)))
              · rw [vx_jp2 g1 g2 c]
              · rw [vx_jp2' g1 g2 c]
            refine ⟨_, _, by rw [rc]; rfl, fun _ => ?_, P18, vc_fr_trans (vc_fr_mono FF (fun p z => Or.inr z)) F18, fun f => ?_⟩
            · by_cases c : (((vc_F w).bit3 = true ∧ (vc_F w).d = (vc_F w).s) ∨ ((vc_F w).kind ≠ 5 ∧ ¬ (vx_small ((vc_A I L 12).1 (vc_F w).d).val = true ∧ vx_small (vx_yv (vc_F w) (vc_A I L 12)) = true)))
              · rw [vx_jp2 g1 g2 c]
                have q := A18 (cc.mpr c)
                exact vc_jp_some ((q.2.2 9).trans t9) ((q.2.2 10).trans t10) q.1 q.2.1 O18 P18
              · rw [vx_jp2' g1 g2 c]
                have q := B18 (fun z => c (cc.mp z))
                exact vc_jp_map q.1 q.2.1 q.2.2.2 q.2.2.1 O18 P18
            · exact ⟨(G18 f).1.trans ((FF 12 (fun z => by unfold vc_in at z; omega)).1 f), (G18 f).2.1.trans ((G17 f).trans (((vc_fr_u10 I L 10 _ 89 (by decide)).1 f).trans rfl)), fun h9 h10 => ((G18 f).2.2 h9 h10).trans (((F17 10 (by unfold vc_in; omega)).1 f).trans ((jv_u_j _ _ _ _ h10).trans rfl))⟩
      · refine jv_Wp.lift (fun _ Kz => jv_Ev.steps jv_i41 1 (pc' := 59) (l' := [(7, .ref (12 + 2 + (vc_F w).s)), (6, .ref (12 + 2 + (vc_F w).d)), (5, .int (1 : Int32)), (4, .int (vl_I (vc_F w).n)), (0, .ref 10), (1, .int (vl_I p)), (2, .long w)]) (st' := [.int (1 : Int32)]) rfl Kz) ?_
        refine jv_Wp.loc (l := [(0, .ref 10), (4, .int (vl_I (vc_F w).n)), (5, .int (1 : Int32)), (6, .ref (12 + 2 + (vc_F w).d)), (7, .ref (12 + 2 + (vc_F w).s))]) ⟨List.forall_mem_cons.mpr ⟨.tail _ (.tail _ (.tail _ (.tail _ (.head _)))), List.forall_mem_cons.mpr ⟨.tail _ (.tail _ (.tail _ (.head _))), List.forall_mem_cons.mpr ⟨.tail _ (.tail _ (.head _)), List.forall_mem_cons.mpr ⟨.tail _ (.head _), List.forall_mem_cons.mpr ⟨.head _, fun _ h => absurd h List.not_mem_nil⟩⟩⟩⟩⟩, by show List.Nodup [7, 6, 5, 4, 0, 1, 2]; decide⟩ ?_
        refine jv_Wp.of (jv_Ev.ret jv_i41 rfl rfl) ?_
        rw [hQ]
        have d0 : ¬ (vc_T I L (12 + 2 + (vc_F w).d)).sort = 0 := fun z => h6 ((vc_is0 (oa _ hd75)).mp z)
        have y0 : (vc_T I L (12 + 2 + (vc_F w).s)).sort = 0 := (vc_is0 (oa _ hs75)).mpr (Classical.not_not.mp h7)
        have g : vx_j1 (vc_F w) (vc_A I L 12) := by unfold vx_j1 vx_y; rw [if_pos hb, vc_A1 hd75, vc_A1 hs75]; omega
        have e := vx_jp1 g
        exact ⟨_, _, by rw [e]; rfl, fun z => by rw [e] at z; exact absurd (show (1 : Nat) = 0 from z) (by decide), oj, vc_fr_refl _ _, fun _ => ⟨rfl, rfl, fun _ _ => rfl⟩⟩
theorem vc_jumpI {K : Nat → Option (Nat × Nat)} {I : Nat → Nat → Int32} {L : Nat → Nat → Int64} {R : Nat → Nat → Value} (w : Int64) (p : Nat) (hC : vc_C K R) (hct : K (1000000 + 0) = some (110, 16)) (hcv : ∀ j, j < 16 → I (1000000 + 0) j = vl_I (vx_cmp j)) (hst : K (1000000 + 1) = some (110, 12)) (hov : ∀ j, j < 12 → I (1000000 + 1) j = vl_I (vb_opp j)) (hb : (vc_F w).bit3 = false) (oa : vc_okA I L 12) (oj : vc_okA I L 89) (pA : ∀ q, q < 75 → I (12 + 2 + q) 6 = 4 → (vl_S L (12 + 2 + q)).low = (vl_S L (12 + 2 + q)).high → (L (12 + 2 + q) 2).toInt ≤ 1073000000) {n sl : Nat} : ∃ I1 L1, jv_Ms 41 [.ref 10, .int (vl_I p), .long w] (jv_H K I L R) n sl (some (.int (vl_I (vx_jump (vc_F w) (vc_A I L 12)).1)), jv_H K I1 L1 R, n, sl) ∧ ((vx_jump (vc_F w) (vc_A I L 12)).1 = 0 → vc_jp (vx_jump (vc_F w) (vc_A I L 12)) (I 10 9) (((vl_I p) + (1 : Int32)) + (jv_wfoffset w)) I1 L1) ∧ vc_okA I1 L1 89 ∧ vc_fr (fun p => vc_in 12 p ∨ vc_in 89 p ∨ p = 166 ∨ p = 10) I L I1 L1 ∧ ∀ f, I1 12 f = I 12 f ∧ I1 89 f = I 89 f ∧ (f ≠ 9 → f ≠ 10 → I1 10 f = I 10 f) := by
  obtain ⟨Q, hQ⟩ : ∃ Q : jv_R → Prop, Q = fun X => ∃ I1 L1, X = (some (.int (vl_I (vx_jump (vc_F w) (vc_A I L 12)).1)), jv_H K I1 L1 R, n, sl) ∧ ((vx_jump (vc_F w) (vc_A I L 12)).1 = 0 → vc_jp (vx_jump (vc_F w) (vc_A I L 12)) (I 10 9) (((vl_I p) + (1 : Int32)) + (jv_wfoffset w)) I1 L1) ∧ vc_okA I1 L1 89 ∧ vc_fr (fun p => vc_in 12 p ∨ vc_in 89 p ∨ p = 166 ∨ p = 10) I L I1 L1 ∧ ∀ f, I1 12 f = I 12 f ∧ I1 89 f = I 89 f ∧ (f ≠ 9 → f ≠ 10 → I1 10 f = I 10 f) := ⟨_, rfl⟩
  suffices h : jv_Wp 41 0 [(0, .ref 10), (1, .int (vl_I p)), (2, .long w)] [] (jv_H K I L R) n sl Q by
    rw [hQ] at h
    obtain ⟨X, h, I1, L1, e, h'⟩ := h
    subst e
    exact ⟨I1, L1, h, h'⟩
  have hd75 := vw_d75 w
  have hs75 := vw_s75 w
  have hn16 := vw_n16 w
  refine jv_Wp.lift (fun _ Kz => jv_Ev.steps jv_i41 1 (pc' := 1) (l' := [(0, .ref 10), (1, .int (vl_I p)), (2, .long w)]) (st' := [.long w]) rfl Kz) ?_
  refine jv_Wp.lift (fun _ Kz => jv_Ev.c jv_i41 (pc' := 4) (S' := [.int (vl_I (vc_F w).n)]) jv_i82 [.long w] rfl rfl rfl rfl rfl rfl (vw_m82 w) rfl rfl Kz) ?_
  refine jv_Wp.lift (fun _ Kz => jv_Ev.steps jv_i41 2 (pc' := 7) (l' := [(4, .int (vl_I (vc_F w).n)), (0, .ref 10), (1, .int (vl_I p)), (2, .long w)]) (st' := [.long w]) rfl Kz) ?_
  refine jv_Wp.lift (fun _ Kz => jv_Ev.c jv_i41 (pc' := 10) (S' := [.int (vl_I (vc_F w).kind)]) jv_i81 [.long w] rfl rfl rfl rfl rfl rfl (vw_m81 w) rfl rfl Kz) ?_
  refine jv_Wp.lift (fun _ Kz => jv_Ev.steps jv_i41 1 (pc' := 11) (l' := [(4, .int (vl_I (vc_F w).n)), (0, .ref 10), (1, .int (vl_I p)), (2, .long w)]) (st' := [.int (5 : Int32), .int (vl_I (vc_F w).kind)]) rfl Kz) ?_
  refine jv_Wp.cnd jv_i41 (pt := 18) (pe := 14) (p := (¬ (vl_I (vc_F w).kind) = (5 : Int32))) (q := (¬ (vl_I (vc_F w).kind) = (5 : Int32))) rfl jv_bc_ne rfl rfl Iff.rfl (fun h1 => ?_) (fun h1 => ?_)
  · refine jv_Wp.lift (fun _ Kz => jv_Ev.steps jv_i41 3 (pc' := 22) (l' := [(5, .int (0 : Int32)), (4, .int (vl_I (vc_F w).n)), (0, .ref 10), (1, .int (vl_I p)), (2, .long w)]) (st' := [.ref 10]) rfl Kz) ?_
    refine jv_Wp.lift (fun _ Kz => jv_Ev.m jv_i41 (pc' := 25) (st' := [.ref 12]) (G' := (jv_H K I L R)) rfl rfl (jv_m_getR hC.k rfl rfl hC.rnow) Kz) ?_
    refine jv_Wp.lift (fun _ Kz => jv_Ev.m jv_i41 (pc' := 28) (st' := [.ref (12 + 1)]) (G' := (jv_H K I L R)) rfl rfl (jv_m_getR hC.now.k rfl rfl hC.now.r) Kz) ?_
    refine jv_Wp.lift (fun _ Kz => jv_Ev.steps jv_i41 1 (pc' := 29) (l' := [(5, .int (0 : Int32)), (4, .int (vl_I (vc_F w).n)), (0, .ref 10), (1, .int (vl_I p)), (2, .long w)]) (st' := [.long w, .ref (12 + 1)]) rfl Kz) ?_
    refine jv_Wp.lift (fun _ Kz => jv_Ev.c jv_i41 (pc' := 32) (S' := [.int (vl_I (vc_F w).d), .ref (12 + 1)]) jv_i86 [.long w] rfl rfl rfl rfl rfl rfl (vw_m86 w) rfl rfl Kz) ?_
    refine jv_Wp.lift (fun _ Kz => jv_Ev.m jv_i41 (pc' := 33) (st' := [.ref (12 + 2 + (vc_F w).d)]) (G' := (jv_H K I L R)) rfl rfl (jv_m_aaldR hC.now.kt rfl (vl_I_ix (vw_d75 w) (by decide)) rfl (vc_St_rt hC.now (vw_d75 w))) Kz) ?_
    refine jv_Wp.lift (fun _ Kz => jv_Ev.steps jv_i41 3 (pc' := 37) (l' := [(6, .ref (12 + 2 + (vc_F w).d)), (5, .int (0 : Int32)), (4, .int (vl_I (vc_F w).n)), (0, .ref 10), (1, .int (vl_I p)), (2, .long w)]) (st' := [.long w, .ref 10]) rfl Kz) ?_
    obtain ⟨I19, L19, H19, T19, O19, F19⟩ := vc_opI (I := I) (L := L) (R := R) (n := n) (sl := sl) w hC hb
    refine jv_Wp.lift (fun _ Kz => jv_Ev.c jv_i41 (pc' := 40) (S' := [.ref 166]) (G1 := (jv_H K I19 L19 R)) jv_i27 [.ref 10, .long w] rfl rfl rfl rfl (jv_cal rfl (jv_H_at hC.k) rfl rfl) rfl H19 rfl rfl Kz) ?_
    refine jv_Wp.lift (fun _ Kz => jv_Ev.steps jv_i41 2 (pc' := 44) (l' := [(7, .ref 166), (6, .ref (12 + 2 + (vc_F w).d)), (5, .int (0 : Int32)), (4, .int (vl_I (vc_F w).n)), (0, .ref 10), (1, .int (vl_I p)), (2, .long w)]) (st' := [.ref (12 + 2 + (vc_F w).d)]) rfl Kz) ?_
    refine jv_Wp.lift (fun _ Kz => jv_Ev.m jv_i41 (pc' := 47) (st' := [.int (I19 (12 + 2 + (vc_F w).d) 6)]) (G' := (jv_H K I19 L19 R)) rfl rfl (jv_m_getI (hC.now.kk _ (vw_d75 w)) rfl rfl rfl) Kz) ?_
    refine jv_Wp.cnd jv_i41 (pt := 58) (pe := 50) (p := ((I19 (12 + 2 + (vc_F w).d) 6) = 0)) (q := ((I19 (12 + 2 + (vc_F w).d) 6) = 0)) rfl jv_bi_eq rfl rfl Iff.rfl (fun h2 => ?_) (fun h2 => ?_)
    · refine jv_Wp.lift (fun _ Kz => jv_Ev.steps jv_i41 1 (pc' := 59) (l' := [(7, .ref 166), (6, .ref (12 + 2 + (vc_F w).d)), (5, .int (0 : Int32)), (4, .int (vl_I (vc_F w).n)), (0, .ref 10), (1, .int (vl_I p)), (2, .long w)]) (st' := [.int (1 : Int32)]) rfl Kz) ?_
      refine jv_Wp.loc (l := [(0, .ref 10), (4, .int (vl_I (vc_F w).n)), (5, .int (0 : Int32)), (6, .ref (12 + 2 + (vc_F w).d)), (7, .ref 166)]) ⟨List.forall_mem_cons.mpr ⟨.tail _ (.tail _ (.tail _ (.tail _ (.head _)))), List.forall_mem_cons.mpr ⟨.tail _ (.tail _ (.tail _ (.head _))), List.forall_mem_cons.mpr ⟨.tail _ (.tail _ (.head _)), List.forall_mem_cons.mpr ⟨.tail _ (.head _), List.forall_mem_cons.mpr ⟨.head _, fun _ h => absurd h List.not_mem_nil⟩⟩⟩⟩⟩, by show List.Nodup [7, 6, 5, 4, 0, 1, 2]; decide⟩ ?_
      refine jv_Wp.of (jv_Ev.ret jv_i41 rfl rfl) ?_
      rw [hQ]
      have d0 : (vc_T I19 L19 (12 + 2 + (vc_F w).d)).sort = 0 := (vc_is0 ((vc_fr_ok F19 (by omega)).mpr (oa _ hd75))).mpr h2
      have g : vx_j1 (vc_F w) (vc_A I L 12) := by unfold vx_j1 vx_y; rw [if_neg (by rw [hb]; decide), vc_A1 hd75, ← T19, ← vc_fr_T F19 (o := (12 + 2 + (vc_F w).d)) (by omega)]; omega
      have e := vx_jp1 g
      exact ⟨_, _, by rw [e]; rfl, fun z => by rw [e] at z; exact absurd (show (1 : Nat) = 0 from z) (by decide), vc_fr_okA F19 (fun p z => by unfold vc_in at z; omega) oj, vc_fr_mono F19 (fun p z => Or.inr (Or.inr (Or.inl z))), fun f => ⟨(F19 12 (by decide)).1 f, (F19 89 (by decide)).1 f, fun _ _ => (F19 10 (by decide)).1 f⟩⟩
    · refine jv_Wp.lift (fun _ Kz => jv_Ev.steps jv_i41 1 (pc' := 52) (l' := [(7, .ref 166), (6, .ref (12 + 2 + (vc_F w).d)), (5, .int (0 : Int32)), (4, .int (vl_I (vc_F w).n)), (0, .ref 10), (1, .int (vl_I p)), (2, .long w)]) (st' := [.ref 166]) rfl Kz) ?_
      refine jv_Wp.lift (fun _ Kz => jv_Ev.m jv_i41 (pc' := 55) (st' := [.int (I19 166 6)]) (G' := (jv_H K I19 L19 R)) rfl rfl (jv_m_getI hC.k166 rfl rfl rfl) Kz) ?_
      refine jv_Wp.cnd jv_i41 (pt := 60) (pe := 58) (p := (¬ (I19 166 6) = 0)) (q := (¬ (I19 166 6) = 0)) rfl jv_bi_ne rfl rfl Iff.rfl (fun h3 => ?_) (fun h3 => ?_)
      · refine jv_Wp.lift (fun _ Kz => jv_Ev.steps jv_i41 5 (pc' := 65) (l' := [(7, .ref 166), (6, .ref (12 + 2 + (vc_F w).d)), (5, .int (0 : Int32)), (4, .int (vl_I (vc_F w).n)), (0, .ref 10), (1, .int (vl_I p)), (2, .long w)]) (st' := [.long w, .int ((vl_I p) + (1 : Int32)), .ref 10]) rfl Kz) ?_
        refine jv_Wp.lift (fun _ Kz => jv_Ev.c jv_i41 (pc' := 68) (S' := [.int (jv_wfoffset w), .int ((vl_I p) + (1 : Int32)), .ref 10]) jv_i88 [.long w] rfl rfl rfl rfl rfl rfl (jv_s88 w) rfl rfl Kz) ?_
        refine jv_Wp.lift (fun _ Kz => jv_Ev.steps jv_i41 1 (pc' := 69) (l' := [(7, .ref 166), (6, .ref (12 + 2 + (vc_F w).d)), (5, .int (0 : Int32)), (4, .int (vl_I (vc_F w).n)), (0, .ref 10), (1, .int (vl_I p)), (2, .long w)]) (st' := [.int (((vl_I p) + (1 : Int32)) + (jv_wfoffset w)), .ref 10]) rfl Kz) ?_
        refine jv_Wp.lift (fun _ Kz => jv_Ev.m jv_i41 (pc' := 72) (st' := []) (G' := (jv_H K (jv_u I19 10 10 (((vl_I p) + (1 : Int32)) + (jv_wfoffset w))) L19 R)) rfl rfl (jv_m_putI hC.k rfl rfl rfl rfl) Kz) ?_
        refine jv_Wp.lift (fun _ Kz => jv_Ev.steps jv_i41 1 (pc' := 73) (l' := [(7, .ref 166), (6, .ref (12 + 2 + (vc_F w).d)), (5, .int (0 : Int32)), (4, .int (vl_I (vc_F w).n)), (0, .ref 10), (1, .int (vl_I p)), (2, .long w)]) (st' := [.ref 10]) rfl Kz) ?_
        refine jv_Wp.lift (fun _ Kz => jv_Ev.m jv_i41 (pc' := 76) (st' := [.ref 89]) (G' := (jv_H K (jv_u I19 10 10 (((vl_I p) + (1 : Int32)) + (jv_wfoffset w))) L19 R)) rfl rfl (jv_m_getR hC.k rfl rfl hC.rjumped) Kz) ?_
        refine jv_Wp.lift (fun _ Kz => jv_Ev.steps jv_i41 1 (pc' := 77) (l' := [(7, .ref 166), (6, .ref (12 + 2 + (vc_F w).d)), (5, .int (0 : Int32)), (4, .int (vl_I (vc_F w).n)), (0, .ref 10), (1, .int (vl_I p)), (2, .long w)]) (st' := [.ref 10, .ref 89]) rfl Kz) ?_
        refine jv_Wp.lift (fun _ Kz => jv_Ev.m jv_i41 (pc' := 80) (st' := [.ref 12, .ref 89]) (G' := (jv_H K (jv_u I19 10 10 (((vl_I p) + (1 : Int32)) + (jv_wfoffset w))) L19 R)) rfl rfl (jv_m_getR hC.k rfl rfl hC.rnow) Kz) ?_
        obtain ⟨I20, L20, H20, T20, O20, F20, G20⟩ := vc_sbec (I := (jv_u I19 10 10 (((vl_I p) + (1 : Int32)) + (jv_wfoffset w)))) (L := L19) (R := R) (n := n) (sl := sl) hC.jumped hC.now (Or.inr (by omega)) (vc_fr_okA (vc_fr_u10 I19 L19 10 _) (fun p z => by unfold vc_in at z; omega) (vc_fr_okA F19 (fun p z => by unfold vc_in at z; omega) oj)) (vc_fr_okA (vc_fr_u10 I19 L19 10 _) (fun p z => by unfold vc_in at z; omega) (vc_fr_okA F19 (fun p z => by unfold vc_in at z; omega) oa))
        refine jv_Wp.lift (fun _ Kz => jv_Ev.c jv_i41 (pc' := 83) (S' := []) (G1 := (jv_H K I20 L20 R)) jv_i112 [.ref 89, .ref 12] rfl rfl rfl rfl (jv_cal rfl (jv_H_at hC.jumped.k) rfl rfl) rfl H20 rfl rfl Kz) ?_
        refine jv_Wp.lift (fun _ Kz => jv_Ev.steps jv_i41 1 (pc' := 85) (l' := [(7, .ref 166), (6, .ref (12 + 2 + (vc_F w).d)), (5, .int (0 : Int32)), (4, .int (vl_I (vc_F w).n)), (0, .ref 10), (1, .int (vl_I p)), (2, .long w)]) (st' := [.ref (12 + 2 + (vc_F w).d)]) rfl Kz) ?_
        refine jv_Wp.lift (fun _ Kz => jv_Ev.m jv_i41 (pc' := 88) (st' := [.int (I20 (12 + 2 + (vc_F w).d) 6)]) (G' := (jv_H K I20 L20 R)) rfl rfl (jv_m_getI (hC.now.kk _ (vw_d75 w)) rfl rfl rfl) Kz) ?_
        refine jv_Wp.lift (fun _ Kz => jv_Ev.steps jv_i41 1 (pc' := 89) (l' := [(7, .ref 166), (6, .ref (12 + 2 + (vc_F w).d)), (5, .int (0 : Int32)), (4, .int (vl_I (vc_F w).n)), (0, .ref 10), (1, .int (vl_I p)), (2, .long w)]) (st' := [.int (1 : Int32), .int (I20 (12 + 2 + (vc_F w).d) 6)]) rfl Kz) ?_
        refine jv_Wp.cnd jv_i41 (pt := 114) (pe := 92) (p := (¬ (I20 (12 + 2 + (vc_F w).d) 6) = (1 : Int32))) (q := (¬ (I20 (12 + 2 + (vc_F w).d) 6) = (1 : Int32))) rfl jv_bc_ne rfl rfl Iff.rfl (fun h4 => ?_) (fun h4 => ?_)
        · refine jv_Wp.loc (l := [(0, .ref 10), (4, .int (vl_I (vc_F w).n)), (5, .int (0 : Int32)), (6, .ref (12 + 2 + (vc_F w).d)), (7, .ref 166)]) ⟨List.forall_mem_cons.mpr ⟨.tail _ (.tail _ (.tail _ (.tail _ (.head _)))), List.forall_mem_cons.mpr ⟨.tail _ (.tail _ (.tail _ (.head _))), List.forall_mem_cons.mpr ⟨.tail _ (.tail _ (.head _)), List.forall_mem_cons.mpr ⟨.tail _ (.head _), List.forall_mem_cons.mpr ⟨.head _, fun _ h => absurd h List.not_mem_nil⟩⟩⟩⟩⟩, by show List.Nodup [7, 6, 5, 4, 0, 1, 2]; decide⟩ ?_
          have FF : vc_fr (fun p => vc_in 89 p ∨ p = 166 ∨ p = 10) I L I20 L20 := vc_fr_trans (vc_fr_mono F19 (fun p z => Or.inr (Or.inl z))) (vc_fr_trans (vc_fr_mono (vc_fr_u10 I19 L19 10 _) (fun p z => Or.inr (Or.inr z))) (vc_fr_mono F20 (fun p z => Or.inl z)))
          have t10 : I20 10 10 = ((vl_I p) + (1 : Int32)) + (jv_wfoffset w) := ((F20 10 (by unfold vc_in; omega)).1 10).trans (jv_u_self _ _ _ _)
          have t9 : I20 10 9 = I 10 9 := ((F20 10 (by unfold vc_in; omega)).1 9).trans ((jv_u_j _ _ _ _ (by decide)).trans ((F19 10 (by omega)).1 9))
          have a12 : vc_A I20 L20 12 = vc_A I L 12 := vc_fr_A FF (fun p z => by unfold vc_in at *; omega)
          have o12 : vc_okA I20 L20 12 := vc_fr_okA FF (fun p z => by unfold vc_in at *; omega) oa
          have a89 : vc_A I20 L20 89 = vc_A I20 L20 12 := T20.trans ((vc_fr_A F20 (fun p z => by unfold vc_in at *; omega)).symm)
          have kD : vc_T I20 L20 (12 + 2 + (vc_F w).d) = (vc_A I20 L20 12).1 (vc_F w).d := (vc_A1 hd75).symm
          have kY : vc_T I20 L20 166 = vx_y (vc_F w) (vc_A I20 L20 12) := by unfold vx_y; rw [if_neg (by rw [hb]; decide)]; exact (vc_fr_T F20 (by unfold vc_in; omega)).trans ((vc_fr_T (vc_fr_u10 I19 L19 10 _) (by omega)).trans T19)
          have okY : vc_ok I20 L20 166 := (vc_fr_ok F20 (by unfold vc_in; omega)).mpr ((vc_fr_ok (vc_fr_u10 I19 L19 10 _) (by omega)).mpr O19)
          have cD : vc_T I20 L20 (12 + 2 + (vc_F w).d) = vc_T I19 L19 (12 + 2 + (vc_F w).d) := (vc_fr_T F20 (by unfold vc_in; omega)).trans (vc_fr_T (vc_fr_u10 I19 L19 10 _) (by omega))
          have cY : vc_T I20 L20 166 = vc_T I19 L19 166 := (vc_fr_T F20 (by unfold vc_in; omega)).trans (vc_fr_T (vc_fr_u10 I19 L19 10 _) (by omega))
          have d0 : ¬ (vc_T I19 L19 (12 + 2 + (vc_F w).d)).sort = 0 := fun z => h2 ((vc_is0 ((vc_fr_ok F19 (by omega)).mpr (oa _ hd75))).mp z)
          have y0 : ¬ (vc_T I19 L19 166).sort = 0 := fun z => h3 ((vc_is0 O19).mp z)
          have d1j : ¬ (vc_T I20 L20 (12 + 2 + (vc_F w).d)).sort = 1 := fun z => h4 ((vc_is1 (o12 _ hd75)).mp z)
          have hwd : false = decide ((vc_F w).kind = 5) := (decide_eq_false (fun z => h1 (by rw [z]; rfl))).symm
          have gP : ∀ q, q < 75 → I20 (12 + 2 + q) 6 = 4 → (vl_S L20 (12 + 2 + q)).low = (vl_S L20 (12 + 2 + q)).high → (L20 (12 + 2 + q) 2).toInt ≤ 1073000000 := fun q hq h4 hs => by
            have z := FF (12 + 2 + q) (fun z => by unfold vc_in at z; omega)
            rw [z.2 2]; rw [vl_S_ext (fun f => z.2 f)] at hs; rw [z.1 6] at h4; exact pA q hq h4 hs
          refine jv_Wp.mono (vc_jtail (I := I20) (L := L20) w false hC hwd (hC.now.kk _ hd75) hC.k166 (o12 _ hd75) okY o12 O20 a89 kD kY (by rw [cD, cY]; omega) (by omega) (gP _ hd75) (fun z => by have q := (vc_is4 okY).mpr z; rw [cY, T19] at q; exact absurd (show (1 : Nat) = 4 from q) (by decide)) rfl) ?_
          rintro X ⟨I9, L9, eX, hT, hO, hF, hG⟩
          rw [a12, t9, t10] at hT
          rw [a12] at eX
          rw [hQ]
          exact ⟨I9, L9, eX, hT, hO, vc_fr_trans (vc_fr_mono FF (fun p z => Or.inr z)) (vc_fr_mono hF (fun p z => z.imp id Or.inl)), fun f => ⟨(hG f).1.trans ((FF 12 (fun z => by unfold vc_in at z; omega)).1 f), (hG f).2.trans ((G20 f).trans (((vc_fr_u10 I19 L19 10 _ 89 (by decide)).1 f).trans ((F19 89 (by decide)).1 f))), fun h9 h10 => ((hF 10 (fun z => by unfold vc_in at z; omega)).1 f).trans (((F20 10 (by unfold vc_in; omega)).1 f).trans ((jv_u_j _ _ _ _ h10).trans ((F19 10 (by omega)).1 f)))⟩⟩
        · refine jv_Wp.lift (fun _ Kz => jv_Ev.steps jv_i41 1 (pc' := 94) (l' := [(7, .ref 166), (6, .ref (12 + 2 + (vc_F w).d)), (5, .int (0 : Int32)), (4, .int (vl_I (vc_F w).n)), (0, .ref 10), (1, .int (vl_I p)), (2, .long w)]) (st' := [.ref 166]) rfl Kz) ?_
          refine jv_Wp.lift (fun _ Kz => jv_Ev.m jv_i41 (pc' := 97) (st' := [.int (I20 166 6)]) (G' := (jv_H K I20 L20 R)) rfl rfl (jv_m_getI hC.k166 rfl rfl rfl) Kz) ?_
          refine jv_Wp.lift (fun _ Kz => jv_Ev.steps jv_i41 1 (pc' := 98) (l' := [(7, .ref 166), (6, .ref (12 + 2 + (vc_F w).d)), (5, .int (0 : Int32)), (4, .int (vl_I (vc_F w).n)), (0, .ref 10), (1, .int (vl_I p)), (2, .long w)]) (st' := [.int (1 : Int32), .int (I20 166 6)]) rfl Kz) ?_
          refine jv_Wp.cnd jv_i41 (pt := 114) (pe := 101) (p := (¬ (I20 166 6) = (1 : Int32))) (q := (¬ (I20 166 6) = (1 : Int32))) rfl jv_bc_ne rfl rfl Iff.rfl (fun h5 => ?_) (fun h5 => ?_)
          · refine jv_Wp.loc (l := [(0, .ref 10), (4, .int (vl_I (vc_F w).n)), (5, .int (0 : Int32)), (6, .ref (12 + 2 + (vc_F w).d)), (7, .ref 166)]) ⟨List.forall_mem_cons.mpr ⟨.tail _ (.tail _ (.tail _ (.tail _ (.head _)))), List.forall_mem_cons.mpr ⟨.tail _ (.tail _ (.tail _ (.head _))), List.forall_mem_cons.mpr ⟨.tail _ (.tail _ (.head _)), List.forall_mem_cons.mpr ⟨.tail _ (.head _), List.forall_mem_cons.mpr ⟨.head _, fun _ h => absurd h List.not_mem_nil⟩⟩⟩⟩⟩, by show List.Nodup [7, 6, 5, 4, 0, 1, 2]; decide⟩ ?_
            have FF : vc_fr (fun p => vc_in 89 p ∨ p = 166 ∨ p = 10) I L I20 L20 := vc_fr_trans (vc_fr_mono F19 (fun p z => Or.inr (Or.inl z))) (vc_fr_trans (vc_fr_mono (vc_fr_u10 I19 L19 10 _) (fun p z => Or.inr (Or.inr z))) (vc_fr_mono F20 (fun p z => Or.inl z)))
            have t10 : I20 10 10 = ((vl_I p) + (1 : Int32)) + (jv_wfoffset w) := ((F20 10 (by unfold vc_in; omega)).1 10).trans (jv_u_self _ _ _ _)
            have t9 : I20 10 9 = I 10 9 := ((F20 10 (by unfold vc_in; omega)).1 9).trans ((jv_u_j _ _ _ _ (by decide)).trans ((F19 10 (by omega)).1 9))
            have a12 : vc_A I20 L20 12 = vc_A I L 12 := vc_fr_A FF (fun p z => by unfold vc_in at *; omega)
            have o12 : vc_okA I20 L20 12 := vc_fr_okA FF (fun p z => by unfold vc_in at *; omega) oa
            have a89 : vc_A I20 L20 89 = vc_A I20 L20 12 := T20.trans ((vc_fr_A F20 (fun p z => by unfold vc_in at *; omega)).symm)
            have kD : vc_T I20 L20 (12 + 2 + (vc_F w).d) = (vc_A I20 L20 12).1 (vc_F w).d := (vc_A1 hd75).symm
            have kY : vc_T I20 L20 166 = vx_y (vc_F w) (vc_A I20 L20 12) := by unfold vx_y; rw [if_neg (by rw [hb]; decide)]; exact (vc_fr_T F20 (by unfold vc_in; omega)).trans ((vc_fr_T (vc_fr_u10 I19 L19 10 _) (by omega)).trans T19)
            have okY : vc_ok I20 L20 166 := (vc_fr_ok F20 (by unfold vc_in; omega)).mpr ((vc_fr_ok (vc_fr_u10 I19 L19 10 _) (by omega)).mpr O19)
            have cD : vc_T I20 L20 (12 + 2 + (vc_F w).d) = vc_T I19 L19 (12 + 2 + (vc_F w).d) := (vc_fr_T F20 (by unfold vc_in; omega)).trans (vc_fr_T (vc_fr_u10 I19 L19 10 _) (by omega))
            have cY : vc_T I20 L20 166 = vc_T I19 L19 166 := (vc_fr_T F20 (by unfold vc_in; omega)).trans (vc_fr_T (vc_fr_u10 I19 L19 10 _) (by omega))
            have d0 : ¬ (vc_T I19 L19 (12 + 2 + (vc_F w).d)).sort = 0 := fun z => h2 ((vc_is0 ((vc_fr_ok F19 (by omega)).mpr (oa _ hd75))).mp z)
            have y0 : ¬ (vc_T I19 L19 166).sort = 0 := fun z => h3 ((vc_is0 O19).mp z)
            have d1j : (vc_T I20 L20 (12 + 2 + (vc_F w).d)).sort = 1 := (vc_is1 (o12 _ hd75)).mpr (Classical.not_not.mp h4)
            have y1j : ¬ (vc_T I20 L20 166).sort = 1 := fun z => h5 ((vc_is1 okY).mp z)
            have hwd : false = decide ((vc_F w).kind = 5) := (decide_eq_false (fun z => h1 (by rw [z]; rfl))).symm
            have gP : ∀ q, q < 75 → I20 (12 + 2 + q) 6 = 4 → (vl_S L20 (12 + 2 + q)).low = (vl_S L20 (12 + 2 + q)).high → (L20 (12 + 2 + q) 2).toInt ≤ 1073000000 := fun q hq h4 hs => by
              have z := FF (12 + 2 + q) (fun z => by unfold vc_in at z; omega)
              rw [z.2 2]; rw [vl_S_ext (fun f => z.2 f)] at hs; rw [z.1 6] at h4; exact pA q hq h4 hs
            refine jv_Wp.mono (vc_jtail (I := I20) (L := L20) w false hC hwd (hC.now.kk _ hd75) hC.k166 (o12 _ hd75) okY o12 O20 a89 kD kY (by rw [cD, cY]; omega) (by omega) (gP _ hd75) (fun z => by have q := (vc_is4 okY).mpr z; rw [cY, T19] at q; exact absurd (show (1 : Nat) = 4 from q) (by decide)) rfl) ?_
            rintro X ⟨I9, L9, eX, hT, hO, hF, hG⟩
            rw [a12, t9, t10] at hT
            rw [a12] at eX
            rw [hQ]
            exact ⟨I9, L9, eX, hT, hO, vc_fr_trans (vc_fr_mono FF (fun p z => Or.inr z)) (vc_fr_mono hF (fun p z => z.imp id Or.inl)), fun f => ⟨(hG f).1.trans ((FF 12 (fun z => by unfold vc_in at z; omega)).1 f), (hG f).2.trans ((G20 f).trans (((vc_fr_u10 I19 L19 10 _ 89 (by decide)).1 f).trans ((F19 89 (by decide)).1 f))), fun h9 h10 => ((hF 10 (fun z => by unfold vc_in at z; omega)).1 f).trans (((F20 10 (by unfold vc_in; omega)).1 f).trans ((jv_u_j _ _ _ _ h10).trans ((F19 10 (by omega)).1 f)))⟩⟩
          · refine jv_Wp.lift (fun _ Kz => jv_Ev.steps jv_i41 5 (pc' := 109) (l' := [(7, .ref 166), (6, .ref (12 + 2 + (vc_F w).d)), (5, .int (0 : Int32)), (4, .int (vl_I (vc_F w).n)), (0, .ref 10), (1, .int (vl_I p)), (2, .long w)]) (st' := [.ref 166, .ref (12 + 2 + (vc_F w).d), .int (0 : Int32), .long w, .ref 10]) rfl Kz) ?_
            have FF : vc_fr (fun p => vc_in 89 p ∨ p = 166 ∨ p = 10) I L I20 L20 := vc_fr_trans (vc_fr_mono F19 (fun p z => Or.inr (Or.inl z))) (vc_fr_trans (vc_fr_mono (vc_fr_u10 I19 L19 10 _) (fun p z => Or.inr (Or.inr z))) (vc_fr_mono F20 (fun p z => Or.inl z)))
            have t10 : I20 10 10 = ((vl_I p) + (1 : Int32)) + (jv_wfoffset w) := ((F20 10 (by unfold vc_in; omega)).1 10).trans (jv_u_self _ _ _ _)
            have t9 : I20 10 9 = I 10 9 := ((F20 10 (by unfold vc_in; omega)).1 9).trans ((jv_u_j _ _ _ _ (by decide)).trans ((F19 10 (by omega)).1 9))
            have a12 : vc_A I20 L20 12 = vc_A I L 12 := vc_fr_A FF (fun p z => by unfold vc_in at *; omega)
            have o12 : vc_okA I20 L20 12 := vc_fr_okA FF (fun p z => by unfold vc_in at *; omega) oa
            have a89 : vc_A I20 L20 89 = vc_A I20 L20 12 := T20.trans ((vc_fr_A F20 (fun p z => by unfold vc_in at *; omega)).symm)
            have kD : vc_T I20 L20 (12 + 2 + (vc_F w).d) = (vc_A I20 L20 12).1 (vc_F w).d := (vc_A1 hd75).symm
            have kY : vc_T I20 L20 166 = vx_y (vc_F w) (vc_A I20 L20 12) := by unfold vx_y; rw [if_neg (by rw [hb]; decide)]; exact (vc_fr_T F20 (by unfold vc_in; omega)).trans ((vc_fr_T (vc_fr_u10 I19 L19 10 _) (by omega)).trans T19)
            have okY : vc_ok I20 L20 166 := (vc_fr_ok F20 (by unfold vc_in; omega)).mpr ((vc_fr_ok (vc_fr_u10 I19 L19 10 _) (by omega)).mpr O19)
            have cD : vc_T I20 L20 (12 + 2 + (vc_F w).d) = vc_T I19 L19 (12 + 2 + (vc_F w).d) := (vc_fr_T F20 (by unfold vc_in; omega)).trans (vc_fr_T (vc_fr_u10 I19 L19 10 _) (by omega))
            have cY : vc_T I20 L20 166 = vc_T I19 L19 166 := (vc_fr_T F20 (by unfold vc_in; omega)).trans (vc_fr_T (vc_fr_u10 I19 L19 10 _) (by omega))
            have d0 : ¬ (vc_T I19 L19 (12 + 2 + (vc_F w).d)).sort = 0 := fun z => h2 ((vc_is0 ((vc_fr_ok F19 (by omega)).mpr (oa _ hd75))).mp z)
            have y0 : ¬ (vc_T I19 L19 166).sort = 0 := fun z => h3 ((vc_is0 O19).mp z)
            have d1j : (vc_T I20 L20 (12 + 2 + (vc_F w).d)).sort = 1 := (vc_is1 (o12 _ hd75)).mpr (Classical.not_not.mp h4)
            have y1j : (vc_T I20 L20 166).sort = 1 := (vc_is1 okY).mpr (Classical.not_not.mp h5)
            obtain ⟨I21, L21, H21, A21, B21, O21, P21, F21, G21⟩ := vc_compareI (I := I20) (L := L20) (R := R) (n := n) (sl := sl) w false hC hct (fun j hj => ((FF (1000000 + 0) (fun z => by unfold vc_in at z; omega)).1 _).trans (hcv j hj)) hst (fun j hj => ((FF (1000000 + 1) (fun z => by unfold vc_in at z; omega)).1 _).trans (hov j hj)) hb o12 O20 a89 (Classical.not_not.mp h4)
            refine jv_Wp.lift (fun _ Kz => jv_Ev.c jv_i41 (pc' := 112) (S' := []) (G1 := (jv_H K I21 L21 R)) jv_i42 [.ref 10, .long w, .int (0 : Int32), .ref (12 + 2 + (vc_F w).d), .ref 166] rfl rfl rfl rfl (jv_cal rfl (jv_H_at hC.k) rfl rfl) rfl H21 rfl rfl Kz) ?_
            refine jv_Wp.lift (fun _ Kz => jv_Ev.steps jv_i41 1 (pc' := 113) (l' := [(7, .ref 166), (6, .ref (12 + 2 + (vc_F w).d)), (5, .int (0 : Int32)), (4, .int (vl_I (vc_F w).n)), (0, .ref 10), (1, .int (vl_I p)), (2, .long w)]) (st' := [.int (0 : Int32)]) rfl Kz) ?_
            refine jv_Wp.loc (l := [(0, .ref 10), (4, .int (vl_I (vc_F w).n)), (5, .int (0 : Int32)), (6, .ref (12 + 2 + (vc_F w).d)), (7, .ref 166)]) ⟨List.forall_mem_cons.mpr ⟨.tail _ (.tail _ (.tail _ (.tail _ (.head _)))), List.forall_mem_cons.mpr ⟨.tail _ (.tail _ (.tail _ (.head _))), List.forall_mem_cons.mpr ⟨.tail _ (.tail _ (.head _)), List.forall_mem_cons.mpr ⟨.tail _ (.head _), List.forall_mem_cons.mpr ⟨.head _, fun _ h => absurd h List.not_mem_nil⟩⟩⟩⟩⟩, by show List.Nodup [7, 6, 5, 4, 0, 1, 2]; decide⟩ ?_
            refine jv_Wp.of (jv_Ev.ret jv_i41 rfl rfl) ?_
            rw [hQ]
            have hwd : false = decide ((vc_F w).kind = 5) := (decide_eq_false (fun z => h1 (by rw [z]; rfl))).symm
            have g1 : ¬ vx_j1 (vc_F w) (vc_A I L 12) := by unfold vx_j1; rw [← a12, ← kD, ← kY]; omega
            have g2 : vx_j2 (vc_F w) (vc_A I L 12) := by unfold vx_j2; rw [← a12, ← kD, ← kY]; omega
            rw [a12] at A21 B21
            rw [t9, t10] at B21
            have yv : vx_yv (vc_F w) (vc_A I L 12) = (if false = true then vx_just (vc_F w).i else vb_just (BitVec.ofInt 64 ((vc_F w).i % 4294967296))) := by unfold vx_yv; rw [if_neg (by rw [hb]; decide), if_neg (of_decide_eq_false hwd.symm), if_neg (by decide)]
            rw [← yv] at A21 B21
            have kw : (false = false) ↔ (vc_F w).kind ≠ 5 := ⟨fun _ => of_decide_eq_false hwd.symm, fun _ => rfl⟩
            have cc : ((false = false ∧ ¬ (vx_small ((vc_A I L 12).1 (vc_F w).d).val = true ∧ vx_small (vx_yv (vc_F w) (vc_A I L 12)) = true))) ↔ (((vc_F w).bit3 = true ∧ (vc_F w).d = (vc_F w).s) ∨ ((vc_F w).kind ≠ 5 ∧ ¬ (vx_small ((vc_A I L 12).1 (vc_F w).d).val = true ∧ vx_small (vx_yv (vc_F w) (vc_A I L 12)) = true))) := by
              rw [kw]; exact ⟨fun z => Or.inr z, fun z => z.elim (fun z => absurd (hb.symm.trans z.1) (by decide)) id⟩
            have rc : (vx_jump (vc_F w) (vc_A I L 12)).1 = 0 := by
              by_cases c : (((vc_F w).bit3 = true ∧ (vc_F w).d = (vc_F w).s) ∨ ((vc_F w).kind ≠ 5 ∧ ¬ (vx_small ((vc_A I L 12).1 (vc_F w).d).val = true ∧ vx_small (vx_yv (vc_F w) (vc_A I L 12)) = true)))
              · rw [vx_jp2 g1 g2 c]
              · rw [vx_jp2' g1 g2 c]
            refine ⟨_, _, by rw [rc]; rfl, fun _ => ?_, P21, vc_fr_trans (vc_fr_mono FF (fun p z => Or.inr z)) F21, fun f => ?_⟩
            · by_cases c : (((vc_F w).bit3 = true ∧ (vc_F w).d = (vc_F w).s) ∨ ((vc_F w).kind ≠ 5 ∧ ¬ (vx_small ((vc_A I L 12).1 (vc_F w).d).val = true ∧ vx_small (vx_yv (vc_F w) (vc_A I L 12)) = true)))
              · rw [vx_jp2 g1 g2 c]
                have q := A21 (cc.mpr c)
                exact vc_jp_some ((q.2.2 9).trans t9) ((q.2.2 10).trans t10) q.1 q.2.1 O21 P21
              · rw [vx_jp2' g1 g2 c]
                have q := B21 (fun z => c (cc.mp z))
                exact vc_jp_map q.1 q.2.1 q.2.2.2 q.2.2.1 O21 P21
            · exact ⟨(G21 f).1.trans ((FF 12 (fun z => by unfold vc_in at z; omega)).1 f), (G21 f).2.1.trans ((G20 f).trans (((vc_fr_u10 I19 L19 10 _ 89 (by decide)).1 f).trans ((F19 89 (by decide)).1 f))), fun h9 h10 => ((G21 f).2.2 h9 h10).trans (((F20 10 (by unfold vc_in; omega)).1 f).trans ((jv_u_j _ _ _ _ h10).trans ((F19 10 (by omega)).1 f)))⟩
      · refine jv_Wp.lift (fun _ Kz => jv_Ev.steps jv_i41 1 (pc' := 59) (l' := [(7, .ref 166), (6, .ref (12 + 2 + (vc_F w).d)), (5, .int (0 : Int32)), (4, .int (vl_I (vc_F w).n)), (0, .ref 10), (1, .int (vl_I p)), (2, .long w)]) (st' := [.int (1 : Int32)]) rfl Kz) ?_
        refine jv_Wp.loc (l := [(0, .ref 10), (4, .int (vl_I (vc_F w).n)), (5, .int (0 : Int32)), (6, .ref (12 + 2 + (vc_F w).d)), (7, .ref 166)]) ⟨List.forall_mem_cons.mpr ⟨.tail _ (.tail _ (.tail _ (.tail _ (.head _)))), List.forall_mem_cons.mpr ⟨.tail _ (.tail _ (.tail _ (.head _))), List.forall_mem_cons.mpr ⟨.tail _ (.tail _ (.head _)), List.forall_mem_cons.mpr ⟨.tail _ (.head _), List.forall_mem_cons.mpr ⟨.head _, fun _ h => absurd h List.not_mem_nil⟩⟩⟩⟩⟩, by show List.Nodup [7, 6, 5, 4, 0, 1, 2]; decide⟩ ?_
        refine jv_Wp.of (jv_Ev.ret jv_i41 rfl rfl) ?_
        rw [hQ]
        have d0 : ¬ (vc_T I19 L19 (12 + 2 + (vc_F w).d)).sort = 0 := fun z => h2 ((vc_is0 ((vc_fr_ok F19 (by omega)).mpr (oa _ hd75))).mp z)
        have y0 : (vc_T I19 L19 166).sort = 0 := (vc_is0 O19).mpr (Classical.not_not.mp h3)
        have g : vx_j1 (vc_F w) (vc_A I L 12) := by unfold vx_j1 vx_y; rw [if_neg (by rw [hb]; decide), vc_A1 hd75, ← T19, ← vc_fr_T F19 (o := (12 + 2 + (vc_F w).d)) (by omega)]; omega
        have e := vx_jp1 g
        exact ⟨_, _, by rw [e]; rfl, fun z => by rw [e] at z; exact absurd (show (1 : Nat) = 0 from z) (by decide), vc_fr_okA F19 (fun p z => by unfold vc_in at z; omega) oj, vc_fr_mono F19 (fun p z => Or.inr (Or.inr (Or.inl z))), fun f => ⟨(F19 12 (by decide)).1 f, (F19 89 (by decide)).1 f, fun _ _ => (F19 10 (by decide)).1 f⟩⟩
  · refine jv_Wp.lift (fun _ Kz => jv_Ev.steps jv_i41 4 (pc' := 22) (l' := [(5, .int (1 : Int32)), (4, .int (vl_I (vc_F w).n)), (0, .ref 10), (1, .int (vl_I p)), (2, .long w)]) (st' := [.ref 10]) rfl Kz) ?_
    refine jv_Wp.lift (fun _ Kz => jv_Ev.m jv_i41 (pc' := 25) (st' := [.ref 12]) (G' := (jv_H K I L R)) rfl rfl (jv_m_getR hC.k rfl rfl hC.rnow) Kz) ?_
    refine jv_Wp.lift (fun _ Kz => jv_Ev.m jv_i41 (pc' := 28) (st' := [.ref (12 + 1)]) (G' := (jv_H K I L R)) rfl rfl (jv_m_getR hC.now.k rfl rfl hC.now.r) Kz) ?_
    refine jv_Wp.lift (fun _ Kz => jv_Ev.steps jv_i41 1 (pc' := 29) (l' := [(5, .int (1 : Int32)), (4, .int (vl_I (vc_F w).n)), (0, .ref 10), (1, .int (vl_I p)), (2, .long w)]) (st' := [.long w, .ref (12 + 1)]) rfl Kz) ?_
    refine jv_Wp.lift (fun _ Kz => jv_Ev.c jv_i41 (pc' := 32) (S' := [.int (vl_I (vc_F w).d), .ref (12 + 1)]) jv_i86 [.long w] rfl rfl rfl rfl rfl rfl (vw_m86 w) rfl rfl Kz) ?_
    refine jv_Wp.lift (fun _ Kz => jv_Ev.m jv_i41 (pc' := 33) (st' := [.ref (12 + 2 + (vc_F w).d)]) (G' := (jv_H K I L R)) rfl rfl (jv_m_aaldR hC.now.kt rfl (vl_I_ix (vw_d75 w) (by decide)) rfl (vc_St_rt hC.now (vw_d75 w))) Kz) ?_
    refine jv_Wp.lift (fun _ Kz => jv_Ev.steps jv_i41 3 (pc' := 37) (l' := [(6, .ref (12 + 2 + (vc_F w).d)), (5, .int (1 : Int32)), (4, .int (vl_I (vc_F w).n)), (0, .ref 10), (1, .int (vl_I p)), (2, .long w)]) (st' := [.long w, .ref 10]) rfl Kz) ?_
    obtain ⟨I22, L22, H22, T22, O22, F22⟩ := vc_opI (I := I) (L := L) (R := R) (n := n) (sl := sl) w hC hb
    refine jv_Wp.lift (fun _ Kz => jv_Ev.c jv_i41 (pc' := 40) (S' := [.ref 166]) (G1 := (jv_H K I22 L22 R)) jv_i27 [.ref 10, .long w] rfl rfl rfl rfl (jv_cal rfl (jv_H_at hC.k) rfl rfl) rfl H22 rfl rfl Kz) ?_
    refine jv_Wp.lift (fun _ Kz => jv_Ev.steps jv_i41 2 (pc' := 44) (l' := [(7, .ref 166), (6, .ref (12 + 2 + (vc_F w).d)), (5, .int (1 : Int32)), (4, .int (vl_I (vc_F w).n)), (0, .ref 10), (1, .int (vl_I p)), (2, .long w)]) (st' := [.ref (12 + 2 + (vc_F w).d)]) rfl Kz) ?_
    refine jv_Wp.lift (fun _ Kz => jv_Ev.m jv_i41 (pc' := 47) (st' := [.int (I22 (12 + 2 + (vc_F w).d) 6)]) (G' := (jv_H K I22 L22 R)) rfl rfl (jv_m_getI (hC.now.kk _ (vw_d75 w)) rfl rfl rfl) Kz) ?_
    refine jv_Wp.cnd jv_i41 (pt := 58) (pe := 50) (p := ((I22 (12 + 2 + (vc_F w).d) 6) = 0)) (q := ((I22 (12 + 2 + (vc_F w).d) 6) = 0)) rfl jv_bi_eq rfl rfl Iff.rfl (fun h6 => ?_) (fun h6 => ?_)
    · refine jv_Wp.lift (fun _ Kz => jv_Ev.steps jv_i41 1 (pc' := 59) (l' := [(7, .ref 166), (6, .ref (12 + 2 + (vc_F w).d)), (5, .int (1 : Int32)), (4, .int (vl_I (vc_F w).n)), (0, .ref 10), (1, .int (vl_I p)), (2, .long w)]) (st' := [.int (1 : Int32)]) rfl Kz) ?_
      refine jv_Wp.loc (l := [(0, .ref 10), (4, .int (vl_I (vc_F w).n)), (5, .int (1 : Int32)), (6, .ref (12 + 2 + (vc_F w).d)), (7, .ref 166)]) ⟨List.forall_mem_cons.mpr ⟨.tail _ (.tail _ (.tail _ (.tail _ (.head _)))), List.forall_mem_cons.mpr ⟨.tail _ (.tail _ (.tail _ (.head _))), List.forall_mem_cons.mpr ⟨.tail _ (.tail _ (.head _)), List.forall_mem_cons.mpr ⟨.tail _ (.head _), List.forall_mem_cons.mpr ⟨.head _, fun _ h => absurd h List.not_mem_nil⟩⟩⟩⟩⟩, by show List.Nodup [7, 6, 5, 4, 0, 1, 2]; decide⟩ ?_
      refine jv_Wp.of (jv_Ev.ret jv_i41 rfl rfl) ?_
      rw [hQ]
      have d0 : (vc_T I22 L22 (12 + 2 + (vc_F w).d)).sort = 0 := (vc_is0 ((vc_fr_ok F22 (by omega)).mpr (oa _ hd75))).mpr h6
      have g : vx_j1 (vc_F w) (vc_A I L 12) := by unfold vx_j1 vx_y; rw [if_neg (by rw [hb]; decide), vc_A1 hd75, ← T22, ← vc_fr_T F22 (o := (12 + 2 + (vc_F w).d)) (by omega)]; omega
      have e := vx_jp1 g
      exact ⟨_, _, by rw [e]; rfl, fun z => by rw [e] at z; exact absurd (show (1 : Nat) = 0 from z) (by decide), vc_fr_okA F22 (fun p z => by unfold vc_in at z; omega) oj, vc_fr_mono F22 (fun p z => Or.inr (Or.inr (Or.inl z))), fun f => ⟨(F22 12 (by decide)).1 f, (F22 89 (by decide)).1 f, fun _ _ => (F22 10 (by decide)).1 f⟩⟩
    · refine jv_Wp.lift (fun _ Kz => jv_Ev.steps jv_i41 1 (pc' := 52) (l' := [(7, .ref 166), (6, .ref (12 + 2 + (vc_F w).d)), (5, .int (1 : Int32)), (4, .int (vl_I (vc_F w).n)), (0, .ref 10), (1, .int (vl_I p)), (2, .long w)]) (st' := [.ref 166]) rfl Kz) ?_
      refine jv_Wp.lift (fun _ Kz => jv_Ev.m jv_i41 (pc' := 55) (st' := [.int (I22 166 6)]) (G' := (jv_H K I22 L22 R)) rfl rfl (jv_m_getI hC.k166 rfl rfl rfl) Kz) ?_
      refine jv_Wp.cnd jv_i41 (pt := 60) (pe := 58) (p := (¬ (I22 166 6) = 0)) (q := (¬ (I22 166 6) = 0)) rfl jv_bi_ne rfl rfl Iff.rfl (fun h7 => ?_) (fun h7 => ?_)
      · refine jv_Wp.lift (fun _ Kz => jv_Ev.steps jv_i41 5 (pc' := 65) (l' := [(7, .ref 166), (6, .ref (12 + 2 + (vc_F w).d)), (5, .int (1 : Int32)), (4, .int (vl_I (vc_F w).n)), (0, .ref 10), (1, .int (vl_I p)), (2, .long w)]) (st' := [.long w, .int ((vl_I p) + (1 : Int32)), .ref 10]) rfl Kz) ?_
        refine jv_Wp.lift (fun _ Kz => jv_Ev.c jv_i41 (pc' := 68) (S' := [.int (jv_wfoffset w), .int ((vl_I p) + (1 : Int32)), .ref 10]) jv_i88 [.long w] rfl rfl rfl rfl rfl rfl (jv_s88 w) rfl rfl Kz) ?_
        refine jv_Wp.lift (fun _ Kz => jv_Ev.steps jv_i41 1 (pc' := 69) (l' := [(7, .ref 166), (6, .ref (12 + 2 + (vc_F w).d)), (5, .int (1 : Int32)), (4, .int (vl_I (vc_F w).n)), (0, .ref 10), (1, .int (vl_I p)), (2, .long w)]) (st' := [.int (((vl_I p) + (1 : Int32)) + (jv_wfoffset w)), .ref 10]) rfl Kz) ?_
        refine jv_Wp.lift (fun _ Kz => jv_Ev.m jv_i41 (pc' := 72) (st' := []) (G' := (jv_H K (jv_u I22 10 10 (((vl_I p) + (1 : Int32)) + (jv_wfoffset w))) L22 R)) rfl rfl (jv_m_putI hC.k rfl rfl rfl rfl) Kz) ?_
        refine jv_Wp.lift (fun _ Kz => jv_Ev.steps jv_i41 1 (pc' := 73) (l' := [(7, .ref 166), (6, .ref (12 + 2 + (vc_F w).d)), (5, .int (1 : Int32)), (4, .int (vl_I (vc_F w).n)), (0, .ref 10), (1, .int (vl_I p)), (2, .long w)]) (st' := [.ref 10]) rfl Kz) ?_
        refine jv_Wp.lift (fun _ Kz => jv_Ev.m jv_i41 (pc' := 76) (st' := [.ref 89]) (G' := (jv_H K (jv_u I22 10 10 (((vl_I p) + (1 : Int32)) + (jv_wfoffset w))) L22 R)) rfl rfl (jv_m_getR hC.k rfl rfl hC.rjumped) Kz) ?_
        refine jv_Wp.lift (fun _ Kz => jv_Ev.steps jv_i41 1 (pc' := 77) (l' := [(7, .ref 166), (6, .ref (12 + 2 + (vc_F w).d)), (5, .int (1 : Int32)), (4, .int (vl_I (vc_F w).n)), (0, .ref 10), (1, .int (vl_I p)), (2, .long w)]) (st' := [.ref 10, .ref 89]) rfl Kz) ?_
        refine jv_Wp.lift (fun _ Kz => jv_Ev.m jv_i41 (pc' := 80) (st' := [.ref 12, .ref 89]) (G' := (jv_H K (jv_u I22 10 10 (((vl_I p) + (1 : Int32)) + (jv_wfoffset w))) L22 R)) rfl rfl (jv_m_getR hC.k rfl rfl hC.rnow) Kz) ?_
        obtain ⟨I23, L23, H23, T23, O23, F23, G23⟩ := vc_sbec (I := (jv_u I22 10 10 (((vl_I p) + (1 : Int32)) + (jv_wfoffset w)))) (L := L22) (R := R) (n := n) (sl := sl) hC.jumped hC.now (Or.inr (by omega)) (vc_fr_okA (vc_fr_u10 I22 L22 10 _) (fun p z => by unfold vc_in at z; omega) (vc_fr_okA F22 (fun p z => by unfold vc_in at z; omega) oj)) (vc_fr_okA (vc_fr_u10 I22 L22 10 _) (fun p z => by unfold vc_in at z; omega) (vc_fr_okA F22 (fun p z => by unfold vc_in at z; omega) oa))
        refine jv_Wp.lift (fun _ Kz => jv_Ev.c jv_i41 (pc' := 83) (S' := []) (G1 := (jv_H K I23 L23 R)) jv_i112 [.ref 89, .ref 12] rfl rfl rfl rfl (jv_cal rfl (jv_H_at hC.jumped.k) rfl rfl) rfl H23 rfl rfl Kz) ?_
        refine jv_Wp.lift (fun _ Kz => jv_Ev.steps jv_i41 1 (pc' := 85) (l' := [(7, .ref 166), (6, .ref (12 + 2 + (vc_F w).d)), (5, .int (1 : Int32)), (4, .int (vl_I (vc_F w).n)), (0, .ref 10), (1, .int (vl_I p)), (2, .long w)]) (st' := [.ref (12 + 2 + (vc_F w).d)]) rfl Kz) ?_
        refine jv_Wp.lift (fun _ Kz => jv_Ev.m jv_i41 (pc' := 88) (st' := [.int (I23 (12 + 2 + (vc_F w).d) 6)]) (G' := (jv_H K I23 L23 R)) rfl rfl (jv_m_getI (hC.now.kk _ (vw_d75 w)) rfl rfl rfl) Kz) ?_
        refine jv_Wp.lift (fun _ Kz => jv_Ev.steps jv_i41 1 (pc' := 89) (l' := [(7, .ref 166), (6, .ref (12 + 2 + (vc_F w).d)), (5, .int (1 : Int32)), (4, .int (vl_I (vc_F w).n)), (0, .ref 10), (1, .int (vl_I p)), (2, .long w)]) (st' := [.int (1 : Int32), .int (I23 (12 + 2 + (vc_F w).d) 6)]) rfl Kz) ?_
        refine jv_Wp.cnd jv_i41 (pt := 114) (pe := 92) (p := (¬ (I23 (12 + 2 + (vc_F w).d) 6) = (1 : Int32))) (q := (¬ (I23 (12 + 2 + (vc_F w).d) 6) = (1 : Int32))) rfl jv_bc_ne rfl rfl Iff.rfl (fun h8 => ?_) (fun h8 => ?_)
        · refine jv_Wp.loc (l := [(0, .ref 10), (4, .int (vl_I (vc_F w).n)), (5, .int (1 : Int32)), (6, .ref (12 + 2 + (vc_F w).d)), (7, .ref 166)]) ⟨List.forall_mem_cons.mpr ⟨.tail _ (.tail _ (.tail _ (.tail _ (.head _)))), List.forall_mem_cons.mpr ⟨.tail _ (.tail _ (.tail _ (.head _))), List.forall_mem_cons.mpr ⟨.tail _ (.tail _ (.head _)), List.forall_mem_cons.mpr ⟨.tail _ (.head _), List.forall_mem_cons.mpr ⟨.head _, fun _ h => absurd h List.not_mem_nil⟩⟩⟩⟩⟩, by show List.Nodup [7, 6, 5, 4, 0, 1, 2]; decide⟩ ?_
          have FF : vc_fr (fun p => vc_in 89 p ∨ p = 166 ∨ p = 10) I L I23 L23 := vc_fr_trans (vc_fr_mono F22 (fun p z => Or.inr (Or.inl z))) (vc_fr_trans (vc_fr_mono (vc_fr_u10 I22 L22 10 _) (fun p z => Or.inr (Or.inr z))) (vc_fr_mono F23 (fun p z => Or.inl z)))
          have t10 : I23 10 10 = ((vl_I p) + (1 : Int32)) + (jv_wfoffset w) := ((F23 10 (by unfold vc_in; omega)).1 10).trans (jv_u_self _ _ _ _)
          have t9 : I23 10 9 = I 10 9 := ((F23 10 (by unfold vc_in; omega)).1 9).trans ((jv_u_j _ _ _ _ (by decide)).trans ((F22 10 (by omega)).1 9))
          have a12 : vc_A I23 L23 12 = vc_A I L 12 := vc_fr_A FF (fun p z => by unfold vc_in at *; omega)
          have o12 : vc_okA I23 L23 12 := vc_fr_okA FF (fun p z => by unfold vc_in at *; omega) oa
          have a89 : vc_A I23 L23 89 = vc_A I23 L23 12 := T23.trans ((vc_fr_A F23 (fun p z => by unfold vc_in at *; omega)).symm)
          have kD : vc_T I23 L23 (12 + 2 + (vc_F w).d) = (vc_A I23 L23 12).1 (vc_F w).d := (vc_A1 hd75).symm
          have kY : vc_T I23 L23 166 = vx_y (vc_F w) (vc_A I23 L23 12) := by unfold vx_y; rw [if_neg (by rw [hb]; decide)]; exact (vc_fr_T F23 (by unfold vc_in; omega)).trans ((vc_fr_T (vc_fr_u10 I22 L22 10 _) (by omega)).trans T22)
          have okY : vc_ok I23 L23 166 := (vc_fr_ok F23 (by unfold vc_in; omega)).mpr ((vc_fr_ok (vc_fr_u10 I22 L22 10 _) (by omega)).mpr O22)
          have cD : vc_T I23 L23 (12 + 2 + (vc_F w).d) = vc_T I22 L22 (12 + 2 + (vc_F w).d) := (vc_fr_T F23 (by unfold vc_in; omega)).trans (vc_fr_T (vc_fr_u10 I22 L22 10 _) (by omega))
          have cY : vc_T I23 L23 166 = vc_T I22 L22 166 := (vc_fr_T F23 (by unfold vc_in; omega)).trans (vc_fr_T (vc_fr_u10 I22 L22 10 _) (by omega))
          have d0 : ¬ (vc_T I22 L22 (12 + 2 + (vc_F w).d)).sort = 0 := fun z => h6 ((vc_is0 ((vc_fr_ok F22 (by omega)).mpr (oa _ hd75))).mp z)
          have y0 : ¬ (vc_T I22 L22 166).sort = 0 := fun z => h7 ((vc_is0 O22).mp z)
          have d1j : ¬ (vc_T I23 L23 (12 + 2 + (vc_F w).d)).sort = 1 := fun z => h8 ((vc_is1 (o12 _ hd75)).mp z)
          have hwd : true = decide ((vc_F w).kind = 5) := (decide_eq_true ((vl_I_inj (by have := vw_k8 w; omega) (by decide)).mp (Classical.not_not.mp h1))).symm
          have gP : ∀ q, q < 75 → I23 (12 + 2 + q) 6 = 4 → (vl_S L23 (12 + 2 + q)).low = (vl_S L23 (12 + 2 + q)).high → (L23 (12 + 2 + q) 2).toInt ≤ 1073000000 := fun q hq h4 hs => by
            have z := FF (12 + 2 + q) (fun z => by unfold vc_in at z; omega)
            rw [z.2 2]; rw [vl_S_ext (fun f => z.2 f)] at hs; rw [z.1 6] at h4; exact pA q hq h4 hs
          refine jv_Wp.mono (vc_jtail (I := I23) (L := L23) w true hC hwd (hC.now.kk _ hd75) hC.k166 (o12 _ hd75) okY o12 O23 a89 kD kY (by rw [cD, cY]; omega) (by omega) (gP _ hd75) (fun z => by have q := (vc_is4 okY).mpr z; rw [cY, T22] at q; exact absurd (show (1 : Nat) = 4 from q) (by decide)) rfl) ?_
          rintro X ⟨I9, L9, eX, hT, hO, hF, hG⟩
          rw [a12, t9, t10] at hT
          rw [a12] at eX
          rw [hQ]
          exact ⟨I9, L9, eX, hT, hO, vc_fr_trans (vc_fr_mono FF (fun p z => Or.inr z)) (vc_fr_mono hF (fun p z => z.imp id Or.inl)), fun f => ⟨(hG f).1.trans ((FF 12 (fun z => by unfold vc_in at z; omega)).1 f), (hG f).2.trans ((G23 f).trans (((vc_fr_u10 I22 L22 10 _ 89 (by decide)).1 f).trans ((F22 89 (by decide)).1 f))), fun h9 h10 => ((hF 10 (fun z => by unfold vc_in at z; omega)).1 f).trans (((F23 10 (by unfold vc_in; omega)).1 f).trans ((jv_u_j _ _ _ _ h10).trans ((F22 10 (by omega)).1 f)))⟩⟩
        · refine jv_Wp.lift (fun _ Kz => jv_Ev.steps jv_i41 1 (pc' := 94) (l' := [(7, .ref 166), (6, .ref (12 + 2 + (vc_F w).d)), (5, .int (1 : Int32)), (4, .int (vl_I (vc_F w).n)), (0, .ref 10), (1, .int (vl_I p)), (2, .long w)]) (st' := [.ref 166]) rfl Kz) ?_
          refine jv_Wp.lift (fun _ Kz => jv_Ev.m jv_i41 (pc' := 97) (st' := [.int (I23 166 6)]) (G' := (jv_H K I23 L23 R)) rfl rfl (jv_m_getI hC.k166 rfl rfl rfl) Kz) ?_
          refine jv_Wp.lift (fun _ Kz => jv_Ev.steps jv_i41 1 (pc' := 98) (l' := [(7, .ref 166), (6, .ref (12 + 2 + (vc_F w).d)), (5, .int (1 : Int32)), (4, .int (vl_I (vc_F w).n)), (0, .ref 10), (1, .int (vl_I p)), (2, .long w)]) (st' := [.int (1 : Int32), .int (I23 166 6)]) rfl Kz) ?_
          refine jv_Wp.cnd jv_i41 (pt := 114) (pe := 101) (p := (¬ (I23 166 6) = (1 : Int32))) (q := (¬ (I23 166 6) = (1 : Int32))) rfl jv_bc_ne rfl rfl Iff.rfl (fun h9 => ?_) (fun h9 => ?_)
          · refine jv_Wp.loc (l := [(0, .ref 10), (4, .int (vl_I (vc_F w).n)), (5, .int (1 : Int32)), (6, .ref (12 + 2 + (vc_F w).d)), (7, .ref 166)]) ⟨List.forall_mem_cons.mpr ⟨.tail _ (.tail _ (.tail _ (.tail _ (.head _)))), List.forall_mem_cons.mpr ⟨.tail _ (.tail _ (.tail _ (.head _))), List.forall_mem_cons.mpr ⟨.tail _ (.tail _ (.head _)), List.forall_mem_cons.mpr ⟨.tail _ (.head _), List.forall_mem_cons.mpr ⟨.head _, fun _ h => absurd h List.not_mem_nil⟩⟩⟩⟩⟩, by show List.Nodup [7, 6, 5, 4, 0, 1, 2]; decide⟩ ?_
            have FF : vc_fr (fun p => vc_in 89 p ∨ p = 166 ∨ p = 10) I L I23 L23 := vc_fr_trans (vc_fr_mono F22 (fun p z => Or.inr (Or.inl z))) (vc_fr_trans (vc_fr_mono (vc_fr_u10 I22 L22 10 _) (fun p z => Or.inr (Or.inr z))) (vc_fr_mono F23 (fun p z => Or.inl z)))
            have t10 : I23 10 10 = ((vl_I p) + (1 : Int32)) + (jv_wfoffset w) := ((F23 10 (by unfold vc_in; omega)).1 10).trans (jv_u_self _ _ _ _)
            have t9 : I23 10 9 = I 10 9 := ((F23 10 (by unfold vc_in; omega)).1 9).trans ((jv_u_j _ _ _ _ (by decide)).trans ((F22 10 (by omega)).1 9))
            have a12 : vc_A I23 L23 12 = vc_A I L 12 := vc_fr_A FF (fun p z => by unfold vc_in at *; omega)
            have o12 : vc_okA I23 L23 12 := vc_fr_okA FF (fun p z => by unfold vc_in at *; omega) oa
            have a89 : vc_A I23 L23 89 = vc_A I23 L23 12 := T23.trans ((vc_fr_A F23 (fun p z => by unfold vc_in at *; omega)).symm)
            have kD : vc_T I23 L23 (12 + 2 + (vc_F w).d) = (vc_A I23 L23 12).1 (vc_F w).d := (vc_A1 hd75).symm
            have kY : vc_T I23 L23 166 = vx_y (vc_F w) (vc_A I23 L23 12) := by unfold vx_y; rw [if_neg (by rw [hb]; decide)]; exact (vc_fr_T F23 (by unfold vc_in; omega)).trans ((vc_fr_T (vc_fr_u10 I22 L22 10 _) (by omega)).trans T22)
            have okY : vc_ok I23 L23 166 := (vc_fr_ok F23 (by unfold vc_in; omega)).mpr ((vc_fr_ok (vc_fr_u10 I22 L22 10 _) (by omega)).mpr O22)
            have cD : vc_T I23 L23 (12 + 2 + (vc_F w).d) = vc_T I22 L22 (12 + 2 + (vc_F w).d) := (vc_fr_T F23 (by unfold vc_in; omega)).trans (vc_fr_T (vc_fr_u10 I22 L22 10 _) (by omega))
            have cY : vc_T I23 L23 166 = vc_T I22 L22 166 := (vc_fr_T F23 (by unfold vc_in; omega)).trans (vc_fr_T (vc_fr_u10 I22 L22 10 _) (by omega))
            have d0 : ¬ (vc_T I22 L22 (12 + 2 + (vc_F w).d)).sort = 0 := fun z => h6 ((vc_is0 ((vc_fr_ok F22 (by omega)).mpr (oa _ hd75))).mp z)
            have y0 : ¬ (vc_T I22 L22 166).sort = 0 := fun z => h7 ((vc_is0 O22).mp z)
            have d1j : (vc_T I23 L23 (12 + 2 + (vc_F w).d)).sort = 1 := (vc_is1 (o12 _ hd75)).mpr (Classical.not_not.mp h8)
            have y1j : ¬ (vc_T I23 L23 166).sort = 1 := fun z => h9 ((vc_is1 okY).mp z)
            have hwd : true = decide ((vc_F w).kind = 5) := (decide_eq_true ((vl_I_inj (by have := vw_k8 w; omega) (by decide)).mp (Classical.not_not.mp h1))).symm
            have gP : ∀ q, q < 75 → I23 (12 + 2 + q) 6 = 4 → (vl_S L23 (12 + 2 + q)).low = (vl_S L23 (12 + 2 + q)).high → (L23 (12 + 2 + q) 2).toInt ≤ 1073000000 := fun q hq h4 hs => by
              have z := FF (12 + 2 + q) (fun z => by unfold vc_in at z; omega)
              rw [z.2 2]; rw [vl_S_ext (fun f => z.2 f)] at hs; rw [z.1 6] at h4; exact pA q hq h4 hs
            refine jv_Wp.mono (vc_jtail (I := I23) (L := L23) w true hC hwd (hC.now.kk _ hd75) hC.k166 (o12 _ hd75) okY o12 O23 a89 kD kY (by rw [cD, cY]; omega) (by omega) (gP _ hd75) (fun z => by have q := (vc_is4 okY).mpr z; rw [cY, T22] at q; exact absurd (show (1 : Nat) = 4 from q) (by decide)) rfl) ?_
            rintro X ⟨I9, L9, eX, hT, hO, hF, hG⟩
            rw [a12, t9, t10] at hT
            rw [a12] at eX
            rw [hQ]
            exact ⟨I9, L9, eX, hT, hO, vc_fr_trans (vc_fr_mono FF (fun p z => Or.inr z)) (vc_fr_mono hF (fun p z => z.imp id Or.inl)), fun f => ⟨(hG f).1.trans ((FF 12 (fun z => by unfold vc_in at z; omega)).1 f), (hG f).2.trans ((G23 f).trans (((vc_fr_u10 I22 L22 10 _ 89 (by decide)).1 f).trans ((F22 89 (by decide)).1 f))), fun h9 h10 => ((hF 10 (fun z => by unfold vc_in at z; omega)).1 f).trans (((F23 10 (by unfold vc_in; omega)).1 f).trans ((jv_u_j _ _ _ _ h10).trans ((F22 10 (by omega)).1 f)))⟩⟩
          · refine jv_Wp.lift (fun _ Kz => jv_Ev.steps jv_i41 5 (pc' := 109) (l' := [(7, .ref 166), (6, .ref (12 + 2 + (vc_F w).d)), (5, .int (1 : Int32)), (4, .int (vl_I (vc_F w).n)), (0, .ref 10), (1, .int (vl_I p)), (2, .long w)]) (st' := [.ref 166, .ref (12 + 2 + (vc_F w).d), .int (1 : Int32), .long w, .ref 10]) rfl Kz) ?_
            have FF : vc_fr (fun p => vc_in 89 p ∨ p = 166 ∨ p = 10) I L I23 L23 := vc_fr_trans (vc_fr_mono F22 (fun p z => Or.inr (Or.inl z))) (vc_fr_trans (vc_fr_mono (vc_fr_u10 I22 L22 10 _) (fun p z => Or.inr (Or.inr z))) (vc_fr_mono F23 (fun p z => Or.inl z)))
            have t10 : I23 10 10 = ((vl_I p) + (1 : Int32)) + (jv_wfoffset w) := ((F23 10 (by unfold vc_in; omega)).1 10).trans (jv_u_self _ _ _ _)
            have t9 : I23 10 9 = I 10 9 := ((F23 10 (by unfold vc_in; omega)).1 9).trans ((jv_u_j _ _ _ _ (by decide)).trans ((F22 10 (by omega)).1 9))
            have a12 : vc_A I23 L23 12 = vc_A I L 12 := vc_fr_A FF (fun p z => by unfold vc_in at *; omega)
            have o12 : vc_okA I23 L23 12 := vc_fr_okA FF (fun p z => by unfold vc_in at *; omega) oa
            have a89 : vc_A I23 L23 89 = vc_A I23 L23 12 := T23.trans ((vc_fr_A F23 (fun p z => by unfold vc_in at *; omega)).symm)
            have kD : vc_T I23 L23 (12 + 2 + (vc_F w).d) = (vc_A I23 L23 12).1 (vc_F w).d := (vc_A1 hd75).symm
            have kY : vc_T I23 L23 166 = vx_y (vc_F w) (vc_A I23 L23 12) := by unfold vx_y; rw [if_neg (by rw [hb]; decide)]; exact (vc_fr_T F23 (by unfold vc_in; omega)).trans ((vc_fr_T (vc_fr_u10 I22 L22 10 _) (by omega)).trans T22)
            have okY : vc_ok I23 L23 166 := (vc_fr_ok F23 (by unfold vc_in; omega)).mpr ((vc_fr_ok (vc_fr_u10 I22 L22 10 _) (by omega)).mpr O22)
            have cD : vc_T I23 L23 (12 + 2 + (vc_F w).d) = vc_T I22 L22 (12 + 2 + (vc_F w).d) := (vc_fr_T F23 (by unfold vc_in; omega)).trans (vc_fr_T (vc_fr_u10 I22 L22 10 _) (by omega))
            have cY : vc_T I23 L23 166 = vc_T I22 L22 166 := (vc_fr_T F23 (by unfold vc_in; omega)).trans (vc_fr_T (vc_fr_u10 I22 L22 10 _) (by omega))
            have d0 : ¬ (vc_T I22 L22 (12 + 2 + (vc_F w).d)).sort = 0 := fun z => h6 ((vc_is0 ((vc_fr_ok F22 (by omega)).mpr (oa _ hd75))).mp z)
            have y0 : ¬ (vc_T I22 L22 166).sort = 0 := fun z => h7 ((vc_is0 O22).mp z)
            have d1j : (vc_T I23 L23 (12 + 2 + (vc_F w).d)).sort = 1 := (vc_is1 (o12 _ hd75)).mpr (Classical.not_not.mp h8)
            have y1j : (vc_T I23 L23 166).sort = 1 := (vc_is1 okY).mpr (Classical.not_not.mp h9)
            obtain ⟨I24, L24, H24, A24, B24, O24, P24, F24, G24⟩ := vc_compareI (I := I23) (L := L23) (R := R) (n := n) (sl := sl) w true hC hct (fun j hj => ((FF (1000000 + 0) (fun z => by unfold vc_in at z; omega)).1 _).trans (hcv j hj)) hst (fun j hj => ((FF (1000000 + 1) (fun z => by unfold vc_in at z; omega)).1 _).trans (hov j hj)) hb o12 O23 a89 (Classical.not_not.mp h8)
            refine jv_Wp.lift (fun _ Kz => jv_Ev.c jv_i41 (pc' := 112) (S' := []) (G1 := (jv_H K I24 L24 R)) jv_i42 [.ref 10, .long w, .int (1 : Int32), .ref (12 + 2 + (vc_F w).d), .ref 166] rfl rfl rfl rfl (jv_cal rfl (jv_H_at hC.k) rfl rfl) rfl H24 rfl rfl Kz) ?_
            refine jv_Wp.lift (fun _ Kz => jv_Ev.steps jv_i41 1 (pc' := 113) (l' := [(7, .ref 166), (6, .ref (12 + 2 + (vc_F w).d)), (5, .int (1 : Int32)), (4, .int (vl_I (vc_F w).n)), (0, .ref 10), (1, .int (vl_I p)), (2, .long w)]) (st' := [.int (0 : Int32)]) rfl Kz) ?_
            refine jv_Wp.loc (l := [(0, .ref 10), (4, .int (vl_I (vc_F w).n)), (5, .int (1 : Int32)), (6, .ref (12 + 2 + (vc_F w).d)), (7, .ref 166)]) ⟨List.forall_mem_cons.mpr ⟨.tail _ (.tail _ (.tail _ (.tail _ (.head _)))), List.forall_mem_cons.mpr ⟨.tail _ (.tail _ (.tail _ (.head _))), List.forall_mem_cons.mpr ⟨.tail _ (.tail _ (.head _)), List.forall_mem_cons.mpr ⟨.tail _ (.head _), List.forall_mem_cons.mpr ⟨.head _, fun _ h => absurd h List.not_mem_nil⟩⟩⟩⟩⟩, by show List.Nodup [7, 6, 5, 4, 0, 1, 2]; decide⟩ ?_
            refine jv_Wp.of (jv_Ev.ret jv_i41 rfl rfl) ?_
            rw [hQ]
            have hwd : true = decide ((vc_F w).kind = 5) := (decide_eq_true ((vl_I_inj (by have := vw_k8 w; omega) (by decide)).mp (Classical.not_not.mp h1))).symm
            have g1 : ¬ vx_j1 (vc_F w) (vc_A I L 12) := by unfold vx_j1; rw [← a12, ← kD, ← kY]; omega
            have g2 : vx_j2 (vc_F w) (vc_A I L 12) := by unfold vx_j2; rw [← a12, ← kD, ← kY]; omega
            rw [a12] at A24 B24
            rw [t9, t10] at B24
            have yv : vx_yv (vc_F w) (vc_A I L 12) = (if true = true then vx_just (vc_F w).i else vb_just (BitVec.ofInt 64 ((vc_F w).i % 4294967296))) := by unfold vx_yv; rw [if_neg (by rw [hb]; decide), if_pos (of_decide_eq_true hwd.symm), if_pos rfl]
            rw [← yv] at A24 B24
            have kw : (true = false) ↔ (vc_F w).kind ≠ 5 := ⟨fun z => absurd z (by decide), fun z => absurd (of_decide_eq_true hwd.symm) z⟩
            have cc : ((true = false ∧ ¬ (vx_small ((vc_A I L 12).1 (vc_F w).d).val = true ∧ vx_small (vx_yv (vc_F w) (vc_A I L 12)) = true))) ↔ (((vc_F w).bit3 = true ∧ (vc_F w).d = (vc_F w).s) ∨ ((vc_F w).kind ≠ 5 ∧ ¬ (vx_small ((vc_A I L 12).1 (vc_F w).d).val = true ∧ vx_small (vx_yv (vc_F w) (vc_A I L 12)) = true))) := by
              rw [kw]; exact ⟨fun z => Or.inr z, fun z => z.elim (fun z => absurd (hb.symm.trans z.1) (by decide)) id⟩
            have rc : (vx_jump (vc_F w) (vc_A I L 12)).1 = 0 := by
              by_cases c : (((vc_F w).bit3 = true ∧ (vc_F w).d = (vc_F w).s) ∨ ((vc_F w).kind ≠ 5 ∧ ¬ (vx_small ((vc_A I L 12).1 (vc_F w).d).val = true ∧ vx_small (vx_yv (vc_F w) (vc_A I L 12)) = true)))
              · rw [vx_jp2 g1 g2 c]
              · rw [vx_jp2' g1 g2 c]
            refine ⟨_, _, by rw [rc]; rfl, fun _ => ?_, P24, vc_fr_trans (vc_fr_mono FF (fun p z => Or.inr z)) F24, fun f => ?_⟩
            · by_cases c : (((vc_F w).bit3 = true ∧ (vc_F w).d = (vc_F w).s) ∨ ((vc_F w).kind ≠ 5 ∧ ¬ (vx_small ((vc_A I L 12).1 (vc_F w).d).val = true ∧ vx_small (vx_yv (vc_F w) (vc_A I L 12)) = true)))
              · rw [vx_jp2 g1 g2 c]
                have q := A24 (cc.mpr c)
                exact vc_jp_some ((q.2.2 9).trans t9) ((q.2.2 10).trans t10) q.1 q.2.1 O24 P24
              · rw [vx_jp2' g1 g2 c]
                have q := B24 (fun z => c (cc.mp z))
                exact vc_jp_map q.1 q.2.1 q.2.2.2 q.2.2.1 O24 P24
            · exact ⟨(G24 f).1.trans ((FF 12 (fun z => by unfold vc_in at z; omega)).1 f), (G24 f).2.1.trans ((G23 f).trans (((vc_fr_u10 I22 L22 10 _ 89 (by decide)).1 f).trans ((F22 89 (by decide)).1 f))), fun h9 h10 => ((G24 f).2.2 h9 h10).trans (((F23 10 (by unfold vc_in; omega)).1 f).trans ((jv_u_j _ _ _ _ h10).trans ((F22 10 (by omega)).1 f)))⟩
      · refine jv_Wp.lift (fun _ Kz => jv_Ev.steps jv_i41 1 (pc' := 59) (l' := [(7, .ref 166), (6, .ref (12 + 2 + (vc_F w).d)), (5, .int (1 : Int32)), (4, .int (vl_I (vc_F w).n)), (0, .ref 10), (1, .int (vl_I p)), (2, .long w)]) (st' := [.int (1 : Int32)]) rfl Kz) ?_
        refine jv_Wp.loc (l := [(0, .ref 10), (4, .int (vl_I (vc_F w).n)), (5, .int (1 : Int32)), (6, .ref (12 + 2 + (vc_F w).d)), (7, .ref 166)]) ⟨List.forall_mem_cons.mpr ⟨.tail _ (.tail _ (.tail _ (.tail _ (.head _)))), List.forall_mem_cons.mpr ⟨.tail _ (.tail _ (.tail _ (.head _))), List.forall_mem_cons.mpr ⟨.tail _ (.tail _ (.head _)), List.forall_mem_cons.mpr ⟨.tail _ (.head _), List.forall_mem_cons.mpr ⟨.head _, fun _ h => absurd h List.not_mem_nil⟩⟩⟩⟩⟩, by show List.Nodup [7, 6, 5, 4, 0, 1, 2]; decide⟩ ?_
        refine jv_Wp.of (jv_Ev.ret jv_i41 rfl rfl) ?_
        rw [hQ]
        have d0 : ¬ (vc_T I22 L22 (12 + 2 + (vc_F w).d)).sort = 0 := fun z => h6 ((vc_is0 ((vc_fr_ok F22 (by omega)).mpr (oa _ hd75))).mp z)
        have y0 : (vc_T I22 L22 166).sort = 0 := (vc_is0 O22).mpr (Classical.not_not.mp h7)
        have g : vx_j1 (vc_F w) (vc_A I L 12) := by unfold vx_j1 vx_y; rw [if_neg (by rw [hb]; decide), vc_A1 hd75, ← T22, ← vc_fr_T F22 (o := (12 + 2 + (vc_F w).d)) (by omega)]; omega
        have e := vx_jp1 g
        exact ⟨_, _, by rw [e]; rfl, fun z => by rw [e] at z; exact absurd (show (1 : Nat) = 0 from z) (by decide), vc_fr_okA F22 (fun p z => by unfold vc_in at z; omega) oj, vc_fr_mono F22 (fun p z => Or.inr (Or.inr (Or.inl z))), fun f => ⟨(F22 12 (by decide)).1 f, (F22 89 (by decide)).1 f, fun _ _ => (F22 10 (by decide)).1 f⟩⟩