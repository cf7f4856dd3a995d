/-! the other side's tighten, of a row that isn't empty -/
theorem vr_tight_plain {K : Nat → Option (Nat × Nat)} {I : Nat → Nat → Int32} {L : Nat → Nat → Int64} {R : Nat → Nat → Value} (p : Int32) (hW : jv_rW K R) (hx_p : jv_ix p 77200) (hE : I 215 p.toNatClampNeg = 0) {x : Bool × vb_R} (hN : vb_rplain (vr_S L p.toNatClampNeg) = some x) {n sl : Nat} :
    jv_Ms 216 [.ref 208, .int p] (jv_H K I L R) n sl (none, jv_H K (jv_u I 215 p.toNatClampNeg (vr_b x.1)) (vr_set L p.toNatClampNeg x.2) R, n, sl) := by
  show jv_Ev 216 0 [(0, .ref 208), (1, .int p)] [] (jv_H K I L R) n sl _
  refine jv_Ev.steps jv_i216 1 (pc' := 1) (l' := [(0, .ref 208), (1, .int p)]) (st' := [.ref 208]) rfl ?_
  refine jv_Ev.m jv_i216 (pc' := 4) (st' := [.ref 215]) (G' := (jv_H K I L R)) rfl rfl (jv_m_getR (jv_rwK hW 208 11 7 (by decide)) rfl rfl (jv_rwR hW 208 6 215 (by decide))) ?_
  refine jv_Ev.steps jv_i216 1 (pc' := 5) (l' := [(0, .ref 208), (1, .int p)]) (st' := [.int p, .ref 215]) rfl ?_
  refine jv_Ev.m jv_i216 (pc' := 6) (st' := [.int (I 215 p.toNatClampNeg)]) (G' := (jv_H K I L R)) rfl rfl (jv_m_baldv (jv_rwK hW 215 100 77200 (by decide)) rfl hx_p rfl rfl) ?_
  refine jv_Ev.cnd jv_i216 (pt := 18) (pe := 9) (p := (¬ (I 215 p.toNatClampNeg) = 0)) (q := (¬ (I 215 p.toNatClampNeg) = 0)) rfl jv_bi_ne rfl rfl Iff.rfl (fun h1 => absurd hE h1) (fun h1 => ?_)
  refine jv_Ev.steps jv_i216 2 (pc' := 11) (l' := [(0, .ref 208), (1, .int p)]) (st' := [.int p, .ref 208]) rfl ?_
  refine jv_Ev.c jv_i216 (pc' := 14) (S' := [.int (1 : Int32)]) jv_i215 [.ref 208, .int p] rfl rfl rfl rfl (jv_cal rfl (jv_H_at (jv_rwK hW 208 11 7 (by decide))) rfl rfl) rfl (vr_plain1 p hW hx_p hE hN) rfl rfl ?_
  refine jv_Ev.cnd jv_i216 (pt := 18) (pe := 17) (p := ((1 : Int32) = 0)) (q := ((1 : Int32) = 0)) rfl jv_bi_eq rfl rfl Iff.rfl (fun h2 => absurd h2 (by decide)) (fun h2 => ?_)
  exact jv_Ev.ret jv_i216 rfl rfl
theorem vr_tighten {K : Nat → Option (Nat × Nat)} {I : Nat → Nat → Int32} {L : Nat → Nat → Int64} {R : Nat → Nat → Value} (p : Int32) (hW : jv_rW K R) (hx_p : jv_ix p 77200) (hE : I 215 p.toNatClampNeg = 0) {n sl : Nat} :
    jv_Ms 216 [.ref 208, .int p] (jv_H K I L R) n sl (none, jv_H K (jv_u I 215 p.toNatClampNeg (vr_b (vb_rtight (vr_S L p.toNatClampNeg)).1)) (vr_set L p.toNatClampNeg (vb_rtight (vr_S L p.toNatClampNeg)).2) R, n, sl) := by
  cases hN : vb_rplain (vr_S L p.toNatClampNeg) with
  | some x =>
    have e : vb_rtight (vr_S L p.toNatClampNeg) = x := by unfold vb_rtight; rw [hN]
    rw [e]
    exact vr_tight_plain p hW hx_p hE hN
  | none =>
    have e : vb_rtight (vr_S L p.toNatClampNeg) = vb_rfull (vr_S L p.toNatClampNeg) := by unfold vb_rtight; rw [hN]
    rw [e]
    have H := jv_s216 (n := n) (sl := sl) p hW hx_p hE hN _ rfl _ rfl _ rfl _ rfl _ rfl _ rfl _ rfl _ rfl
    rw [hN] at H
    simp only [hE, not_true, if_false, vr_so, if_true] at H
    have b0 : ∀ b : Bool, (vr_b b = 0) ↔ ¬ b = true := by intro b; cases b <;> decide
    have hb : (L 209 p.toNatClampNeg).toBitVec = (vr_S L p.toNatClampNeg).bits := rfl
    have ho : (L 210 p.toNatClampNeg).toBitVec = (vr_S L p.toNatClampNeg).opn := rfl
    rw [hb, ho] at H
    unfold vb_rfull
    generalize p.toNatClampNeg = P at H hE ⊢
    by_cases ha : vb_rhasAny (vr_S L P) (vr_S L P).bits (vr_S L P).opn = true
    · rw [if_pos ha]
      rw [ha] at H
      simp only [show ¬ vr_b true = 0 by decide, not_false_eq_true, if_true, show ((0 : Int32) &&& 1) = 0 by decide] at H
      refine (congrArg (fun Z => jv_Ms 216 [.ref 208, .int p] (jv_H K I L R) n sl (none, jv_H K (jv_u I 215 P (vr_b false)) Z R, n, sl)) ?_).mp H
      refine vr_eq ?_ (fun q i hq => ?_)
      · have hS := vr_set_S L P (vr_at (vr_S L P) 64)
        refine vb_R_ext ?_ ?_ ?_ ?_ ?_ ?_
        · show Int64.toBitVec (jv_u (jv_u (jv_u (jv_u _ 211 P _) 212 P _) 213 P _) 214 P _ 209 P) = _
          rw [vr_n214_209, vr_n213_209, vr_n212_209, vr_n211_209]; exact congrArg vb_R.bits hS
        · show Int64.toBitVec (jv_u (jv_u (jv_u (jv_u _ 211 P _) 212 P _) 213 P _) 214 P _ 210 P) = _
          rw [vr_n214_210, vr_n213_210, vr_n212_210, vr_n211_210]; exact congrArg vb_R.opn hS
        · show Int64.toBitVec (jv_u (jv_u (jv_u (jv_u _ 211 P _) 212 P _) 213 P _) 214 P _ 211 P) = _
          rw [vr_n214_211, vr_n213_211, vr_n212_211, vl_at]; rfl
        · show Int64.toBitVec (jv_u (jv_u (jv_u (jv_u _ 211 P _) 212 P _) 213 P _) 214 P _ 212 P) = _
          rw [vr_n214_212, vr_n213_212, vl_at]; rfl
        · show Int64.toBitVec (jv_u (jv_u (jv_u (jv_u _ 211 P _) 212 P _) 213 P _) 214 P _ 213 P) = _
          rw [vr_n214_213, vl_at]; rfl
        · show Int64.toBitVec (jv_u (jv_u (jv_u (jv_u _ 211 P _) 212 P _) 213 P _) 214 P _ 214 P) = _
          rw [vl_at]; rfl
      · rw [vr_out hq rfl, vr_out hq rfl, vr_out hq rfl, vr_out hq rfl, vr_set_out hq]
    · rw [if_neg ha]
      have ha' : vb_rhasAny (vr_S L P) (vr_S L P).bits (vr_S L P).opn = false := by simpa using ha
      rw [ha'] at H
      simp only [show vr_b false = 0 by decide, not_true, if_false, show ((1 : Int32) &&& 1) = 1 by decide, show ¬ ((1 : Int32) = 0) by decide] at H
      rw [vr_set_same]
      exact H
