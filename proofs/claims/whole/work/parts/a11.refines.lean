/-! part a11: refines, opposite, meet of the other side (gen/ta11.py) -/
theorem jv_i251 : jv_I 251 4 (some .boolean) 7 204 jv_c251 := ⟨rfl, rfl, rfl, rfl, rfl⟩
set_option maxRecDepth 65536 in
/-- a turn of ProgramBoxModel$Check$Sets.refines(III)Z at 0 -/
theorem jv_b251_0 {K : Nat → Option (Nat × Nat)} {I : Nat → Nat → Int32} {L : Nat → Nat → Int64} {R : Nat → Nat → Value} (c a b : Int32) (hW : jv_rW K R) (hx_a : jv_ix a 77200) (hx_b : jv_ix b 77200) (ha5 : 5 ≤ a.toNatClampNeg) (hb5 : 5 ≤ b.toNatClampNeg) (hE : ∀ q, 2 ≤ q → I 215 q = 0)  {n sl : Nat} {X : jv_R} (HK : (jv_Ev 251 12 [(0, .ref 208), (1, .int c), (2, .int a), (3, .int b)] [] (jv_H K (jv_u (jv_u I 215 0 0) 215 1 0) (vr_set (vr_set L 0 (vr_S L a.toNatClampNeg)) 1 (vr_S (vr_set L 0 (vr_S L a.toNatClampNeg)) b.toNatClampNeg)) R) n sl X)) : jv_Ev 251 0 [(0, .ref 208), (1, .int c), (2, .int a), (3, .int b)] [] (jv_H K I L R) n sl X := by
  refine jv_Ev.steps jv_i251 3 (pc' := 3) (l' := [(0, .ref 208), (1, .int c), (2, .int a), (3, .int b)]) (st' := [.int (0 : Int32), .int a, .ref 208]) rfl ?_
  refine jv_Ev.c jv_i251 (pc' := 6) (S' := []) (G1 := (jv_H K (jv_u I 215 0 0) (vr_set L 0 (vr_S L a.toNatClampNeg)) R)) jv_i208 [.ref 208, .int a, .int (0 : Int32)] rfl rfl rfl rfl (jv_cal rfl (jv_H_at (jv_rwK hW 208 11 7 (by decide))) rfl rfl) rfl (vr_copy a (0 : Int32) hW hx_a (by decide) (hE _ (by omega))) rfl rfl ?_
  refine jv_Ev.steps jv_i251 3 (pc' := 9) (l' := [(0, .ref 208), (1, .int c), (2, .int a), (3, .int b)]) (st' := [.int (1 : Int32), .int b, .ref 208]) rfl ?_
  refine jv_Ev.c jv_i251 (pc' := 12) (S' := []) (G1 := (jv_H K (jv_u (jv_u I 215 0 0) 215 1 0) (vr_set (vr_set L 0 (vr_S L a.toNatClampNeg)) 1 (vr_S (vr_set L 0 (vr_S L a.toNatClampNeg)) b.toNatClampNeg)) R)) jv_i208 [.ref 208, .int b, .int (1 : Int32)] rfl rfl rfl rfl (jv_cal rfl (jv_H_at (jv_rwK hW 208 11 7 (by decide))) rfl rfl) rfl (vr_copy b (1 : Int32) hW hx_b (by decide) ((jv_u_j _ _ _ _ (by omega)).trans (hE _ (by omega)))) rfl rfl ?_
  exact HK

theorem vr_refinesT {K : Nat → Option (Nat × Nat)} {I : Nat → Nat → Int32} {L : Nat → Nat → Int64} {R : Nat → Nat → Value} (c a b : Int32) (f g : Bool) (hW : jv_rW K R) (hf : I 215 0 = vr_b f) (hg : I 215 1 = vr_b g) {n sl : Nat} : jv_Ev 251 17 [(0, .ref 208), (1, .int c), (2, .int a), (3, .int b)] [] (jv_H K I L R) n sl (some (.int (vr_b (!(f || g)))), (jv_H K I L R), n, sl) := by
  have key : jv_Ev 251 17 [(0, .ref 208), (1, .int c), (2, .int a), (3, .int b)] [] (jv_H K I L R) n sl (some (.int (if (¬ (I 215 0) = 0) then (0 : Int32) else (if (¬ (I 215 1) = 0) then (0 : Int32) else (1 : Int32)))), jv_H K I L R, n, sl) := by
    refine jv_Ev.steps jv_i251 1 (pc' := 18) (l' := [(0, .ref 208), (1, .int c), (2, .int a), (3, .int b)]) (st' := [.ref 208]) rfl ?_
    refine jv_Ev.m jv_i251 (pc' := 21) (st' := [.ref 215]) (G' := (jv_H K I L R)) rfl rfl (jv_m_getR (jv_rwK hW 208 11 7 (by decide)) rfl rfl (jv_rwR hW 208 6 215 (by decide))) ?_
    refine jv_Ev.steps jv_i251 1 (pc' := 22) (l' := [(0, .ref 208), (1, .int c), (2, .int a), (3, .int b)]) (st' := [.int (0 : Int32), .ref 215]) rfl ?_
    refine jv_Ev.m jv_i251 (pc' := 23) (st' := [.int (I 215 0)]) (G' := (jv_H K I L R)) rfl rfl (jv_m_baldv (jv_rwK hW 215 100 77200 (by decide)) rfl (by decide) rfl rfl) ?_
    refine jv_Ev.dia 40 [(0, .ref 208), (1, .int c), (2, .int a), (3, .int b)] [.int (if (¬ (I 215 0) = 0) then (0 : Int32) else (if (¬ (I 215 1) = 0) then (0 : Int32) else (1 : Int32)))] (jv_H K I L R) (fun Kh1 => ?_) ?_
    · refine jv_Ev.cnd jv_i251 (pt := 39) (pe := 26) (p := (¬ (I 215 0) = 0)) (q := (¬ (I 215 0) = 0)) rfl jv_bi_ne rfl rfl Iff.rfl (fun h1 => ?_) (fun h1 => ?_)
      · refine jv_Ev.steps jv_i251 1 (pc' := 40) (l' := [(0, .ref 208), (1, .int c), (2, .int a), (3, .int b)]) (st' := [.int (0 : Int32)]) rfl ?_
        exact jv_Ev.conv rfl (by simp only [if_pos h1]) rfl Kh1
      · refine jv_Ev.steps jv_i251 1 (pc' := 27) (l' := [(0, .ref 208), (1, .int c), (2, .int a), (3, .int b)]) (st' := [.ref 208]) rfl ?_
        refine jv_Ev.m jv_i251 (pc' := 30) (st' := [.ref 215]) (G' := (jv_H K I L R)) rfl rfl (jv_m_getR (jv_rwK hW 208 11 7 (by decide)) rfl rfl (jv_rwR hW 208 6 215 (by decide))) ?_
        refine jv_Ev.steps jv_i251 1 (pc' := 31) (l' := [(0, .ref 208), (1, .int c), (2, .int a), (3, .int b)]) (st' := [.int (1 : Int32), .ref 215]) rfl ?_
        refine jv_Ev.m jv_i251 (pc' := 32) (st' := [.int (I 215 1)]) (G' := (jv_H K I L R)) rfl rfl (jv_m_baldv (jv_rwK hW 215 100 77200 (by decide)) rfl (by decide) rfl rfl) ?_
        refine jv_Ev.dia 40 [(0, .ref 208), (1, .int c), (2, .int a), (3, .int b)] [.int (if (¬ (I 215 1) = 0) then (0 : Int32) else (1 : Int32))] (jv_H K I L R) (fun Kh2 => ?_) ?_
        · refine jv_Ev.cnd jv_i251 (pt := 39) (pe := 35) (p := (¬ (I 215 1) = 0)) (q := (¬ (I 215 1) = 0)) rfl jv_bi_ne rfl rfl Iff.rfl (fun h2 => ?_) (fun h2 => ?_)
          · refine jv_Ev.steps jv_i251 1 (pc' := 40) (l' := [(0, .ref 208), (1, .int c), (2, .int a), (3, .int b)]) (st' := [.int (0 : Int32)]) rfl ?_
            exact jv_Ev.conv rfl (by simp only [if_pos h2]) rfl Kh2
          · refine jv_Ev.steps jv_i251 2 (pc' := 40) (l' := [(0, .ref 208), (1, .int c), (2, .int a), (3, .int b)]) (st' := [.int (1 : Int32)]) rfl ?_
            exact jv_Ev.conv rfl (by simp only [if_neg h2]) rfl Kh2
        exact jv_Ev.conv rfl (by simp only [if_neg h1]) rfl Kh1
    exact jv_Ev.ret jv_i251 rfl (jv_ret_b (jv_bo_ite (Or.inl rfl) (jv_bo_ite (Or.inl rfl) (Or.inr rfl))))
  have e : (if (¬ (I 215 0) = 0) then (0 : Int32) else (if (¬ (I 215 1) = 0) then (0 : Int32) else (1 : Int32))) = vr_b (!(f || g)) := by
    rw [hf, hg]
    cases f <;> cases g <;> decide
  rw [e] at key
  exact key
theorem vr_refines {K : Nat → Option (Nat × Nat)} {I : Nat → Nat → Int32} {L : Nat → Nat → Int64} {R : Nat → Nat → Value} (c : Nat) (hc : c ≤ 11) (a b : Int32) (hW : jv_rW K R) (hx_a : jv_ix a 77200) (hx_b : jv_ix b 77200) (ha5 : 5 ≤ a.toNatClampNeg) (hb5 : 5 ≤ b.toNatClampNeg) (hE : ∀ q, 2 ≤ q → I 215 q = 0) (hx : vb_tight (vb_toS (vr_S L a.toNatClampNeg))) (hy : vb_tight (vb_toS (vr_S L b.toNatClampNeg))) : ∃ I1 L1, vr_scr I I1 L L1 ∧ (∀ p, vb_refine c (vb_toS (vr_S L a.toNatClampNeg)) (vb_toS (vr_S L b.toNatClampNeg)) = some p → vr_S L1 0 = vb_toR p.1 ∧ vr_S L1 1 = vb_toR p.2) ∧ ∀ n sl, jv_Ms 251 [.ref 208, .int (vl_I c), .int a, .int b] (jv_H K I L R) n sl (some (.int (vr_b (vb_refine c (vb_toS (vr_S L a.toNatClampNeg)) (vb_toS (vr_S L b.toNatClampNeg))).isSome)), jv_H K I1 L1 R, n, sl) := by
  have e0 : vr_S (vr_set (vr_set L 0 (vr_S L a.toNatClampNeg)) 1 (vr_S (vr_set L 0 (vr_S L a.toNatClampNeg)) b.toNatClampNeg)) 0 = vr_S L a.toNatClampNeg := by rw [vr_s10, vr_set_S]
  have e1 : vr_S (vr_set (vr_set L 0 (vr_S L a.toNatClampNeg)) 1 (vr_S (vr_set L 0 (vr_S L a.toNatClampNeg)) b.toNatClampNeg)) 1 = vr_S L b.toNatClampNeg := by rw [vr_set_S, vr_set_o (by omega)]
  have f0 : jv_u (jv_u I 215 0 0) 215 1 0 215 0 = 0 := (jv_u_j _ _ _ _ (by decide)).trans (jv_u_self _ _ _ _)
  have f1 : jv_u (jv_u I 215 0 0) 215 1 0 215 1 = 0 := jv_u_self _ _ _ _
  have fE : ∀ q, 2 ≤ q → jv_u (jv_u I 215 0 0) 215 1 0 215 q = 0 := fun q hq => by
    rw [jv_u_j _ _ _ _ (by omega), jv_u_j _ _ _ _ (by omega)]; exact hE q hq
  have R0 := vr_refine (K := K) (R := R) c hc hW fE f0 f1 (by rw [e0]; exact hx) (by rw [e1]; exact hy)
  rw [e0, e1] at R0
  obtain ⟨I1, L1, hs, ⟨f, g, hf, hg, hn, hp⟩, HK⟩ := R0
  have h0 : vr_scr I (jv_u (jv_u I 215 0 0) 215 1 0) L (vr_set (vr_set L 0 (vr_S L a.toNatClampNeg)) 1 (vr_S (vr_set L 0 (vr_S L a.toNatClampNeg)) b.toNatClampNeg)) := vr_scr_r (vr_scr_r (vr_scr_f (vr_scr_f (vr_scr_refl hE) (Or.inl (by decide))) (Or.inl (by decide))) (by decide)) (by decide)
  refine ⟨I1, L1, ⟨hs.1, fun o j ho => (hs.2.1 o j ho).trans (h0.2.1 o j ho), fun o j ho => (hs.2.2 o j ho).trans (h0.2.2 o j ho)⟩, fun p h => ⟨(hp p h).2.2.1, (hp p h).2.2.2⟩, fun n sl => ?_⟩
  have er : (!(f || g)) = (vb_refine c (vb_toS (vr_S L a.toNatClampNeg)) (vb_toS (vr_S L b.toNatClampNeg))).isSome := by
    cases h : vb_refine c (vb_toS (vr_S L a.toNatClampNeg)) (vb_toS (vr_S L b.toNatClampNeg)) with
    | none => rw [hn h]; rfl
    | some p => obtain ⟨rfl, rfl, _⟩ := hp p h; rfl
  rw [← er]
  show jv_Ev 251 0 [(0, .ref 208), (1, .int (vl_I c)), (2, .int a), (3, .int b)] [] (jv_H K I L R) n sl _
  refine jv_b251_0 (vl_I c) a b hW hx_a hx_b ha5 hb5 hE ?_
  refine jv_Ev.steps jv_i251 2 (pc' := 14) (l' := [(0, .ref 208), (1, .int (vl_I c)), (2, .int a), (3, .int b)]) (st' := [.int (vl_I c), .ref 208]) rfl ?_
  refine jv_Ev.c jv_i251 (pc' := 17) (S' := []) (G1 := jv_H K I1 L1 R) jv_i247 [.ref 208, .int (vl_I c)] rfl rfl rfl rfl (jv_cal rfl (jv_H_at (jv_rwK hW 208 11 7 (by decide))) rfl rfl) rfl (HK n sl) rfl rfl ?_
  exact vr_refinesT (vl_I c) a b f g hW hf hg
theorem jv_i240 : jv_I 240 1 (some .int) 0 0 jv_c240 := ⟨rfl, rfl, rfl, rfl, rfl⟩
theorem vr_opposite0 (G : jv_G) (c : Int32) {n sl : Nat} : jv_Ms 240 [.int c] G n sl (some (.int (if (c = Int32.ofInt 0) then (1 : Int32) else (if (c = Int32.ofInt 1) then (0 : Int32) else (if (c = Int32.ofInt 2) then (5 : Int32) else (if (c = Int32.ofInt 3) then (4 : Int32) else (if (c = Int32.ofInt 4) then (3 : Int32) else (if (c = Int32.ofInt 5) then (2 : Int32) else (if (c = Int32.ofInt 6) then (9 : Int32) else (if (c = Int32.ofInt 7) then (8 : Int32) else (if (c = Int32.ofInt 8) then (7 : Int32) else (if (c = Int32.ofInt 9) then (6 : Int32) else (if (c = Int32.ofInt 10) then (11 : Int32) else (10 : Int32))))))))))))), G, n, sl) := by
  show jv_Ev 240 0 [(0, .int c)] [] G n sl _
  refine jv_Ev.steps jv_i240 1 (pc' := 1) (l' := [(0, .int c)]) (st' := [.int c]) rfl ?_
  refine jv_Ev.bys (q := (c = Int32.ofInt 0)) (fun h1 => ?_) (fun h1 => ?_)
  · refine jv_Ev.convX (X' := (some (.int (1 : Int32)), G, n, sl)) (by simp only [if_pos h1]) ?_
    refine jv_Ev.br jv_i240 (pc' := 60) (st' := []) rfl (by rw [h1]; rfl) ?_
    refine jv_Ev.steps jv_i240 1 (pc' := 61) (l' := [(0, .int c)]) (st' := [.int (1 : Int32)]) rfl ?_
    exact jv_Ev.ret jv_i240 rfl rfl
  · refine jv_Ev.convX (X' := (some (.int (if (c = Int32.ofInt 1) then (0 : Int32) else (if (c = Int32.ofInt 2) then (5 : Int32) else (if (c = Int32.ofInt 3) then (4 : Int32) else (if (c = Int32.ofInt 4) then (3 : Int32) else (if (c = Int32.ofInt 5) then (2 : Int32) else (if (c = Int32.ofInt 6) then (9 : Int32) else (if (c = Int32.ofInt 7) then (8 : Int32) else (if (c = Int32.ofInt 8) then (7 : Int32) else (if (c = Int32.ofInt 9) then (6 : Int32) else (if (c = Int32.ofInt 10) then (11 : Int32) else (10 : Int32)))))))))))), G, n, sl)) (by simp only [if_neg h1]) ?_
    refine jv_Ev.bys (q := (c = Int32.ofInt 1)) (fun h2 => ?_) (fun h2 => ?_)
    · refine jv_Ev.convX (X' := (some (.int (0 : Int32)), G, n, sl)) (by simp only [if_pos h2]) ?_
      refine jv_Ev.br jv_i240 (pc' := 62) (st' := []) rfl (by rw [h2]; rfl) ?_
      refine jv_Ev.steps jv_i240 1 (pc' := 63) (l' := [(0, .int c)]) (st' := [.int (0 : Int32)]) rfl ?_
      exact jv_Ev.ret jv_i240 rfl rfl
    · refine jv_Ev.convX (X' := (some (.int (if (c = Int32.ofInt 2) then (5 : Int32) else (if (c = Int32.ofInt 3) then (4 : Int32) else (if (c = Int32.ofInt 4) then (3 : Int32) else (if (c = Int32.ofInt 5) then (2 : Int32) else (if (c = Int32.ofInt 6) then (9 : Int32) else (if (c = Int32.ofInt 7) then (8 : Int32) else (if (c = Int32.ofInt 8) then (7 : Int32) else (if (c = Int32.ofInt 9) then (6 : Int32) else (if (c = Int32.ofInt 10) then (11 : Int32) else (10 : Int32))))))))))), G, n, sl)) (by simp only [if_neg h2]) ?_
      refine jv_Ev.bys (q := (c = Int32.ofInt 2)) (fun h3 => ?_) (fun h3 => ?_)
      · refine jv_Ev.convX (X' := (some (.int (5 : Int32)), G, n, sl)) (by simp only [if_pos h3]) ?_
        refine jv_Ev.br jv_i240 (pc' := 64) (st' := []) rfl (by rw [h3]; rfl) ?_
        refine jv_Ev.steps jv_i240 1 (pc' := 65) (l' := [(0, .int c)]) (st' := [.int (5 : Int32)]) rfl ?_
        exact jv_Ev.ret jv_i240 rfl rfl
      · refine jv_Ev.convX (X' := (some (.int (if (c = Int32.ofInt 3) then (4 : Int32) else (if (c = Int32.ofInt 4) then (3 : Int32) else (if (c = Int32.ofInt 5) then (2 : Int32) else (if (c = Int32.ofInt 6) then (9 : Int32) else (if (c = Int32.ofInt 7) then (8 : Int32) else (if (c = Int32.ofInt 8) then (7 : Int32) else (if (c = Int32.ofInt 9) then (6 : Int32) else (if (c = Int32.ofInt 10) then (11 : Int32) else (10 : Int32)))))))))), G, n, sl)) (by simp only [if_neg h3]) ?_
        refine jv_Ev.bys (q := (c = Int32.ofInt 3)) (fun h4 => ?_) (fun h4 => ?_)
        · refine jv_Ev.convX (X' := (some (.int (4 : Int32)), G, n, sl)) (by simp only [if_pos h4]) ?_
          refine jv_Ev.br jv_i240 (pc' := 66) (st' := []) rfl (by rw [h4]; rfl) ?_
          refine jv_Ev.steps jv_i240 1 (pc' := 67) (l' := [(0, .int c)]) (st' := [.int (4 : Int32)]) rfl ?_
          exact jv_Ev.ret jv_i240 rfl rfl
        · refine jv_Ev.convX (X' := (some (.int (if (c = Int32.ofInt 4) then (3 : Int32) else (if (c = Int32.ofInt 5) then (2 : Int32) else (if (c = Int32.ofInt 6) then (9 : Int32) else (if (c = Int32.ofInt 7) then (8 : Int32) else (if (c = Int32.ofInt 8) then (7 : Int32) else (if (c = Int32.ofInt 9) then (6 : Int32) else (if (c = Int32.ofInt 10) then (11 : Int32) else (10 : Int32))))))))), G, n, sl)) (by simp only [if_neg h4]) ?_
          refine jv_Ev.bys (q := (c = Int32.ofInt 4)) (fun h5 => ?_) (fun h5 => ?_)
          · refine jv_Ev.convX (X' := (some (.int (3 : Int32)), G, n, sl)) (by simp only [if_pos h5]) ?_
            refine jv_Ev.br jv_i240 (pc' := 68) (st' := []) rfl (by rw [h5]; rfl) ?_
            refine jv_Ev.steps jv_i240 1 (pc' := 69) (l' := [(0, .int c)]) (st' := [.int (3 : Int32)]) rfl ?_
            exact jv_Ev.ret jv_i240 rfl rfl
          · refine jv_Ev.convX (X' := (some (.int (if (c = Int32.ofInt 5) then (2 : Int32) else (if (c = Int32.ofInt 6) then (9 : Int32) else (if (c = Int32.ofInt 7) then (8 : Int32) else (if (c = Int32.ofInt 8) then (7 : Int32) else (if (c = Int32.ofInt 9) then (6 : Int32) else (if (c = Int32.ofInt 10) then (11 : Int32) else (10 : Int32)))))))), G, n, sl)) (by simp only [if_neg h5]) ?_
            refine jv_Ev.bys (q := (c = Int32.ofInt 5)) (fun h6 => ?_) (fun h6 => ?_)
            · refine jv_Ev.convX (X' := (some (.int (2 : Int32)), G, n, sl)) (by simp only [if_pos h6]) ?_
              refine jv_Ev.br jv_i240 (pc' := 70) (st' := []) rfl (by rw [h6]; rfl) ?_
              refine jv_Ev.steps jv_i240 1 (pc' := 71) (l' := [(0, .int c)]) (st' := [.int (2 : Int32)]) rfl ?_
              exact jv_Ev.ret jv_i240 rfl rfl
            · refine jv_Ev.convX (X' := (some (.int (if (c = Int32.ofInt 6) then (9 : Int32) else (if (c = Int32.ofInt 7) then (8 : Int32) else (if (c = Int32.ofInt 8) then (7 : Int32) else (if (c = Int32.ofInt 9) then (6 : Int32) else (if (c = Int32.ofInt 10) then (11 : Int32) else (10 : Int32))))))), G, n, sl)) (by simp only [if_neg h6]) ?_
              refine jv_Ev.bys (q := (c = Int32.ofInt 6)) (fun h7 => ?_) (fun h7 => ?_)
              · refine jv_Ev.convX (X' := (some (.int (9 : Int32)), G, n, sl)) (by simp only [if_pos h7]) ?_
                refine jv_Ev.br jv_i240 (pc' := 72) (st' := []) rfl (by rw [h7]; rfl) ?_
                refine jv_Ev.steps jv_i240 1 (pc' := 74) (l' := [(0, .int c)]) (st' := [.int (9 : Int32)]) rfl ?_
                exact jv_Ev.ret jv_i240 rfl rfl
              · refine jv_Ev.convX (X' := (some (.int (if (c = Int32.ofInt 7) then (8 : Int32) else (if (c = Int32.ofInt 8) then (7 : Int32) else (if (c = Int32.ofInt 9) then (6 : Int32) else (if (c = Int32.ofInt 10) then (11 : Int32) else (10 : Int32)))))), G, n, sl)) (by simp only [if_neg h7]) ?_
                refine jv_Ev.bys (q := (c = Int32.ofInt 7)) (fun h8 => ?_) (fun h8 => ?_)
                · refine jv_Ev.convX (X' := (some (.int (8 : Int32)), G, n, sl)) (by simp only [if_pos h8]) ?_
                  refine jv_Ev.br jv_i240 (pc' := 75) (st' := []) rfl (by rw [h8]; rfl) ?_
                  refine jv_Ev.steps jv_i240 1 (pc' := 77) (l' := [(0, .int c)]) (st' := [.int (8 : Int32)]) rfl ?_
                  exact jv_Ev.ret jv_i240 rfl rfl
                · refine jv_Ev.convX (X' := (some (.int (if (c = Int32.ofInt 8) then (7 : Int32) else (if (c = Int32.ofInt 9) then (6 : Int32) else (if (c = Int32.ofInt 10) then (11 : Int32) else (10 : Int32))))), G, n, sl)) (by simp only [if_neg h8]) ?_
                  refine jv_Ev.bys (q := (c = Int32.ofInt 8)) (fun h9 => ?_) (fun h9 => ?_)
                  · refine jv_Ev.convX (X' := (some (.int (7 : Int32)), G, n, sl)) (by simp only [if_pos h9]) ?_
                    refine jv_Ev.br jv_i240 (pc' := 78) (st' := []) rfl (by rw [h9]; rfl) ?_
                    refine jv_Ev.steps jv_i240 1 (pc' := 80) (l' := [(0, .int c)]) (st' := [.int (7 : Int32)]) rfl ?_
                    exact jv_Ev.ret jv_i240 rfl rfl
                  · refine jv_Ev.convX (X' := (some (.int (if (c = Int32.ofInt 9) then (6 : Int32) else (if (c = Int32.ofInt 10) then (11 : Int32) else (10 : Int32)))), G, n, sl)) (by simp only [if_neg h9]) ?_
                    refine jv_Ev.bys (q := (c = Int32.ofInt 9)) (fun h10 => ?_) (fun h10 => ?_)
                    · refine jv_Ev.convX (X' := (some (.int (6 : Int32)), G, n, sl)) (by simp only [if_pos h10]) ?_
                      refine jv_Ev.br jv_i240 (pc' := 81) (st' := []) rfl (by rw [h10]; rfl) ?_
                      refine jv_Ev.steps jv_i240 1 (pc' := 83) (l' := [(0, .int c)]) (st' := [.int (6 : Int32)]) rfl ?_
                      exact jv_Ev.ret jv_i240 rfl rfl
                    · refine jv_Ev.convX (X' := (some (.int (if (c = Int32.ofInt 10) then (11 : Int32) else (10 : Int32))), G, n, sl)) (by simp only [if_neg h10]) ?_
                      refine jv_Ev.bys (q := (c = Int32.ofInt 10)) (fun h11 => ?_) (fun h11 => ?_)
                      · refine jv_Ev.convX (X' := (some (.int (11 : Int32)), G, n, sl)) (by simp only [if_pos h11]) ?_
                        refine jv_Ev.br jv_i240 (pc' := 84) (st' := []) rfl (by rw [h11]; rfl) ?_
                        refine jv_Ev.steps jv_i240 1 (pc' := 86) (l' := [(0, .int c)]) (st' := [.int (11 : Int32)]) rfl ?_
                        exact jv_Ev.ret jv_i240 rfl rfl
                      · refine jv_Ev.convX (X' := (some (.int (10 : Int32)), G, n, sl)) (by simp only [if_neg h11]) ?_
                        refine jv_Ev.br jv_i240 (pc' := 87) (st' := []) rfl (jv_tsw_def (fun i hi h => by match i, hi, h with 
                              | 0, _, h => exact absurd h (jv_ne_toInt (k := 0) h1) 
                              | 1, _, h => exact absurd h (jv_ne_toInt (k := 1) h2) 
                              | 2, _, h => exact absurd h (jv_ne_toInt (k := 2) h3) 
                              | 3, _, h => exact absurd h (jv_ne_toInt (k := 3) h4) 
                              | 4, _, h => exact absurd h (jv_ne_toInt (k := 4) h5) 
                              | 5, _, h => exact absurd h (jv_ne_toInt (k := 5) h6) 
                              | 6, _, h => exact absurd h (jv_ne_toInt (k := 6) h7) 
                              | 7, _, h => exact absurd h (jv_ne_toInt (k := 7) h8) 
                              | 8, _, h => exact absurd h (jv_ne_toInt (k := 8) h9) 
                              | 9, _, h => exact absurd h (jv_ne_toInt (k := 9) h10) 
                              | 10, _, h => exact absurd h (jv_ne_toInt (k := 10) h11) 
                              | i + 11, hi, _ => exact absurd hi (by simp)) rfl) ?_
                        refine jv_Ev.steps jv_i240 1 (pc' := 89) (l' := [(0, .int c)]) (st' := [.int (10 : Int32)]) rfl ?_
                        exact jv_Ev.ret jv_i240 rfl rfl
def vb_opp (c : Nat) : Nat := match c with
  | 0 => 1 | 1 => 0 | 2 => 5 | 3 => 4 | 4 => 3 | 5 => 2 | 6 => 9 | 7 => 8 | 8 => 7 | 9 => 6 | 10 => 11 | _ => 10
theorem vr_opp_tab : ∀ c : Fin 12, (if ((vl_I c.1) = Int32.ofInt 0) then (1 : Int32) else (if ((vl_I c.1) = Int32.ofInt 1) then (0 : Int32) else (if ((vl_I c.1) = Int32.ofInt 2) then (5 : Int32) else (if ((vl_I c.1) = Int32.ofInt 3) then (4 : Int32) else (if ((vl_I c.1) = Int32.ofInt 4) then (3 : Int32) else (if ((vl_I c.1) = Int32.ofInt 5) then (2 : Int32) else (if ((vl_I c.1) = Int32.ofInt 6) then (9 : Int32) else (if ((vl_I c.1) = Int32.ofInt 7) then (8 : Int32) else (if ((vl_I c.1) = Int32.ofInt 8) then (7 : Int32) else (if ((vl_I c.1) = Int32.ofInt 9) then (6 : Int32) else (if ((vl_I c.1) = Int32.ofInt 10) then (11 : Int32) else (10 : Int32)))))))))))) = vl_I (vb_opp c.1) := by decide +kernel
theorem vr_opposite (G : jv_G) (c : Nat) (hc : c ≤ 11) {n sl : Nat} : jv_Ms 240 [.int (vl_I c)] G n sl (some (.int (vl_I (vb_opp c))), G, n, sl) := by
  have H := vr_opposite0 G (vl_I c) (n := n) (sl := sl)
  rw [vr_opp_tab ⟨c, by omega⟩] at H
  exact H
theorem vb_opp_le {c : Nat} (hc : c ≤ 11) : vb_opp c ≤ 11 := by
  match c, hc with
  | 0, _ => decide
  | 1, _ => decide
  | 2, _ => decide
  | 3, _ => decide
  | 4, _ => decide
  | 5, _ => decide
  | 6, _ => decide
  | 7, _ => decide
  | 8, _ => decide
  | 9, _ => decide
  | 10, _ => decide
  | 11, _ => decide
  | k + 12, hc => omega