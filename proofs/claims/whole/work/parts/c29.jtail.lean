/-! part c29: a jump of the reference: where its ways go (gen/tc29.py) -/
def vx_jl (f : vf_F) (p : Nat) (r : Nat × Option vt_A × Option vt_A) : List (Int × vt_A) := (match r.2.1 with | some B => [((p : Int) + 1, B)] | none => []) ++ (match r.2.2 with | some B => [((p : Int) + 1 + f.o, B)] | none => [])
def vr_E17 : Nat → Nat → Prop := fun q f => (202 ≤ q ∧ q ≤ 204) ∨ (q = 196 ∧ f = 17)
def anyP : Nat → Prop := fun _ => True
theorem vz_gos1 (fr : Nat) (e : Int × vt_A) (st : vz_S) : vz_gos fr [e] st = vz_go fr e.1.toNat e.2 st := by
  show (_, _ || false) = _
  rw [Bool.or_false]; rfl
theorem vz_gos2 (fr : Nat) (e g : Int × vt_A) (st : vz_S) : vz_gos fr [e, g] st = ((vz_go fr g.1.toNat g.2 (vz_go fr e.1.toNat e.2 st).1).1, (vz_go fr e.1.toNat e.2 st).2 || (vz_go fr g.1.toNat g.2 (vz_go fr e.1.toNat e.2 st).1).2) := by
  show (_, _ || (_ || false)) = _
  rw [Bool.or_false]; rfl
theorem vz_go_cnt (fr q : Nat) (B : vt_A) (st : vz_S) (j : Nat) : (vz_go fr q B st).1.2 j ≤ st.2 j + 1 := by
  cases h : st.1 q with
  | none =>
    rw [vz_go_none h]
    show vz_u st.2 q 0 j ≤ _
    unfold vz_u; split <;> omega
  | some C =>
    by_cases c : vt_meetA (decide (q ≤ fr ∧ 2 ≤ st.2 q)) C B = C
    · rw [vz_go_same h c]; exact Nat.le_succ _
    · rw [vz_go_new h c]
      show vz_u st.2 q (st.2 q + 1) j ≤ _
      unfold vz_u; split
      · next e => rw [e]; exact Nat.le_refl _
      · exact Nat.le_succ _
theorem vi_tgt {p : Nat} {o : Int} {x : Int32} (hx : x.toInt = o) (hp : p < 1024) (h : 0 ≤ (p : Int) + 1 + o ∧ (p : Int) + 1 + o < 1024) : (vl_I p + (1 : Int32)) + x = vl_I ((p : Int) + 1 + o).toNat := by
  have e1 : (vl_I p + (1 : Int32)).toInt = (p : Int) + 1 := by rw [vl_I_p1]; exact vl_I_int (by omega)
  refine Int32.toInt_inj.mp ?_
  rw [Int32.toInt_add, e1, hx, vi_bm32 (by omega) (by omega), show (vl_I ((p : Int) + 1 + o).toNat).toInt = (((p : Int) + 1 + o).toNat : Int) from vl_I_int (by omega)]; omega
theorem vi_or17 {a b : Bool} {x y z : Int32} (h1 : y = if a = true then 1 else x) (h2 : z = if b = true then 1 else y) : z = if (a || b) = true then 1 else x := by
  cases a <;> cases b <;> (rw [h2]; first | rfl | (rw [h1]; rfl))
theorem vr_j10_T {I : Nat → Nat → Int32} {L : Nat → Nat → Int64} (h : vr_okA I 1025) (s : (vr_T I L (75 * 1025 + 10)).sort ≠ 1) : vr_j10 I := ⟨fun z => s ((vr_is 1 (by decide) (h 10 (by decide))).mpr z), vr_reg (h 10 (by decide)) (by decide)⟩
theorem jv_i309 : jv_I 309 14 (some .int) 9 259 jv_c309 := ⟨rfl, rfl, rfl, rfl, rfl⟩
set_option maxRecDepth 8000 in
theorem vq_jT {K : Nat → Option (Nat × Nat)} {I : Nat → Nat → Int32} {L : Nat → Nat → Int64} {R : Nat → Nat → Value} {st : vz_S} (f : vf_F) (p : Nat) (a b : Bool) {r : Nat × Option vt_A × Option vt_A} (hW : jv_rW K R) (hf : vr_fl I) (hS : vr_ST I L st) (D : vr_dec I f) (h18 : I 196 18 = vl_I p) (hp : p < 1024) (hch : ∀ q, st.2 q < 2147483000) (hj : vr_j10 I) (ha : a = true → vr_okA I 1027 ∧ vt_okA (vr_A I L 1027) ∧ I 202 1027 = vr_b true ∧ p + 1 < 1024) (hb : b = true → vr_okA I 1025 ∧ vt_okA (vr_A I L 1025) ∧ I 202 1025 = vr_b true ∧ (0 ≤ (p : Int) + 1 + f.o ∧ (p : Int) + 1 + f.o < 1024)) (ea : r.2.1 = if a = true then some (vr_A I L 1027) else none) (eb : r.2.2 = if b = true then some (vr_A I L 1025) else none) {n sl : Nat} {Q : jv_R → Prop} (hQ : ∀ I1 L1, vr_ST I1 L1 (vz_gos p (vx_jl f p r) st).1 → I1 196 17 = (if (vz_gos p (vx_jl f p r) st).2 = true then 1 else I 196 17) → vr_fr anyP vr_E17 I L I1 L1 → vr_j10 I1 → Q (some (.int 0), jv_H K I1 L1 R, n, sl)) : jv_Wp 309 564 [(0, .ref 196), (1, .int (vl_I p)), (11, .int (vr_b a)), (12, .int (vr_b b))] [] (jv_H K I L R) n sl Q := by
  refine jv_Wp.lift (fun _ Kz => jv_Ev.steps jv_i309 1 (pc' := 566) (l' := [(0, .ref 196), (1, .int (vl_I p)), (11, .int (vr_b a)), (12, .int (vr_b b))]) (st' := [.int (vr_b a)]) rfl Kz) ?_
  refine jv_Wp.cnd jv_i309 (pt := 579) (pe := 569) (p := ((vr_b a) = 0)) (q := ((vr_b a) = 0)) rfl jv_bi_eq rfl rfl Iff.rfl (fun h1 => ?_) (fun h1 => ?_)
  · refine jv_Wp.lift (fun _ Kz => jv_Ev.steps jv_i309 1 (pc' := 581) (l' := [(0, .ref 196), (1, .int (vl_I p)), (11, .int (vr_b a)), (12, .int (vr_b b))]) (st' := [.int (vr_b b)]) rfl Kz) ?_
    refine jv_Wp.cnd jv_i309 (pt := 599) (pe := 584) (p := ((vr_b b) = 0)) (q := ((vr_b b) = 0)) rfl jv_bi_eq rfl rfl Iff.rfl (fun h2 => ?_) (fun h2 => ?_)
    · refine jv_Wp.lift (fun _ Kz => jv_Ev.steps jv_i309 1 (pc' := 600) (l' := [(0, .ref 196), (1, .int (vl_I p)), (11, .int (vr_b a)), (12, .int (vr_b b))]) (st' := [.int (0 : Int32)]) rfl Kz) ?_
      refine jv_Wp.of (jv_Ev.ret jv_i309 rfl rfl) ?_
      have ta := vr_b_f h1
      have tb := vr_b_f h2
      rw [ta] at ea
      rw [tb] at eb
      have el : vx_jl f p r = [] := by unfold vx_jl; rw [ea, eb]; rfl
      have ep : ((p : Int) + 1).toNat = p + 1 := by omega
      refine hQ _ _ (by rw [el]; exact hS) (by rw [el]; rfl) (vr_fr_refl hf) hj
    · refine jv_Wp.lift (fun _ Kz => jv_Ev.steps jv_i309 6 (pc' := 592) (l' := [(0, .ref 196), (1, .int (vl_I p)), (11, .int (vr_b a)), (12, .int (vr_b b))]) (st' := [.ref 196, .int ((vl_I p) + (1 : Int32)), .int (1025 : Int32), .ref 196]) rfl Kz) ?_
      refine jv_Wp.lift (fun _ Kz => jv_Ev.m jv_i309 (pc' := 595) (st' := [.int (Int32.ofInt f.o), .int ((vl_I p) + (1 : Int32)), .int (1025 : Int32), .ref 196]) (G' := (jv_H K I L R)) rfl rfl (jv_m_getI (jv_rwK hW 196 12 24 (by decide)) rfl rfl (vr_dI D)) Kz) ?_
      refine jv_Wp.lift (fun _ Kz => jv_Ev.steps jv_i309 1 (pc' := 596) (l' := [(0, .ref 196), (1, .int (vl_I p)), (11, .int (vr_b a)), (12, .int (vr_b b))]) (st' := [.int (((vl_I p) + (1 : Int32)) + (Int32.ofInt f.o)), .int (1025 : Int32), .ref 196]) rfl Kz) ?_
      have tb := vr_b_t h2
      obtain ⟨o5, t5, h5, q5⟩ := hb tb
      obtain ⟨I1, L1, H1, S1, g1, F1⟩ := vq_goTo (R := R) (n := n) (sl := sl) (st := st) 1025 ((p : Int) + 1 + f.o).toNat p true hW hf hS (by decide) (by decide) (by decide) (by omega) o5 t5 h5 h18 (by omega) (by have := hch ((p : Int) + 1 + f.o).toNat; omega)
      rw [← vi_tgt (vr_dO D) hp q5] at H1
      refine jv_Wp.lift (fun _ Kz => jv_Ev.c jv_i309 (pc' := 599) (S' := []) (G1 := (jv_H K I1 L1 R)) jv_i281 [.ref 196, .int (1025 : Int32), .int (((vl_I p) + (1 : Int32)) + (Int32.ofInt f.o))] rfl rfl rfl rfl (jv_cal rfl (jv_H_at (jv_rwK hW 196 12 24 (by decide))) rfl rfl) rfl H1 rfl rfl Kz) ?_
      refine jv_Wp.lift (fun _ Kz => jv_Ev.steps jv_i309 1 (pc' := 600) (l' := [(0, .ref 196), (1, .int (vl_I p)), (11, .int (vr_b a)), (12, .int (vr_b b))]) (st' := [.int (0 : Int32)]) rfl Kz) ?_
      refine jv_Wp.of (jv_Ev.ret jv_i309 rfl rfl) ?_
      have ta := vr_b_f h1
      rw [ta] at ea
      rw [tb] at eb
      have el : vx_jl f p r = [((p : Int) + 1 + f.o, (vr_A I L 1025))] := by unfold vx_jl; rw [ea, eb]; rfl
      have ep : ((p : Int) + 1).toNat = p + 1 := by omega
      exact hQ _ _ (by rw [el, vz_gos1]; show vr_ST I1 L1 (vz_go p _ _ st).1; exact S1) (by rw [el, vz_gos1]; show _ = if (vz_go p _ _ st).2 = true then 1 else _; exact g1) (vr_fr_mono F1 (fun _ _ => trivial) (fun q g z => z.elim (fun z => Or.inl (by omega)) (fun z => Or.inr z))) ⟨by rw [(vr_fr_i F1 (x := 76885) (fun z => by unfold vr_th at z; omega)).1]; exact hj.1, by rw [(vr_fr_i F1 (x := 76885) (fun z => by unfold vr_th at z; omega)).1]; exact hj.2⟩
  · refine jv_Wp.lift (fun _ Kz => jv_Ev.steps jv_i309 5 (pc' := 576) (l' := [(0, .ref 196), (1, .int (vl_I p)), (11, .int (vr_b a)), (12, .int (vr_b b))]) (st' := [.int ((vl_I p) + (1 : Int32)), .int (1027 : Int32), .ref 196]) rfl Kz) ?_
    have ta := vr_b_t h1
    obtain ⟨o7, t7, h7, p7⟩ := ha ta
    obtain ⟨I2, L2, H2, S2, g2, F2⟩ := vq_goTo (R := R) (n := n) (sl := sl) (st := st) 1027 (p + 1) p true hW hf hS (by decide) (by decide) (by decide) p7 o7 t7 h7 h18 (by omega) (by have := hch (p + 1); omega)
    rw [← vl_I_p1 p] at H2
    have Z2 := vr_fl_of F2
    have D2 := vr_dec_fr F2 (fun j hj z => by omega) D
    refine jv_Wp.lift (fun _ Kz => jv_Ev.c jv_i309 (pc' := 579) (S' := []) (G1 := (jv_H K I2 L2 R)) jv_i281 [.ref 196, .int (1027 : Int32), .int ((vl_I p) + (1 : Int32))] rfl rfl rfl rfl (jv_cal rfl (jv_H_at (jv_rwK hW 196 12 24 (by decide))) rfl rfl) rfl H2 rfl rfl Kz) ?_
    refine jv_Wp.lift (fun _ Kz => jv_Ev.steps jv_i309 1 (pc' := 581) (l' := [(0, .ref 196), (1, .int (vl_I p)), (11, .int (vr_b a)), (12, .int (vr_b b))]) (st' := [.int (vr_b b)]) rfl Kz) ?_
    refine jv_Wp.cnd jv_i309 (pt := 599) (pe := 584) (p := ((vr_b b) = 0)) (q := ((vr_b b) = 0)) rfl jv_bi_eq rfl rfl Iff.rfl (fun h3 => ?_) (fun h3 => ?_)
    · refine jv_Wp.lift (fun _ Kz => jv_Ev.steps jv_i309 1 (pc' := 600) (l' := [(0, .ref 196), (1, .int (vl_I p)), (11, .int (vr_b a)), (12, .int (vr_b b))]) (st' := [.int (0 : Int32)]) rfl Kz) ?_
      refine jv_Wp.of (jv_Ev.ret jv_i309 rfl rfl) ?_
      have tb := vr_b_f h3
      rw [ta] at ea
      rw [tb] at eb
      have el : vx_jl f p r = [((p : Int) + 1, (vr_A I L 1027))] := by unfold vx_jl; rw [ea, eb]; rfl
      have ep : ((p : Int) + 1).toNat = p + 1 := by omega
      exact hQ _ _ (by rw [el, vz_gos1]; show vr_ST I2 L2 (vz_go p _ _ st).1; rw [ep]; exact S2) (by rw [el, vz_gos1]; show _ = if (vz_go p _ _ st).2 = true then 1 else _; rw [ep]; exact g2) (vr_fr_mono F2 (fun _ _ => trivial) (fun q g z => z.elim (fun z => Or.inl (by omega)) (fun z => Or.inr z))) ⟨by rw [(vr_fr_i F2 (x := 76885) (fun z => by unfold vr_th at z; omega)).1]; exact hj.1, by rw [(vr_fr_i F2 (x := 76885) (fun z => by unfold vr_th at z; omega)).1]; exact hj.2⟩
    · refine jv_Wp.lift (fun _ Kz => jv_Ev.steps jv_i309 6 (pc' := 592) (l' := [(0, .ref 196), (1, .int (vl_I p)), (11, .int (vr_b a)), (12, .int (vr_b b))]) (st' := [.ref 196, .int ((vl_I p) + (1 : Int32)), .int (1025 : Int32), .ref 196]) rfl Kz) ?_
      refine jv_Wp.lift (fun _ Kz => jv_Ev.m jv_i309 (pc' := 595) (st' := [.int (Int32.ofInt f.o), .int ((vl_I p) + (1 : Int32)), .int (1025 : Int32), .ref 196]) (G' := (jv_H K I2 L2 R)) rfl rfl (jv_m_getI (jv_rwK hW 196 12 24 (by decide)) rfl rfl (vr_dI D2)) Kz) ?_
      refine jv_Wp.lift (fun _ Kz => jv_Ev.steps jv_i309 1 (pc' := 596) (l' := [(0, .ref 196), (1, .int (vl_I p)), (11, .int (vr_b a)), (12, .int (vr_b b))]) (st' := [.int (((vl_I p) + (1 : Int32)) + (Int32.ofInt f.o)), .int (1025 : Int32), .ref 196]) rfl Kz) ?_
      have tb := vr_b_t h3
      obtain ⟨o5, t5, h5, q5⟩ := hb tb
      have E5 : vr_A I2 L2 1025 = vr_A I L 1025 := vr_fr_Ak F2 (fun n hn z => by unfold vr_th at z; omega) (fun z => by omega)
      have O5 : vr_okA I2 1025 := vr_fr_okA F2 (fun n hn z => by unfold vr_th at z; omega) o5
      have H5 : I2 202 1025 = vr_b true := (F2.2.1 202 1025 (fun z => by omega) (by decide) (fun z => by omega)).trans h5
      have H18 : I2 196 18 = vl_I p := (F2.2.1 196 18 (fun z => by omega) (by decide) (fun z => by omega)).trans h18
      obtain ⟨I3, L3, H3, S3, g3, F3⟩ := vq_goTo (R := R) (n := n) (sl := sl) 1025 ((p : Int) + 1 + f.o).toNat p true hW Z2 S2 (by decide) (by decide) (by decide) (by omega) O5 (by rw [E5]; exact t5) H5 H18 (by omega) (by have h1 := hch ((p : Int) + 1 + f.o).toNat; have h2 := vz_go_cnt p (p + 1) (vr_A I L 1027) st ((p : Int) + 1 + f.o).toNat; omega)
      rw [E5] at S3 g3
      rw [← vi_tgt (vr_dO D) hp q5] at H3
      refine jv_Wp.lift (fun _ Kz => jv_Ev.c jv_i309 (pc' := 599) (S' := []) (G1 := (jv_H K I3 L3 R)) jv_i281 [.ref 196, .int (1025 : Int32), .int (((vl_I p) + (1 : Int32)) + (Int32.ofInt f.o))] rfl rfl rfl rfl (jv_cal rfl (jv_H_at (jv_rwK hW 196 12 24 (by decide))) rfl rfl) rfl H3 rfl rfl Kz) ?_
      refine jv_Wp.lift (fun _ Kz => jv_Ev.steps jv_i309 1 (pc' := 600) (l' := [(0, .ref 196), (1, .int (vl_I p)), (11, .int (vr_b a)), (12, .int (vr_b b))]) (st' := [.int (0 : Int32)]) rfl Kz) ?_
      refine jv_Wp.of (jv_Ev.ret jv_i309 rfl rfl) ?_
      rw [ta] at ea
      rw [tb] at eb
      have el : vx_jl f p r = [((p : Int) + 1, (vr_A I L 1027)), ((p : Int) + 1 + f.o, (vr_A I L 1025))] := by unfold vx_jl; rw [ea, eb]; rfl
      have ep : ((p : Int) + 1).toNat = p + 1 := by omega
      have j1 : vr_j10 I2 := ⟨by rw [(vr_fr_i F2 (x := 76885) (fun z => by unfold vr_th at z; omega)).1]; exact hj.1, by rw [(vr_fr_i F2 (x := 76885) (fun z => by unfold vr_th at z; omega)).1]; exact hj.2⟩
      exact hQ _ _ (by rw [el, vz_gos2]; show vr_ST I3 L3 (vz_go p _ _ (vz_go p ((p : Int) + 1).toNat _ st).1).1; rw [ep]; exact S3) (by rw [el, vz_gos2]; show _ = if ((vz_go p ((p : Int) + 1).toNat _ st).2 || (vz_go p _ _ (vz_go p ((p : Int) + 1).toNat _ st).1).2) = true then 1 else _; rw [ep]; exact vi_or17 g2 g3) (vr_fr_trans (vr_fr_mono F2 (fun _ _ => trivial) (fun q g z => z.elim (fun z => Or.inl (by omega)) (fun z => Or.inr z))) (vr_fr_mono F3 (fun _ _ => trivial) (fun q g z => z.elim (fun z => Or.inl (by omega)) (fun z => Or.inr z)))) ⟨by rw [(vr_fr_i F3 (x := 76885) (fun z => by unfold vr_th at z; omega)).1]; exact j1.1, by rw [(vr_fr_i F3 (x := 76885) (fun z => by unfold vr_th at z; omega)).1]; exact j1.2⟩