/-! part d06: where a program flows (gen/td06.py) -/
theorem vq_jump {K : Nat → Option (Nat × Nat)} {I : Nat → Nat → Int32} {L : Nat → Nat → Int64} {R : Nat → Nat → Value} {st : vz_S} (f : vf_F) (p : Nat) (hW : jv_rW K R) (hf : vr_fl I) (hS : vr_ST I L st) (D : vr_dec I f) (h18 : I 196 18 = vl_I p) (hp : p < 1024) (hch : ∀ q, st.2 q < 2147483000) (hd11 : f.d < 11) (hs11 : f.s < 11) (oa : vr_okA I 1024) (tA : ∀ n, n < 75 → vt_ok (vr_T I L (76800 + n))) (gA : ∀ n, n < 75 → vt_g (vr_T I L (76800 + n))) (hh : I 202 1024 = vr_b true) (hj : vr_j10 I) (h10 : (vr_T I L (76800 + 10)).sort ≠ 1) (h10m : (vr_T I L (76800 + 10)).sort ≠ 8) (hZ6 : vb_toS (vr_S L 6) = vb_just 0) (gd : ∀ B, (vx_jump f (vr_A I L 1024)).2.1 = some B → vt_okA B) (gj : ∀ B, (vx_jump f (vr_A I L 1024)).2.2 = some B → vt_okA B) (p1 : p + 1 < 1024) (p2 : 0 ≤ (p : Int) + 1 + f.o ∧ (p : Int) + 1 + f.o < 1024) (hk : f.kind = 5 ∨ f.kind = 6) {n sl : Nat} : ∃ I1 L1, jv_Ms 309 [.ref 196, .int (vl_I p)] (jv_H K I L R) n sl (some (.int (vl_I (vx_jump f (vr_A I L 1024)).1)), jv_H K I1 L1 R, n, sl) ∧ ((vx_jump f (vr_A I L 1024)).1 = 0 → vr_ST I1 L1 (vz_gos p (vx_jl f p (vx_jump f (vr_A I L 1024))) st).1 ∧ I1 196 17 = (if (vz_gos p (vx_jl f p (vx_jump f (vr_A I L 1024))) st).2 = true then 1 else I 196 17)) ∧ vr_fr anyP vr_E17 I L I1 L1 ∧ vr_j10 I1 := by
  rcases Bool.eq_false_or_eq_true f.bit3 with hb | hb
  · rcases hk with k | k
    · exact vq_jumpR5 f p hW hf hS D h18 hp hch hd11 hs11 oa tA gA hh hj h10 h10m hZ6 gd gj p1 p2 k hb
    · exact vq_jumpR6 f p hW hf hS D h18 hp hch hd11 hs11 oa tA gA hh hj h10 h10m hZ6 gd gj p1 p2 k hb
  · rcases hk with k | k
    · exact vq_jumpI5 f p hW hf hS D h18 hp hch hd11 hs11 oa tA gA hh hj h10 h10m hZ6 gd gj p1 p2 k hb
    · exact vq_jumpI6 f p hW hf hS D h18 hp hch hd11 hs11 oa tA gA hh hj h10 h10m hZ6 gd gj p1 p2 k hb
theorem vq_call {K : Nat → Option (Nat × Nat)} {I : Nat → Nat → Int32} {L : Nat → Nat → Int64} {R : Nat → Nat → Value} (M : vf_M) (f : vf_F) (p : Nat) (hW : jv_rW K R) (hf : vr_fl I) (hM : vr_M I M) (D : vr_dec I f) (oa : vr_okA I 1024) (hj : vr_j10 I) (tA : ∀ n, n < 75 → vt_ok (vr_T I L (76800 + n))) (gA : ∀ n, n < 75 → vt_g (vr_T I L (76800 + n))) (hp : p < 1024) {n sl : Nat} : ∃ I1 L1, jv_Ms 302 [.ref 196, .int (vl_I p)] (jv_H K I L R) n sl (some (.int (vl_I (vx_call M f.i p (vr_A I L 1024)).1)), jv_H K I1 L1 R, n, sl) ∧ ((vx_call M f.i p (vr_A I L 1024)).1 = 0 → vr_A I1 L1 1024 = (vx_call M f.i p (vr_A I L 1024)).2 ∧ vr_okA I1 1024) ∧ vr_fr (fun x => 76800 ≤ x ∧ x < 76875) (fun q f => q = 203 ∧ f = 1024) I L I1 L1 := by
  by_cases i1 : f.i = 1
  · exact vq_call1 M f p hW hf hM D oa hj tA gA hp i1
  by_cases i6 : f.i = 6
  · exact vq_call6 M f p hW hf hM D oa hj tA gA hp i6
  · exact vq_call0 M f p hW hf hM D oa hj tA gA hp i1 i6
theorem vx_one0 {r : Nat × vt_A} {q : Int} (h : r.1 = 0) : vx_one r q = (0, [(q, r.2)]) := if_neg (fun z => z h)
theorem vx_one_n {r : Nat × vt_A} {q : Int} (h : r.1 ≠ 0) : vx_one r q = (r.1, []) := if_pos h
theorem vr_sm2 {c v : Nat} (hc : c < 256) (hv : v < 256) {x : Int32} (hx : x = vl_I c) : x = vl_I v ↔ c = v := vr_sm (by omega) (by omega) hx
section
variable {M : vf_M} {f : vf_F} {i2 : Int} {p : Nat} {A : vt_A}
theorem vx_do5 (h : f.kind = 5 ∨ f.kind = 6) (c : f.code = 5) : vx_does M f i2 p A = (0, [((p : Int) + 1 + f.o, A)]) := (vx_doj h).trans (if_pos c)
theorem vx_do6 (h : f.kind = 5 ∨ f.kind = 6) (c : f.code = 6) : vx_does M f i2 p A = (0, [((p : Int) + 1 + f.i, A)]) := (vx_doj h).trans ((if_neg (by omega)).trans (if_pos c))
theorem vx_do133 (h : f.kind = 5 ∨ f.kind = 6) (c : f.code = 133) : vx_does M f i2 p A = vx_one (vx_call M f.i p A) (p + 1) := (vx_doj h).trans ((if_neg (by omega)).trans ((if_neg (by omega)).trans (if_pos c)))
theorem vx_do149 (h : f.kind = 5 ∨ f.kind = 6) (c : f.code = 149) : vx_does M f i2 p A = (vx_isnum A 0 6, []) := (vx_doj h).trans ((if_neg (by omega)).trans ((if_neg (by omega)).trans ((if_neg (by omega)).trans (if_pos c))))
theorem vx_dojj (h : f.kind = 5 ∨ f.kind = 6) (c5 : ¬ f.code = 5) (c6 : ¬ f.code = 6) (c1 : ¬ f.code = 133) (c4 : ¬ f.code = 149) : vx_does M f i2 p A = (if (vx_jump f A).1 ≠ 0 then ((vx_jump f A).1, []) else (0, vx_jl f p (vx_jump f A))) := (vx_doj h).trans ((if_neg c5).trans ((if_neg c6).trans ((if_neg c1).trans (if_neg c4))))
theorem vx_jif1 (r : Nat) (l : List (Int × vt_A)) : (if r ≠ 0 then (r, ([] : List (Int × vt_A))) else (0, l)).1 = r := by
  by_cases c : r = 0
  · rw [if_neg (fun z => z c), c]
  · rw [if_pos c]
theorem vx_call_lt {c : Int} : (vx_call M c p A).1 < 9 := by
  by_cases h : vx_allowed M A c = 0
  · by_cases h1 : c = 1
    · subst h1; rw [vx_cl1 h]; exact (by decide : 0 < 9)
    by_cases h6 : c = 6
    · subst h6; rw [vx_cl6 h]; exact (by decide : 0 < 9)
    · rw [vx_clp h h1 h6]; exact (by decide : 0 < 9)
  · rw [vx_cl0 h]; exact vx_allowed_lt
theorem vx_jump_0 (h : (∃ B, (vx_jump f A).2.1 = some B) ∨ ∃ B, (vx_jump f A).2.2 = some B) : (vx_jump f A).1 = 0 := by
  by_cases h1 : vx_j1 f A
  · rw [vx_jp1 h1] at h; rcases h with ⟨B, h⟩ | ⟨B, h⟩ <;> cases h
  by_cases h2 : vx_j2 f A
  · exact vx_jump_num h1 h2
  by_cases h3 : vx_j3 f A
  · rw [vx_jp3 h1 h2 h3]
  by_cases h4 : vx_j4 f A
  · exact vx_jump_pkt h1 h2 h3 h4
  · rw [vx_jp5 h1 h2 h3 h4] at h; rcases h with ⟨B, h⟩ | ⟨B, h⟩ <;> cases h
end
theorem jv_i312 : jv_I 312 3 (some .int) 10 292 jv_c312 := ⟨rfl, rfl, rfl, rfl, rfl⟩
theorem vq_flow {K : Nat → Option (Nat × Nat)} {I : Nat → Nat → Int32} {L : Nat → Nat → Int64} {R : Nat → Nat → Value} {st : vz_S} {M : vf_M} (f : vf_F) (p : Nat) (i2 : Int) (hW : jv_rW K R) (hf : vr_fl I) (hM : vr_M I M) (hS : vr_ST I L st) (D : vr_dec I f) (h18 : I 196 18 = vl_I p) (hp : p < 1024) (hch : ∀ q, st.2 q < 2147483000) (hx : vf_x f) (oa : vr_okA I 1024) (tA : ∀ n, n < 75 → vt_ok (vr_T I L (76800 + n))) (gA : ∀ n, n < 75 → vt_g (vr_T I L (76800 + n))) (hh : I 202 1024 = vr_b true) (hj : vr_j10 I) (h10 : (vr_T I L (76800 + 10)).sort ≠ 1) (h10m : (vr_T I L (76800 + 10)).sort ≠ 8) (hZ6 : vb_toS (vr_S L 6) = vb_just 0) (hk : f.kind = 5 ∨ f.kind = 6) (hg : ∀ e ∈ (vx_does M f i2 p (vr_A I L 1024)).2, vt_okA e.2) (hto : ∀ e ∈ (vx_does M f i2 p (vr_A I L 1024)).2, 0 ≤ e.1 ∧ e.1 < 1024) (hp1 : ¬ f.code = 5 → ¬ f.code = 6 → ¬ f.code = 149 → p + 1 < 1024) (hp2 : ¬ f.code = 6 → ¬ f.code = 133 → ¬ f.code = 149 → 0 ≤ (p : Int) + 1 + f.o ∧ (p : Int) + 1 + f.o < 1024) {n sl : Nat} : ∃ I1 L1, jv_Ms 312 [.ref 196, .int (vl_I p)] (jv_H K I L R) n sl (some (.int (vl_I (vx_does M f i2 p (vr_A I L 1024)).1)), jv_H K I1 L1 R, n, sl) ∧ ((vx_does M f i2 p (vr_A I L 1024)).1 = 0 → vr_ST I1 L1 (vz_gos p (vx_does M f i2 p (vr_A I L 1024)).2 st).1 ∧ I1 196 17 = (if (vz_gos p (vx_does M f i2 p (vr_A I L 1024)).2 st).2 = true then 1 else I 196 17)) ∧ vr_fr anyP vr_E18 I L I1 L1 ∧ vr_j10 I1 := by
  obtain ⟨Q, hQ⟩ : ∃ Q : jv_R → Prop, Q = fun X => ∃ I1 L1, X = (some (.int (vl_I (vx_does M f i2 p (vr_A I L 1024)).1)), jv_H K I1 L1 R, n, sl) ∧ ((vx_does M f i2 p (vr_A I L 1024)).1 = 0 → vr_ST I1 L1 (vz_gos p (vx_does M f i2 p (vr_A I L 1024)).2 st).1 ∧ I1 196 17 = (if (vz_gos p (vx_does M f i2 p (vr_A I L 1024)).2 st).2 = true then 1 else I 196 17)) ∧ vr_fr anyP vr_E18 I L I1 L1 ∧ vr_j10 I1 := ⟨_, rfl⟩
  suffices h : jv_Wp 312 0 [(0, .ref 196), (1, .int (vl_I p))] [] (jv_H K I L R) n sl Q by
    rw [hQ] at h
    obtain ⟨X, h, I1, L1, e, h'⟩ := h
    subst e
    exact ⟨I1, L1, h, h'⟩
  have hc256 := vr_dc D
  have hn16 := vr_dn D
  have hk8 := vr_dk D
  refine jv_Wp.lift (fun _ Kz => jv_Ev.steps jv_i312 1 (pc' := 1) (l' := [(0, .ref 196), (1, .int (vl_I p))]) (st' := [.ref 196]) rfl Kz) ?_
  refine jv_Wp.lift (fun _ Kz => jv_Ev.m jv_i312 (pc' := 4) (st' := [.int (vl_I f.code)]) (G' := (jv_H K I L R)) rfl rfl (jv_m_getI (jv_rwK hW 196 12 24 (by decide)) rfl rfl D.1) Kz) ?_
  refine jv_Wp.lift (fun _ Kz => jv_Ev.steps jv_i312 1 (pc' := 7) (l' := [(0, .ref 196), (1, .int (vl_I p))]) (st' := [.int (149 : Int32), .int (vl_I f.code)]) rfl Kz) ?_
  refine jv_Wp.cnd jv_i312 (pt := 38) (pe := 10) (p := (¬ (vl_I f.code) = (149 : Int32))) (q := (¬ (vl_I f.code) = (149 : Int32))) rfl jv_bc_ne rfl rfl Iff.rfl (fun h1 => ?_) (fun h1 => ?_)
  · refine jv_Wp.lift (fun _ Kz => jv_Ev.steps jv_i312 1 (pc' := 39) (l' := [(0, .ref 196), (1, .int (vl_I p))]) (st' := [.ref 196]) rfl Kz) ?_
    refine jv_Wp.lift (fun _ Kz => jv_Ev.m jv_i312 (pc' := 42) (st' := [.int (vl_I f.code)]) (G' := (jv_H K I L R)) rfl rfl (jv_m_getI (jv_rwK hW 196 12 24 (by decide)) rfl rfl D.1) Kz) ?_
    refine jv_Wp.lift (fun _ Kz => jv_Ev.steps jv_i312 1 (pc' := 45) (l' := [(0, .ref 196), (1, .int (vl_I p))]) (st' := [.int (133 : Int32), .int (vl_I f.code)]) rfl Kz) ?_
    refine jv_Wp.cnd jv_i312 (pt := 70) (pe := 48) (p := (¬ (vl_I f.code) = (133 : Int32))) (q := (¬ (vl_I f.code) = (133 : Int32))) rfl jv_bc_ne rfl rfl Iff.rfl (fun h2 => ?_) (fun h2 => ?_)
    · refine jv_Wp.lift (fun _ Kz => jv_Ev.steps jv_i312 1 (pc' := 71) (l' := [(0, .ref 196), (1, .int (vl_I p))]) (st' := [.ref 196]) rfl Kz) ?_
      refine jv_Wp.lift (fun _ Kz => jv_Ev.c jv_i312 (pc' := 74) (S' := [.int (vl_I f.n)]) jv_i258 [.ref 196] rfl rfl rfl rfl (jv_cal rfl (jv_H_at (jv_rwK hW 196 12 24 (by decide))) rfl rfl) rfl (vq_n f hW D) rfl rfl Kz) ?_
      refine jv_Wp.cnd jv_i312 (pt := 114) (pe := 77) (p := (¬ (vl_I f.n) = 0)) (q := (¬ (vl_I f.n) = 0)) rfl jv_bi_ne rfl rfl Iff.rfl (fun h3 => ?_) (fun h3 => ?_)
      · refine jv_Wp.lift (fun _ Kz => jv_Ev.steps jv_i312 2 (pc' := 116) (l' := [(0, .ref 196), (1, .int (vl_I p))]) (st' := [.int (vl_I p), .ref 196]) rfl Kz) ?_
        have c149 : ¬ f.code = 149 := fun z => h1 ((vr_sm2 (c := f.code) (v := 149) hc256 (by decide) rfl).mpr z)
        have c133 : ¬ f.code = 133 := fun z => h2 ((vr_sm2 (c := f.code) (v := 133) hc256 (by decide) rfl).mpr z)
        have mn0 : ¬ f.n = 0 := (fun z => h3 ((vr_sm (v := 0) (by omega) (by decide) rfl).mpr z))
        have cj : ¬ f.code = 5 ∧ ¬ f.code = 6 := by constructor <;> (intro z; apply mn0; unfold vf_F.n; rw [z])
        have ed : (vx_does M f i2 p (vr_A I L 1024)) = (if (vx_jump f (vr_A I L 1024)).1 ≠ 0 then ((vx_jump f (vr_A I L 1024)).1, []) else (0, vx_jl f p (vx_jump f (vr_A I L 1024)))) := vx_dojj hk cj.1 cj.2 c133 c149
        have gdj : (vx_jump f (vr_A I L 1024)).1 = 0 → (vx_does M f i2 p (vr_A I L 1024)).2 = vx_jl f p (vx_jump f (vr_A I L 1024)) := fun z => (congrArg Prod.snd ed).trans (congrArg Prod.snd (if_neg (fun y => y z)))
        have gd : ∀ B, (vx_jump f (vr_A I L 1024)).2.1 = some B → vt_okA B := fun B z => hg ((p : Int) + 1, B) (by rw [gdj (vx_jump_0 (Or.inl ⟨B, z⟩))]; unfold vx_jl; rw [z]; exact List.mem_append_left _ (List.mem_singleton.mpr rfl))
        have gj : ∀ B, (vx_jump f (vr_A I L 1024)).2.2 = some B → vt_okA B := fun B z => hg ((p : Int) + 1 + f.o, B) (by rw [gdj (vx_jump_0 (Or.inr ⟨B, z⟩))]; unfold vx_jl; rw [z]; exact List.mem_append_right _ (List.mem_singleton.mpr rfl))
        obtain ⟨I1, L1, H1, P1, F1, J1⟩ := vq_jump (I := I) (L := L) (n := n) (sl := sl) f p hW hf hS D h18 hp hch hx.1 hx.2.1 oa tA gA hh hj h10 h10m hZ6 gd gj (hp1 cj.1 cj.2 c149) (hp2 cj.2 c133 c149) hk
        refine jv_Wp.lift (fun _ Kz => jv_Ev.c jv_i312 (pc' := 119) (S' := [.int (vl_I (vx_jump f (vr_A I L 1024)).1)]) (G1 := (jv_H K I1 L1 R)) jv_i309 [.ref 196, .int (vl_I p)] rfl rfl rfl rfl (jv_cal rfl (jv_H_at (jv_rwK hW 196 12 24 (by decide))) rfl rfl) rfl H1 rfl rfl Kz) ?_
        refine jv_Wp.of (jv_Ev.ret jv_i312 rfl rfl) ?_
        rw [hQ]
        have e1 : (vx_does M f i2 p (vr_A I L 1024)).1 = (vx_jump f (vr_A I L 1024)).1 := by rw [ed]; exact vx_jif1 _ _
        exact ⟨_, _, by rw [e1], fun z => by rw [e1] at z; rw [gdj z]; exact P1 z, vr_fr_mono F1 (fun _ z => z) (fun q g z => z.elim Or.inl (fun z => Or.inr (by omega))), J1⟩
      · refine jv_Wp.lift (fun _ Kz => jv_Ev.steps jv_i312 3 (pc' := 82) (l' := [(0, .ref 196), (1, .int (vl_I p))]) (st' := [.ref 196, .int (1024 : Int32), .ref 196]) rfl Kz) ?_
        refine jv_Wp.lift (fun _ Kz => jv_Ev.c jv_i312 (pc' := 85) (S' := [.int (vl_I f.kind), .int (1024 : Int32), .ref 196]) jv_i257 [.ref 196] rfl rfl rfl rfl (jv_cal rfl (jv_H_at (jv_rwK hW 196 12 24 (by decide))) rfl rfl) rfl (vq_kind f hW D) rfl rfl Kz) ?_
        refine jv_Wp.lift (fun _ Kz => jv_Ev.steps jv_i312 1 (pc' := 87) (l' := [(0, .ref 196), (1, .int (vl_I p))]) (st' := [.int (6 : Int32), .int (vl_I f.kind), .int (1024 : Int32), .ref 196]) rfl Kz) ?_
        refine jv_Wp.cnd jv_i312 (pt := 101) (pe := 90) (p := (¬ (vl_I f.kind) = (6 : Int32))) (q := (¬ (vl_I f.kind) = (6 : Int32))) rfl jv_bc_ne rfl rfl Iff.rfl (fun h4 => ?_) (fun h4 => ?_)
        · refine jv_Wp.lift (fun _ Kz => jv_Ev.steps jv_i312 4 (pc' := 105) (l' := [(0, .ref 196), (1, .int (vl_I p))]) (st' := [.ref 196, .int ((vl_I p) + (1 : Int32)), .int (1024 : Int32), .ref 196]) rfl Kz) ?_
          refine jv_Wp.lift (fun _ Kz => jv_Ev.m jv_i312 (pc' := 108) (st' := [.int (Int32.ofInt f.o), .int ((vl_I p) + (1 : Int32)), .int (1024 : Int32), .ref 196]) (G' := (jv_H K I L R)) rfl rfl (jv_m_getI (jv_rwK hW 196 12 24 (by decide)) rfl rfl (vr_dI D)) Kz) ?_
          refine jv_Wp.lift (fun _ Kz => jv_Ev.steps jv_i312 1 (pc' := 109) (l' := [(0, .ref 196), (1, .int (vl_I p))]) (st' := [.int (((vl_I p) + (1 : Int32)) + (Int32.ofInt f.o)), .int (1024 : Int32), .ref 196]) rfl Kz) ?_
          have c149 : ¬ f.code = 149 := fun z => h1 ((vr_sm2 (c := f.code) (v := 149) hc256 (by decide) rfl).mpr z)
          have c133 : ¬ f.code = 133 := fun z => h2 ((vr_sm2 (c := f.code) (v := 133) hc256 (by decide) rfl).mpr z)
          have mn0 : f.n = 0 := (vr_sm (v := 0) (by omega) (by decide) rfl).mp (Classical.not_not.mp h3)
          have md6 : ¬ f.kind = 6 := (fun z => h4 ((vr_sm (v := 6) (by omega) (by decide) rfl).mpr z))
          have cc : f.code = 5 := by have q := hx.2.2.2.2.2.2 hk (by omega); have := of_decide_eq_false q; unfold vf_F.n at *; unfold vf_F.kind at *; omega
          have ed : (vx_does M f i2 p (vr_A I L 1024)) = (0, [(((p : Int) + 1 + f.o), (vr_A I L 1024))]) := vx_do5 hk cc
          have eg := congrArg Prod.snd ed
          have tg := hg _ (by rw [eg]; exact List.mem_singleton.mpr rfl)
          have to := hto _ (by rw [eg]; exact List.mem_singleton.mpr rfl)
          obtain ⟨I2, L2, H2, S2, g2, F2⟩ := vq_goTo (R := R) (n := n) (sl := sl) (st := st) 1024 ((p : Int) + 1 + f.o).toNat p true hW hf hS (by decide) (by decide) (by decide) (by have h1 : 0 ≤ ((p : Int) + 1 + f.o) := to.1; have h2 : ((p : Int) + 1 + f.o) < 1024 := to.2; omega) oa tg hh h18 (by omega) (by have := hch ((p : Int) + 1 + f.o).toNat; omega)
          rw [← vi_tgt (vr_dO D) hp to] at H2
          refine jv_Wp.lift (fun _ Kz => jv_Ev.c jv_i312 (pc' := 112) (S' := []) (G1 := (jv_H K I2 L2 R)) jv_i281 [.ref 196, .int (1024 : Int32), .int (((vl_I p) + (1 : Int32)) + (Int32.ofInt f.o))] rfl rfl rfl rfl (jv_cal rfl (jv_H_at (jv_rwK hW 196 12 24 (by decide))) rfl rfl) rfl H2 rfl rfl Kz) ?_
          refine jv_Wp.lift (fun _ Kz => jv_Ev.steps jv_i312 1 (pc' := 113) (l' := [(0, .ref 196), (1, .int (vl_I p))]) (st' := [.int (0 : Int32)]) rfl Kz) ?_
          refine jv_Wp.of (jv_Ev.ret jv_i312 rfl rfl) ?_
          rw [hQ]
          have jx : vr_j10 I2 := by unfold vr_j10; rw [(vr_fr_i F2 (x := 76885) (fun z => by unfold vr_th at z; omega)).1]; exact hj
          exact ⟨_, _, by rw [ed]; rfl, fun _ => ⟨by rw [ed, vz_gos1]; exact S2, by rw [ed, vz_gos1]; exact g2⟩, vr_fr_mono F2 (Q := anyP) (E' := vr_E18) (fun _ _ => trivial) (fun q g z => z.elim (fun z => Or.inl (by omega)) (fun z => Or.inr (by omega))), jx⟩
        · refine jv_Wp.lift (fun _ Kz => jv_Ev.steps jv_i312 4 (pc' := 94) (l' := [(0, .ref 196), (1, .int (vl_I p))]) (st' := [.ref 196, .int ((vl_I p) + (1 : Int32)), .int (1024 : Int32), .ref 196]) rfl Kz) ?_
          refine jv_Wp.lift (fun _ Kz => jv_Ev.m jv_i312 (pc' := 97) (st' := [.int (Int32.ofInt f.i), .int ((vl_I p) + (1 : Int32)), .int (1024 : Int32), .ref 196]) (G' := (jv_H K I L R)) rfl rfl (jv_m_getI (jv_rwK hW 196 12 24 (by decide)) rfl rfl (vr_dJ D)) Kz) ?_
          refine jv_Wp.lift (fun _ Kz => jv_Ev.steps jv_i312 2 (pc' := 109) (l' := [(0, .ref 196), (1, .int (vl_I p))]) (st' := [.int (((vl_I p) + (1 : Int32)) + (Int32.ofInt f.i)), .int (1024 : Int32), .ref 196]) rfl Kz) ?_
          have c149 : ¬ f.code = 149 := fun z => h1 ((vr_sm2 (c := f.code) (v := 149) hc256 (by decide) rfl).mpr z)
          have c133 : ¬ f.code = 133 := fun z => h2 ((vr_sm2 (c := f.code) (v := 133) hc256 (by decide) rfl).mpr z)
          have mn0 : f.n = 0 := (vr_sm (v := 0) (by omega) (by decide) rfl).mp (Classical.not_not.mp h3)
          have md6 : f.kind = 6 := (vr_sm (v := 6) (by omega) (by decide) rfl).mp (Classical.not_not.mp h4)
          have cc : f.code = 6 := by have q := hx.2.2.2.2.2.2 hk (by omega); have := of_decide_eq_false q; unfold vf_F.n at *; unfold vf_F.kind at *; omega
          have ed : (vx_does M f i2 p (vr_A I L 1024)) = (0, [(((p : Int) + 1 + f.i), (vr_A I L 1024))]) := vx_do6 hk cc
          have eg := congrArg Prod.snd ed
          have tg := hg _ (by rw [eg]; exact List.mem_singleton.mpr rfl)
          have to := hto _ (by rw [eg]; exact List.mem_singleton.mpr rfl)
          obtain ⟨I3, L3, H3, S3, g3, F3⟩ := vq_goTo (R := R) (n := n) (sl := sl) (st := st) 1024 ((p : Int) + 1 + f.i).toNat p true hW hf hS (by decide) (by decide) (by decide) (by have h1 : 0 ≤ ((p : Int) + 1 + f.i) := to.1; have h2 : ((p : Int) + 1 + f.i) < 1024 := to.2; omega) oa tg hh h18 (by omega) (by have := hch ((p : Int) + 1 + f.i).toNat; omega)
          rw [← vi_tgt (vr_dQ D) hp to] at H3
          refine jv_Wp.lift (fun _ Kz => jv_Ev.c jv_i312 (pc' := 112) (S' := []) (G1 := (jv_H K I3 L3 R)) jv_i281 [.ref 196, .int (1024 : Int32), .int (((vl_I p) + (1 : Int32)) + (Int32.ofInt f.i))] rfl rfl rfl rfl (jv_cal rfl (jv_H_at (jv_rwK hW 196 12 24 (by decide))) rfl rfl) rfl H3 rfl rfl Kz) ?_
          refine jv_Wp.lift (fun _ Kz => jv_Ev.steps jv_i312 1 (pc' := 113) (l' := [(0, .ref 196), (1, .int (vl_I p))]) (st' := [.int (0 : Int32)]) rfl Kz) ?_
          refine jv_Wp.of (jv_Ev.ret jv_i312 rfl rfl) ?_
          rw [hQ]
          have jx : vr_j10 I3 := by unfold vr_j10; rw [(vr_fr_i F3 (x := 76885) (fun z => by unfold vr_th at z; omega)).1]; exact hj
          exact ⟨_, _, by rw [ed]; rfl, fun _ => ⟨by rw [ed, vz_gos1]; exact S3, by rw [ed, vz_gos1]; exact g3⟩, vr_fr_mono F3 (Q := anyP) (E' := vr_E18) (fun _ _ => trivial) (fun q g z => z.elim (fun z => Or.inl (by omega)) (fun z => Or.inr (by omega))), jx⟩
    · refine jv_Wp.lift (fun _ Kz => jv_Ev.steps jv_i312 2 (pc' := 50) (l' := [(0, .ref 196), (1, .int (vl_I p))]) (st' := [.int (vl_I p), .ref 196]) rfl Kz) ?_
      have c149 : ¬ f.code = 149 := fun z => h1 ((vr_sm2 (c := f.code) (v := 149) hc256 (by decide) rfl).mpr z)
      have c133 : f.code = 133 := (vr_sm2 (c := f.code) (v := 133) hc256 (by decide) rfl).mp (Classical.not_not.mp h2)
      obtain ⟨I4, L4, H4, P4, F4⟩ := vq_call (I := I) (L := L) (n := n) (sl := sl) M f p hW hf hM D oa hj tA gA hp
      obtain ⟨cr, hcr⟩ : ∃ x : Nat × vt_A, x = vx_call M f.i p (vr_A I L 1024) := ⟨_, rfl⟩
      rw [← hcr] at H4 P4
      have c9 : cr.1 < 9 := by rw [hcr]; exact vx_call_lt
      have ed : (vx_does M f i2 p (vr_A I L 1024)) = vx_one cr (p + 1) := by rw [hcr]; exact vx_do133 hk c133
      have Z4 := vr_fl_of F4
      have D4 := vr_dec_fr F4 (fun j hj z => by omega) D
      refine jv_Wp.lift (fun _ Kz => jv_Ev.c jv_i312 (pc' := 53) (S' := [.int (vl_I cr.1)]) (G1 := (jv_H K I4 L4 R)) jv_i302 [.ref 196, .int (vl_I p)] rfl rfl rfl rfl (jv_cal rfl (jv_H_at (jv_rwK hW 196 12 24 (by decide))) rfl rfl) rfl H4 rfl rfl Kz) ?_
      refine jv_Wp.lift (fun _ Kz => jv_Ev.steps jv_i312 2 (pc' := 55) (l' := [(2, .int (vl_I cr.1)), (0, .ref 196), (1, .int (vl_I p))]) (st' := [.int (vl_I cr.1)]) rfl Kz) ?_
      refine jv_Wp.cnd jv_i312 (pt := 68) (pe := 58) (p := (¬ (vl_I cr.1) = 0)) (q := (¬ (vl_I cr.1) = 0)) rfl jv_bi_ne rfl rfl Iff.rfl (fun h5 => ?_) (fun h5 => ?_)
      · refine jv_Wp.lift (fun _ Kz => jv_Ev.steps jv_i312 1 (pc' := 69) (l' := [(2, .int (vl_I cr.1)), (0, .ref 196), (1, .int (vl_I p))]) (st' := [.int (vl_I cr.1)]) rfl Kz) ?_
        refine jv_Wp.of (jv_Ev.ret jv_i312 rfl rfl) ?_
        rw [hQ]
        have c0 : cr.1 ≠ 0 := (fun y => h5 (by rw [y]; rfl))
        have ed0 := ed.trans (vx_one_n c0)
        have jx : vr_j10 I4 := by unfold vr_j10; rw [(vr_fr_i F4 (x := 76885) (fun z => by omega)).1]; exact hj
        exact ⟨_, _, by rw [ed0], fun z => by rw [ed0] at z; exact absurd z c0, vr_fr_mono F4 (fun _ _ => trivial) (fun q g z => Or.inl (by omega)), jx⟩
      · refine jv_Wp.lift (fun _ Kz => jv_Ev.steps jv_i312 5 (pc' := 65) (l' := [(2, .int (vl_I cr.1)), (0, .ref 196), (1, .int (vl_I p))]) (st' := [.int ((vl_I p) + (1 : Int32)), .int (1024 : Int32), .ref 196]) rfl Kz) ?_
        have c0 : cr.1 = 0 := ((vl_I_inj (b := 0) (by omega) (by decide)).mp (Classical.not_not.mp h5))
        have eg := (congrArg Prod.snd ed).trans (congrArg Prod.snd (vx_one0 (q := (p : Int) + 1) c0))
        obtain ⟨A4, O4⟩ := P4 c0
        have tg := hg _ (by rw [eg]; exact List.mem_singleton.mpr rfl)
        have to := hto _ (by rw [eg]; exact List.mem_singleton.mpr rfl)
        obtain ⟨I5, L5, H5, S5, g5, F5⟩ := vq_goTo (R := R) (n := n) (sl := sl) (st := st) 1024 (p + 1) p true hW Z4 (vr_ST_M F4 (fun x z => z.1) (fun q g z a b => by omega) hS) (by decide) (by decide) (by decide) (by have := to.2; have : (p : Int) + 1 < 1024 := this; omega) O4 (by rw [A4]; exact tg) ((F4.2.1 202 1024 (fun z => by omega) (by decide) (fun z => by omega)).trans hh) ((F4.2.1 196 18 (fun z => by omega) (by decide) (fun z => by omega)).trans h18) (by omega) (by have := hch (p + 1); omega)
        rw [← vl_I_p1 p] at H5
        rw [A4] at S5 g5
        refine jv_Wp.lift (fun _ Kz => jv_Ev.c jv_i312 (pc' := 68) (S' := []) (G1 := (jv_H K I5 L5 R)) jv_i281 [.ref 196, .int (1024 : Int32), .int ((vl_I p) + (1 : Int32))] rfl rfl rfl rfl (jv_cal rfl (jv_H_at (jv_rwK hW 196 12 24 (by decide))) rfl rfl) rfl H5 rfl rfl Kz) ?_
        refine jv_Wp.lift (fun _ Kz => jv_Ev.steps jv_i312 1 (pc' := 69) (l' := [(2, .int (vl_I cr.1)), (0, .ref 196), (1, .int (vl_I p))]) (st' := [.int (vl_I cr.1)]) rfl Kz) ?_
        refine jv_Wp.of (jv_Ev.ret jv_i312 rfl rfl) ?_
        rw [hQ]
        have ep : ((p : Int) + 1).toNat = p + 1 := by omega
        have ed0 := ed.trans (vx_one0 c0)
        have jx : vr_j10 I5 := by unfold vr_j10; rw [(vr_fr_i F5 (x := 76885) (fun z => by unfold vr_th at z; omega)).1, (vr_fr_i F4 (x := 76885) (fun z => by omega)).1]; exact hj
        exact ⟨_, _, by rw [ed0, c0], fun _ => ⟨by rw [ed0, vz_gos1]; show vr_ST I5 L5 (vz_go p _ _ st).1; rw [ep]; exact S5, by rw [ed0, vz_gos1]; show _ = if (vz_go p _ _ st).2 = true then 1 else _; rw [ep]; exact g5.trans (by rw [F4.2.1 196 17 (fun z => by omega) (by decide) (fun z => by omega)])⟩, vr_fr_trans (vr_fr_mono F4 (Q := anyP) (E' := vr_E18) (fun _ _ => trivial) (fun q g z => Or.inl (by omega))) (vr_fr_mono F5 (Q := anyP) (E' := vr_E18) (fun _ _ => trivial) (fun q g z => z.elim (fun z => Or.inl (by omega)) (fun z => Or.inr (by omega)))), jx⟩
  · refine jv_Wp.lift (fun _ Kz => jv_Ev.steps jv_i312 2 (pc' := 12) (l' := [(0, .ref 196), (1, .int (vl_I p))]) (st' := [.int (0 : Int32), .ref 196]) rfl Kz) ?_
    refine jv_Wp.lift (fun _ Kz => jv_Ev.c jv_i312 (pc' := 15) (S' := [.int (I 205 (76800 + 0))]) jv_i271 [.ref 196, .int (0 : Int32)] rfl rfl rfl rfl (jv_cal rfl (jv_H_at (jv_rwK hW 196 12 24 (by decide))) rfl rfl) rfl (vq_sortOf 0 hW (by omega)) rfl rfl Kz) ?_
    refine jv_Wp.cnd jv_i312 (pt := 22) (pe := 18) (p := (¬ (I 205 (76800 + 0)) = 0)) (q := (¬ (I 205 (76800 + 0)) = 0)) rfl jv_bi_ne rfl rfl Iff.rfl (fun h6 => ?_) (fun h6 => ?_)
    · refine jv_Wp.lift (fun _ Kz => jv_Ev.steps jv_i312 2 (pc' := 24) (l' := [(0, .ref 196), (1, .int (vl_I p))]) (st' := [.int (0 : Int32), .ref 196]) rfl Kz) ?_
      refine jv_Wp.lift (fun _ Kz => jv_Ev.c jv_i312 (pc' := 27) (S' := [.int (I 205 (76800 + 0))]) jv_i271 [.ref 196, .int (0 : Int32)] rfl rfl rfl rfl (jv_cal rfl (jv_H_at (jv_rwK hW 196 12 24 (by decide))) rfl rfl) rfl (vq_sortOf 0 hW (by omega)) rfl rfl Kz) ?_
      refine jv_Wp.lift (fun _ Kz => jv_Ev.steps jv_i312 1 (pc' := 28) (l' := [(0, .ref 196), (1, .int (vl_I p))]) (st' := [.int (1 : Int32), .int (I 205 (76800 + 0))]) rfl Kz) ?_
      refine jv_Wp.cnd jv_i312 (pt := 35) (pe := 31) (p := (¬ (I 205 (76800 + 0)) = (1 : Int32))) (q := (¬ (I 205 (76800 + 0)) = (1 : Int32))) rfl jv_bc_ne rfl rfl Iff.rfl (fun h7 => ?_) (fun h7 => ?_)
      · refine jv_Wp.lift (fun _ Kz => jv_Ev.steps jv_i312 1 (pc' := 37) (l' := [(0, .ref 196), (1, .int (vl_I p))]) (st' := [.int (6 : Int32)]) rfl Kz) ?_
        refine jv_Wp.of (jv_Ev.ret jv_i312 rfl rfl) ?_
        rw [hQ]
        have c149 : f.code = 149 := (vr_sm2 (c := f.code) (v := 149) hc256 (by decide) rfl).mp (Classical.not_not.mp h1)
        have en : vx_isnum (vr_A I L 1024) 0 6 = 6 := by unfold vx_isnum; rw [show (vr_A I L 1024).1 0 = (vr_T I L (76800 + 0)) from vr_A1 (by decide)]; exact (if_neg (fun z => h7 ((vr_is (L := L) 1 (by decide) (oa 0 (by decide))).mp z))).trans (if_neg (fun z => h6 ((vr_isN (L := L) (oa 0 (by decide)) (by decide)).mp z)))
        have ed : (vx_does M f i2 p (vr_A I L 1024)) = (6, []) := (vx_do149 hk c149).trans (by rw [en])
        exact ⟨_, _, by rw [ed]; rfl, fun _ => ⟨by rw [ed]; exact hS, by rw [ed]; rfl⟩, vr_fr_refl hf, hj⟩
      · refine jv_Wp.lift (fun _ Kz => jv_Ev.steps jv_i312 2 (pc' := 37) (l' := [(0, .ref 196), (1, .int (vl_I p))]) (st' := [.int (0 : Int32)]) rfl Kz) ?_
        refine jv_Wp.of (jv_Ev.ret jv_i312 rfl rfl) ?_
        rw [hQ]
        have c149 : f.code = 149 := (vr_sm2 (c := f.code) (v := 149) hc256 (by decide) rfl).mp (Classical.not_not.mp h1)
        have en : vx_isnum (vr_A I L 1024) 0 6 = 0 := by unfold vx_isnum; rw [show (vr_A I L 1024).1 0 = (vr_T I L (76800 + 0)) from vr_A1 (by decide)]; exact if_pos ((vr_is (L := L) 1 (by decide) (oa 0 (by decide))).mpr (Classical.not_not.mp h7))
        have ed : (vx_does M f i2 p (vr_A I L 1024)) = (0, []) := (vx_do149 hk c149).trans (by rw [en])
        exact ⟨_, _, by rw [ed]; rfl, fun _ => ⟨by rw [ed]; exact hS, by rw [ed]; rfl⟩, vr_fr_refl hf, hj⟩
    · refine jv_Wp.lift (fun _ Kz => jv_Ev.steps jv_i312 2 (pc' := 37) (l' := [(0, .ref 196), (1, .int (vl_I p))]) (st' := [.int (1 : Int32)]) rfl Kz) ?_
      refine jv_Wp.of (jv_Ev.ret jv_i312 rfl rfl) ?_
      rw [hQ]
      have c149 : f.code = 149 := (vr_sm2 (c := f.code) (v := 149) hc256 (by decide) rfl).mp (Classical.not_not.mp h1)
      have en : vx_isnum (vr_A I L 1024) 0 6 = 1 := by unfold vx_isnum; rw [show (vr_A I L 1024).1 0 = (vr_T I L (76800 + 0)) from vr_A1 (by decide)]; exact (if_neg (fun z => by have a : (vr_T I L (76800 + 0)).sort = 0 := (vr_isN (L := L) (oa 0 (by decide)) (by decide)).mpr (Classical.not_not.mp h6); have b : (vr_T I L (76800 + 0)).sort = 1 := z; omega)).trans (if_pos ((vr_isN (L := L) (oa 0 (by decide)) (by decide)).mpr (Classical.not_not.mp h6)))
      have ed : (vx_does M f i2 p (vr_A I L 1024)) = (1, []) := (vx_do149 hk c149).trans (by rw [en])
      exact ⟨_, _, by rw [ed]; rfl, fun _ => ⟨by rw [ed]; exact hS, by rw [ed]; rfl⟩, vr_fr_refl hf, hj⟩