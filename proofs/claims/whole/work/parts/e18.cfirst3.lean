/-! part e18: firstWrong of the class: all of it (gen/te18.py) -/
theorem vc_fw_45 {K : Nat → Option (Nat × Nat)} {I : Nat → Nat → Int32} {L : Nat → Nat → Int64} {R : Nat → Nat → Value} {pr ws len : Nat} {W : Nat → Int64} (hP : vc_P K L R pr ws len W) {rest : Bool} {n sl : Nat} {Q : jv_R → Prop} (contE : (rest = true ∨ len = 0) → Q (some (.int (vl_I len)), jv_H K I L R, n, sl)) (contG : ¬ (rest = true ∨ len = 0) → jv_Wp 90 57 [(0, .ref pr), (1, .int (vr_b rest)), (2, .int (vl_I len)), (3, .int (vl_I 0))] [] (jv_H K I L R) n sl Q) : jv_Wp 90 45 [(0, .ref pr), (1, .int (vr_b rest)), (2, .int (vl_I len)), (3, .int (vl_I len))] [] (jv_H K I L R) n sl Q := by
  have hle := hP.2.2.2.1
  refine jv_Wp.lift (fun _ Kz => jv_Ev.steps jv_i90 1 (pc' := 46) (l' := [(0, .ref pr), (1, .int (vr_b rest)), (2, .int (vl_I len)), (3, .int (vl_I len))]) (st' := [.int (vr_b rest)]) rfl Kz) ?_
  refine jv_Wp.cnd jv_i90 (pt := 53) (pe := 49) (p := (¬ (vr_b rest) = 0)) (q := (¬ (vr_b rest) = 0)) rfl jv_bi_ne rfl rfl Iff.rfl (fun h1 => ?_) (fun h1 => ?_)
  · refine jv_Wp.lift (fun _ Kz => jv_Ev.steps jv_i90 1 (pc' := 54) (l' := [(0, .ref pr), (1, .int (vr_b rest)), (2, .int (vl_I len)), (3, .int (vl_I len))]) (st' := [.int (vl_I len)]) rfl Kz) ?_
    refine jv_Wp.of (jv_Ev.ret jv_i90 rfl rfl) ?_
    have qr : rest = true := (vr_b_t h1)
    exact contE (Or.inl qr)
  · refine jv_Wp.lift (fun _ Kz => jv_Ev.steps jv_i90 1 (pc' := 50) (l' := [(0, .ref pr), (1, .int (vr_b rest)), (2, .int (vl_I len)), (3, .int (vl_I len))]) (st' := [.int (vl_I len)]) rfl Kz) ?_
    refine jv_Wp.cnd jv_i90 (pt := 55) (pe := 53) (p := (¬ (vl_I len) = 0)) (q := (¬ (vl_I len) = 0)) rfl jv_bi_ne rfl rfl Iff.rfl (fun h2 => ?_) (fun h2 => ?_)
    · refine jv_Wp.lift (fun _ Kz => jv_Ev.steps jv_i90 2 (pc' := 57) (l' := [(3, .int (0 : Int32)), (0, .ref pr), (1, .int (vr_b rest)), (2, .int (vl_I len))]) (st' := []) rfl Kz) ?_
      refine jv_Wp.loc (l := [(0, .ref pr), (1, .int (vr_b rest)), (2, .int (vl_I len)), (3, .int (0 : Int32))]) ⟨List.forall_mem_cons.mpr ⟨.tail _ (.head _), List.forall_mem_cons.mpr ⟨.tail _ (.tail _ (.head _)), List.forall_mem_cons.mpr ⟨.tail _ (.tail _ (.tail _ (.head _))), List.forall_mem_cons.mpr ⟨.head _, fun _ h => absurd h List.not_mem_nil⟩⟩⟩⟩, by show List.Nodup [3, 0, 1, 2]; decide⟩ ?_
      have qr : rest = false := (vr_b_f (Classical.not_not.mp h1))
      have ql : ¬ len = 0 := fun z => h2 ((vl_I_inj (a := len) (b := 0) (by omega) (by decide)).mpr z)
      exact contG (fun z => z.elim (fun y => by rw [qr] at y; cases y) ql)
    · refine jv_Wp.lift (fun _ Kz => jv_Ev.steps jv_i90 1 (pc' := 54) (l' := [(0, .ref pr), (1, .int (vr_b rest)), (2, .int (vl_I len)), (3, .int (vl_I len))]) (st' := [.int (vl_I len)]) rfl Kz) ?_
      refine jv_Wp.of (jv_Ev.ret jv_i90 rfl rfl) ?_
      have qr : rest = false := (vr_b_f (Classical.not_not.mp h1))
      have ql : len = 0 := (vl_I_inj (a := len) (b := 0) (by omega) (by decide)).mp (Classical.not_not.mp h2)
      exact contE (Or.inr ql)
theorem vc_fw_0 {K : Nat → Option (Nat × Nat)} {I : Nat → Nat → Int32} {L : Nat → Nat → Int64} {R : Nat → Nat → Value} {pr ws len : Nat} {W : Nat → Int64} (hP : vc_P K L R pr ws len W) {rest : Bool} {n sl : Nat} {Q : jv_R → Prop} (cont : jv_Wp 90 8 [(0, .ref pr), (1, .int (vr_b rest)), (2, .int (vl_I len)), (3, .int (vl_I 0))] [] (jv_H K I L R) n sl Q) : jv_Wp 90 0 [(0, .ref pr), (1, .int (vr_b rest))] [] (jv_H K I L R) n sl Q := by
  have hle := hP.2.2.2.1
  refine jv_Wp.lift (fun _ Kz => jv_Ev.steps jv_i90 1 (pc' := 1) (l' := [(0, .ref pr), (1, .int (vr_b rest))]) (st' := [.ref pr]) rfl Kz) ?_
  refine jv_Wp.lift (fun _ Kz => jv_Ev.m jv_i90 (pc' := 4) (st' := [.ref ws]) (G' := (jv_H K I L R)) rfl rfl (jv_m_getR hP.1 rfl rfl hP.2.1) Kz) ?_
  refine jv_Wp.lift (fun _ Kz => jv_Ev.m jv_i90 (pc' := 5) (st' := [.int (Int32.ofNat len)]) (G' := (jv_H K I L R)) rfl rfl (jv_m_len hP.2.2.1 rfl) Kz) ?_
  refine jv_Wp.lift (fun _ Kz => jv_Ev.steps jv_i90 3 (pc' := 8) (l' := [(3, .int (0 : Int32)), (2, .int (Int32.ofNat len)), (0, .ref pr), (1, .int (vr_b rest))]) (st' := []) rfl Kz) ?_
  refine jv_Wp.loc (l := [(0, .ref pr), (1, .int (vr_b rest)), (2, .int (Int32.ofNat len)), (3, .int (0 : Int32))]) ⟨List.forall_mem_cons.mpr ⟨.tail _ (.tail _ (.head _)), List.forall_mem_cons.mpr ⟨.tail _ (.tail _ (.tail _ (.head _))), List.forall_mem_cons.mpr ⟨.tail _ (.head _), List.forall_mem_cons.mpr ⟨.head _, fun _ h => absurd h List.not_mem_nil⟩⟩⟩⟩, by show List.Nodup [3, 2, 0, 1]; decide⟩ ?_
  exact cont
theorem vc_firstWrong {K : Nat → Option (Nat × Nat)} {I : Nat → Nat → Int32} {L : Nat → Nat → Int64} {R : Nat → Nat → Value} {pr ws len : Nat} {W : Nat → Int64} (hP : vc_P K L R pr ws len W) {rest : Bool} {n sl : Nat} : jv_Ms 90 [.ref pr, .int (vr_b rest)] (jv_H K I L R) n sl (some (.int (vr_on (vc_bad W len rest))), jv_H K I L R, n, sl) := by
  obtain ⟨Q, hQ⟩ : ∃ Q : jv_R → Prop, Q = fun X => X = (some (.int (vr_on (vc_bad W len rest))), jv_H K I L R, n, sl) := ⟨_, rfl⟩
  suffices h : jv_Wp 90 0 [(0, .ref pr), (1, .int (vr_b rest))] [] (jv_H K I L R) n sl Q by
    rw [hQ] at h
    obtain ⟨X, h, e⟩ := h
    subst e
    exact h
  refine vc_fw_0 hP (vc_fw_1 hP (fun a => vc_fw_45 hP (fun b => ?_) (fun b => vc_fw_2 hP (fun c => ?_) (fun c => ?_) len 0 (by omega) (fun q z => absurd z (by omega)))) (fun a => ?_) len 0 (by omega) (by omega) rfl (fun q z => absurd z (by omega)))
  · rw [hQ]; unfold vc_bad; rw [if_neg a, if_pos b]; rfl
  · rw [hQ]; unfold vc_bad; rw [if_neg a, if_neg b, if_neg c]; rfl
  · rw [hQ]; unfold vc_bad; rw [if_neg a, if_neg b, if_pos c]; rfl
  · rw [hQ]; unfold vc_bad; rw [if_pos a]; rfl