/-! part b40: a pass (gen/tb40.py) -/
theorem vc_V_fr {K : Nat → Option (Nat × Nat)} {R : Nat → Nat → Value} {sc : Nat} {sa : Nat → Nat} {N : Nat} {fst : Nat → Bool} {bnd : Nat} {I I1 : Nat → Nat → Int32} {L L1 : Nat → Nat → Int64} {st : vz_F} {P : Nat → Prop} (f : vc_fr P I L I1 L1) (hP : ∀ k, k < sc → ∀ q, vc_in (sa k) q → ¬ P q) (h : vc_V K R sc sa N fst bnd I L st) : vc_V K R sc sa N fst bnd I1 L1 st := by
  obtain ⟨⟨k11, hn, hs, hd⟩, v⟩ := h
  refine ⟨⟨k11, hn, fun p a hp z => ?_, hd⟩, v⟩
  obtain ⟨r1, r2, r3, r4, r5, r6, r7⟩ := hs p a hp z
  obtain ⟨e1, e2⟩ := vs_S_some z
  have nb : ∀ q, vc_in a q → ¬ P q := fun q hq => hP p e1 q (by rw [← e2]; exact hq)
  have f0 := (f a (nb a ⟨Nat.le_refl _, by omega⟩)).1
  refine ⟨r1, r2, r3, vc_fr_okA f nb r4, (f0 3).trans r5, (f0 4).trans r6, fun A hA => ?_⟩
  rw [f0, vc_fr_A f nb]; exact r7 A hA
theorem vc_V_unfresh {K : Nat → Option (Nat × Nat)} {R : Nat → Nat → Value} {sc : Nat} {sa : Nat → Nat} {N : Nat} {fst : Nat → Bool} {bnd : Nat} {I : Nat → Nat → Int32} {L : Nat → Nat → Int64} {st : vz_F} {p : Nat} (hp : p < sc) (hsc : sc ≤ 1024) (h : vc_V K R sc sa N fst bnd I L st) : vc_V K R sc sa N fst bnd (jv_u I (sa p) 4 0) L (st.1, vz_u st.2 p false) := by
  obtain ⟨v1, v2, v3, v4, v5, v6⟩ := h
  obtain ⟨r1, r2, r3, r4, r5, r6, r7⟩ := v1.2.2.1 p (sa p) (by omega) (vs_S_lt hp)
  have FU : vc_fr (fun q => q = sa p) I L (jv_u I (sa p) 4 0) L := fun q hq => ⟨fun f => jv_u_o _ _ _ _ hq, fun _ => rfl⟩
  refine ⟨vc_ST_up v1 (by omega) (vs_S_lt hp) (vc_fr_mono FU (fun q z => Or.inl (by rw [z]; exact ⟨Nat.le_refl _, by omega⟩))) ?_ ?_ ?_ (fun A hA => ?_) (fun _ _ => rfl) (fun _ _ => rfl) (fun q hq => vz_u_ne _ _ hq), v2, v3, v4, v5, fun q hq => ?_⟩
  · exact fun n hn => (vc_fr_ok FU (by omega)).mpr (r4 n hn)
  · exact (jv_u_j _ _ _ _ (by decide)).trans r5
  · show jv_u I (sa p) 4 0 (sa p) 4 = vr_b (vz_u st.2 p false p)
    rw [jv_u_self, vz_u_self]; rfl
  · obtain ⟨a1, a2, a3⟩ := r7 A hA
    exact ⟨(vc_A_eq (fun n hn => vc_fr_T FU (by omega)) rfl).trans a1, (jv_u_j _ _ _ _ (by decide)).trans a2, a3⟩
  · by_cases c : q = p
    · subst c
      have hq : vz_u st.2 q false q = true := hq
      rw [vz_u_self] at hq; cases hq
    · have hq : vz_u st.2 p false q = true := hq
      rw [vz_u_ne _ _ c] at hq; exact v6 q hq
theorem vi_bor (a b : Bool) : vr_b a ||| vr_b b = vr_b (a || b) := by cases a <;> cases b <;> rfl
/-- what stands fast while the checker looks at a program -/
def vc_Wd (K : Nat → Option (Nat × Nat)) (R : Nat → Nat → Value) (M : vf_M) (pr ws N : Nat) (W : Nat → Int64) (fst : Nat → Bool) (sc : Nat) (sa : Nat → Nat) (n : Nat) (I0 : Nat → Nat → Int32) (L0 : Nat → Nat → Int64) : Prop :=
  vc_C K R ∧ R 10 1 = .ref 11 ∧ vc_SS K R sc sa n ∧ N ≤ sc ∧ n ≤ 1000000 ∧ vc_M K I0 R M ∧ (∀ k o : Nat, R 7 k = .ref o → 227 ≤ o ∧ ¬ vc_ck sc sa o) ∧ vc_P K L0 R pr ws N W ∧ ¬ vc_ck sc sa ws ∧ vf_form (fun p => vc_F (W p)) N fst ∧ K (1000000 + 0) = some (110, 16) ∧ (∀ j, j < 16 → I0 (1000000 + 0) j = vl_I (vx_cmp j)) ∧ K (1000000 + 1) = some (110, 12) ∧ (∀ j, j < 12 → I0 (1000000 + 1) j = vl_I (vb_opp j)) ∧ ∀ k, 8 ≤ k → M k = none
theorem vw_d16 (w : Int64) : (vc_F w).d < 16 := Nat.mod_lt _ (by decide)
theorem vw_s16 (w : Int64) : (vc_F w).s < 16 := Nat.mod_lt _ (by decide)
theorem vx_reach_5 {M : vf_M} {A : vt_A} {t : vt_T} {o : Int} {z : Nat} {w : Bool} : vx_reach M A t o z w < 11 := Nat.lt_trans vx_reach_lt (by decide)
theorem vx_ar_lt (f : vf_F) (d y : vt_T) : (vx_ar f d y).1 < 11 := by
  have mv : ∀ n d b x (r : Prop) [Decidable r], (vx_mv n d b x r).1 < 11 := fun n d b x r _ => by
    by_cases c1 : x.sort ≠ 1 ∨ (n = 1 ∧ r)
    · rw [vx_mv1 c1]; exact Nat.le_of_ble_eq_true rfl
    by_cases c2 : b.sort = 4 ∨ b.sort = 7
    · by_cases c3 : (vx_op n b.val x.val 63).least.toInt < -vx_far ∨ vx_far < (vx_op n b.val x.val 63).greatest.toInt
      · rw [vx_mv2 c1 c2 c3]; exact Nat.le_of_ble_eq_true rfl
      · rw [vx_mv3 c1 c2 c3]; exact Nat.le_of_ble_eq_true rfl
    by_cases c3 : (b.sort ≠ 2 ∧ b.sort ≠ 3) ∨ x.val.low ≠ x.val.high
    · rw [vx_mv4 c1 c2 c3]; exact Nat.le_of_ble_eq_true rfl
    by_cases c4 : vx_mvc n b.det x.val.low.toInt < -vx_far ∨ vx_far < vx_mvc n b.det x.val.low.toInt
    · rw [vx_mv5 c1 c2 c3 c4]; exact Nat.le_of_ble_eq_true rfl
    · rw [vx_mv6 c1 c2 c3 c4]; exact Nat.le_of_ble_eq_true rfl
  by_cases c1 : vx_a1 f d y
  · rw [vx_ar1 c1]; exact Nat.le_of_ble_eq_true rfl
  by_cases c2 : f.n = 11 ∧ f.kind = 7 ∧ f.o = 0
  · rw [vx_ar2 c1 c2]; exact Nat.le_of_ble_eq_true rfl
  by_cases c3 : vx_a3 f d y
  · by_cases c4 : f.kind = 7 ∧ (f.n = 0 ∨ f.n = 1)
    · rw [vx_ar3 c1 c2 c3 c4]
      by_cases h : d.sort = 1
      · rw [vx_mvA h]; exact mv _ _ _ _ _
      · rw [vx_mvB h]; exact mv _ _ _ _ _
    · rw [vx_ar4 c1 c2 c3 c4]; exact Nat.le_of_ble_eq_true rfl
  · rw [vx_ar5 c1 c2 c3]; exact Nat.le_of_ble_eq_true rfl
theorem vx_jump_lt (f : vf_F) (A : vt_A) : (vx_jump f A).1 < 11 := by
  by_cases h1 : vx_j1 f A
  · rw [vx_jp1 h1]; exact Nat.le_of_ble_eq_true rfl
  by_cases h2 : vx_j2 f A
  · by_cases h3 : (f.bit3 = true ∧ f.d = f.s) ∨ (f.kind ≠ 5 ∧ ¬ (vx_small (A.1 f.d).val = true ∧ vx_small (vx_yv f A) = true))
    · rw [vx_jp2 h1 h2 h3]; exact Nat.le_of_ble_eq_true rfl
    · rw [vx_jp2' h1 h2 h3]; exact Nat.le_of_ble_eq_true rfl
  by_cases h3 : vx_j3 f A
  · rw [vx_jp3 h1 h2 h3]; exact Nat.le_of_ble_eq_true rfl
  by_cases h4 : vx_j4 f A
  · rw [vx_jp4 h1 h2 h3 h4 rfl rfl]; exact Nat.le_of_ble_eq_true rfl
  · rw [vx_jp5 h1 h2 h3 h4]; exact Nat.le_of_ble_eq_true rfl
theorem vx_does_lt (M : vf_M) (f : vf_F) (i2 : Int) (p : Nat) (A : vt_A) : (vx_does M f i2 p A).1 < 11 := by
  have k8 : f.kind < 8 := Nat.mod_lt _ (by decide)
  have st : ∀ c, (vx_store M f A).1 < 11 ∨ c := fun c => Or.inl (by
    unfold vx_store; dsimp only
    generalize (if f.kind = 3 then A.1 f.s else vt_num (vx_just f.i)) = y
    split
    · exact Nat.le_of_ble_eq_true rfl
    split
    · exact vx_reach_5
    split
    · exact Nat.le_of_ble_eq_true rfl
    split
    · exact Nat.le_of_ble_eq_true rfl
    · exact Nat.le_of_ble_eq_true rfl)
  by_cases k0 : f.kind = 0
  · rw [vx_do0 k0, vx_one1]; unfold vx_wide
    split
    · exact Nat.le_of_ble_eq_true rfl
    · split
      · exact Nat.le_of_ble_eq_true rfl
      · exact Nat.le_of_ble_eq_true rfl
  by_cases k1 : f.kind = 1
  · rw [vx_do1 k1, vx_one1]; unfold vx_load; dsimp only
    split
    · exact Nat.le_of_ble_eq_true rfl
    split
    · exact vx_reach_5
    split
    · exact Nat.le_of_ble_eq_true rfl
    split
    · exact Nat.le_of_ble_eq_true rfl
    split
    · split
      · exact Nat.le_of_ble_eq_true rfl
      · split
        · exact Nat.le_of_ble_eq_true rfl
        · exact Nat.le_of_ble_eq_true rfl
    · exact Nat.le_of_ble_eq_true rfl
  by_cases k2 : f.kind = 2
  · rw [vx_do2 k2, vx_one1]; exact (st False).resolve_right id
  by_cases k3 : f.kind = 3
  · by_cases m : f.mode = 6
    · rw [vx_do3a k3 m, vx_one1]; unfold vx_atomic; dsimp only
      split
      · exact Nat.le_of_ble_eq_true rfl
      split
      · exact Nat.le_of_ble_eq_true rfl
      split
      · exact Nat.le_of_ble_eq_true rfl
      split
      · exact Nat.le_of_ble_eq_true rfl
      split
      · exact Nat.le_of_ble_eq_true rfl
      · exact Nat.le_of_ble_eq_true rfl
    · rw [vx_do3s k3 m, vx_one1]; exact (st False).resolve_right id
  by_cases k4 : f.kind = 4 ∨ f.kind = 7
  · rw [vx_do4 k4, vx_one1, vx_arith1]; exact vx_ar_lt _ _ _
  · rw [vx_doj (by omega)]
    split
    · exact Nat.le_of_ble_eq_true rfl
    split
    · exact Nat.le_of_ble_eq_true rfl
    split
    · rw [vx_one1]
      unfold vx_call; dsimp only
      split
      · exact Nat.lt_trans vx_allowed_lt (by decide)
      split
      · exact Nat.le_of_ble_eq_true rfl
      split
      · exact Nat.le_of_ble_eq_true rfl
      · exact Nat.le_of_ble_eq_true rfl
    split
    · show vx_isnum A 0 6 < 11
      unfold vx_isnum
      split
      · exact Nat.le_of_ble_eq_true rfl
      · split <;> exact Nat.le_of_ble_eq_true rfl
    · dsimp only
      split
      · exact vx_jump_lt _ _
      · exact Nat.le_of_ble_eq_true rfl
theorem vc_pend {K : Nat → Option (Nat × Nat)} {I : Nat → Nat → Int32} {L : Nat → Nat → Int64} {R : Nat → Nat → Value} {pr N g n sl : Nat} {c : Bool} {Q : jv_R → Prop} (HE : jv_Wp 23 241 [(0, .ref 10), (1, .ref pr), (2, .int (vl_I N)), (3, .int (vr_b c)), (4, .int (vl_I g))] [] (jv_H K I L R) n sl Q) : jv_Wp 23 131 [(0, .ref 10), (1, .ref pr), (2, .int (vl_I N)), (3, .int (vr_b c)), (4, .int (vl_I g)), (5, .int (vl_I N))] [] (jv_H K I L R) n sl Q := by
  refine jv_Wp.lift (fun _ Kz => jv_Ev.steps jv_i23 2 (pc' := 134) (l' := [(0, .ref 10), (1, .ref pr), (2, .int (vl_I N)), (3, .int (vr_b c)), (4, .int (vl_I g)), (5, .int (vl_I N))]) (st' := [.int (vl_I N), .int (vl_I N)]) rfl Kz) ?_
  refine jv_Wp.cnd jv_i23 (pt := 241) (pe := 137) (p := ((vl_I N) ≤ (vl_I N))) (q := ((vl_I N) ≤ (vl_I N))) rfl jv_bc_ge rfl rfl Iff.rfl (fun _ => ?_) (fun hz => absurd (Int32.le_refl _) hz)
  refine jv_Wp.loc (l := [(0, .ref 10), (1, .ref pr), (2, .int (vl_I N)), (3, .int (vr_b c)), (4, .int (vl_I g))]) ⟨List.forall_mem_cons.mpr ⟨.head _, List.forall_mem_cons.mpr ⟨.tail _ (.head _), List.forall_mem_cons.mpr ⟨.tail _ (.tail _ (.head _)), List.forall_mem_cons.mpr ⟨.tail _ (.tail _ (.tail _ (.head _))), List.forall_mem_cons.mpr ⟨.tail _ (.tail _ (.tail _ (.tail _ (.head _)))), fun _ h => absurd h List.not_mem_nil⟩⟩⟩⟩⟩, by show List.Nodup [0, 1, 2, 3, 4, 5]; decide⟩ ?_
  exact HE
theorem vc_pskip {K : Nat → Option (Nat × Nat)} {I : Nat → Nat → Int32} {L : Nat → Nat → Int64} {R : Nat → Nat → Value} {pr N p g n sl sc : Nat} {sa : Nat → Nat} {c : Bool} {Q : jv_R → Prop} (hC : vc_C K R) (hCs : R 10 1 = .ref 11) (h11 : K 11 = some (104, 1024)) (hlt : p < N) (hN : N ≤ 1024) (hs : vc_St K R (sa p)) (hr0 : R 11 p = .ref (sa p)) (h4 : I (sa p) 4 = 0) (HI : jv_Wp 23 131 [(0, .ref 10), (1, .ref pr), (2, .int (vl_I N)), (3, .int (vr_b c)), (4, .int (vl_I g)), (5, .int (vl_I (p + 1)))] [] (jv_H K I L R) n sl Q) : jv_Wp 23 131 [(0, .ref 10), (1, .ref pr), (2, .int (vl_I N)), (3, .int (vr_b c)), (4, .int (vl_I g)), (5, .int (vl_I p))] [] (jv_H K I L R) n sl Q := by
  have hS : K 11 = some (104, 1024) ∧ True := ⟨h11, trivial⟩
  have hr := (congrArg (R 11) (vl_I_nat (i := p) (by omega))).trans hr0
  refine jv_Wp.lift (fun _ Kz => jv_Ev.steps jv_i23 2 (pc' := 134) (l' := [(0, .ref 10), (1, .ref pr), (2, .int (vl_I N)), (3, .int (vr_b c)), (4, .int (vl_I g)), (5, .int (vl_I p))]) (st' := [.int (vl_I N), .int (vl_I p)]) rfl Kz) ?_
  refine jv_Wp.cnd jv_i23 (pt := 241) (pe := 137) (p := ((vl_I N) ≤ (vl_I p))) (q := ((vl_I N) ≤ (vl_I p))) rfl jv_bc_ge rfl rfl Iff.rfl (fun hz => absurd hz (fun z => absurd ((vl_I_le (by omega) (by omega)).mp z) (by omega))) (fun _ => ?_)
  refine jv_Wp.lift (fun _ Kz => jv_Ev.steps jv_i23 1 (pc' := 138) (l' := [(0, .ref 10), (1, .ref pr), (2, .int (vl_I N)), (3, .int (vr_b c)), (4, .int (vl_I g)), (5, .int (vl_I p))]) (st' := [.ref 10]) rfl Kz) ?_
  refine jv_Wp.lift (fun _ Kz => jv_Ev.m jv_i23 (pc' := 141) (st' := [.ref 11]) (G' := (jv_H K I L R)) rfl rfl (jv_m_getR hC.k rfl rfl hCs) Kz) ?_
  refine jv_Wp.lift (fun _ Kz => jv_Ev.steps jv_i23 1 (pc' := 143) (l' := [(0, .ref 10), (1, .ref pr), (2, .int (vl_I N)), (3, .int (vr_b c)), (4, .int (vl_I g)), (5, .int (vl_I p))]) (st' := [.int (vl_I p), .ref 11]) rfl Kz) ?_
  refine jv_Wp.lift (fun _ Kz => jv_Ev.m jv_i23 (pc' := 144) (st' := [.ref (sa p)]) (G' := (jv_H K I L R)) rfl rfl (jv_m_aaldR hS.1 rfl (vl_I_ix (by omega) (by decide)) rfl hr) Kz) ?_
  refine jv_Wp.lift (fun _ Kz => jv_Ev.m jv_i23 (pc' := 147) (st' := [.int (I (sa p) 4)]) (G' := (jv_H K I L R)) rfl rfl (jv_m_getI hs.k rfl rfl rfl) Kz) ?_
  refine jv_Wp.cnd jv_i23 (pt := 153) (pe := 150) (p := (¬ (I (sa p) 4) = 0)) (q := (¬ (I (sa p) 4) = 0)) rfl jv_bi_ne rfl rfl Iff.rfl (fun hz => absurd hz (fun z => z h4)) (fun _ => ?_)
  refine jv_Wp.lift (fun _ Kz => jv_Ev.steps jv_i23 3 (pc' := 131) (l' := [(5, .int ((vl_I p) + Int32.ofInt 1)), (0, .ref 10), (1, .ref pr), (2, .int (vl_I N)), (3, .int (vr_b c)), (4, .int (vl_I g))]) (st' := []) rfl Kz) ?_
  refine jv_Wp.loc (l := [(0, .ref 10), (1, .ref pr), (2, .int (vl_I N)), (3, .int (vr_b c)), (4, .int (vl_I g)), (5, .int ((vl_I p) + Int32.ofInt 1))]) ⟨List.forall_mem_cons.mpr ⟨.tail _ (.head _), List.forall_mem_cons.mpr ⟨.tail _ (.tail _ (.head _)), List.forall_mem_cons.mpr ⟨.tail _ (.tail _ (.tail _ (.head _))), List.forall_mem_cons.mpr ⟨.tail _ (.tail _ (.tail _ (.tail _ (.head _)))), List.forall_mem_cons.mpr ⟨.tail _ (.tail _ (.tail _ (.tail _ (.tail _ (.head _))))), List.forall_mem_cons.mpr ⟨.head _, fun _ h => absurd h List.not_mem_nil⟩⟩⟩⟩⟩⟩, by show List.Nodup [5, 0, 1, 2, 3, 4]; decide⟩ ?_
  rw [show vl_I p + Int32.ofInt 1 = vl_I (p + 1) from vl_I_add p 1]
  exact HI
theorem vc_pgo {K : Nat → Option (Nat × Nat)} {R : Nat → Nat → Value} {M : vf_M} {pr ws N : Nat} {W : Nat → Int64} {fst : Nat → Bool} {sc : Nat} {sa : Nat → Nat} {n : Nat} {I0 : Nat → Nat → Int32} {L0 : Nat → Nat → Int64} (hW : vc_Wd K R M pr ws N W fst sc sa n I0 L0) {I : Nat → Nat → Int32} {L : Nat → Nat → Int64} {st : vz_F} {A : vt_A} {bnd p g : Nat} {c : Bool} {sl : Nat} {Q : jv_R → Prop} (hlt : p < N) (hV : vc_V K R sc sa N fst bnd I L st) (hb : bnd < 2000000000) (hFR : vc_fr (vc_ck sc sa) I0 L0 I L) (o12 : vc_okA I L 12) (o89 : vc_okA I L 89) (hfr : st.2 p = true) (hA : st.1.1 p = some A) (HR : ∀ I1 L1, ((vx_D M (fun p => vc_F (W p))) p A).1 ≠ 0 → I1 10 11 = vl_I p → vc_fr (vc_ck sc sa) I L I1 L1 → vc_okA I1 L1 89 → (∀ k, k < sc → vc_okA I1 L1 (sa k)) → Q (some (.int (vl_I ((vx_D M (fun p => vc_F (W p))) p A).1)), jv_H K I1 L1 R, n, sl)) (HI : ∀ I1 L1, ((vx_D M (fun p => vc_F (W p))) p A).1 = 0 → vc_V K R sc sa N fst (bnd + 2) I1 L1 (vz_gosF p ((vx_D M (fun p => vc_F (W p))) p A).2 (st.1, vz_u st.2 p false)).1 → vc_fr (vc_ck sc sa) I L I1 L1 → vc_okA I1 L1 12 → vc_okA I1 L1 89 → jv_Wp 23 131 [(0, .ref 10), (1, .ref pr), (2, .int (vl_I N)), (3, .int (vr_b (c || (vz_gosF p ((vx_D M (fun p => vc_F (W p))) p A).2 (st.1, vz_u st.2 p false)).2))), (4, .int (vl_I g)), (5, .int (vl_I (p + 1)))] [] (jv_H K I1 L1 R) n sl Q) : jv_Wp 23 131 [(0, .ref 10), (1, .ref pr), (2, .int (vl_I N)), (3, .int (vr_b c)), (4, .int (vl_I g)), (5, .int (vl_I p))] [] (jv_H K I L R) n sl Q := by
  obtain ⟨hC, hCs, hS, hNs, hn6, hM, hMR, hP0, hws, hform, hct, hcv, hst, hov, hM8⟩ := hW
  have hps : p < sc := by omega
  obtain ⟨hr0, hs, h227, hsn⟩ := hS.2.2.2.1 p hps
  have hr := (congrArg (R 11) (vl_I_nat (i := p) (by have := hS.2.1; omega))).trans hr0
  have h1024 := hS.2.1
  obtain ⟨_, _, _, okp, _, r6, r7⟩ := hV.1.2.2.1 p (sa p) (by omega) (vs_S_lt hps)
  have h4 : I (sa p) 4 = 1 := by rw [r6, hfr]; rfl
  obtain ⟨eA, _, tA⟩ := r7 A hA
  have gA : vt_gA A := hV.2.2.1 p A hA
  have hwel := hform.2.2 p hlt (hV.2.2.2.1 p (by rw [hA]; rfl)).2
  have n2 : ∀ q, q < 10 ∨ (171 ≤ q ∧ q < 227) ∨ 1000000 ≤ q → ¬ vc_ck sc sa q := fun q hq z => by
    rcases z with z | z | z | z | ⟨k, hk, z⟩
    · unfold vc_in at z; omega
    · unfold vc_in at z; omega
    · omega
    · omega
    · have h1 := (hS.2.2.2.1 k hk).2.2.1; have h2 := (hS.2.2.2.1 k hk).2.2.2; unfold vc_in at z; omega
  refine jv_Wp.lift (fun _ Kz => jv_Ev.steps jv_i23 2 (pc' := 134) (l' := [(0, .ref 10), (1, .ref pr), (2, .int (vl_I N)), (3, .int (vr_b c)), (4, .int (vl_I g)), (5, .int (vl_I p))]) (st' := [.int (vl_I N), .int (vl_I p)]) rfl Kz) ?_
  refine jv_Wp.cnd jv_i23 (pt := 241) (pe := 137) (p := ((vl_I N) ≤ (vl_I p))) (q := ((vl_I N) ≤ (vl_I p))) rfl jv_bc_ge rfl rfl Iff.rfl (fun hz => absurd hz (fun z => absurd ((vl_I_le (by omega) (by omega)).mp z) (by omega))) (fun _ => ?_)
  refine jv_Wp.lift (fun _ Kz => jv_Ev.steps jv_i23 1 (pc' := 138) (l' := [(0, .ref 10), (1, .ref pr), (2, .int (vl_I N)), (3, .int (vr_b c)), (4, .int (vl_I g)), (5, .int (vl_I p))]) (st' := [.ref 10]) rfl Kz) ?_
  refine jv_Wp.lift (fun _ Kz => jv_Ev.m jv_i23 (pc' := 141) (st' := [.ref 11]) (G' := (jv_H K I L R)) rfl rfl (jv_m_getR hC.k rfl rfl hCs) Kz) ?_
  refine jv_Wp.lift (fun _ Kz => jv_Ev.steps jv_i23 1 (pc' := 143) (l' := [(0, .ref 10), (1, .ref pr), (2, .int (vl_I N)), (3, .int (vr_b c)), (4, .int (vl_I g)), (5, .int (vl_I p))]) (st' := [.int (vl_I p), .ref 11]) rfl Kz) ?_
  refine jv_Wp.lift (fun _ Kz => jv_Ev.m jv_i23 (pc' := 144) (st' := [.ref (sa p)]) (G' := (jv_H K I L R)) rfl rfl (jv_m_aaldR hS.1 rfl (vl_I_ix (by omega) (by decide)) rfl hr) Kz) ?_
  refine jv_Wp.lift (fun _ Kz => jv_Ev.m jv_i23 (pc' := 147) (st' := [.int (I (sa p) 4)]) (G' := (jv_H K I L R)) rfl rfl (jv_m_getI hs.k rfl rfl rfl) Kz) ?_
  refine jv_Wp.cnd jv_i23 (pt := 153) (pe := 150) (p := (¬ (I (sa p) 4) = 0)) (q := (¬ (I (sa p) 4) = 0)) rfl jv_bi_ne rfl rfl Iff.rfl (fun _ => ?_) (fun hz => absurd (by rw [h4]; decide) hz)
  refine jv_Wp.lift (fun _ Kz => jv_Ev.steps jv_i23 1 (pc' := 154) (l' := [(0, .ref 10), (1, .ref pr), (2, .int (vl_I N)), (3, .int (vr_b c)), (4, .int (vl_I g)), (5, .int (vl_I p))]) (st' := [.ref 10]) rfl Kz) ?_
  refine jv_Wp.lift (fun _ Kz => jv_Ev.m jv_i23 (pc' := 157) (st' := [.ref 11]) (G' := (jv_H K I L R)) rfl rfl (jv_m_getR hC.k rfl rfl hCs) Kz) ?_
  refine jv_Wp.lift (fun _ Kz => jv_Ev.steps jv_i23 1 (pc' := 159) (l' := [(0, .ref 10), (1, .ref pr), (2, .int (vl_I N)), (3, .int (vr_b c)), (4, .int (vl_I g)), (5, .int (vl_I p))]) (st' := [.int (vl_I p), .ref 11]) rfl Kz) ?_
  refine jv_Wp.lift (fun _ Kz => jv_Ev.m jv_i23 (pc' := 160) (st' := [.ref (sa p)]) (G' := (jv_H K I L R)) rfl rfl (jv_m_aaldR hS.1 rfl (vl_I_ix (by omega) (by decide)) rfl hr) Kz) ?_
  refine jv_Wp.lift (fun _ Kz => jv_Ev.steps jv_i23 1 (pc' := 161) (l' := [(0, .ref 10), (1, .ref pr), (2, .int (vl_I N)), (3, .int (vr_b c)), (4, .int (vl_I g)), (5, .int (vl_I p))]) (st' := [.int (0 : Int32), .ref (sa p)]) rfl Kz) ?_
  refine jv_Wp.lift (fun _ Kz => jv_Ev.m jv_i23 (pc' := 164) (st' := []) (G' := (jv_H K (jv_u I (sa p) 4 (0 : Int32)) L R)) rfl rfl (jv_m_putI hs.k rfl rfl rfl (jv_fit_b (Or.inl rfl))) Kz) ?_
  refine jv_Wp.lift (fun _ Kz => jv_Ev.steps jv_i23 1 (pc' := 165) (l' := [(0, .ref 10), (1, .ref pr), (2, .int (vl_I N)), (3, .int (vr_b c)), (4, .int (vl_I g)), (5, .int (vl_I p))]) (st' := [.ref 10]) rfl Kz) ?_
  refine jv_Wp.lift (fun _ Kz => jv_Ev.m jv_i23 (pc' := 168) (st' := [.ref 12]) (G' := (jv_H K (jv_u I (sa p) 4 (0 : Int32)) L R)) rfl rfl (jv_m_getR hC.k rfl rfl hC.rnow) Kz) ?_
  refine jv_Wp.lift (fun _ Kz => jv_Ev.steps jv_i23 1 (pc' := 169) (l' := [(0, .ref 10), (1, .ref pr), (2, .int (vl_I N)), (3, .int (vr_b c)), (4, .int (vl_I g)), (5, .int (vl_I p))]) (st' := [.ref 10, .ref 12]) rfl Kz) ?_
  refine jv_Wp.lift (fun _ Kz => jv_Ev.m jv_i23 (pc' := 172) (st' := [.ref 11, .ref 12]) (G' := (jv_H K (jv_u I (sa p) 4 (0 : Int32)) L R)) rfl rfl (jv_m_getR hC.k rfl rfl hCs) Kz) ?_
  refine jv_Wp.lift (fun _ Kz => jv_Ev.steps jv_i23 1 (pc' := 174) (l' := [(0, .ref 10), (1, .ref pr), (2, .int (vl_I N)), (3, .int (vr_b c)), (4, .int (vl_I g)), (5, .int (vl_I p))]) (st' := [.int (vl_I p), .ref 11, .ref 12]) rfl Kz) ?_
  refine jv_Wp.lift (fun _ Kz => jv_Ev.m jv_i23 (pc' := 175) (st' := [.ref (sa p), .ref 12]) (G' := (jv_H K (jv_u I (sa p) 4 (0 : Int32)) L R)) rfl rfl (jv_m_aaldR hS.1 rfl (vl_I_ix (by omega) (by decide)) rfl hr) Kz) ?_
  have FU : vc_fr (fun q => q = sa p) I L (jv_u I (sa p) 4 (0 : Int32)) L := fun q hq => ⟨fun f => jv_u_o _ _ _ _ hq, fun _ => rfl⟩
  have VU := vc_V_unfresh hps hS.2.1 hV
  have obU : vc_okA (jv_u I (sa p) 4 (0 : Int32)) L (sa p) := fun i hi => (vc_fr_ok FU (by omega)).mpr (okp i hi)
  have oaU : vc_okA (jv_u I (sa p) 4 (0 : Int32)) L 12 := fun i hi => (vc_fr_ok FU (by omega)).mpr (o12 i hi)
  obtain ⟨I1, L1, H1, T1, O1, F1, G1⟩ := vc_sbec (I := (jv_u I (sa p) 4 (0 : Int32))) (L := L) (R := R) (n := n) (sl := sl) hC.now hs (Or.inl (by omega)) oaU obU
  have V1 := vc_V_fr F1 (fun k hk q hq z => by have := (hS.2.2.2.1 k hk).2.2.1; unfold vc_in at *; omega) VU
  have A1 : vc_A I1 L1 12 = A := T1.trans ((vc_A_eq (fun i hi => vc_fr_T FU (by omega)) rfl).trans eA)
  have C1 : vc_fr (vc_ck sc sa) I L I1 L1 := vc_fr_trans (vc_fr_mono FU (fun q z => Or.inr (Or.inr (Or.inr (Or.inr ⟨p, hps, by rw [z]; exact ⟨Nat.le_refl _, by omega⟩⟩))))) (vc_fr_mono F1 (fun q z => Or.inl z))
  have B1 := vc_fr_trans hFR C1
  refine jv_Wp.lift (fun _ Kz => jv_Ev.c jv_i23 (pc' := 178) (S' := []) (G1 := (jv_H K I1 L1 R)) jv_i112 [.ref 12, .ref (sa p)] rfl rfl rfl rfl (jv_cal rfl (jv_H_at hC.now.k) rfl rfl) rfl H1 rfl rfl Kz) ?_
  refine jv_Wp.lift (fun _ Kz => jv_Ev.steps jv_i23 3 (pc' := 182) (l' := [(0, .ref 10), (1, .ref pr), (2, .int (vl_I N)), (3, .int (vr_b c)), (4, .int (vl_I g)), (5, .int (vl_I p))]) (st' := [.int (vl_I p), .ref pr, .ref 10]) rfl Kz) ?_
  obtain ⟨I2, L2, H2, T2, P2, F2, G2⟩ := vc_instr (I := I1) (L := L1) (R := R) (n := n) (sl := sl) (M := M) p hC (vc_frM B1 (n2 2 (by decide)) (fun k o z => (hMR k o z).2) hM) (fun k o z => (hMR k o z).1) (vc_fr_P B1 hws hP0) hlt (fun z => by have := (hwel.2.2.1 z).1; omega) hwel.2.1 hwel.1 (fun z => by have q := hwel.2.2.2.2.1 (by show (vc_F (W p)).code % 8 = 5 ∨ (vc_F (W p)).code % 8 = 6; omega) z; have q1 : 0 ≤ (p : Int) + 1 + (vc_F (W p)).i := q.1; have q2 : (p : Int) + 1 + (vc_F (W p)).i < N := q.2.1; omega) hct (fun i hi => ((B1 _ (n2 _ (by decide))).1 i).trans (hcv i hi)) hst (fun i hi => ((B1 _ (n2 _ (by decide))).1 i).trans (hov i hi)) O1 (vc_fr_okA F1 (fun q z => by unfold vc_in at *; omega) (vc_fr_okA FU (fun q z => by unfold vc_in at z; omega) o89)) (by rw [A1]; exact tA) (by rw [A1]; exact gA)
  rw [A1] at H2 T2
  have V2 := vc_V_fr F2 (fun k hk q hq z => by have := (hS.2.2.2.1 k hk).2.2.1; unfold vc_in at *; omega) V1
  have C2 : vc_fr (vc_ck sc sa) I L I2 L2 := vc_fr_trans C1 (vc_fr_mono F2 (fun q z => z.imp id (fun z => z.imp id (fun z => z.imp id Or.inl))))
  refine jv_Wp.lift (fun _ Kz => jv_Ev.c jv_i23 (pc' := 185) (S' := [.int (vl_I (vx_does M (vc_F (W p)) (vc_F (W (p + 1))).i p A).1)]) (G1 := (jv_H K I2 L2 R)) jv_i25 [.ref 10, .ref pr, .int (vl_I p)] rfl rfl rfl rfl (jv_cal rfl (jv_H_at hC.k) rfl rfl) rfl H2 rfl rfl Kz) ?_
  refine jv_Wp.lift (fun _ Kz => jv_Ev.steps jv_i23 2 (pc' := 189) (l' := [(6, .int (vl_I (vx_does M (vc_F (W p)) (vc_F (W (p + 1))).i p A).1)), (0, .ref 10), (1, .ref pr), (2, .int (vl_I N)), (3, .int (vr_b c)), (4, .int (vl_I g)), (5, .int (vl_I p))]) (st' := [.int (vl_I (vx_does M (vc_F (W p)) (vc_F (W (p + 1))).i p A).1)]) rfl Kz) ?_
  refine jv_Wp.cnd jv_i23 (pt := 201) (pe := 192) (p := ((vl_I (vx_does M (vc_F (W p)) (vc_F (W (p + 1))).i p A).1) = 0)) (q := ((vl_I (vx_does M (vc_F (W p)) (vc_F (W (p + 1))).i p A).1) = 0)) rfl jv_bi_eq rfl rfl Iff.rfl (fun h1 => ?_) (fun h1 => ?_)
  · refine jv_Wp.lift (fun _ Kz => jv_Ev.steps jv_i23 3 (pc' := 204) (l' := [(6, .int (vl_I (vx_does M (vc_F (W p)) (vc_F (W (p + 1))).i p A).1)), (0, .ref 10), (1, .ref pr), (2, .int (vl_I N)), (3, .int (vr_b c)), (4, .int (vl_I g)), (5, .int (vl_I p))]) (st' := [.ref 10, .ref 10, .int (vr_b c)]) rfl Kz) ?_
    refine jv_Wp.lift (fun _ Kz => jv_Ev.m jv_i23 (pc' := 207) (st' := [.ref 12, .ref 10, .int (vr_b c)]) (G' := (jv_H K I2 L2 R)) rfl rfl (jv_m_getR hC.k rfl rfl hC.rnow) Kz) ?_
    refine jv_Wp.lift (fun _ Kz => jv_Ev.steps jv_i23 2 (pc' := 210) (l' := [(6, .int (vl_I (vx_does M (vc_F (W p)) (vc_F (W (p + 1))).i p A).1)), (0, .ref 10), (1, .ref pr), (2, .int (vl_I N)), (3, .int (vr_b c)), (4, .int (vl_I g)), (5, .int (vl_I p))]) (st' := [.ref 10, .int (vl_I p), .ref 12, .ref 10, .int (vr_b c)]) rfl Kz) ?_
    refine jv_Wp.lift (fun _ Kz => jv_Ev.m jv_i23 (pc' := 213) (st' := [.int (I2 10 9), .int (vl_I p), .ref 12, .ref 10, .int (vr_b c)]) (G' := (jv_H K I2 L2 R)) rfl rfl (jv_m_getI hC.k rfl rfl rfl) Kz) ?_
    have z0 : (vx_does M (vc_F (W p)) (vc_F (W (p + 1))).i p A).1 = 0 := (vl_I_inj (Nat.lt_trans (vx_does_lt _ _ _ _ _) (by decide)) (by decide)).mp h1
    obtain ⟨oa, ob, el, ga, gan, gb, gbn, q1, q2⟩ := T2 z0
    have to_ := vx_does_to (M := M) (i2 := (vc_F (W (p + 1))).i) (A := A) hwel
    have ok_ := vx_does_ok (M := M) (i2 := (vc_F (W (p + 1))).i) (p := p) hwel.1 (vw_d16 (W p)) (vw_s16 (W p)) tA
    have g_ := vx_does_g (M := M) (i2 := (vc_F (W (p + 1))).i) (p := p) hM8 (vw_d16 (W p)) (vw_s16 (W p)) hwel.2.1 tA gA
    rw [el] at to_ ok_ g_
    obtain ⟨I3, L3, H3, V3, F3⟩ := vc_arr2 (I := I2) (L := L2) (R := R) (n := n) (sl := sl) (fr := p) (t := I2 10 9) oa hC hCs hNs hS.2.1 V2 (by omega) hC.now (by decide) q1 (by omega) (fun e he => ⟨(ga e he).1, (ga e he).2, ok_ e (List.mem_append_left _ (by rw [he]; exact List.mem_singleton.mpr rfl)), g_ e (List.mem_append_left _ (by rw [he]; exact List.mem_singleton.mpr rfl)), to_ e (List.mem_append_left _ (by rw [he]; exact List.mem_singleton.mpr rfl))⟩) gan
    have C3 : vc_fr (vc_ck sc sa) I L I3 L3 := vc_fr_trans C2 (vc_fr_mono F3 (fun q z => z.elim (fun z => Or.inr (Or.inr (Or.inl (by omega)))) (fun z => Or.inr (Or.inr (Or.inr (Or.inr z))))))
    have n170 : ∀ q, vc_in 89 q ∨ vc_in 12 q ∨ q = 10 → ¬ (q = 170 ∨ ∃ p, p < sc ∧ vc_in (sa p) q) := fun q hq z => z.elim (fun z => by unfold vc_in at hq; omega) (fun ⟨k, hk, z⟩ => by have := (hS.2.2.2.1 k hk).2.2.1; unfold vc_in at *; omega)
    refine jv_Wp.lift (fun _ Kz => jv_Ev.c jv_i23 (pc' := 216) (S' := [.int (vr_b (vz_gosF p oa.toList (st.1, vz_u st.2 p false)).2), .int (vr_b c)]) (G1 := (jv_H K I3 L3 R)) jv_i24 [.ref 10, .ref 12, .int (vl_I p), .int (I2 10 9)] rfl rfl rfl rfl (jv_cal rfl (jv_H_at hC.k) rfl rfl) rfl H3 rfl rfl Kz) ?_
    refine jv_Wp.lift (fun _ Kz => jv_Ev.steps jv_i23 5 (pc' := 221) (l' := [(3, .int ((vr_b c) ||| (vr_b (vz_gosF p oa.toList (st.1, vz_u st.2 p false)).2))), (6, .int (vl_I (vx_does M (vc_F (W p)) (vc_F (W (p + 1))).i p A).1)), (0, .ref 10), (1, .ref pr), (2, .int (vl_I N)), (4, .int (vl_I g)), (5, .int (vl_I p))]) (st' := [.ref 10, .ref 10, .int ((vr_b c) ||| (vr_b (vz_gosF p oa.toList (st.1, vz_u st.2 p false)).2))]) rfl Kz) ?_
    refine jv_Wp.lift (fun _ Kz => jv_Ev.m jv_i23 (pc' := 224) (st' := [.ref 89, .ref 10, .int ((vr_b c) ||| (vr_b (vz_gosF p oa.toList (st.1, vz_u st.2 p false)).2))]) (G' := (jv_H K I3 L3 R)) rfl rfl (jv_m_getR hC.k rfl rfl hC.rjumped) Kz) ?_
    refine jv_Wp.lift (fun _ Kz => jv_Ev.steps jv_i23 2 (pc' := 227) (l' := [(3, .int ((vr_b c) ||| (vr_b (vz_gosF p oa.toList (st.1, vz_u st.2 p false)).2))), (6, .int (vl_I (vx_does M (vc_F (W p)) (vc_F (W (p + 1))).i p A).1)), (0, .ref 10), (1, .ref pr), (2, .int (vl_I N)), (4, .int (vl_I g)), (5, .int (vl_I p))]) (st' := [.ref 10, .int (vl_I p), .ref 89, .ref 10, .int ((vr_b c) ||| (vr_b (vz_gosF p oa.toList (st.1, vz_u st.2 p false)).2))]) rfl Kz) ?_
    refine jv_Wp.lift (fun _ Kz => jv_Ev.m jv_i23 (pc' := 230) (st' := [.int (I3 10 10), .int (vl_I p), .ref 89, .ref 10, .int ((vr_b c) ||| (vr_b (vz_gosF p oa.toList (st.1, vz_u st.2 p false)).2))]) (G' := (jv_H K I3 L3 R)) rfl rfl (jv_m_getI hC.k rfl rfl rfl) Kz) ?_
    have t10 : I3 10 10 = I2 10 10 := (F3 10 (n170 10 (Or.inr (Or.inr rfl)))).1 10
    have e89 : vc_A I3 L3 89 = vc_A I2 L2 89 := vc_fr_A F3 (fun q z => n170 q (Or.inl z))
    obtain ⟨I4, L4, H4, V4, F4⟩ := vc_arr2 (I := I3) (L := L3) (R := R) (n := n) (sl := sl) (fr := p) (t := I3 10 10) ob hC hCs hNs hS.2.1 V3 (by omega) hC.jumped (by decide) (vc_fr_okA F3 (fun q z => n170 q (Or.inl z)) q2) (by omega) (fun e he => ⟨t10 ▸ (gb e he).1, e89.trans (gb e he).2, ok_ e (List.mem_append_right _ (by rw [he]; exact List.mem_singleton.mpr rfl)), g_ e (List.mem_append_right _ (by rw [he]; exact List.mem_singleton.mpr rfl)), to_ e (List.mem_append_right _ (by rw [he]; exact List.mem_singleton.mpr rfl))⟩) (fun z => t10.trans (gbn z))
    have C4 : vc_fr (vc_ck sc sa) I L I4 L4 := vc_fr_trans C3 (vc_fr_mono F4 (fun q z => z.elim (fun z => Or.inr (Or.inr (Or.inl (by omega)))) (fun z => Or.inr (Or.inr (Or.inr (Or.inr z))))))
    refine jv_Wp.lift (fun _ Kz => jv_Ev.c jv_i23 (pc' := 233) (S' := [.int (vr_b (vz_gosF p ob.toList (vz_gosF p oa.toList (st.1, vz_u st.2 p false)).1).2), .int ((vr_b c) ||| (vr_b (vz_gosF p oa.toList (st.1, vz_u st.2 p false)).2))]) (G1 := (jv_H K I4 L4 R)) jv_i24 [.ref 10, .ref 89, .int (vl_I p), .int (I3 10 10)] rfl rfl rfl rfl (jv_cal rfl (jv_H_at hC.k) rfl rfl) rfl H4 rfl rfl Kz) ?_
    refine jv_Wp.lift (fun _ Kz => jv_Ev.steps jv_i23 4 (pc' := 131) (l' := [(5, .int ((vl_I p) + Int32.ofInt 1)), (3, .int (((vr_b c) ||| (vr_b (vz_gosF p oa.toList (st.1, vz_u st.2 p false)).2)) ||| (vr_b (vz_gosF p ob.toList (vz_gosF p oa.toList (st.1, vz_u st.2 p false)).1).2))), (6, .int (vl_I (vx_does M (vc_F (W p)) (vc_F (W (p + 1))).i p A).1)), (0, .ref 10), (1, .ref pr), (2, .int (vl_I N)), (4, .int (vl_I g))]) (st' := []) rfl Kz) ?_
    refine jv_Wp.loc (l := [(0, .ref 10), (1, .ref pr), (2, .int (vl_I N)), (3, .int (((vr_b c) ||| (vr_b (vz_gosF p oa.toList (st.1, vz_u st.2 p false)).2)) ||| (vr_b (vz_gosF p ob.toList (vz_gosF p oa.toList (st.1, vz_u st.2 p false)).1).2))), (4, .int (vl_I g)), (5, .int ((vl_I p) + Int32.ofInt 1))]) ⟨List.forall_mem_cons.mpr ⟨.tail _ (.tail _ (.tail _ (.head _))), List.forall_mem_cons.mpr ⟨.tail _ (.tail _ (.tail _ (.tail _ (.head _)))), List.forall_mem_cons.mpr ⟨.tail _ (.tail _ (.tail _ (.tail _ (.tail _ (.head _))))), List.forall_mem_cons.mpr ⟨.tail _ (.head _), List.forall_mem_cons.mpr ⟨.tail _ (.tail _ (.tail _ (.tail _ (.tail _ (.tail _ (.head _)))))), List.forall_mem_cons.mpr ⟨.head _, fun _ h => absurd h List.not_mem_nil⟩⟩⟩⟩⟩⟩, by show List.Nodup [5, 3, 6, 0, 1, 2, 4]; decide⟩ ?_
    rw [show vl_I p + Int32.ofInt 1 = vl_I (p + 1) from vl_I_add p 1, vi_bor, vi_bor, Bool.or_assoc]
    have ap := vz_gosF_app (fr := p) oa.toList ob.toList (st.1, vz_u st.2 p false)
    rw [← el] at ap
    have HC := HI I4 L4 z0 (by rw [show (vx_D M (fun p => vc_F (W p)) p A).2 = (vx_does M (vc_F (W p)) (vc_F (W (p + 1))).i p A).2 from rfl, ap]; exact V4) C4 (vc_fr_okA F4 (fun q z => n170 q (Or.inr (Or.inl z))) (vc_fr_okA F3 (fun q z => n170 q (Or.inr (Or.inl z))) q1)) (vc_fr_okA F4 (fun q z => n170 q (Or.inl z)) (vc_fr_okA F3 (fun q z => n170 q (Or.inl z)) q2))
    rw [show (vx_D M (fun p => vc_F (W p)) p A).2 = (vx_does M (vc_F (W p)) (vc_F (W (p + 1))).i p A).2 from rfl, ap] at HC
    exact HC
  · refine jv_Wp.lift (fun _ Kz => jv_Ev.steps jv_i23 2 (pc' := 195) (l' := [(6, .int (vl_I (vx_does M (vc_F (W p)) (vc_F (W (p + 1))).i p A).1)), (0, .ref 10), (1, .ref pr), (2, .int (vl_I N)), (3, .int (vr_b c)), (4, .int (vl_I g)), (5, .int (vl_I p))]) (st' := [.int (vl_I p), .ref 10]) rfl Kz) ?_
    refine jv_Wp.lift (fun _ Kz => jv_Ev.m jv_i23 (pc' := 198) (st' := []) (G' := (jv_H K (jv_u I2 10 11 (vl_I p)) L2 R)) rfl rfl (jv_m_putI hC.k rfl rfl rfl rfl) Kz) ?_
    refine jv_Wp.lift (fun _ Kz => jv_Ev.steps jv_i23 1 (pc' := 200) (l' := [(6, .int (vl_I (vx_does M (vc_F (W p)) (vc_F (W (p + 1))).i p A).1)), (0, .ref 10), (1, .ref pr), (2, .int (vl_I N)), (3, .int (vr_b c)), (4, .int (vl_I g)), (5, .int (vl_I p))]) (st' := [.int (vl_I (vx_does M (vc_F (W p)) (vc_F (W (p + 1))).i p A).1)]) rfl Kz) ?_
    refine jv_Wp.loc (l := [(0, .ref 10), (1, .ref pr), (2, .int (vl_I N)), (3, .int (vr_b c)), (4, .int (vl_I g)), (5, .int (vl_I p))]) ⟨List.forall_mem_cons.mpr ⟨.tail _ (.head _), List.forall_mem_cons.mpr ⟨.tail _ (.tail _ (.head _)), List.forall_mem_cons.mpr ⟨.tail _ (.tail _ (.tail _ (.head _))), List.forall_mem_cons.mpr ⟨.tail _ (.tail _ (.tail _ (.tail _ (.head _)))), List.forall_mem_cons.mpr ⟨.tail _ (.tail _ (.tail _ (.tail _ (.tail _ (.head _))))), List.forall_mem_cons.mpr ⟨.tail _ (.tail _ (.tail _ (.tail _ (.tail _ (.tail _ (.head _)))))), fun _ h => absurd h List.not_mem_nil⟩⟩⟩⟩⟩⟩, by show List.Nodup [6, 0, 1, 2, 3, 4, 5]; decide⟩ ?_
    refine jv_Wp.of (jv_Ev.ret jv_i23 rfl rfl) ?_
    have CU : vc_fr (vc_ck sc sa) I2 L2 (jv_u I2 10 11 (vl_I p)) L2 := vc_fr_mono (vc_fr_u10 I2 L2 11 _) (fun q z => Or.inr (Or.inr (Or.inr (Or.inl z))))
    exact HR _ _ (fun z => h1 (congrArg vl_I z)) (jv_u_self _ _ _ _) (vc_fr_trans C2 CU) (vc_fr_okA (vc_fr_u10 I2 L2 11 _) (fun q z => by unfold vc_in at z; omega) P2) (fun k hk => vc_fr_okA (vc_fr_u10 I2 L2 11 _) (fun q z => by have := (hS.2.2.2.1 k hk).2.2.1; unfold vc_in at z; omega) (V2.1.2.2.1 k (sa k) (by omega) (vs_S_lt hk)).2.2.2.1)