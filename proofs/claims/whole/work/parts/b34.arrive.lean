/-! part b34: a state goes to a place (gen/tb34.py) -/
theorem vc_instr_0 (I : Nat → Nat → Int32) (L : Nat → Nat → Int64) (p : Nat) : vc_fr (fun p => p = 10) I L (jv_u (jv_u I 10 9 (vl_I p + (1 : Int32))) 10 10 (-1 : Int32)) L := vc_fr_trans (vc_fr_u10 I L 9 _) (vc_fr_u10 _ L 10 _)
/-- the states of the class, place by place: where they are, and what they have -/
def vc_ST (K : Nat → Option (Nat × Nat)) (I : Nat → Nat → Int32) (L : Nat → Nat → Int64) (R : Nat → Nat → Value) (S : Nat → Option Nat) (st : vz_F) : Prop :=
  K 11 = some (104, 1024) ∧ (∀ p, p < 1024 → S p = none → R 11 p = .null ∧ st.1.1 p = none ∧ st.2 p = false) ∧
  (∀ p a, p < 1024 → S p = some a → R 11 p = .ref a ∧ vc_St K R a ∧ 227 ≤ a ∧ vc_okA I L a ∧ I a 3 = vr_b (st.1.1 p).isSome ∧ I a 4 = vr_b (st.2 p) ∧ ∀ A, st.1.1 p = some A → vc_A I L a = A ∧ I a 2 = vl_I (st.1.2 p) ∧ vt_okA A) ∧
  ∀ p q a b, p < 1024 → q < 1024 → S p = some a → S q = some b → p ≠ q → a + 77 ≤ b ∨ b + 77 ≤ a
/-- one place has changed, and nothing else -/
theorem vc_ST_up {K : Nat → Option (Nat × Nat)} {I I1 : Nat → Nat → Int32} {L L1 : Nat → Nat → Int64} {R : Nat → Nat → Value} {S : Nat → Option Nat} {st st' : vz_F} {q a : Nat} (h : vc_ST K I L R S st) (hq : q < 1024) (hS : S q = some a) (fr : vc_fr (fun p => vc_in a p ∨ p = 170) I L I1 L1)
    (ok : vc_okA I1 L1 a) (h3 : I1 a 3 = vr_b (st'.1.1 q).isSome) (h4 : I1 a 4 = vr_b (st'.2 q)) (hA : ∀ A, st'.1.1 q = some A → vc_A I1 L1 a = A ∧ I1 a 2 = vl_I (st'.1.2 q) ∧ vt_okA A)
    (e1 : ∀ p, p ≠ q → st'.1.1 p = st.1.1 p) (e2 : ∀ p, p ≠ q → st'.1.2 p = st.1.2 p) (e3 : ∀ p, p ≠ q → st'.2 p = st.2 p) : vc_ST K I1 L1 R S st' := by
  obtain ⟨k11, hn, hs, hd⟩ := h
  refine ⟨k11, fun p hp z => ?_, fun p b hp z => ?_, hd⟩
  · have n : p ≠ q := fun c => by rw [c, hS] at z; cases z
    rw [e1 p n, e3 p n]; exact hn p hp z
  · obtain ⟨r1, r2, r3, r4, r5, r6, r7⟩ := hs p b hp z
    by_cases c : p = q
    · subst c
      rw [hS] at z; cases z
      exact ⟨r1, r2, r3, ok, h3, h4, hA⟩
    · have d := hd p q b a hp hq z hS c
      have ga := (hs q a hq hS).2.2.1
      have nb : ∀ p, vc_in b p → ¬ (vc_in a p ∨ p = 170) := fun p z => by unfold vc_in at *; omega
      have f0 := (fr b (nb b ⟨Nat.le_refl _, by omega⟩)).1
      refine ⟨r1, r2, r3, vc_fr_okA fr nb r4, ?_, ?_, fun A hA' => ?_⟩
      · rw [f0, e1 p c]; exact r5
      · rw [f0, e3 p c]; exact r6
      · rw [e1 p c] at hA'
        rw [f0, e2 p c, vc_fr_A fr nb]
        exact r7 A hA'
theorem vz_go_none {fr q : Nat} {B : vt_A} {st : vz_S} (h : st.1 q = none) : vz_go fr q B st = ((vz_u st.1 q (some B), vz_u st.2 q 0), true) := by
  unfold vz_go; rw [h]
theorem vz_go_same {fr q : Nat} {B C : vt_A} {st : vz_S} (h : st.1 q = some C) (e : vt_meetA (decide (q ≤ fr ∧ 2 ≤ st.2 q)) C B = C) : vz_go fr q B st = (st, false) := by
  unfold vz_go; rw [h]; exact if_pos e
theorem vz_go_new {fr q : Nat} {B C : vt_A} {st : vz_S} (h : st.1 q = some C) (e : vt_meetA (decide (q ≤ fr ∧ 2 ≤ st.2 q)) C B ≠ C) : vz_go fr q B st = ((vz_u st.1 q (some (vt_meetA (decide (q ≤ fr ∧ 2 ≤ st.2 q)) C B)), vz_u st.2 q (st.2 q + 1)), true) := by
  unfold vz_go; rw [h]; exact if_neg e
theorem vc_instr {K : Nat → Option (Nat × Nat)} {I : Nat → Nat → Int32} {L : Nat → Nat → Int64} {R : Nat → Nat → Value} {M : vf_M} {pr ws len : Nat} {W : Nat → Int64} (p : Nat) (hC : vc_C K R) (hM : vc_M K I R M) (hMR : ∀ k o : Nat, R 7 k = .ref o → 227 ≤ o) (hP : vc_P K L R pr ws len W) (hp : p < len) (hp1 : (vc_F (W p)).kind = 0 → p + 1 < len) (hs : (vc_F (W p)).kind = 0 → (vc_F (W p)).s ≠ 0 → 0 ≤ (vc_F (W p)).i) (hf : vf_ok (vc_F (W p))) (hgo : (vc_F (W p)).code = 6 → 0 ≤ (p : Int) + 1 + (vc_F (W p)).i ∧ (p : Int) + 1 + (vc_F (W p)).i ≤ 1024) (hct : K (1000000 + 0) = some (110, 16)) (hcv : ∀ j, j < 16 → I (1000000 + 0) j = vl_I (vx_cmp j)) (hst : K (1000000 + 1) = some (110, 12)) (hov : ∀ j, j < 12 → I (1000000 + 1) j = vl_I (vb_opp j)) (oa : vc_okA I L 12) (oj : vc_okA I L 89) (tt : vt_okA (vc_A I L 12)) (gg : vt_gA (vc_A I L 12)) {n sl : Nat} : ∃ I1 L1, jv_Ms 25 [.ref 10, .ref pr, .int (vl_I p)] (jv_H K I L R) n sl (some (.int (vl_I (vx_does M (vc_F (W p)) (vc_F (W (p + 1))).i p (vc_A I L 12)).1)), jv_H K I1 L1 R, n, sl) ∧ ((vx_does M (vc_F (W p)) (vc_F (W (p + 1))).i p (vc_A I L 12)).1 = 0 → vc_go (vx_does M (vc_F (W p)) (vc_F (W (p + 1))).i p (vc_A I L 12)).2 I1 L1) ∧ vc_okA I1 L1 89 ∧ vc_fr (fun p => vc_in 12 p ∨ vc_in 89 p ∨ (166 ≤ p ∧ p ≤ 170) ∨ p = 10) I L I1 L1 ∧ ∀ f, I1 12 f = I 12 f ∧ I1 89 f = I 89 f ∧ (f ≠ 9 → f ≠ 10 → I1 10 f = I 10 f) := by
  obtain ⟨Q, hQ⟩ : ∃ Q : jv_R → Prop, Q = fun X => ∃ I1 L1, X = (some (.int (vl_I (vx_does M (vc_F (W p)) (vc_F (W (p + 1))).i p (vc_A I L 12)).1)), jv_H K I1 L1 R, n, sl) ∧ ((vx_does M (vc_F (W p)) (vc_F (W (p + 1))).i p (vc_A I L 12)).1 = 0 → vc_go (vx_does M (vc_F (W p)) (vc_F (W (p + 1))).i p (vc_A I L 12)).2 I1 L1) ∧ vc_okA I1 L1 89 ∧ vc_fr (fun p => vc_in 12 p ∨ vc_in 89 p ∨ (166 ≤ p ∧ p ≤ 170) ∨ p = 10) I L I1 L1 ∧ ∀ f, I1 12 f = I 12 f ∧ I1 89 f = I 89 f ∧ (f ≠ 9 → f ≠ 10 → I1 10 f = I 10 f) := ⟨_, rfl⟩
  suffices h : jv_Wp 25 0 [(0, .ref 10), (1, .ref pr), (2, .int (vl_I p))] [] (jv_H K I L R) n sl Q by
    rw [hQ] at h
    obtain ⟨X, h, I1, L1, e, h'⟩ := h
    subst e
    exact ⟨I1, L1, h, h'⟩
  refine jv_Wp.lift (fun _ Kz => jv_Ev.steps jv_i25 2 (pc' := 2) (l' := [(0, .ref 10), (1, .ref pr), (2, .int (vl_I p))]) (st' := [.int (vl_I p), .ref pr]) rfl Kz) ?_
  refine jv_Wp.lift (fun _ Kz => jv_Ev.c jv_i25 (pc' := 5) (S' := [.long (W p)]) jv_i78 [.ref pr, .int (vl_I p)] rfl rfl rfl rfl (jv_cal rfl (jv_H_at hP.1) rfl rfl) rfl (vc_wordq hP hp rfl) rfl rfl Kz) ?_
  refine jv_Wp.lift (fun _ Kz => jv_Ev.steps jv_i25 5 (pc' := 10) (l' := [(3, .long (W p)), (0, .ref 10), (1, .ref pr), (2, .int (vl_I p))]) (st' := [.int ((vl_I p) + (1 : Int32)), .ref 10]) rfl Kz) ?_
  refine jv_Wp.lift (fun _ Kz => jv_Ev.m jv_i25 (pc' := 13) (st' := []) (G' := (jv_H K (jv_u I 10 9 ((vl_I p) + (1 : Int32))) L R)) rfl rfl (jv_m_putI hC.k rfl rfl rfl rfl) Kz) ?_
  refine jv_Wp.lift (fun _ Kz => jv_Ev.steps jv_i25 2 (pc' := 15) (l' := [(3, .long (W p)), (0, .ref 10), (1, .ref pr), (2, .int (vl_I p))]) (st' := [.int (-1 : Int32), .ref 10]) rfl Kz) ?_
  refine jv_Wp.lift (fun _ Kz => jv_Ev.m jv_i25 (pc' := 18) (st' := []) (G' := (jv_H K (jv_u (jv_u I 10 9 ((vl_I p) + (1 : Int32))) 10 10 (-1 : Int32)) L R)) rfl rfl (jv_m_putI hC.k rfl rfl rfl rfl) Kz) ?_
  refine jv_Wp.loc (l := [(0, .ref 10), (1, .ref pr), (2, .int (vl_I p)), (3, .long (W p))]) ⟨List.forall_mem_cons.mpr ⟨.tail _ (.head _), List.forall_mem_cons.mpr ⟨.tail _ (.tail _ (.head _)), List.forall_mem_cons.mpr ⟨.tail _ (.tail _ (.tail _ (.head _))), List.forall_mem_cons.mpr ⟨.head _, fun _ h => absurd h List.not_mem_nil⟩⟩⟩⟩, by show List.Nodup [3, 0, 1, 2]; decide⟩ ?_
  have F0 := vc_instr_0 I L p
  have a12 : vc_A (jv_u (jv_u I 10 9 ((vl_I p) + (1 : Int32))) 10 10 (-1 : Int32)) L 12 = vc_A I L 12 := vc_fr_A F0 (fun p z => by unfold vc_in at z; omega)
  refine jv_Wp.mono (vc_itail (I := (jv_u (jv_u I 10 9 ((vl_I p) + (1 : Int32))) 10 10 (-1 : Int32))) (L := L) (M := M) p hC (vc_frM F0 (by omega) (fun k o z => by have := hMR k o z; show ¬ o = 10; omega) hM) hMR hP hp hp1 hs hf hgo hct (fun j hj => ((F0 _ (by decide)).1 j).trans (hcv j hj)) hst (fun j hj => ((F0 _ (by decide)).1 j).trans (hov j hj)) (vc_fr_okA F0 (fun p z => by unfold vc_in at z; omega) oa) (vc_fr_okA F0 (fun p z => by unfold vc_in at z; omega) oj) (by rw [a12]; exact tt) (by rw [a12]; exact gg) ((jv_u_j _ _ _ _ (by decide)).trans ((jv_u_self _ _ _ _).trans (vl_I_p1 p))) (jv_u_self _ _ _ _) rfl) ?_
  rintro X ⟨I9, L9, eX, hT, hO, hF, hG⟩
  rw [a12] at eX hT
  rw [hQ]
  exact ⟨I9, L9, eX, hT, hO, vc_fr_trans (vc_fr_mono F0 (fun p z => by omega)) hF, fun f => ⟨(hG f).1.trans ((F0 12 (by decide)).1 f), (hG f).2.1.trans ((F0 89 (by decide)).1 f), fun z9 z10 => ((hG f).2.2 z9 z10).trans ((jv_u_j _ _ _ _ z10).trans (jv_u_j _ _ _ _ z9))⟩⟩
theorem jv_i24 : jv_I 24 5 (some .boolean) 5 145 jv_c24 := ⟨rfl, rfl, rfl, rfl, rfl⟩
theorem vc_arrA {K : Nat → Option (Nat × Nat)} {I : Nat → Nat → Int32} {L : Nat → Nat → Int64} {R : Nat → Nat → Value} {q a b : Nat} (f : Int32) (hC : vc_C K R) (hCs : R 10 1 = .ref 11) (k11 : K 11 = some (104, 1024)) (hq : q < 1024) (r11q : R 11 q = .ref a) (ha : vc_St K R a) (hb : vc_St K R b) (hb170 : b ≤ 89) (ga : 227 ≤ a) (oa : vc_okA I L a) (ob : vc_okA I L b) (kh3 : I a 3 = 0) {n sl : Nat} : ∃ I1 L1, jv_Ms 24 [.ref 10, .ref b, .int f, .int (vl_I q)] (jv_H K I L R) n sl (some (.int 1), jv_H K I1 L1 R, n, sl) ∧ vc_A I1 L1 a = vc_A I L b ∧ vc_okA I1 L1 a ∧ I1 a 2 = 0 ∧ I1 a 3 = 1 ∧ I1 a 4 = 1 ∧ vc_fr (vc_in a) I L I1 L1 := by
  obtain ⟨Q, hQ⟩ : ∃ Q : jv_R → Prop, Q = fun X => ∃ I1 L1, X = (some (.int 1), jv_H K I1 L1 R, n, sl) ∧ vc_A I1 L1 a = vc_A I L b ∧ vc_okA I1 L1 a ∧ I1 a 2 = 0 ∧ I1 a 3 = 1 ∧ I1 a 4 = 1 ∧ vc_fr (vc_in a) I L I1 L1 := ⟨_, rfl⟩
  suffices h : jv_Wp 24 0 [(0, .ref 10), (1, .ref b), (2, .int f), (3, .int (vl_I q))] [] (jv_H K I L R) n sl Q by
    rw [hQ] at h
    obtain ⟨X, h, I1, L1, e, h'⟩ := h
    subst e
    exact ⟨I1, L1, h, h'⟩
  have hd : a + 77 ≤ b ∨ b + 77 ≤ a := Or.inr (by omega)
  have r11 : R 11 (vl_I q).toNatClampNeg = .ref a := by rw [vl_I_nat (by omega)]; exact r11q
  refine jv_Wp.lift (fun _ Kz => jv_Ev.steps jv_i24 1 (pc' := 1) (l' := [(0, .ref 10), (1, .ref b), (2, .int f), (3, .int (vl_I q))]) (st' := [.int (vl_I q)]) rfl Kz) ?_
  refine jv_Wp.cnd jv_i24 (pt := 20) (pe := 4) (p := ((vl_I q) < 0)) (q := ((vl_I q) < 0)) rfl jv_bi_lt rfl rfl Iff.rfl (fun hz => absurd hz (vl_I_n0 (by omega))) (fun _ => ?_)
  refine jv_Wp.lift (fun _ Kz => jv_Ev.steps jv_i24 2 (pc' := 8) (l' := [(0, .ref 10), (1, .ref b), (2, .int f), (3, .int (vl_I q))]) (st' := [.int (1024 : Int32), .int (vl_I q)]) rfl Kz) ?_
  refine jv_Wp.cnd jv_i24 (pt := 20) (pe := 11) (p := ((1024 : Int32) ≤ (vl_I q))) (q := ((1024 : Int32) ≤ (vl_I q))) rfl jv_bc_ge rfl rfl Iff.rfl (fun hz => absurd hz (fun z => absurd ((vl_I_le (a := 1024) (by decide) (by omega)).mp z) (by omega))) (fun _ => ?_)
  refine jv_Wp.lift (fun _ Kz => jv_Ev.steps jv_i24 1 (pc' := 12) (l' := [(0, .ref 10), (1, .ref b), (2, .int f), (3, .int (vl_I q))]) (st' := [.ref 10]) rfl Kz) ?_
  refine jv_Wp.lift (fun _ Kz => jv_Ev.m jv_i24 (pc' := 15) (st' := [.ref 11]) (G' := (jv_H K I L R)) rfl rfl (jv_m_getR hC.k rfl rfl hCs) Kz) ?_
  refine jv_Wp.lift (fun _ Kz => jv_Ev.steps jv_i24 1 (pc' := 16) (l' := [(0, .ref 10), (1, .ref b), (2, .int f), (3, .int (vl_I q))]) (st' := [.int (vl_I q), .ref 11]) rfl Kz) ?_
  refine jv_Wp.lift (fun _ Kz => jv_Ev.m jv_i24 (pc' := 17) (st' := [.ref a]) (G' := (jv_H K I L R)) rfl rfl (jv_m_aaldR k11 rfl (vl_I_ix hq (by decide)) rfl r11) Kz) ?_
  refine jv_Wp.lift (fun _ Kz => jv_Ev.br jv_i24 (pc' := 22) (st' := []) rfl (by rfl) Kz) ?_
  refine jv_Wp.lift (fun _ Kz => jv_Ev.steps jv_i24 1 (pc' := 23) (l' := [(0, .ref 10), (1, .ref b), (2, .int f), (3, .int (vl_I q))]) (st' := [.ref 10]) rfl Kz) ?_
  refine jv_Wp.lift (fun _ Kz => jv_Ev.m jv_i24 (pc' := 26) (st' := [.ref 11]) (G' := (jv_H K I L R)) rfl rfl (jv_m_getR hC.k rfl rfl hCs) Kz) ?_
  refine jv_Wp.lift (fun _ Kz => jv_Ev.steps jv_i24 1 (pc' := 27) (l' := [(0, .ref 10), (1, .ref b), (2, .int f), (3, .int (vl_I q))]) (st' := [.int (vl_I q), .ref 11]) rfl Kz) ?_
  refine jv_Wp.lift (fun _ Kz => jv_Ev.m jv_i24 (pc' := 28) (st' := [.ref a]) (G' := (jv_H K I L R)) rfl rfl (jv_m_aaldR k11 rfl (vl_I_ix hq (by decide)) rfl r11) Kz) ?_
  refine jv_Wp.lift (fun _ Kz => jv_Ev.steps jv_i24 2 (pc' := 32) (l' := [(4, .ref a), (0, .ref 10), (1, .ref b), (2, .int f), (3, .int (vl_I q))]) (st' := [.ref a]) rfl Kz) ?_
  refine jv_Wp.lift (fun _ Kz => jv_Ev.m jv_i24 (pc' := 35) (st' := [.int (I a 3)]) (G' := (jv_H K I L R)) rfl rfl (jv_m_getI ha.k rfl rfl rfl) Kz) ?_
  refine jv_Wp.cnd jv_i24 (pt := 64) (pe := 38) (p := (¬ (I a 3) = 0)) (q := (¬ (I a 3) = 0)) rfl jv_bi_ne rfl rfl Iff.rfl (fun hz => absurd hz (fun z => z kh3)) (fun _ => ?_)
  refine jv_Wp.lift (fun _ Kz => jv_Ev.steps jv_i24 2 (pc' := 41) (l' := [(4, .ref a), (0, .ref 10), (1, .ref b), (2, .int f), (3, .int (vl_I q))]) (st' := [.ref b, .ref a]) rfl Kz) ?_
  obtain ⟨I1, L1, H1, T1, O1, F1, G1⟩ := vc_sbec (I := I) (L := L) (R := R) (n := n) (sl := sl) ha hb hd oa ob
  refine jv_Wp.lift (fun _ Kz => jv_Ev.c jv_i24 (pc' := 44) (S' := []) (G1 := (jv_H K I1 L1 R)) jv_i112 [.ref a, .ref b] rfl rfl rfl rfl (jv_cal rfl (jv_H_at ha.k) rfl rfl) rfl H1 rfl rfl Kz) ?_
  refine jv_Wp.lift (fun _ Kz => jv_Ev.steps jv_i24 2 (pc' := 47) (l' := [(4, .ref a), (0, .ref 10), (1, .ref b), (2, .int f), (3, .int (vl_I q))]) (st' := [.int (1 : Int32), .ref a]) rfl Kz) ?_
  refine jv_Wp.lift (fun _ Kz => jv_Ev.m jv_i24 (pc' := 50) (st' := []) (G' := (jv_H K (jv_u I1 a 3 (1 : Int32)) L1 R)) rfl rfl (jv_m_putI ha.k rfl rfl rfl (jv_fit_b (Or.inr rfl))) Kz) ?_
  refine jv_Wp.lift (fun _ Kz => jv_Ev.steps jv_i24 2 (pc' := 53) (l' := [(4, .ref a), (0, .ref 10), (1, .ref b), (2, .int f), (3, .int (vl_I q))]) (st' := [.int (1 : Int32), .ref a]) rfl Kz) ?_
  refine jv_Wp.lift (fun _ Kz => jv_Ev.m jv_i24 (pc' := 56) (st' := []) (G' := (jv_H K (jv_u (jv_u I1 a 3 (1 : Int32)) a 4 (1 : Int32)) L1 R)) rfl rfl (jv_m_putI ha.k rfl rfl rfl (jv_fit_b (Or.inr rfl))) Kz) ?_
  refine jv_Wp.lift (fun _ Kz => jv_Ev.steps jv_i24 2 (pc' := 59) (l' := [(4, .ref a), (0, .ref 10), (1, .ref b), (2, .int f), (3, .int (vl_I q))]) (st' := [.int (0 : Int32), .ref a]) rfl Kz) ?_
  refine jv_Wp.lift (fun _ Kz => jv_Ev.m jv_i24 (pc' := 62) (st' := []) (G' := (jv_H K (jv_u (jv_u (jv_u I1 a 3 (1 : Int32)) a 4 (1 : Int32)) a 2 (0 : Int32)) L1 R)) rfl rfl (jv_m_putI ha.k rfl rfl rfl rfl) Kz) ?_
  refine jv_Wp.lift (fun _ Kz => jv_Ev.steps jv_i24 1 (pc' := 63) (l' := [(4, .ref a), (0, .ref 10), (1, .ref b), (2, .int f), (3, .int (vl_I q))]) (st' := [.int (1 : Int32)]) rfl Kz) ?_
  refine jv_Wp.of (jv_Ev.ret jv_i24 rfl (jv_ret_b (Or.inr rfl))) ?_
  rw [hQ]
  have FU : ∀ x y z, vc_fr (fun p => p = a) I1 L1 (jv_u (jv_u (jv_u I1 a 3 x) a 4 y) a 2 z) L1 := fun x y z p hp => ⟨fun f => (jv_u_o _ _ _ _ hp).trans ((jv_u_o _ _ _ _ hp).trans (jv_u_o _ _ _ _ hp)), fun _ => rfl⟩
  refine ⟨_, _, rfl, (vc_A_eq (fun n hn => vc_fr_T (FU _ _ _) (by omega)) rfl).trans T1, fun n hn => (vc_fr_ok (FU _ _ _) (by omega)).mpr (O1 n hn), jv_u_self _ _ _ _, (jv_u_j _ _ _ _ (by decide)).trans ((jv_u_j _ _ _ _ (by decide)).trans (jv_u_self _ _ _ _)), (jv_u_j _ _ _ _ (by decide)).trans (jv_u_self _ _ _ _), vc_fr_trans F1 (vc_fr_mono (FU _ _ _) (fun p z => by rw [z]; exact ⟨Nat.le_refl _, by omega⟩))⟩
theorem vc_arrB {K : Nat → Option (Nat × Nat)} {I : Nat → Nat → Int32} {L : Nat → Nat → Int64} {R : Nat → Nat → Value} {q fr ch a b : Nat} (hC : vc_C K R) (hCs : R 10 1 = .ref 11) (k11 : K 11 = some (104, 1024)) (hq : q < 1024) (r11q : R 11 q = .ref a) (ha : vc_St K R a) (hb : vc_St K R b) (hb170 : b ≤ 89) (ga : 227 ≤ a) (oa : vc_okA I L a) (ob : vc_okA I L b) (hfr : fr < 2147483648) (hch : ch < 2147483647) (kh2 : I a 2 = vl_I ch) (kh3 : I a 3 = 1) (tA : ∀ n, n < 75 → vt_ok (vc_T I L (a + 2 + n))) {n sl : Nat} : ∃ I1 L1 c, jv_Ms 24 [.ref 10, .ref b, .int (vl_I fr), .int (vl_I q)] (jv_H K I L R) n sl (some (.int (vr_b c)), jv_H K I1 L1 R, n, sl) ∧ (c = true ↔ vt_meetA (decide (q ≤ fr ∧ 2 ≤ ch)) (vc_A I L a) (vc_A I L b) ≠ vc_A I L a) ∧ vc_A I1 L1 a = vt_meetA (decide (q ≤ fr ∧ 2 ≤ ch)) (vc_A I L a) (vc_A I L b) ∧ vc_okA I1 L1 a ∧ (c = true → I1 a 2 = vl_I (ch + 1) ∧ I1 a 4 = 1) ∧ (c = false → I1 a 2 = I a 2 ∧ I1 a 4 = I a 4) ∧ I1 a 3 = I a 3 ∧ vc_fr (fun p => vc_in a p ∨ p = 170) I L I1 L1 := by
  obtain ⟨Q, hQ⟩ : ∃ Q : jv_R → Prop, Q = fun X => ∃ I1 L1 c, X = (some (.int (vr_b c)), jv_H K I1 L1 R, n, sl) ∧ (c = true ↔ vt_meetA (decide (q ≤ fr ∧ 2 ≤ ch)) (vc_A I L a) (vc_A I L b) ≠ vc_A I L a) ∧ vc_A I1 L1 a = vt_meetA (decide (q ≤ fr ∧ 2 ≤ ch)) (vc_A I L a) (vc_A I L b) ∧ vc_okA I1 L1 a ∧ (c = true → I1 a 2 = vl_I (ch + 1) ∧ I1 a 4 = 1) ∧ (c = false → I1 a 2 = I a 2 ∧ I1 a 4 = I a 4) ∧ I1 a 3 = I a 3 ∧ vc_fr (fun p => vc_in a p ∨ p = 170) I L I1 L1 := ⟨_, rfl⟩
  suffices h : jv_Wp 24 0 [(0, .ref 10), (1, .ref b), (2, .int (vl_I fr)), (3, .int (vl_I q))] [] (jv_H K I L R) n sl Q by
    rw [hQ] at h
    obtain ⟨X, h, I1, L1, c, e, h'⟩ := h
    subst e
    exact ⟨I1, L1, c, h, h'⟩
  have hd : a + 77 ≤ b ∨ b + 77 ≤ a := Or.inr (by omega)
  have r11 : R 11 (vl_I q).toNatClampNeg = .ref a := by rw [vl_I_nat (by omega)]; exact r11q
  refine jv_Wp.lift (fun _ Kz => jv_Ev.steps jv_i24 1 (pc' := 1) (l' := [(0, .ref 10), (1, .ref b), (2, .int (vl_I fr)), (3, .int (vl_I q))]) (st' := [.int (vl_I q)]) rfl Kz) ?_
  refine jv_Wp.cnd jv_i24 (pt := 20) (pe := 4) (p := ((vl_I q) < 0)) (q := ((vl_I q) < 0)) rfl jv_bi_lt rfl rfl Iff.rfl (fun hz => absurd hz (vl_I_n0 (by omega))) (fun _ => ?_)
  refine jv_Wp.lift (fun _ Kz => jv_Ev.steps jv_i24 2 (pc' := 8) (l' := [(0, .ref 10), (1, .ref b), (2, .int (vl_I fr)), (3, .int (vl_I q))]) (st' := [.int (1024 : Int32), .int (vl_I q)]) rfl Kz) ?_
  refine jv_Wp.cnd jv_i24 (pt := 20) (pe := 11) (p := ((1024 : Int32) ≤ (vl_I q))) (q := ((1024 : Int32) ≤ (vl_I q))) rfl jv_bc_ge rfl rfl Iff.rfl (fun hz => absurd hz (fun z => absurd ((vl_I_le (a := 1024) (by decide) (by omega)).mp z) (by omega))) (fun _ => ?_)
  refine jv_Wp.lift (fun _ Kz => jv_Ev.steps jv_i24 1 (pc' := 12) (l' := [(0, .ref 10), (1, .ref b), (2, .int (vl_I fr)), (3, .int (vl_I q))]) (st' := [.ref 10]) rfl Kz) ?_
  refine jv_Wp.lift (fun _ Kz => jv_Ev.m jv_i24 (pc' := 15) (st' := [.ref 11]) (G' := (jv_H K I L R)) rfl rfl (jv_m_getR hC.k rfl rfl hCs) Kz) ?_
  refine jv_Wp.lift (fun _ Kz => jv_Ev.steps jv_i24 1 (pc' := 16) (l' := [(0, .ref 10), (1, .ref b), (2, .int (vl_I fr)), (3, .int (vl_I q))]) (st' := [.int (vl_I q), .ref 11]) rfl Kz) ?_
  refine jv_Wp.lift (fun _ Kz => jv_Ev.m jv_i24 (pc' := 17) (st' := [.ref a]) (G' := (jv_H K I L R)) rfl rfl (jv_m_aaldR k11 rfl (vl_I_ix hq (by decide)) rfl r11) Kz) ?_
  refine jv_Wp.lift (fun _ Kz => jv_Ev.br jv_i24 (pc' := 22) (st' := []) rfl (by rfl) Kz) ?_
  refine jv_Wp.lift (fun _ Kz => jv_Ev.steps jv_i24 1 (pc' := 23) (l' := [(0, .ref 10), (1, .ref b), (2, .int (vl_I fr)), (3, .int (vl_I q))]) (st' := [.ref 10]) rfl Kz) ?_
  refine jv_Wp.lift (fun _ Kz => jv_Ev.m jv_i24 (pc' := 26) (st' := [.ref 11]) (G' := (jv_H K I L R)) rfl rfl (jv_m_getR hC.k rfl rfl hCs) Kz) ?_
  refine jv_Wp.lift (fun _ Kz => jv_Ev.steps jv_i24 1 (pc' := 27) (l' := [(0, .ref 10), (1, .ref b), (2, .int (vl_I fr)), (3, .int (vl_I q))]) (st' := [.int (vl_I q), .ref 11]) rfl Kz) ?_
  refine jv_Wp.lift (fun _ Kz => jv_Ev.m jv_i24 (pc' := 28) (st' := [.ref a]) (G' := (jv_H K I L R)) rfl rfl (jv_m_aaldR k11 rfl (vl_I_ix hq (by decide)) rfl r11) Kz) ?_
  refine jv_Wp.lift (fun _ Kz => jv_Ev.steps jv_i24 2 (pc' := 32) (l' := [(4, .ref a), (0, .ref 10), (1, .ref b), (2, .int (vl_I fr)), (3, .int (vl_I q))]) (st' := [.ref a]) rfl Kz) ?_
  refine jv_Wp.lift (fun _ Kz => jv_Ev.m jv_i24 (pc' := 35) (st' := [.int (I a 3)]) (G' := (jv_H K I L R)) rfl rfl (jv_m_getI ha.k rfl rfl rfl) Kz) ?_
  refine jv_Wp.cnd jv_i24 (pt := 64) (pe := 38) (p := (¬ (I a 3) = 0)) (q := (¬ (I a 3) = 0)) rfl jv_bi_ne rfl rfl Iff.rfl (fun _ => ?_) (fun hz => absurd (by rw [kh3]; decide) hz)
  refine jv_Wp.lift (fun _ Kz => jv_Ev.steps jv_i24 3 (pc' := 69) (l' := [(4, .ref a), (0, .ref 10), (1, .ref b), (2, .int (vl_I fr)), (3, .int (vl_I q))]) (st' := [.ref a, .ref b, .ref a]) rfl Kz) ?_
  refine jv_Wp.lift (fun _ Kz => jv_Ev.m jv_i24 (pc' := 72) (st' := [.int (I a 2), .ref b, .ref a]) (G' := (jv_H K I L R)) rfl rfl (jv_m_getI ha.k rfl rfl rfl) Kz) ?_
  refine jv_Wp.lift (fun _ Kz => jv_Ev.steps jv_i24 1 (pc' := 73) (l' := [(4, .ref a), (0, .ref 10), (1, .ref b), (2, .int (vl_I fr)), (3, .int (vl_I q))]) (st' := [.int (2 : Int32), .int (I a 2), .ref b, .ref a]) rfl Kz) ?_
  refine jv_Wp.cnd jv_i24 (pt := 85) (pe := 76) (p := ((I a 2) < (2 : Int32))) (q := ((I a 2) < (2 : Int32))) rfl jv_bc_lt rfl rfl Iff.rfl (fun h1 => ?_) (fun h1 => ?_)
  · refine jv_Wp.lift (fun _ Kz => jv_Ev.steps jv_i24 2 (pc' := 87) (l' := [(4, .ref a), (0, .ref 10), (1, .ref b), (2, .int (vl_I fr)), (3, .int (vl_I q))]) (st' := [.ref 10, .int (0 : Int32), .ref b, .ref a]) rfl Kz) ?_
    refine jv_Wp.lift (fun _ Kz => jv_Ev.m jv_i24 (pc' := 90) (st' := [.ref 170, .int (0 : Int32), .ref b, .ref a]) (G' := (jv_H K I L R)) rfl rfl (jv_m_getR hC.k rfl rfl hC.rroom) Kz) ?_
    obtain ⟨I2, L2, c2, H2, E2, T2, O2, F2, G2⟩ := vc_smeet (I := I) (L := L) (R := R) (n := n) (sl := sl) false ha hb hC.k170 hd (by unfold vc_in; omega) (by unfold vc_in; omega) oa ob tA
    refine jv_Wp.lift (fun _ Kz => jv_Ev.c jv_i24 (pc' := 93) (S' := [.int (vr_b c2)]) (G1 := (jv_H K I2 L2 R)) jv_i113 [.ref a, .ref b, .int (0 : Int32), .ref 170] rfl rfl rfl rfl (jv_cal rfl (jv_H_at ha.k) rfl rfl) rfl H2 rfl rfl Kz) ?_
    refine jv_Wp.cnd jv_i24 (pt := 98) (pe := 96) (p := (¬ (vr_b c2) = 0)) (q := (¬ (vr_b c2) = 0)) rfl jv_bi_ne rfl rfl Iff.rfl (fun h2 => ?_) (fun h2 => ?_)
    · refine jv_Wp.lift (fun _ Kz => jv_Ev.steps jv_i24 2 (pc' := 101) (l' := [(4, .ref a), (0, .ref 10), (1, .ref b), (2, .int (vl_I fr)), (3, .int (vl_I q))]) (st' := [.ref a, .ref a]) rfl Kz) ?_
      refine jv_Wp.lift (fun _ Kz => jv_Ev.m jv_i24 (pc' := 104) (st' := [.int (I2 a 2), .ref a]) (G' := (jv_H K I2 L2 R)) rfl rfl (jv_m_getI ha.k rfl rfl rfl) Kz) ?_
      refine jv_Wp.lift (fun _ Kz => jv_Ev.steps jv_i24 2 (pc' := 106) (l' := [(4, .ref a), (0, .ref 10), (1, .ref b), (2, .int (vl_I fr)), (3, .int (vl_I q))]) (st' := [.int ((I2 a 2) + (1 : Int32)), .ref a]) rfl Kz) ?_
      refine jv_Wp.lift (fun _ Kz => jv_Ev.m jv_i24 (pc' := 109) (st' := []) (G' := (jv_H K (jv_u I2 a 2 ((I2 a 2) + (1 : Int32))) L2 R)) rfl rfl (jv_m_putI ha.k rfl rfl rfl rfl) Kz) ?_
      refine jv_Wp.lift (fun _ Kz => jv_Ev.steps jv_i24 2 (pc' := 112) (l' := [(4, .ref a), (0, .ref 10), (1, .ref b), (2, .int (vl_I fr)), (3, .int (vl_I q))]) (st' := [.int (1 : Int32), .ref a]) rfl Kz) ?_
      refine jv_Wp.lift (fun _ Kz => jv_Ev.m jv_i24 (pc' := 115) (st' := []) (G' := (jv_H K (jv_u (jv_u I2 a 2 ((I2 a 2) + (1 : Int32))) a 4 (1 : Int32)) L2 R)) rfl rfl (jv_m_putI ha.k rfl rfl rfl (jv_fit_b (Or.inr rfl))) Kz) ?_
      refine jv_Wp.lift (fun _ Kz => jv_Ev.steps jv_i24 1 (pc' := 116) (l' := [(4, .ref a), (0, .ref 10), (1, .ref b), (2, .int (vl_I fr)), (3, .int (vl_I q))]) (st' := [.int (1 : Int32)]) rfl Kz) ?_
      refine jv_Wp.of (jv_Ev.ret jv_i24 rfl (jv_ret_b (Or.inr rfl))) ?_
      rw [hQ]
      have n2 : (vl_I ch < (2 : Int32)) ↔ ch < 2 := vl_I_lt (b := 2) (by omega) (by decide)
      have nq : (vl_I fr < vl_I q) ↔ fr < q := vl_I_lt (by omega) (by omega)
      have k2 := h1
      rw [kh2, n2] at k2
      have ew : decide (q ≤ fr ∧ 2 ≤ ch) = false := decide_eq_false (by omega)
      have ec : c2 = true := vr_b_t h2
      have FU : ∀ x y, vc_fr (fun p => p = a) I2 L2 (jv_u (jv_u I2 a 2 x) a 4 y) L2 := fun x y p hp => ⟨fun f => (jv_u_o _ _ _ _ hp).trans (jv_u_o _ _ _ _ hp), fun _ => rfl⟩
      rw [ew]
      refine ⟨_, _, c2, by rw [ec]; rfl, E2, (vc_A_eq (fun n hn => vc_fr_T (FU _ _) (by omega)) rfl).trans T2, fun n hn => (vc_fr_ok (FU _ _) (by omega)).mpr (O2 n hn), fun _ => ⟨?_, jv_u_self _ _ _ _⟩, fun z => absurd (ec.symm.trans z) (by decide), ?_, vc_fr_trans F2 (vc_fr_mono (FU _ _) (fun p z => Or.inl (by rw [z]; exact ⟨Nat.le_refl _, by omega⟩)))⟩
      · refine (jv_u_j _ _ _ _ (by decide)).trans ((jv_u_self _ _ _ _).trans ?_); rw [G2, kh2]; exact vl_I_p1 ch
      · exact (jv_u_j _ _ _ _ (by decide)).trans ((jv_u_j _ _ _ _ (by decide)).trans (G2 3))
    · refine jv_Wp.lift (fun _ Kz => jv_Ev.steps jv_i24 1 (pc' := 97) (l' := [(4, .ref a), (0, .ref 10), (1, .ref b), (2, .int (vl_I fr)), (3, .int (vl_I q))]) (st' := [.int (0 : Int32)]) rfl Kz) ?_
      refine jv_Wp.of (jv_Ev.ret jv_i24 rfl (jv_ret_b (Or.inl rfl))) ?_
      rw [hQ]
      have n2 : (vl_I ch < (2 : Int32)) ↔ ch < 2 := vl_I_lt (b := 2) (by omega) (by decide)
      have nq : (vl_I fr < vl_I q) ↔ fr < q := vl_I_lt (by omega) (by omega)
      have k2 := h1
      rw [kh2, n2] at k2
      have ew : decide (q ≤ fr ∧ 2 ≤ ch) = false := decide_eq_false (by omega)
      have ec : c2 = false := vr_b_f (Classical.not_not.mp h2)
      rw [ew]
      exact ⟨_, _, c2, by rw [ec]; rfl, E2, T2, O2, fun z => absurd (ec.symm.trans z) (by decide), fun _ => ⟨G2 2, G2 4⟩, G2 3, F2⟩
  · refine jv_Wp.lift (fun _ Kz => jv_Ev.steps jv_i24 2 (pc' := 78) (l' := [(4, .ref a), (0, .ref 10), (1, .ref b), (2, .int (vl_I fr)), (3, .int (vl_I q))]) (st' := [.int (vl_I q), .int (vl_I fr), .ref b, .ref a]) rfl Kz) ?_
    refine jv_Wp.cnd jv_i24 (pt := 85) (pe := 81) (p := ((vl_I fr) < (vl_I q))) (q := ((vl_I fr) < (vl_I q))) rfl jv_bc_lt rfl rfl Iff.rfl (fun h3 => ?_) (fun h3 => ?_)
    · refine jv_Wp.lift (fun _ Kz => jv_Ev.steps jv_i24 2 (pc' := 87) (l' := [(4, .ref a), (0, .ref 10), (1, .ref b), (2, .int (vl_I fr)), (3, .int (vl_I q))]) (st' := [.ref 10, .int (0 : Int32), .ref b, .ref a]) rfl Kz) ?_
      refine jv_Wp.lift (fun _ Kz => jv_Ev.m jv_i24 (pc' := 90) (st' := [.ref 170, .int (0 : Int32), .ref b, .ref a]) (G' := (jv_H K I L R)) rfl rfl (jv_m_getR hC.k rfl rfl hC.rroom) Kz) ?_
      obtain ⟨I3, L3, c3, H3, E3, T3, O3, F3, G3⟩ := vc_smeet (I := I) (L := L) (R := R) (n := n) (sl := sl) false ha hb hC.k170 hd (by unfold vc_in; omega) (by unfold vc_in; omega) oa ob tA
      refine jv_Wp.lift (fun _ Kz => jv_Ev.c jv_i24 (pc' := 93) (S' := [.int (vr_b c3)]) (G1 := (jv_H K I3 L3 R)) jv_i113 [.ref a, .ref b, .int (0 : Int32), .ref 170] rfl rfl rfl rfl (jv_cal rfl (jv_H_at ha.k) rfl rfl) rfl H3 rfl rfl Kz) ?_
      refine jv_Wp.cnd jv_i24 (pt := 98) (pe := 96) (p := (¬ (vr_b c3) = 0)) (q := (¬ (vr_b c3) = 0)) rfl jv_bi_ne rfl rfl Iff.rfl (fun h4 => ?_) (fun h4 => ?_)
      · refine jv_Wp.lift (fun _ Kz => jv_Ev.steps jv_i24 2 (pc' := 101) (l' := [(4, .ref a), (0, .ref 10), (1, .ref b), (2, .int (vl_I fr)), (3, .int (vl_I q))]) (st' := [.ref a, .ref a]) rfl Kz) ?_
        refine jv_Wp.lift (fun _ Kz => jv_Ev.m jv_i24 (pc' := 104) (st' := [.int (I3 a 2), .ref a]) (G' := (jv_H K I3 L3 R)) rfl rfl (jv_m_getI ha.k rfl rfl rfl) Kz) ?_
        refine jv_Wp.lift (fun _ Kz => jv_Ev.steps jv_i24 2 (pc' := 106) (l' := [(4, .ref a), (0, .ref 10), (1, .ref b), (2, .int (vl_I fr)), (3, .int (vl_I q))]) (st' := [.int ((I3 a 2) + (1 : Int32)), .ref a]) rfl Kz) ?_
        refine jv_Wp.lift (fun _ Kz => jv_Ev.m jv_i24 (pc' := 109) (st' := []) (G' := (jv_H K (jv_u I3 a 2 ((I3 a 2) + (1 : Int32))) L3 R)) rfl rfl (jv_m_putI ha.k rfl rfl rfl rfl) Kz) ?_
        refine jv_Wp.lift (fun _ Kz => jv_Ev.steps jv_i24 2 (pc' := 112) (l' := [(4, .ref a), (0, .ref 10), (1, .ref b), (2, .int (vl_I fr)), (3, .int (vl_I q))]) (st' := [.int (1 : Int32), .ref a]) rfl Kz) ?_
        refine jv_Wp.lift (fun _ Kz => jv_Ev.m jv_i24 (pc' := 115) (st' := []) (G' := (jv_H K (jv_u (jv_u I3 a 2 ((I3 a 2) + (1 : Int32))) a 4 (1 : Int32)) L3 R)) rfl rfl (jv_m_putI ha.k rfl rfl rfl (jv_fit_b (Or.inr rfl))) Kz) ?_
        refine jv_Wp.lift (fun _ Kz => jv_Ev.steps jv_i24 1 (pc' := 116) (l' := [(4, .ref a), (0, .ref 10), (1, .ref b), (2, .int (vl_I fr)), (3, .int (vl_I q))]) (st' := [.int (1 : Int32)]) rfl Kz) ?_
        refine jv_Wp.of (jv_Ev.ret jv_i24 rfl (jv_ret_b (Or.inr rfl))) ?_
        rw [hQ]
        have n2 : (vl_I ch < (2 : Int32)) ↔ ch < 2 := vl_I_lt (b := 2) (by omega) (by decide)
        have nq : (vl_I fr < vl_I q) ↔ fr < q := vl_I_lt (by omega) (by omega)
        have k2 := h1
        rw [kh2, n2] at k2
        have kq := h3
        rw [nq] at kq
        have ew : decide (q ≤ fr ∧ 2 ≤ ch) = false := decide_eq_false (by omega)
        have ec : c3 = true := vr_b_t h4
        have FU : ∀ x y, vc_fr (fun p => p = a) I3 L3 (jv_u (jv_u I3 a 2 x) a 4 y) L3 := fun x y p hp => ⟨fun f => (jv_u_o _ _ _ _ hp).trans (jv_u_o _ _ _ _ hp), fun _ => rfl⟩
        rw [ew]
        refine ⟨_, _, c3, by rw [ec]; rfl, E3, (vc_A_eq (fun n hn => vc_fr_T (FU _ _) (by omega)) rfl).trans T3, fun n hn => (vc_fr_ok (FU _ _) (by omega)).mpr (O3 n hn), fun _ => ⟨?_, jv_u_self _ _ _ _⟩, fun z => absurd (ec.symm.trans z) (by decide), ?_, vc_fr_trans F3 (vc_fr_mono (FU _ _) (fun p z => Or.inl (by rw [z]; exact ⟨Nat.le_refl _, by omega⟩)))⟩
        · refine (jv_u_j _ _ _ _ (by decide)).trans ((jv_u_self _ _ _ _).trans ?_); rw [G3, kh2]; exact vl_I_p1 ch
        · exact (jv_u_j _ _ _ _ (by decide)).trans ((jv_u_j _ _ _ _ (by decide)).trans (G3 3))
      · refine jv_Wp.lift (fun _ Kz => jv_Ev.steps jv_i24 1 (pc' := 97) (l' := [(4, .ref a), (0, .ref 10), (1, .ref b), (2, .int (vl_I fr)), (3, .int (vl_I q))]) (st' := [.int (0 : Int32)]) rfl Kz) ?_
        refine jv_Wp.of (jv_Ev.ret jv_i24 rfl (jv_ret_b (Or.inl rfl))) ?_
        rw [hQ]
        have n2 : (vl_I ch < (2 : Int32)) ↔ ch < 2 := vl_I_lt (b := 2) (by omega) (by decide)
        have nq : (vl_I fr < vl_I q) ↔ fr < q := vl_I_lt (by omega) (by omega)
        have k2 := h1
        rw [kh2, n2] at k2
        have kq := h3
        rw [nq] at kq
        have ew : decide (q ≤ fr ∧ 2 ≤ ch) = false := decide_eq_false (by omega)
        have ec : c3 = false := vr_b_f (Classical.not_not.mp h4)
        rw [ew]
        exact ⟨_, _, c3, by rw [ec]; rfl, E3, T3, O3, fun z => absurd (ec.symm.trans z) (by decide), fun _ => ⟨G3 2, G3 4⟩, G3 3, F3⟩
    · refine jv_Wp.lift (fun _ Kz => jv_Ev.steps jv_i24 3 (pc' := 87) (l' := [(4, .ref a), (0, .ref 10), (1, .ref b), (2, .int (vl_I fr)), (3, .int (vl_I q))]) (st' := [.ref 10, .int (1 : Int32), .ref b, .ref a]) rfl Kz) ?_
      refine jv_Wp.lift (fun _ Kz => jv_Ev.m jv_i24 (pc' := 90) (st' := [.ref 170, .int (1 : Int32), .ref b, .ref a]) (G' := (jv_H K I L R)) rfl rfl (jv_m_getR hC.k rfl rfl hC.rroom) Kz) ?_
      obtain ⟨I4, L4, c4, H4, E4, T4, O4, F4, G4⟩ := vc_smeet (I := I) (L := L) (R := R) (n := n) (sl := sl) true ha hb hC.k170 hd (by unfold vc_in; omega) (by unfold vc_in; omega) oa ob tA
      refine jv_Wp.lift (fun _ Kz => jv_Ev.c jv_i24 (pc' := 93) (S' := [.int (vr_b c4)]) (G1 := (jv_H K I4 L4 R)) jv_i113 [.ref a, .ref b, .int (1 : Int32), .ref 170] rfl rfl rfl rfl (jv_cal rfl (jv_H_at ha.k) rfl rfl) rfl H4 rfl rfl Kz) ?_
      refine jv_Wp.cnd jv_i24 (pt := 98) (pe := 96) (p := (¬ (vr_b c4) = 0)) (q := (¬ (vr_b c4) = 0)) rfl jv_bi_ne rfl rfl Iff.rfl (fun h5 => ?_) (fun h5 => ?_)
      · refine jv_Wp.lift (fun _ Kz => jv_Ev.steps jv_i24 2 (pc' := 101) (l' := [(4, .ref a), (0, .ref 10), (1, .ref b), (2, .int (vl_I fr)), (3, .int (vl_I q))]) (st' := [.ref a, .ref a]) rfl Kz) ?_
        refine jv_Wp.lift (fun _ Kz => jv_Ev.m jv_i24 (pc' := 104) (st' := [.int (I4 a 2), .ref a]) (G' := (jv_H K I4 L4 R)) rfl rfl (jv_m_getI ha.k rfl rfl rfl) Kz) ?_
        refine jv_Wp.lift (fun _ Kz => jv_Ev.steps jv_i24 2 (pc' := 106) (l' := [(4, .ref a), (0, .ref 10), (1, .ref b), (2, .int (vl_I fr)), (3, .int (vl_I q))]) (st' := [.int ((I4 a 2) + (1 : Int32)), .ref a]) rfl Kz) ?_
        refine jv_Wp.lift (fun _ Kz => jv_Ev.m jv_i24 (pc' := 109) (st' := []) (G' := (jv_H K (jv_u I4 a 2 ((I4 a 2) + (1 : Int32))) L4 R)) rfl rfl (jv_m_putI ha.k rfl rfl rfl rfl) Kz) ?_
        refine jv_Wp.lift (fun _ Kz => jv_Ev.steps jv_i24 2 (pc' := 112) (l' := [(4, .ref a), (0, .ref 10), (1, .ref b), (2, .int (vl_I fr)), (3, .int (vl_I q))]) (st' := [.int (1 : Int32), .ref a]) rfl Kz) ?_
        refine jv_Wp.lift (fun _ Kz => jv_Ev.m jv_i24 (pc' := 115) (st' := []) (G' := (jv_H K (jv_u (jv_u I4 a 2 ((I4 a 2) + (1 : Int32))) a 4 (1 : Int32)) L4 R)) rfl rfl (jv_m_putI ha.k rfl rfl rfl (jv_fit_b (Or.inr rfl))) Kz) ?_
        refine jv_Wp.lift (fun _ Kz => jv_Ev.steps jv_i24 1 (pc' := 116) (l' := [(4, .ref a), (0, .ref 10), (1, .ref b), (2, .int (vl_I fr)), (3, .int (vl_I q))]) (st' := [.int (1 : Int32)]) rfl Kz) ?_
        refine jv_Wp.of (jv_Ev.ret jv_i24 rfl (jv_ret_b (Or.inr rfl))) ?_
        rw [hQ]
        have n2 : (vl_I ch < (2 : Int32)) ↔ ch < 2 := vl_I_lt (b := 2) (by omega) (by decide)
        have nq : (vl_I fr < vl_I q) ↔ fr < q := vl_I_lt (by omega) (by omega)
        have k2 := h1
        rw [kh2, n2] at k2
        have kq := h3
        rw [nq] at kq
        have ew : decide (q ≤ fr ∧ 2 ≤ ch) = true := decide_eq_true (by omega)
        have ec : c4 = true := vr_b_t h5
        have FU : ∀ x y, vc_fr (fun p => p = a) I4 L4 (jv_u (jv_u I4 a 2 x) a 4 y) L4 := fun x y p hp => ⟨fun f => (jv_u_o _ _ _ _ hp).trans (jv_u_o _ _ _ _ hp), fun _ => rfl⟩
        rw [ew]
        refine ⟨_, _, c4, by rw [ec]; rfl, E4, (vc_A_eq (fun n hn => vc_fr_T (FU _ _) (by omega)) rfl).trans T4, fun n hn => (vc_fr_ok (FU _ _) (by omega)).mpr (O4 n hn), fun _ => ⟨?_, jv_u_self _ _ _ _⟩, fun z => absurd (ec.symm.trans z) (by decide), ?_, vc_fr_trans F4 (vc_fr_mono (FU _ _) (fun p z => Or.inl (by rw [z]; exact ⟨Nat.le_refl _, by omega⟩)))⟩
        · refine (jv_u_j _ _ _ _ (by decide)).trans ((jv_u_self _ _ _ _).trans ?_); rw [G4, kh2]; exact vl_I_p1 ch
        · exact (jv_u_j _ _ _ _ (by decide)).trans ((jv_u_j _ _ _ _ (by decide)).trans (G4 3))
      · refine jv_Wp.lift (fun _ Kz => jv_Ev.steps jv_i24 1 (pc' := 97) (l' := [(4, .ref a), (0, .ref 10), (1, .ref b), (2, .int (vl_I fr)), (3, .int (vl_I q))]) (st' := [.int (0 : Int32)]) rfl Kz) ?_
        refine jv_Wp.of (jv_Ev.ret jv_i24 rfl (jv_ret_b (Or.inl rfl))) ?_
        rw [hQ]
        have n2 : (vl_I ch < (2 : Int32)) ↔ ch < 2 := vl_I_lt (b := 2) (by omega) (by decide)
        have nq : (vl_I fr < vl_I q) ↔ fr < q := vl_I_lt (by omega) (by omega)
        have k2 := h1
        rw [kh2, n2] at k2
        have kq := h3
        rw [nq] at kq
        have ew : decide (q ≤ fr ∧ 2 ≤ ch) = true := decide_eq_true (by omega)
        have ec : c4 = false := vr_b_f (Classical.not_not.mp h5)
        rw [ew]
        exact ⟨_, _, c4, by rw [ec]; rfl, E4, T4, O4, fun z => absurd (ec.symm.trans z) (by decide), fun _ => ⟨G4 2, G4 4⟩, G4 3, F4⟩
theorem vc_arrN {K : Nat → Option (Nat × Nat)} {I : Nat → Nat → Int32} {L : Nat → Nat → Int64} {R : Nat → Nat → Value} {b : Nat} (f : Int32)  {n sl : Nat} : ∃ I1 L1, jv_Ms 24 [.ref 10, .ref b, .int f, .int (-1 : Int32)] (jv_H K I L R) n sl (some (.int 0), jv_H K I1 L1 R, n, sl) ∧ I1 = I ∧ L1 = L := by
  obtain ⟨Q, hQ⟩ : ∃ Q : jv_R → Prop, Q = fun X => ∃ I1 L1, X = (some (.int 0), jv_H K I1 L1 R, n, sl) ∧ I1 = I ∧ L1 = L := ⟨_, rfl⟩
  suffices h : jv_Wp 24 0 [(0, .ref 10), (1, .ref b), (2, .int f), (3, .int (-1 : Int32))] [] (jv_H K I L R) n sl Q by
    rw [hQ] at h
    obtain ⟨X, h, I1, L1, e, h'⟩ := h
    subst e
    exact ⟨I1, L1, h, h'⟩
  refine jv_Wp.lift (fun _ Kz => jv_Ev.steps jv_i24 1 (pc' := 1) (l' := [(0, .ref 10), (1, .ref b), (2, .int f), (3, .int (-1 : Int32))]) (st' := [.int (-1 : Int32)]) rfl Kz) ?_
  refine jv_Wp.lift (fun _ Kz => jv_Ev.br jv_i24 (pc' := 20) (st' := []) rfl (by rfl) Kz) ?_
  refine jv_Wp.lift (fun _ Kz => jv_Ev.steps jv_i24 1 (pc' := 21) (l' := [(0, .ref 10), (1, .ref b), (2, .int f), (3, .int (-1 : Int32))]) (st' := [.int (0 : Int32)]) rfl Kz) ?_
  refine jv_Wp.of (jv_Ev.ret jv_i24 rfl (jv_ret_b (Or.inl rfl))) ?_
  rw [hQ]
  exact ⟨_, _, rfl, rfl, rfl⟩
/-- a state goes to a place, as the passes have it -/
theorem vc_arrive {K : Nat → Option (Nat × Nat)} {I : Nat → Nat → Int32} {L : Nat → Nat → Int64} {R : Nat → Nat → Value} {S : Nat → Option Nat} {st : vz_F} {q fr a b : Nat} (hC : vc_C K R) (hCs : R 10 1 = .ref 11) (h : vc_ST K I L R S st) (hq : q < 1024) (hS : S q = some a) (hb : vc_St K R b) (hb170 : b ≤ 89) (ob : vc_okA I L b) (tb : vt_okA (vc_A I L b)) (hfr : fr < 2147483648) (hch : st.1.2 q < 2147483647) {n sl : Nat} : ∃ I1 L1, jv_Ms 24 [.ref 10, .ref b, .int (vl_I fr), .int (vl_I q)] (jv_H K I L R) n sl (some (.int (vr_b (vz_goF fr q (vc_A I L b) st).2)), jv_H K I1 L1 R, n, sl) ∧ vc_ST K I1 L1 R S (vz_goF fr q (vc_A I L b) st).1 ∧ vc_fr (fun p => vc_in a p ∨ p = 170) I L I1 L1 := by
  obtain ⟨r1, r2, r3, r4, r5, r6, r7⟩ := h.2.2.1 q a hq hS
  unfold vz_goF
  cases hc : st.1.1 q with
  | none =>
    rw [hc] at r5
    obtain ⟨I1, L1, H, e1, e2, e3, e4, e5, e6⟩ := vc_arrA (n := n) (sl := sl) (vl_I fr) hC hCs h.1 hq r1 r2 hb hb170 r3 r4 ob r5
    rw [vz_go_none hc]
    refine ⟨I1, L1, H, ?_, vc_fr_mono e6 (fun p z => Or.inl z)⟩
    refine vc_ST_up h hq hS (vc_fr_mono e6 (fun p z => Or.inl z)) e2 ?_ ?_ (fun A hA => ?_) (fun p hp => vz_u_ne _ _ hp) (fun p hp => vz_u_ne _ _ hp) (fun p hp => ?_)
    · show _ = vr_b (vz_u st.1.1 q (some (vc_A I L b)) q).isSome
      rw [vz_u_self]; exact e4
    · show _ = vr_b (vz_u st.2 q true q)
      rw [vz_u_self]; exact e5
    · have hA : vz_u st.1.1 q (some (vc_A I L b)) q = some A := hA
      rw [vz_u_self] at hA
      cases hA
      refine ⟨e1, ?_, tb⟩
      show _ = vl_I (vz_u st.1.2 q 0 q)
      rw [vz_u_self]; exact e3
    · exact vz_u_ne _ _ hp
  | some C =>
    rw [hc] at r5
    obtain ⟨c1, c2, c3⟩ := r7 C hc
    have tA : ∀ n, n < 75 → vt_ok (vc_T I L (a + 2 + n)) := fun n hn => by
      have q := c3 n hn
      rw [← c1, vc_A1 hn] at q; exact q
    obtain ⟨I1, L1, c, H, e0, e1, e2, e3, e4, e5, e6⟩ := vc_arrB (n := n) (sl := sl) hC hCs h.1 hq r1 r2 hb hb170 r3 r4 ob hfr hch c2 r5 tA
    rw [c1] at e0 e1
    have okm := vt_meetA_ok (w := decide (q ≤ fr ∧ 2 ≤ st.1.2 q)) c3 tb
    cases c with
    | true =>
      have ne := e0.mp rfl
      rw [vz_go_new hc ne]
      refine ⟨I1, L1, H, ?_, e6⟩
      refine vc_ST_up h hq hS e6 e2 ?_ ?_ (fun A hA => ?_) (fun p hp => vz_u_ne _ _ hp) (fun p hp => vz_u_ne _ _ hp) (fun p hp => vz_u_ne _ _ hp)
      · show _ = vr_b (vz_u st.1.1 q (some _) q).isSome
        rw [vz_u_self]; exact e5.trans r5
      · show _ = vr_b (vz_u st.2 q true q)
        rw [vz_u_self]; exact (e3 rfl).2
      · have hA : vz_u st.1.1 q (some (vt_meetA (decide (q ≤ fr ∧ 2 ≤ st.1.2 q)) C (vc_A I L b))) q = some A := hA
        rw [vz_u_self] at hA
        cases hA
        refine ⟨e1, ?_, okm⟩
        show _ = vl_I (vz_u st.1.2 q (st.1.2 q + 1) q)
        rw [vz_u_self]; exact (e3 rfl).1
    | false =>
      have eq : vt_meetA (decide (q ≤ fr ∧ 2 ≤ st.1.2 q)) C (vc_A I L b) = C := Classical.byContradiction (fun z => absurd (e0.mpr z) (by decide))
      rw [vz_go_same hc eq]
      refine ⟨I1, L1, H, ?_, e6⟩
      rw [eq] at e1
      refine vc_ST_up h hq hS e6 e2 ?_ ?_ (fun A hA => ?_) (fun p hp => rfl) (fun p hp => rfl) (fun p hp => rfl)
      · show _ = vr_b (st.1.1 q).isSome
        rw [hc]; exact e5.trans r5
      · exact ((e4 rfl).2).trans r6
      · have hA : st.1.1 q = some A := hA
        rw [hc] at hA; cases hA
        exact ⟨e1, ((e4 rfl).1).trans c2, c3⟩