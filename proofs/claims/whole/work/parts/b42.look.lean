/-! part b42: the checker looks at a program, from its entry on (gen/tb42.py) -/
/-- the passes' start, as the class has it -/
theorem vz_start_V {K : Nat → Option (Nat × Nat)} {I : Nat → Nat → Int32} {L : Nat → Nat → Int64} {R : Nat → Nat → Value} {sc : Nat} {sa : Nat → Nat} {N n : Nat} {fst : Nat → Bool} (hS : vc_SS K R sc sa n) (hsc : 0 < sc) (h0 : 0 < N) (hf : fst 0 = true) (oks : ∀ k, k < sc → vc_okA I L (sa k)) (z0 : vc_A I L (sa 0) = vt_start ∧ I (sa 0) 2 = 0 ∧ I (sa 0) 3 = 1 ∧ I (sa 0) 4 = 1) (zk : ∀ k, 0 < k → k < sc → I (sa k) 3 = 0 ∧ I (sa k) 4 = 0) : vc_V K R sc sa N fst 0 I L (vz_start, fun p => decide (p = 0)) := by
  obtain ⟨s1, s2, s3, s4, s5⟩ := hS
  refine ⟨⟨s1, fun p hp z => ?_, fun p a hp z => ?_, fun p q a b hp hq z z' hne => ?_⟩, vz_start_ok, fun p A h => ?_, fun p h => ?_, fun p => Nat.le_refl 0, fun p h => ?_⟩
  · have c : ¬ p < sc := fun c => by rw [vs_S_lt c] at z; cases z
    exact ⟨s3 p hp c, if_neg (by omega), decide_eq_false (by omega)⟩
  · obtain ⟨e1, e2⟩ := vs_S_some z
    subst e2
    obtain ⟨r1, r2, r3, r4⟩ := s4 p e1
    by_cases c : p = 0
    · subst c
      refine ⟨r1, r2, r3, oks 0 e1, z0.2.2.1, z0.2.2.2, fun A hA => ?_⟩
      have hA : (if (0 : Nat) = 0 then some vt_start else none) = some A := hA
      rw [if_pos rfl] at hA; cases hA
      exact ⟨z0.1, z0.2.1, vt_start_ok⟩
    · have e : (vz_start).1 p = none := if_neg c
      refine ⟨r1, r2, r3, oks p e1, ?_, ?_, fun A hA => ?_⟩
      · show I (sa p) 3 = vr_b ((vz_start).1 p).isSome
        rw [e]; exact (zk p (by omega) e1).1
      · show I (sa p) 4 = vr_b (decide (p = 0))
        rw [decide_eq_false c]; exact (zk p (by omega) e1).2
      · have hA : (vz_start).1 p = some A := hA
        rw [e] at hA; cases hA
  · obtain ⟨e1, e2⟩ := vs_S_some z
    obtain ⟨e3, e4⟩ := vs_S_some z'
    subst e2; subst e4
    exact s5 p q e1 e3 hne
  · have h : (if p = 0 then some vt_start else none) = some A := h
    by_cases c : p = 0
    · rw [if_pos c] at h; cases h; exact vt_start_g
    · rw [if_neg c] at h; cases h
  · by_cases c : p = 0
    · subst c; exact ⟨h0, hf⟩
    · have e : (vz_start).1 p = none := if_neg c
      rw [e] at h; cases h
  · have c : p = 0 := of_decide_eq_true h
    subst c; rfl
theorem vc_zero_okA {I : Nat → Nat → Int32} {L : Nat → Nat → Int64} {a : Nat} (h : ∀ q, vc_in a q → (∀ j, I q j = 0) ∧ ∀ j, L q j = 0) : vc_okA I L a := fun k hk => by
  have z := h (a + 2 + k) ⟨by omega, by omega⟩
  unfold vc_ok
  rw [z.1, z.1, z.1, z.2]
  exact Or.inl ⟨rfl, rfl, rfl⟩
/-- the checker looks at a program of good form: the passes' answer -/
theorem vc_look {K : Nat → Option (Nat × Nat)} {I : Nat → Nat → Int32} {L : Nat → Nat → Int64} {R : Nat → Nat → Value} {M : vf_M} {pr ws N : Nat} {W : Nat → Int64} {fst : Nat → Bool} {sc : Nat} {sa : Nat → Nat} {n sl : Nat} (hC : vc_C K R) (hCs : R 10 1 = .ref 11) (hS : vc_SS K R sc sa n) (h227 : 227 ≤ n) (hn : n + 77 * 1024 < 1000000) (cl : jx_clean n I L R) (o89 : vc_okA I L 89) (oks : ∀ k, k < sc → vc_okA I L (sa k)) (hM : vc_M K I R M) (hMR : ∀ k o : Nat, R 7 k = .ref o → 227 ≤ o ∧ o < n ∧ ∀ j, j < sc → ¬ vc_in (sa j) o) (hP : vc_P K L R pr ws N W) (hpr : pr < n ∧ 227 ≤ pr) (hws : 227 ≤ ws ∧ ws < n ∧ ∀ j, j < sc → ¬ vc_in (sa j) ws) (hform : vf_form (fun p => vc_F (W p)) N fst) (hct : K (1000000 + 0) = some (110, 16)) (hcv : ∀ j, j < 16 → I (1000000 + 0) j = vl_I (vx_cmp j)) (hst : K (1000000 + 1) = some (110, 12)) (hov : ∀ j, j < 12 → I (1000000 + 1) j = vl_I (vb_opp j)) (hM8 : ∀ k, 8 ≤ k → M k = none) : ∃ K1 I1 L1 R1 n1 sl1 sc1 sa1, jv_Ms 23 [.ref 10, .ref pr] (jv_H K I L R) n sl (some (.int (vl_I (vz_passesF (vx_D M (fun p => vc_F (W p))) N 256 (vz_start, fun p => decide (p = 0))).1.1)), jv_H K1 I1 L1 R1, n1, sl1) ∧ I1 10 11 = vl_I (vz_passesF (vx_D M (fun p => vc_F (W p))) N 256 (vz_start, fun p => decide (p = 0))).1.2 ∧ vc_SS K1 R1 sc1 sa1 n1 ∧ vc_fr (vc_ck sc1 sa1) I L I1 L1 ∧ vc_okA I1 L1 89 ∧ (∀ k, k < sc1 → vc_okA I1 L1 (sa1 k)) ∧ sc ≤ sc1 ∧ (∀ k, k < sc → sa1 k = sa k) ∧ (∀ k, sc ≤ k → k < sc1 → n ≤ sa1 k) ∧ n1 = n + 77 * (sc1 - sc) ∧ sl1 = sl + 830 * (sc1 - sc) ∧ jx_clean n1 I1 L1 R1 ∧ (∀ q, (q < n ∨ n1 ≤ q) → K1 q = K q) ∧ ∀ q i, (q < n ∨ n1 ≤ q) → q ≠ 11 → R1 q i = R q i := by
  obtain ⟨Q, hQ⟩ : ∃ Q : jv_R → Prop, Q = fun X => ∃ K1 I1 L1 R1 n1 sl1 sc1 sa1, X = (some (.int (vl_I (vz_passesF (vx_D M (fun p => vc_F (W p))) N 256 (vz_start, fun p => decide (p = 0))).1.1)), jv_H K1 I1 L1 R1, n1, sl1) ∧ I1 10 11 = vl_I (vz_passesF (vx_D M (fun p => vc_F (W p))) N 256 (vz_start, fun p => decide (p = 0))).1.2 ∧ vc_SS K1 R1 sc1 sa1 n1 ∧ vc_fr (vc_ck sc1 sa1) I L I1 L1 ∧ vc_okA I1 L1 89 ∧ (∀ k, k < sc1 → vc_okA I1 L1 (sa1 k)) ∧ sc ≤ sc1 ∧ (∀ k, k < sc → sa1 k = sa k) ∧ (∀ k, sc ≤ k → k < sc1 → n ≤ sa1 k) ∧ n1 = n + 77 * (sc1 - sc) ∧ sl1 = sl + 830 * (sc1 - sc) ∧ jx_clean n1 I1 L1 R1 ∧ (∀ q, (q < n ∨ n1 ≤ q) → K1 q = K q) ∧ ∀ q i, (q < n ∨ n1 ≤ q) → q ≠ 11 → R1 q i = R q i := ⟨_, rfl⟩
  suffices h : jv_Wp 23 0 [(0, .ref 10), (1, .ref pr)] [] (jv_H K I L R) n sl Q by
    rw [hQ] at h
    obtain ⟨X, h, K1, I1, L1, R1, n1, sl1, sc1, sa1, e, h'⟩ := h
    subst e
    exact ⟨K1, I1, L1, R1, n1, sl1, sc1, sa1, h, h'⟩
  have hN := hP.2.2.2.1
  have h0 := hform.1
  have hsc := hS.2.1
  refine jv_Wp.lift (fun _ Kz => jv_Ev.steps jv_i23 1 (pc' := 1) (l' := [(0, .ref 10), (1, .ref pr)]) (st' := [.ref pr]) rfl Kz) ?_
  refine jv_Wp.lift (fun _ Kz => jv_Ev.m jv_i23 (pc' := 4) (st' := [.ref ws]) (G' := (jv_H K I L R)) rfl rfl (jv_m_getR hP.1 rfl rfl hP.2.1) Kz) ?_
  refine jv_Wp.lift (fun _ Kz => jv_Ev.m jv_i23 (pc' := 5) (st' := [.int (Int32.ofNat N)]) (G' := (jv_H K I L R)) rfl rfl (jv_m_len hP.2.2.1 rfl) Kz) ?_
  refine jv_Wp.lift (fun _ Kz => jv_Ev.steps jv_i23 5 (pc' := 14) (l' := [(3, .int (0 : Int32)), (2, .int (if (1024 : Int32) < (Int32.ofNat N) then (1024 : Int32) else (Int32.ofNat N))), (0, .ref 10), (1, .ref pr)]) (st' := []) rfl Kz) ?_
  refine jv_Wp.loc (l := [(0, .ref 10), (1, .ref pr), (2, .int (if (1024 : Int32) < (Int32.ofNat N) then (1024 : Int32) else (Int32.ofNat N))), (3, .int (0 : Int32))]) ⟨List.forall_mem_cons.mpr ⟨.tail _ (.tail _ (.head _)), List.forall_mem_cons.mpr ⟨.tail _ (.tail _ (.tail _ (.head _))), List.forall_mem_cons.mpr ⟨.tail _ (.head _), List.forall_mem_cons.mpr ⟨.head _, fun _ h => absurd h List.not_mem_nil⟩⟩⟩⟩, by show List.Nodup [3, 2, 0, 1]; decide⟩ ?_
  have em : (if (1024 : Int32) < Int32.ofNat N then (1024 : Int32) else Int32.ofNat N) = vl_I N := if_neg (fun z => absurd ((vl_I_lt (a := 1024) (b := N) (by decide) (by omega)).mp z) (by omega))
  rw [em]
  rw [show (0 : Int32) = vl_I 0 from rfl]
  refine vc_look1 hC hCs hS sc 0 I (by omega) (fun I1 z1 z2 _ => ?_)
  have F1 : vc_fr (fun q => ∃ k, k < sc ∧ q = sa k) I L I1 L := fun q hq => ⟨fun f => z2 q f (fun z => hq z.1), fun _ => rfl⟩
  have cl1 : jx_clean n I1 L R := fun q h1 h2 => ⟨fun j => ((F1 q (fun ⟨k, hk, e⟩ => by have := (hS.2.2.2.1 k hk).2.2.2; omega)).1 j).trans ((cl q h1 h2).1 j), (cl q h1 h2).2⟩
  have ok1 : ∀ a, (∀ i, i < 75 → ∀ k, k < sc → a + 2 + i ≠ sa k) → vc_okA I L a → vc_okA I1 L a := fun a hne o i hi => (vc_fr_ok F1 (fun ⟨k, hk, e⟩ => hne i hi k hk e)).mpr (o i hi)
  have dj : ∀ j k i, j < sc → k < sc → i < 75 → sa j + 2 + i ≠ sa k := fun j k i hj hk hi => by
    by_cases c : j = k
    · subst c; omega
    · have := hS.2.2.2.2 j k hj hk c; omega
  refine vc_look2 hN N 0 K R sc sa n sl (by omega) hC hCs hS (Nat.zero_le _) h227 cl1 (by omega) (fun K1 R1 sc1 sa1 n1 sl1 y1 y2 y3 y4 y5 y6 y7 y8 y9 y10 y11 => ?_)
  have n1le : n1 ≤ 1000000 := by have := y1.2.1; omega
  have hC1 : vc_C K1 R1 := vc_C_ext (fun q hq => ⟨y8 q (by omega), fun h i => y9 q i (by omega) h⟩) hC
  have hCs1 : R1 10 1 = .ref 11 := (y9 10 1 (by omega) (by decide)).trans hCs
  have new : ∀ k, ¬ k < sc → k < sc1 → ∀ q, vc_in (sa1 k) q → (∀ j, I1 q j = 0) ∧ (∀ j, L q j = 0) := fun k h1 h2 q hq => by
    have g := y11 k (by omega) h2
    have g2 := (y1.2.2.2.1 k h2).2.2.2
    have c := cl1 q (by unfold vc_in at hq; omega) (by unfold vc_in at hq; omega)
    exact ⟨c.1, c.2.1⟩
  have oks1 : ∀ k, k < sc1 → vc_okA I1 L (sa1 k) := fun k hk => by
    by_cases c : k < sc
    · rw [y10 k c]; exact ok1 _ (fun i hi j hj => dj k j i c hj hi) (oks k c)
    · exact vc_zero_okA (new k c hk)
  have fl1 : ∀ k, k < sc1 → I1 (sa1 k) 3 = 0 ∧ I1 (sa1 k) 4 = 0 := fun k hk => by
    by_cases c : k < sc
    · rw [y10 k c]; exact z1 k (Nat.zero_le _) c
    · have z := (new k c hk (sa1 k) ⟨Nat.le_refl _, by omega⟩).1
      exact ⟨z 3, z 4⟩
  refine vc_oS hC1 hCs1 y1 (by omega) (oks1 0 (by omega)) (fl1 0 (by omega)).1 (fun I2 L2 a1 a2 a3 a4 a5 F2 o12 => ?_)
  have nd : ∀ k, 0 < k → k < sc1 → ∀ q, vc_in (sa1 k) q → ¬ (vc_in 12 q ∨ vc_in (sa1 0) q) := fun k h1 h2 q hq => by
    have d := y1.2.2.2.2 0 k (by omega) h2 (by omega)
    have g := (y1.2.2.2.1 k h2).2.2.1
    unfold vc_in at *; omega
  have oks2 : ∀ k, k < sc1 → vc_okA I2 L2 (sa1 k) := fun k hk => by
    by_cases c : k = 0
    · subst c; exact a2
    · exact vc_fr_okA F2 (nd k (by omega) hk) (oks1 k hk)
  have V := vz_start_V (fst := fst) y1 (by omega) h0 hform.2.1 oks2 ⟨a1, a3, a4, a5⟩ (fun k h1 h2 => by
    have f := (F2 (sa1 k) (nd k h1 h2 _ ⟨Nat.le_refl _, by omega⟩)).1
    rw [f, f]; exact fl1 k h2)
  have g0 := (y1.2.2.2.1 0 (by omega)).2.2.1
  have FI : vc_fr (vc_ck sc1 sa1) I L I2 L2 := vc_fr_trans (vc_fr_mono F1 (fun q ⟨k, hk, e⟩ => Or.inr (Or.inr (Or.inr (Or.inr ⟨k, by omega, by rw [y10 k hk, e]; exact ⟨Nat.le_refl _, by omega⟩⟩))))) (vc_fr_mono F2 (fun q z => z.imp id (fun z => Or.inr (Or.inr (Or.inr ⟨0, by omega, z⟩)))))
  have o892 : vc_okA I2 L2 89 := vc_fr_okA F2 (fun q z => by unfold vc_in at *; omega) (ok1 89 (fun i hi k hk => by have := (hS.2.2.2.1 k hk).2.2.1; omega) o89)
  have nck : ∀ q, 227 ≤ q → q < n → (∀ j, j < sc → ¬ vc_in (sa j) q) → ¬ vc_ck sc1 sa1 q := fun q h1 h2 h3 z => by
    rcases z with z | z | z | z | ⟨k, hk, z⟩
    · unfold vc_in at z; omega
    · unfold vc_in at z; omega
    · omega
    · omega
    · by_cases c : k < sc
      · rw [y10 k c] at z; exact h3 k c z
      · have := y11 k (by omega) hk; unfold vc_in at z; omega
  have R7 : ∀ k, R1 7 k = R 7 k := fun k => y9 7 k (by omega) (by decide)
  have hM1 : vc_M K1 I R1 M := by
    obtain ⟨m1, m2, Nm, cnt, m3, m4, m5, m6, m7, m8⟩ := hM
    refine ⟨(y8 2 (by omega)).trans m1, (y9 2 6 (by omega) (by decide)).trans m2, Nm, cnt, (y8 7 (by omega)).trans m3, m4, m5, m6, fun k hk => ?_, m8⟩
    obtain ⟨o, e, b1, b2, b3, b4, b5⟩ := m7 k hk
    obtain ⟨kd, len, b6, b7⟩ := b4
    exact ⟨o, e, (R7 k).trans b1, b2, b3, ⟨kd, len, (y8 o (Or.inl (hMR k o b1).2.1)).trans b6, b7⟩, b5⟩
  have hW : vc_Wd K1 R1 M pr ws N W fst sc1 sa1 n1 I L := by
    refine ⟨hC1, hCs1, y1, y2, n1le, hM1, fun k o h => ?_, ?_, nck ws hws.1 hws.2.1 hws.2.2, hform, (y8 _ (Or.inr (by omega))).trans hct, hcv, (y8 _ (Or.inr (by omega))).trans hst, hov, hM8⟩
    · have h : R 7 k = .ref o := (R7 k).symm.trans h
      have m := hMR k o h
      exact ⟨m.1, nck o m.1 m.2.1 m.2.2⟩
    · exact ⟨(y8 pr (Or.inl hpr.1)).trans hP.1, (y9 pr 0 (Or.inl hpr.1) (by omega)).trans hP.2.1, (y8 ws (Or.inl hws.2.1)).trans hP.2.2.1, hN, hP.2.2.2.2⟩
  refine vc_outer hW 256 0 I2 L2 _ 0 rfl (by omega) V FI o12 o892 (fun I3 L3 e F3 b1 b2 => ?_)
  rw [hQ]
  exact ⟨K1, I3, L3, R1, n1, sl1, sc1, sa1, rfl, e, y1, F3, b1, b2, y3, y10, y11, y4, y5, fun q h1 h2 => by
    have f := F3 q (fun z => by
      rcases z with z | z | z | z | ⟨k, hk, z⟩
      · unfold vc_in at z; omega
      · unfold vc_in at z; omega
      · omega
      · omega
      · have := (y1.2.2.2.1 k hk).2.2.2; unfold vc_in at z; omega)
    have c := cl q (by omega) h2
    exact ⟨fun j => (f.1 j).trans (c.1 j), fun j => (f.2 j).trans (c.2.1 j), (y7 q h1 h2).2.2⟩, y8, y9⟩