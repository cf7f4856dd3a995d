/-! part b16: maps of the class, as the checker sees them (gen/tb16.py) -/
def vc_m (K : Nat → Option (Nat × Nat)) (I : Nat → Nat → Int32) (o : Nat) (e : Nat × Nat × Nat) : Prop := o < 1000000 ∧ (∃ kd len, K o = some (kd, len) ∧ 7 ≤ len ∧ (kd = 0 ∨ kd = 4 ∨ kd = 7)) ∧ I o 0 = vl_I e.1 ∧ I o 1 = vl_I e.2.1 ∧ I o 2 = vl_I e.2.2 ∧ e.1 < 3 ∧ e.2.1 ≤ 256 ∧ e.2.2 ≤ 256
/-- the store's maps -/
def vc_M (K : Nat → Option (Nat × Nat)) (I : Nat → Nat → Int32) (R : Nat → Nat → Value) (M : vf_M) : Prop := K 2 = some (6, 11) ∧ R 2 6 = .ref 7 ∧ ∃ N cnt, K 7 = some (106, N) ∧ I 2 7 = vl_I cnt ∧ cnt ≤ N ∧ N < 2147483648 ∧ (∀ k, k < cnt → ∃ o e, R 7 k = .ref o ∧ M k = some e ∧ vc_m K I o e) ∧ ∀ k, cnt ≤ k → M k = none
theorem vc_m_get {K : Nat → Option (Nat × Nat)} {I : Nat → Nat → Int32} {L : Nat → Nat → Int64} {R : Nat → Nat → Value} {o : Nat} {e : Nat × Nat × Nat} (h : vc_m K I o e) {q b : Nat} {r : List Value} {x : Int32} (hb : b = 0 ∨ b = 1 ∨ b = 2) (hx : I o b = x) : jv_mem (.getfield q) 0 b (.ref o :: r) (jv_H K I L R) = some (.int x :: r, jv_H K I L R) := by
  obtain ⟨kd, len, hK, hl, hd⟩ := h.2.1
  have hv : jv_vk kd b = 0 := by
    rcases hb with q | q | q <;> rw [q] <;> rcases hd with z | z | z <;> rw [z] <;> rfl
  refine jv_m_getI hK ?_ hv hx
  rw [show Nat.blt b len = true from Nat.ble_eq_true_of_le (by omega), Bool.and_true]
  rcases hd with z | z | z <;> rw [z] <;> rfl
theorem vi_lt_I {k : Int64} {c : Nat} (hc : c < 2147483648) : (k < (vl_I c).toInt64) ↔ k.toInt < (c : Int) := by
  rw [Int64.lt_iff_toInt_lt, Int32.toInt_toInt64]
  have e : (vl_I c).toInt = (c : Int) := vl_I_int hc
  rw [e]
theorem vi_lo {k : Int64} {c : Nat} (h0 : ¬ k < (0 : Int64)) (h1 : k < (vl_I c).toInt64) (hc : c < 2147483648) : k.toInt32 = vl_I k.toInt.toNat ∧ k.toInt.toNat < c := by
  have a : ¬ k.toInt < 0 := (not_congr Int64.lt_iff_toInt_lt).mp h0
  have b := (vi_lt_I hc).mp h1
  refine ⟨Int32.toInt_inj.mp ?_, by omega⟩
  have e : (vl_I k.toInt.toNat).toInt = (k.toInt.toNat : Int) := vl_I_int (by omega)
  rw [e, Int64.toInt_toInt32]
  exact (Int.bmod_eq_of_le (by omega) (by omega)).trans (by omega)
theorem jv_i126 : jv_I 126 3 (some (FieldType.object "ProgramBox$BoxMap")) 0 0 jv_c126 := ⟨rfl, rfl, rfl, rfl, rfl⟩
theorem vc_mapF {K : Nat → Option (Nat × Nat)} {I : Nat → Nat → Int32} {L : Nat → Nat → Int64} {R : Nat → Nat → Value} {N o : Nat} (k : Int64) (h2 : K 2 = some (6, 11)) (hr : R 2 6 = .ref 7) (h7 : K 7 = some (106, N)) (hc0 : ¬ k < (0 : Int64)) (hc1 : k < (I 2 7).toInt64) (hix : jv_ix k.toInt32 N) (hro : R 7 k.toInt32.toNatClampNeg = .ref o) {n sl : Nat} : ∃ I1 L1, jv_Ms 126 [.ref 2, .long k] (jv_H K I L R) n sl (some (.ref o), jv_H K I1 L1 R, n, sl) ∧ I1 = I ∧ L1 = L := by
  obtain ⟨Q, hQ⟩ : ∃ Q : jv_R → Prop, Q = fun X => ∃ I1 L1, X = (some (.ref o), jv_H K I1 L1 R, n, sl) ∧ I1 = I ∧ L1 = L := ⟨_, rfl⟩
  suffices h : jv_Wp 126 0 [(0, .ref 2), (1, .long k)] [] (jv_H K I L R) n sl Q by
    rw [hQ] at h
    obtain ⟨X, h, I1, L1, e, h'⟩ := h
    subst e
    exact ⟨I1, L1, h, h'⟩
  refine jv_Wp.lift (fun _ Kz => jv_Ev.steps jv_i126 3 (pc' := 3) (l' := [(0, .ref 2), (1, .long k)]) (st' := [.int (lg_cmp k (0 : Int64))]) rfl Kz) ?_
  refine jv_Wp.cnd jv_i126 (pt := 16) (pe := 6) (p := ((lg_cmp k (0 : Int64)) < 0)) (q := (k < (0 : Int64))) rfl jv_bi_lt rfl rfl (lg_cmp_lt k (0 : Int64)) (fun hz => absurd hz hc0) (fun _ => ?_)
  refine jv_Wp.lift (fun _ Kz => jv_Ev.steps jv_i126 2 (pc' := 8) (l' := [(0, .ref 2), (1, .long k)]) (st' := [.ref 2, .long k]) rfl Kz) ?_
  refine jv_Wp.lift (fun _ Kz => jv_Ev.m jv_i126 (pc' := 11) (st' := [.int (I 2 7), .long k]) (G' := (jv_H K I L R)) rfl rfl (jv_m_getI h2 rfl rfl rfl) Kz) ?_
  refine jv_Wp.lift (fun _ Kz => jv_Ev.steps jv_i126 2 (pc' := 13) (l' := [(0, .ref 2), (1, .long k)]) (st' := [.int (lg_cmp k (I 2 7).toInt64)]) rfl Kz) ?_
  refine jv_Wp.cnd jv_i126 (pt := 20) (pe := 16) (p := ((lg_cmp k (I 2 7).toInt64) < 0)) (q := (k < (I 2 7).toInt64)) rfl jv_bi_lt rfl rfl (lg_cmp_lt k (I 2 7).toInt64) (fun _ => ?_) (fun hz => absurd hc1 hz)
  refine jv_Wp.lift (fun _ Kz => jv_Ev.steps jv_i126 1 (pc' := 21) (l' := [(0, .ref 2), (1, .long k)]) (st' := [.ref 2]) rfl Kz) ?_
  refine jv_Wp.lift (fun _ Kz => jv_Ev.m jv_i126 (pc' := 24) (st' := [.ref 7]) (G' := (jv_H K I L R)) rfl rfl (jv_m_getR h2 rfl rfl hr) Kz) ?_
  refine jv_Wp.lift (fun _ Kz => jv_Ev.steps jv_i126 2 (pc' := 26) (l' := [(0, .ref 2), (1, .long k)]) (st' := [.int k.toInt32, .ref 7]) rfl Kz) ?_
  refine jv_Wp.lift (fun _ Kz => jv_Ev.m jv_i126 (pc' := 27) (st' := [.ref o]) (G' := (jv_H K I L R)) rfl rfl (jv_m_aaldR h7 rfl hix rfl hro) Kz) ?_
  refine jv_Wp.of (jv_Ev.ret jv_i126 rfl rfl) ?_
  rw [hQ]
  exact ⟨_, _, rfl, rfl, rfl⟩
theorem vc_mapL {K : Nat → Option (Nat × Nat)} {I : Nat → Nat → Int32} {L : Nat → Nat → Int64} {R : Nat → Nat → Value} (k : Int64) (h2 : K 2 = some (6, 11)) (hr : R 2 6 = .ref 7) (hc0 : k < (0 : Int64)) {n sl : Nat} : ∃ I1 L1, jv_Ms 126 [.ref 2, .long k] (jv_H K I L R) n sl (some .null, jv_H K I1 L1 R, n, sl) ∧ I1 = I ∧ L1 = L := by
  obtain ⟨Q, hQ⟩ : ∃ Q : jv_R → Prop, Q = fun X => ∃ I1 L1, X = (some .null, jv_H K I1 L1 R, n, sl) ∧ I1 = I ∧ L1 = L := ⟨_, rfl⟩
  suffices h : jv_Wp 126 0 [(0, .ref 2), (1, .long k)] [] (jv_H K I L R) n sl Q by
    rw [hQ] at h
    obtain ⟨X, h, I1, L1, e, h'⟩ := h
    subst e
    exact ⟨I1, L1, h, h'⟩
  refine jv_Wp.lift (fun _ Kz => jv_Ev.steps jv_i126 3 (pc' := 3) (l' := [(0, .ref 2), (1, .long k)]) (st' := [.int (lg_cmp k (0 : Int64))]) rfl Kz) ?_
  refine jv_Wp.cnd jv_i126 (pt := 16) (pe := 6) (p := ((lg_cmp k (0 : Int64)) < 0)) (q := (k < (0 : Int64))) rfl jv_bi_lt rfl rfl (lg_cmp_lt k (0 : Int64)) (fun _ => ?_) (fun hz => absurd hc0 hz)
  refine jv_Wp.lift (fun _ Kz => jv_Ev.steps jv_i126 2 (pc' := 27) (l' := [(0, .ref 2), (1, .long k)]) (st' := [.null]) rfl Kz) ?_
  refine jv_Wp.of (jv_Ev.ret jv_i126 rfl rfl) ?_
  rw [hQ]
  exact ⟨_, _, rfl, rfl, rfl⟩
theorem vc_mapG {K : Nat → Option (Nat × Nat)} {I : Nat → Nat → Int32} {L : Nat → Nat → Int64} {R : Nat → Nat → Value} (k : Int64) (h2 : K 2 = some (6, 11)) (hr : R 2 6 = .ref 7) (hc0 : ¬ k < (0 : Int64)) (hc1 : ¬ k < (I 2 7).toInt64) {n sl : Nat} : ∃ I1 L1, jv_Ms 126 [.ref 2, .long k] (jv_H K I L R) n sl (some .null, jv_H K I1 L1 R, n, sl) ∧ I1 = I ∧ L1 = L := by
  obtain ⟨Q, hQ⟩ : ∃ Q : jv_R → Prop, Q = fun X => ∃ I1 L1, X = (some .null, jv_H K I1 L1 R, n, sl) ∧ I1 = I ∧ L1 = L := ⟨_, rfl⟩
  suffices h : jv_Wp 126 0 [(0, .ref 2), (1, .long k)] [] (jv_H K I L R) n sl Q by
    rw [hQ] at h
    obtain ⟨X, h, I1, L1, e, h'⟩ := h
    subst e
    exact ⟨I1, L1, h, h'⟩
  refine jv_Wp.lift (fun _ Kz => jv_Ev.steps jv_i126 3 (pc' := 3) (l' := [(0, .ref 2), (1, .long k)]) (st' := [.int (lg_cmp k (0 : Int64))]) rfl Kz) ?_
  refine jv_Wp.cnd jv_i126 (pt := 16) (pe := 6) (p := ((lg_cmp k (0 : Int64)) < 0)) (q := (k < (0 : Int64))) rfl jv_bi_lt rfl rfl (lg_cmp_lt k (0 : Int64)) (fun hz => absurd hz hc0) (fun _ => ?_)
  refine jv_Wp.lift (fun _ Kz => jv_Ev.steps jv_i126 2 (pc' := 8) (l' := [(0, .ref 2), (1, .long k)]) (st' := [.ref 2, .long k]) rfl Kz) ?_
  refine jv_Wp.lift (fun _ Kz => jv_Ev.m jv_i126 (pc' := 11) (st' := [.int (I 2 7), .long k]) (G' := (jv_H K I L R)) rfl rfl (jv_m_getI h2 rfl rfl rfl) Kz) ?_
  refine jv_Wp.lift (fun _ Kz => jv_Ev.steps jv_i126 2 (pc' := 13) (l' := [(0, .ref 2), (1, .long k)]) (st' := [.int (lg_cmp k (I 2 7).toInt64)]) rfl Kz) ?_
  refine jv_Wp.cnd jv_i126 (pt := 20) (pe := 16) (p := ((lg_cmp k (I 2 7).toInt64) < 0)) (q := (k < (I 2 7).toInt64)) rfl jv_bi_lt rfl rfl (lg_cmp_lt k (I 2 7).toInt64) (fun hz => absurd hz hc1) (fun _ => ?_)
  refine jv_Wp.lift (fun _ Kz => jv_Ev.steps jv_i126 2 (pc' := 27) (l' := [(0, .ref 2), (1, .long k)]) (st' := [.null]) rfl Kz) ?_
  refine jv_Wp.of (jv_Ev.ret jv_i126 rfl rfl) ?_
  rw [hQ]
  exact ⟨_, _, rfl, rfl, rfl⟩
/-- map number k, or none -/
theorem vc_map {K : Nat → Option (Nat × Nat)} {I : Nat → Nat → Int32} {L : Nat → Nat → Int64} {R : Nat → Nat → Value} {M : vf_M} (hM : vc_M K I R M) (k : Int64) {n sl : Nat} : (∃ o e, jv_Ms 126 [.ref 2, .long k] (jv_H K I L R) n sl (some (.ref o), jv_H K I L R, n, sl) ∧ 0 ≤ k.toInt ∧ M k.toInt.toNat = some e ∧ vc_m K I o e) ∨ (jv_Ms 126 [.ref 2, .long k] (jv_H K I L R) n sl (some .null, jv_H K I L R, n, sl) ∧ (k.toInt < 0 ∨ M k.toInt.toNat = none)) := by
  obtain ⟨h2, hr, N, cnt, h7, hc, hN, hB, hy, hno⟩ := hM
  by_cases c0 : k < (0 : Int64)
  · obtain ⟨I1, L1, H, e1, e2⟩ := vc_mapL (I := I) (L := L) (R := R) (n := n) (sl := sl) k h2 hr c0
    rw [e1, e2] at H
    exact Or.inr ⟨H, Or.inl (Int64.lt_iff_toInt_lt.mp c0)⟩
  by_cases c1 : k < (I 2 7).toInt64
  · have d := c1
    rw [hc] at d
    have q := vi_lo c0 d (by omega)
    obtain ⟨o, e, ro, me, hm⟩ := hy _ q.2
    obtain ⟨I1, L1, H, e1, e2⟩ := vc_mapF (I := I) (L := L) (R := R) (n := n) (sl := sl) (o := o) k h2 hr h7 c0 c1 (by rw [q.1]; exact vl_I_ix (by omega) hB) (by rw [q.1, vl_I_nat (by omega)]; exact ro)
    rw [e1, e2] at H
    exact Or.inl ⟨o, e, H, Int.not_lt.mp ((not_congr Int64.lt_iff_toInt_lt).mp c0), me, hm⟩
  · obtain ⟨I1, L1, H, e1, e2⟩ := vc_mapG (I := I) (L := L) (R := R) (n := n) (sl := sl) k h2 hr c0 c1
    rw [e1, e2] at H
    rw [hc] at c1
    have a : ¬ k.toInt < 0 := (not_congr Int64.lt_iff_toInt_lt).mp c0
    have b := (not_congr (vi_lt_I (k := k) (by omega : cnt < 2147483648))).mp c1
    exact Or.inr ⟨H, Or.inr (hno _ (by omega))⟩