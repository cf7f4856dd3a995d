/-! part c16: more that the reference asks (gen/tc16.py) -/
def vr_nm (s : Int32) : Nat := if s = 0 then 1 else if s = 1 then 0 else 8
theorem jv_i299 : jv_I 299 2 (some .int) 0 0 jv_c299 := ⟨rfl, rfl, rfl, rfl, rfl⟩
theorem vq_then_ {K : Nat → Option (Nat × Nat)} {I : Nat → Nat → Int32} {L : Nat → Nat → Int64} {R : Nat → Nat → Value} (a b : Nat) (ha : a < 2147483648) (hb : b < 2147483648) {n sl : Nat} : ∃ I1 L1, jv_Ms 299 [.int (vl_I a), .int (vl_I b)] (jv_H K I L R) n sl (some (.int (vl_I (vx_then a b))), jv_H K I1 L1 R, n, sl) ∧ I1 = I ∧ L1 = L := by
  obtain ⟨Q, hQ⟩ : ∃ Q : jv_R → Prop, Q = fun X => ∃ I1 L1, X = (some (.int (vl_I (vx_then a b))), jv_H K I1 L1 R, n, sl) ∧ I1 = I ∧ L1 = L := ⟨_, rfl⟩
  suffices h : jv_Wp 299 0 [(0, .int (vl_I a)), (1, .int (vl_I b))] [] (jv_H K I L R) n sl Q by
    rw [hQ] at h
    obtain ⟨X, h, I1, L1, e, h'⟩ := h
    subst e
    exact ⟨I1, L1, h, h'⟩
  refine jv_Wp.lift (fun _ Kz => jv_Ev.steps jv_i299 1 (pc' := 1) (l' := [(0, .int (vl_I a)), (1, .int (vl_I b))]) (st' := [.int (vl_I a)]) rfl Kz) ?_
  refine jv_Wp.cnd jv_i299 (pt := 8) (pe := 4) (p := ((vl_I a) ≤ 0)) (q := ((vl_I a) ≤ 0)) rfl jv_bi_le rfl rfl Iff.rfl (fun h1 => ?_) (fun h1 => ?_)
  · refine jv_Wp.lift (fun _ Kz => jv_Ev.steps jv_i299 1 (pc' := 9) (l' := [(0, .int (vl_I a)), (1, .int (vl_I b))]) (st' := [.int (vl_I b)]) rfl Kz) ?_
    refine jv_Wp.of (jv_Ev.ret jv_i299 rfl rfl) ?_
    rw [hQ]
    have ev : (vl_I b) = (vl_I (vx_then a b)) := by unfold vx_then; rw [if_neg (fun z => z (Nat.le_zero.mp ((vl_I_le (b := 0) (by omega) (by decide)).mp h1)))]
    exact ⟨_, _, by rw [ev], rfl, rfl⟩
  · refine jv_Wp.lift (fun _ Kz => jv_Ev.steps jv_i299 2 (pc' := 9) (l' := [(0, .int (vl_I a)), (1, .int (vl_I b))]) (st' := [.int (vl_I a)]) rfl Kz) ?_
    refine jv_Wp.of (jv_Ev.ret jv_i299 rfl rfl) ?_
    rw [hQ]
    have ev : (vl_I a) = (vl_I (vx_then a b)) := by unfold vx_then; rw [if_pos (fun z => h1 ((vl_I_le (b := 0) (by omega) (by decide)).mpr (Nat.le_of_eq z)))]
    exact ⟨_, _, by rw [ev], rfl, rfl⟩
theorem vq_then {K : Nat → Option (Nat × Nat)} {I : Nat → Nat → Int32} {L : Nat → Nat → Int64} {R : Nat → Nat → Value} (a b : Nat) (ha : a < 2147483648) (hb : b < 2147483648) {n sl : Nat} : jv_Ms 299 [.int (vl_I a), .int (vl_I b)] (jv_H K I L R) n sl (some (.int (vl_I (vx_then a b))), jv_H K I L R, n, sl) := by
  obtain ⟨I1, L1, H, ei, el⟩ := vq_then_ (n := n) (sl := sl) a b ha hb
  rw [ei, el] at H
  exact H
theorem jv_i298 : jv_I 298 2 (some .int) 2 42 jv_c298 := ⟨rfl, rfl, rfl, rfl, rfl⟩
theorem vq_isNumber_ {K : Nat → Option (Nat × Nat)} {I : Nat → Nat → Int32} {L : Nat → Nat → Int64} {R : Nat → Nat → Value} (k : Nat) (hW : jv_rW K R) (hk : k < 75) {n sl : Nat} : ∃ I1 L1, jv_Ms 298 [.ref 196, .int (vl_I k)] (jv_H K I L R) n sl (some (.int (vl_I (vr_nm (I 205 (76800 + k))))), jv_H K I1 L1 R, n, sl) ∧ I1 = I ∧ L1 = L := by
  obtain ⟨Q, hQ⟩ : ∃ Q : jv_R → Prop, Q = fun X => ∃ I1 L1, X = (some (.int (vl_I (vr_nm (I 205 (76800 + k))))), jv_H K I1 L1 R, n, sl) ∧ I1 = I ∧ L1 = L := ⟨_, rfl⟩
  suffices h : jv_Wp 298 0 [(0, .ref 196), (1, .int (vl_I k))] [] (jv_H K I L R) n sl Q by
    rw [hQ] at h
    obtain ⟨X, h, I1, L1, e, h'⟩ := h
    subst e
    exact ⟨I1, L1, h, h'⟩
  refine jv_Wp.lift (fun _ Kz => jv_Ev.steps jv_i298 2 (pc' := 2) (l' := [(0, .ref 196), (1, .int (vl_I k))]) (st' := [.int (vl_I k), .ref 196]) rfl Kz) ?_
  refine jv_Wp.lift (fun _ Kz => jv_Ev.c jv_i298 (pc' := 5) (S' := [.int (I 205 (76800 + k))]) jv_i271 [.ref 196, .int (vl_I k)] rfl rfl rfl rfl (jv_cal rfl (jv_H_at (jv_rwK hW 196 12 24 (by decide))) rfl rfl) rfl (vq_sortOf k hW (by omega)) rfl rfl Kz) ?_
  refine jv_Wp.cnd jv_i298 (pt := 12) (pe := 8) (p := (¬ (I 205 (76800 + k)) = 0)) (q := (¬ (I 205 (76800 + k)) = 0)) rfl jv_bi_ne rfl rfl Iff.rfl (fun h1 => ?_) (fun h1 => ?_)
  · refine jv_Wp.lift (fun _ Kz => jv_Ev.steps jv_i298 2 (pc' := 14) (l' := [(0, .ref 196), (1, .int (vl_I k))]) (st' := [.int (vl_I k), .ref 196]) rfl Kz) ?_
    refine jv_Wp.lift (fun _ Kz => jv_Ev.c jv_i298 (pc' := 17) (S' := [.int (I 205 (76800 + k))]) jv_i271 [.ref 196, .int (vl_I k)] rfl rfl rfl rfl (jv_cal rfl (jv_H_at (jv_rwK hW 196 12 24 (by decide))) rfl rfl) rfl (vq_sortOf k hW (by omega)) rfl rfl Kz) ?_
    refine jv_Wp.lift (fun _ Kz => jv_Ev.steps jv_i298 1 (pc' := 18) (l' := [(0, .ref 196), (1, .int (vl_I k))]) (st' := [.int (1 : Int32), .int (I 205 (76800 + k))]) rfl Kz) ?_
    refine jv_Wp.cnd jv_i298 (pt := 25) (pe := 21) (p := (¬ (I 205 (76800 + k)) = (1 : Int32))) (q := (¬ (I 205 (76800 + k)) = (1 : Int32))) rfl jv_bc_ne rfl rfl Iff.rfl (fun h2 => ?_) (fun h2 => ?_)
    · refine jv_Wp.lift (fun _ Kz => jv_Ev.steps jv_i298 1 (pc' := 27) (l' := [(0, .ref 196), (1, .int (vl_I k))]) (st' := [.int (8 : Int32)]) rfl Kz) ?_
      refine jv_Wp.of (jv_Ev.ret jv_i298 rfl rfl) ?_
      rw [hQ]
      have ev : (8 : Int32) = (vl_I (vr_nm (I 205 (76800 + k)))) := by unfold vr_nm; rw [if_neg h1, if_neg h2]; rfl
      exact ⟨_, _, by rw [ev], rfl, rfl⟩
    · refine jv_Wp.lift (fun _ Kz => jv_Ev.steps jv_i298 2 (pc' := 27) (l' := [(0, .ref 196), (1, .int (vl_I k))]) (st' := [.int (0 : Int32)]) rfl Kz) ?_
      refine jv_Wp.of (jv_Ev.ret jv_i298 rfl rfl) ?_
      rw [hQ]
      have ev : (0 : Int32) = (vl_I (vr_nm (I 205 (76800 + k)))) := by unfold vr_nm; rw [if_neg h1, if_pos (Classical.not_not.mp h2)]; rfl
      exact ⟨_, _, by rw [ev], rfl, rfl⟩
  · refine jv_Wp.lift (fun _ Kz => jv_Ev.steps jv_i298 2 (pc' := 27) (l' := [(0, .ref 196), (1, .int (vl_I k))]) (st' := [.int (1 : Int32)]) rfl Kz) ?_
    refine jv_Wp.of (jv_Ev.ret jv_i298 rfl rfl) ?_
    rw [hQ]
    have ev : (1 : Int32) = (vl_I (vr_nm (I 205 (76800 + k)))) := by unfold vr_nm; rw [if_pos (Classical.not_not.mp h1)]; rfl
    exact ⟨_, _, by rw [ev], rfl, rfl⟩
theorem vq_isNumber {K : Nat → Option (Nat × Nat)} {I : Nat → Nat → Int32} {L : Nat → Nat → Int64} {R : Nat → Nat → Value} (k : Nat) (hW : jv_rW K R) (hk : k < 75) {n sl : Nat} : jv_Ms 298 [.ref 196, .int (vl_I k)] (jv_H K I L R) n sl (some (.int (vl_I (vr_nm (I 205 (76800 + k))))), jv_H K I L R, n, sl) := by
  obtain ⟨I1, L1, H, ei, el⟩ := vq_isNumber_ (n := n) (sl := sl) k hW hk
  rw [ei, el] at H
  exact H