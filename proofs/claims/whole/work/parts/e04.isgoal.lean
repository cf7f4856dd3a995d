/-! part e04: whether a place is one to go to (gen/te04.py) -/
theorem vi_J {g : Int} (h : -1099511627776 ≤ g ∧ g ≤ 1099511627776) : (Int64.ofInt g).toInt = g := by rw [Int64.toInt_ofInt]; exact vi_bm (by omega) (by omega)
theorem vi_I64 {q : Nat} (h : q < 2147483648) : ((vl_I q).toInt64).toInt = (q : Int) := (Int32.toInt_toInt64 _).trans (vl_I_int h)
theorem vi_gle {g : Int} {q : Nat} (h : -1099511627776 ≤ g ∧ g ≤ 1099511627776) (hq : q < 2147483648) : ((Int64.ofInt g) ≤ (vl_I q).toInt64) ↔ g ≤ q := by rw [Int64.le_iff_toInt_le, vi_J h, vi_I64 hq]
theorem vi_gge {g : Int} {q : Nat} (h : -1099511627776 ≤ g ∧ g ≤ 1099511627776) (hq : q < 2147483648) : ((vl_I q).toInt64 ≤ (Int64.ofInt g)) ↔ (q : Int) ≤ g := by rw [Int64.le_iff_toInt_le, vi_J h, vi_I64 hq]
theorem vi_geq {g : Int} {q : Nat} (h : -1099511627776 ≤ g ∧ g ≤ 1099511627776) (hq : q < 2147483648) : ((vl_I q).toInt64 = (Int64.ofInt g)) ↔ (q : Int) = g := by rw [← Int64.toInt_inj, vi_J h, vi_I64 hq]
theorem vi_gneg {g : Int} (h : -1099511627776 ≤ g ∧ g ≤ 1099511627776) : ((Int64.ofInt g) < (0 : Int64)) ↔ g < 0 := by rw [Int64.lt_iff_toInt_lt, vi_J h]; exact Iff.rfl
/-- whether an instruction begins at place g -/
abbrev vf_go (c : Nat → Nat) (N : Nat) (g : Int) : Prop := 0 ≤ g ∧ g < N ∧ vf_fs c g.toNat = true
theorem jv_i269 : jv_I 269 5 (some .boolean) 0 0 jv_c269 := ⟨rfl, rfl, rfl, rfl, rfl⟩
theorem vq_gl_turn {K : Nat → Option (Nat × Nat)} {I : Nat → Nat → Int32} {L : Nat → Nat → Int64} {R : Nat → Nat → Value} {B : Nat → Nat} {N T : Nat} {g : Int} (hW : jv_rW K R) (h : vr_tp I 197 T B) (hl : T ≤ 8192) (hle : 8 * N ≤ T) (hg : -1099511627776 ≤ g ∧ g ≤ 1099511627776) {q : Nat} (hq : q ≤ N) {n sl : Nat} {Q : jv_R → Prop}
    (contE : N ≤ q ∨ g ≤ q → jv_Wp 269 48 [(0, .ref 196), (1, .long (Int64.ofInt g)), (3, .int (vl_I N)), (4, .int (vl_I q))] [] (jv_H K I L R) n sl Q)
    (cont1 : q < N → q < g → B (8 * q) ≠ 24 → jv_Wp 269 3 [(0, .ref 196), (1, .long (Int64.ofInt g)), (3, .int (vl_I N)), (4, .int (vl_I (q + 1)))] [] (jv_H K I L R) n sl Q)
    (cont2 : q < N → q < g → B (8 * q) = 24 → jv_Wp 269 3 [(0, .ref 196), (1, .long (Int64.ofInt g)), (3, .int (vl_I N)), (4, .int (vl_I (q + 2)))] [] (jv_H K I L R) n sl Q) : jv_Wp 269 3 [(0, .ref 196), (1, .long (Int64.ofInt g)), (3, .int (vl_I N)), (4, .int (vl_I q))] [] (jv_H K I L R) n sl Q := by
  refine jv_Wp.lift (fun _ Kz => jv_Ev.steps jv_i269 2 (pc' := 6) (l' := [(0, .ref 196), (1, .long (Int64.ofInt g)), (3, .int (vl_I N)), (4, .int (vl_I q))]) (st' := [.int (vl_I N), .int (vl_I q)]) rfl Kz) ?_
  refine jv_Wp.cnd jv_i269 (pt := 48) (pe := 9) (p := ((vl_I N) ≤ (vl_I q))) (q := ((vl_I N) ≤ (vl_I q))) rfl jv_bc_ge rfl rfl Iff.rfl (fun h1 => ?_) (fun h1 => ?_)
  · have x1 : N ≤ q := (vl_I_le (a := N) (b := q) (by omega) (by omega)).mp h1
    exact contE (by omega)
  · refine jv_Wp.lift (fun _ Kz => jv_Ev.steps jv_i269 4 (pc' := 14) (l' := [(0, .ref 196), (1, .long (Int64.ofInt g)), (3, .int (vl_I N)), (4, .int (vl_I q))]) (st' := [.int (lg_cmp (vl_I q).toInt64 (Int64.ofInt g))]) rfl Kz) ?_
    refine jv_Wp.cnd jv_i269 (pt := 48) (pe := 17) (p := (0 ≤ (lg_cmp (vl_I q).toInt64 (Int64.ofInt g)))) (q := ((Int64.ofInt g) ≤ (vl_I q).toInt64)) rfl jv_bi_ge rfl rfl (lg_cmp_ge (vl_I q).toInt64 (Int64.ofInt g)) (fun h2 => ?_) (fun h2 => ?_)
    · have x1 : ¬ N ≤ q := fun z => h1 ((vl_I_le (a := N) (b := q) (by omega) (by omega)).mpr z)
      have x2 : g ≤ q := (vi_gle hg (q := q) (by omega)).mp h2
      exact contE (by omega)
    · refine jv_Wp.lift (fun _ Kz => jv_Ev.steps jv_i269 1 (pc' := 18) (l' := [(0, .ref 196), (1, .long (Int64.ofInt g)), (3, .int (vl_I N)), (4, .int (vl_I q))]) (st' := [.ref 196]) rfl Kz) ?_
      refine jv_Wp.lift (fun _ Kz => jv_Ev.m jv_i269 (pc' := 21) (st' := [.ref 197]) (G' := (jv_H K I L R)) rfl rfl (jv_m_getR (jv_rwK hW 196 12 24 (by decide)) rfl rfl (jv_rwR hW 196 1 197 (by decide))) Kz) ?_
      refine jv_Wp.lift (fun _ Kz => jv_Ev.steps jv_i269 3 (pc' := 26) (l' := [(0, .ref 196), (1, .long (Int64.ofInt g)), (3, .int (vl_I N)), (4, .int (vl_I q))]) (st' := [.int ((8 : Int32) * (vl_I q)), .ref 197]) rfl Kz) ?_
      have qN : q < N := Nat.lt_of_not_le (fun z => h1 ((vl_I_le (by omega) (by omega)).mpr z))
      refine jv_Wp.lift (fun _ Kz => jv_Ev.m jv_i269 (pc' := 27) (st' := [.int (I 197 (8 * q))]) (G' := (jv_H K I L R)) rfl rfl (jv_m_ialdv (jv_rwK hW 197 102 8192 (by decide)) rfl (by rw [show ((8 : Int32) * (vl_I q)) = vl_I (8 * q) from (vi_mul8 q)]; exact vl_I_ix (by omega) (by decide)) rfl ((congrArg (I 197) (by rw [show ((8 : Int32) * (vl_I q)) = vl_I (8 * q) from (vi_mul8 q)]; exact vl_I_nat (by omega))).trans rfl)) Kz) ?_
      refine jv_Wp.lift (fun _ Kz => jv_Ev.steps jv_i269 1 (pc' := 29) (l' := [(0, .ref 196), (1, .long (Int64.ofInt g)), (3, .int (vl_I N)), (4, .int (vl_I q))]) (st' := [.int (24 : Int32), .int (I 197 (8 * q))]) rfl Kz) ?_
      refine jv_Wp.cnd jv_i269 (pt := 39) (pe := 32) (p := (¬ (I 197 (8 * q)) = (24 : Int32))) (q := (¬ (I 197 (8 * q)) = (24 : Int32))) rfl jv_bc_ne rfl rfl Iff.rfl (fun h3 => ?_) (fun h3 => ?_)
      · refine jv_Wp.lift (fun _ Kz => jv_Ev.steps jv_i269 5 (pc' := 3) (l' := [(4, .int ((vl_I q) + (1 : Int32))), (0, .ref 196), (1, .long (Int64.ofInt g)), (3, .int (vl_I N))]) (st' := []) rfl Kz) ?_
        refine jv_Wp.loc (l := [(0, .ref 196), (1, .long (Int64.ofInt g)), (3, .int (vl_I N)), (4, .int ((vl_I q) + (1 : Int32)))]) ⟨List.forall_mem_cons.mpr ⟨.tail _ (.head _), List.forall_mem_cons.mpr ⟨.tail _ (.tail _ (.head _)), List.forall_mem_cons.mpr ⟨.tail _ (.tail _ (.tail _ (.head _))), List.forall_mem_cons.mpr ⟨.head _, fun _ h => absurd h List.not_mem_nil⟩⟩⟩⟩, by show List.Nodup [4, 0, 1, 3]; decide⟩ ?_
        have x1 : ¬ N ≤ q := fun z => h1 ((vl_I_le (a := N) (b := q) (by omega) (by omega)).mpr z)
        have x2 : ¬ g ≤ q := fun z => h2 ((vi_gle hg (q := q) (by omega)).mpr z)
        have x3 : ¬ B (8 * q) = 24 := fun z => h3 ((show (I 197 (8 * q)) = (24 : Int32) ↔ B (8 * q) = 24 by rw [(h (8 * q) (by omega)).1]; exact vl_I_inj (by have := (h (8 * q) (by omega)).2; omega) (by decide)).mpr z)
        rw [show vl_I q + (1 : Int32) = vl_I (q + 1) from vl_I_add q 1]
        exact cont1 (by omega) (by omega) x3
      · refine jv_Wp.lift (fun _ Kz => jv_Ev.steps jv_i269 6 (pc' := 3) (l' := [(4, .int ((vl_I q) + (2 : Int32))), (0, .ref 196), (1, .long (Int64.ofInt g)), (3, .int (vl_I N))]) (st' := []) rfl Kz) ?_
        refine jv_Wp.loc (l := [(0, .ref 196), (1, .long (Int64.ofInt g)), (3, .int (vl_I N)), (4, .int ((vl_I q) + (2 : Int32)))]) ⟨List.forall_mem_cons.mpr ⟨.tail _ (.head _), List.forall_mem_cons.mpr ⟨.tail _ (.tail _ (.head _)), List.forall_mem_cons.mpr ⟨.tail _ (.tail _ (.tail _ (.head _))), List.forall_mem_cons.mpr ⟨.head _, fun _ h => absurd h List.not_mem_nil⟩⟩⟩⟩, by show List.Nodup [4, 0, 1, 3]; decide⟩ ?_
        have x1 : ¬ N ≤ q := fun z => h1 ((vl_I_le (a := N) (b := q) (by omega) (by omega)).mpr z)
        have x2 : ¬ g ≤ q := fun z => h2 ((vi_gle hg (q := q) (by omega)).mpr z)
        have x3 : B (8 * q) = 24 := (show (I 197 (8 * q)) = (24 : Int32) ↔ B (8 * q) = 24 by rw [(h (8 * q) (by omega)).1]; exact vl_I_inj (by have := (h (8 * q) (by omega)).2; omega) (by decide)).mp (Classical.not_not.mp h3)
        rw [show vl_I q + (2 : Int32) = vl_I (q + 2) from vl_I_add q 2]
        exact cont2 (by omega) (by omega) x3
theorem vq_gl_end {K : Nat → Option (Nat × Nat)} {I : Nat → Nat → Int32} {L : Nat → Nat → Int64} {R : Nat → Nat → Value} {B : Nat → Nat} {N T : Nat} {g : Int} (hW : jv_rW K R) (h : vr_tp I 197 T B) (hl : T ≤ 8192) (hle : 8 * N ≤ T) (hg : -1099511627776 ≤ g ∧ g ≤ 1099511627776) {q : Nat} (hq : q ≤ N) {n sl : Nat} {Q : jv_R → Prop} (hQ : Q (some (.int (vr_b (decide (0 ≤ g ∧ g < N ∧ (q : Int) = g)))), jv_H K I L R, n, sl)) : jv_Wp 269 48 [(0, .ref 196), (1, .long (Int64.ofInt g)), (3, .int (vl_I N)), (4, .int (vl_I q))] [] (jv_H K I L R) n sl Q := by
  refine jv_Wp.lift (fun _ Kz => jv_Ev.steps jv_i269 3 (pc' := 51) (l' := [(0, .ref 196), (1, .long (Int64.ofInt g)), (3, .int (vl_I N)), (4, .int (vl_I q))]) (st' := [.int (lg_cmp (Int64.ofInt g) (0 : Int64))]) rfl Kz) ?_
  refine jv_Wp.cnd jv_i269 (pt := 73) (pe := 54) (p := ((lg_cmp (Int64.ofInt g) (0 : Int64)) < 0)) (q := ((Int64.ofInt g) < (0 : Int64))) rfl jv_bi_lt rfl rfl (lg_cmp_lt (Int64.ofInt g) (0 : Int64)) (fun h1 => ?_) (fun h1 => ?_)
  · refine jv_Wp.lift (fun _ Kz => jv_Ev.steps jv_i269 1 (pc' := 74) (l' := [(0, .ref 196), (1, .long (Int64.ofInt g)), (3, .int (vl_I N)), (4, .int (vl_I q))]) (st' := [.int (0 : Int32)]) rfl Kz) ?_
    refine jv_Wp.of (jv_Ev.ret jv_i269 rfl (jv_ret_b (Or.inl rfl))) ?_
    have x1 : g < 0 := (vi_gneg hg).mp h1
    have ev : decide (0 ≤ g ∧ g < N ∧ (q : Int) = g) = false := decide_eq_false (by omega)
    rw [ev] at hQ
    exact hQ
  · refine jv_Wp.lift (fun _ Kz => jv_Ev.steps jv_i269 4 (pc' := 58) (l' := [(0, .ref 196), (1, .long (Int64.ofInt g)), (3, .int (vl_I N)), (4, .int (vl_I q))]) (st' := [.int (lg_cmp (Int64.ofInt g) (vl_I N).toInt64)]) rfl Kz) ?_
    refine jv_Wp.cnd jv_i269 (pt := 73) (pe := 61) (p := (0 ≤ (lg_cmp (Int64.ofInt g) (vl_I N).toInt64))) (q := ((vl_I N).toInt64 ≤ (Int64.ofInt g))) rfl jv_bi_ge rfl rfl (lg_cmp_ge (Int64.ofInt g) (vl_I N).toInt64) (fun h2 => ?_) (fun h2 => ?_)
    · refine jv_Wp.lift (fun _ Kz => jv_Ev.steps jv_i269 1 (pc' := 74) (l' := [(0, .ref 196), (1, .long (Int64.ofInt g)), (3, .int (vl_I N)), (4, .int (vl_I q))]) (st' := [.int (0 : Int32)]) rfl Kz) ?_
      refine jv_Wp.of (jv_Ev.ret jv_i269 rfl (jv_ret_b (Or.inl rfl))) ?_
      have x1 : ¬ g < 0 := fun z => h1 ((vi_gneg hg).mpr z)
      have x2 : (N : Int) ≤ g := (vi_gge hg (q := N) (by omega)).mp h2
      have ev : decide (0 ≤ g ∧ g < N ∧ (q : Int) = g) = false := decide_eq_false (by omega)
      rw [ev] at hQ
      exact hQ
    · refine jv_Wp.lift (fun _ Kz => jv_Ev.steps jv_i269 4 (pc' := 66) (l' := [(0, .ref 196), (1, .long (Int64.ofInt g)), (3, .int (vl_I N)), (4, .int (vl_I q))]) (st' := [.int (lg_cmp (vl_I q).toInt64 (Int64.ofInt g))]) rfl Kz) ?_
      refine jv_Wp.cnd jv_i269 (pt := 73) (pe := 69) (p := (¬ (lg_cmp (vl_I q).toInt64 (Int64.ofInt g)) = 0)) (q := (¬ (vl_I q).toInt64 = (Int64.ofInt g))) rfl jv_bi_ne rfl rfl (not_congr (lg_cmp_eq (vl_I q).toInt64 (Int64.ofInt g))) (fun h3 => ?_) (fun h3 => ?_)
      · refine jv_Wp.lift (fun _ Kz => jv_Ev.steps jv_i269 1 (pc' := 74) (l' := [(0, .ref 196), (1, .long (Int64.ofInt g)), (3, .int (vl_I N)), (4, .int (vl_I q))]) (st' := [.int (0 : Int32)]) rfl Kz) ?_
        refine jv_Wp.of (jv_Ev.ret jv_i269 rfl (jv_ret_b (Or.inl rfl))) ?_
        have x1 : ¬ g < 0 := fun z => h1 ((vi_gneg hg).mpr z)
        have x2 : ¬ (N : Int) ≤ g := fun z => h2 ((vi_gge hg (q := N) (by omega)).mpr z)
        have x3 : ¬ (q : Int) = g := fun z => h3 ((vi_geq hg (q := q) (by omega)).mpr z)
        have ev : decide (0 ≤ g ∧ g < N ∧ (q : Int) = g) = false := decide_eq_false (by omega)
        rw [ev] at hQ
        exact hQ
      · refine jv_Wp.lift (fun _ Kz => jv_Ev.steps jv_i269 2 (pc' := 74) (l' := [(0, .ref 196), (1, .long (Int64.ofInt g)), (3, .int (vl_I N)), (4, .int (vl_I q))]) (st' := [.int (1 : Int32)]) rfl Kz) ?_
        refine jv_Wp.of (jv_Ev.ret jv_i269 rfl (jv_ret_b (Or.inr rfl))) ?_
        have x1 : ¬ g < 0 := fun z => h1 ((vi_gneg hg).mpr z)
        have x2 : ¬ (N : Int) ≤ g := fun z => h2 ((vi_gge hg (q := N) (by omega)).mpr z)
        have x3 : (q : Int) = g := (vi_geq hg (q := q) (by omega)).mp (Classical.not_not.mp h3)
        have ev : decide (0 ≤ g ∧ g < N ∧ (q : Int) = g) = true := decide_eq_true (by omega)
        rw [ev] at hQ
        exact hQ
theorem vq_gl_loop {K : Nat → Option (Nat × Nat)} {I : Nat → Nat → Int32} {L : Nat → Nat → Int64} {R : Nat → Nat → Value} {B : Nat → Nat} {N T : Nat} {g : Int} (hW : jv_rW K R) (h : vr_tp I 197 T B) (hl : T ≤ 8192) (hle : 8 * N ≤ T) (hg : -1099511627776 ≤ g ∧ g ≤ 1099511627776) (ok : ∀ q, q < N → vf_g1 B N q = true) {n sl : Nat} {Q : jv_R → Prop} (hQ : Q (some (.int (vr_b (decide (vf_go (vf_c B) N g)))), jv_H K I L R, n, sl)) :
    ∀ (k q : Nat), N ≤ q + k → q ≤ N → vf_fs (vf_c B) q = true → (vf_go (vf_c B) N g → (q : Int) ≤ g) → jv_Wp 269 3 [(0, .ref 196), (1, .long (Int64.ofInt g)), (3, .int (vl_I N)), (4, .int (vl_I q))] [] (jv_H K I L R) n sl Q := by
  have fin : ∀ q, q ≤ N → vf_fs (vf_c B) q = true → (vf_go (vf_c B) N g → (q : Int) ≤ g) → N ≤ q ∨ g ≤ q → jv_Wp 269 48 [(0, .ref 196), (1, .long (Int64.ofInt g)), (3, .int (vl_I N)), (4, .int (vl_I q))] [] (jv_H K I L R) n sl Q := fun q hq fs hi e => by
    refine vq_gl_end hW h hl hle hg hq ?_
    have ev : decide (0 ≤ g ∧ g < N ∧ (q : Int) = g) = decide (vf_go (vf_c B) N g) := decide_eq_decide.mpr ⟨fun z => ⟨z.1, z.2.1, by rw [← z.2.2]; exact fs⟩, fun z => ⟨z.1, z.2.1, by have := hi z; have := z.2.1; omega⟩⟩
    rw [ev]; exact hQ
  intro k
  induction k with
  | zero =>
    intro q hk hq fs hi
    exact vq_gl_turn hW h hl hle hg hq (fin q hq fs hi) (fun z => absurd z (by omega)) (fun z => absurd z (by omega))
  | succ k ih =>
    intro q hk hq fs hi
    refine vq_gl_turn hW h hl hle hg hq (fin q hq fs hi) (fun a b c => ?_) (fun a b c => ?_)
    · exact ih (q + 1) (by omega) (by omega) (vf_fs1 fs c) (fun _ => by omega)
    · have f2 := vf_fs2 fs c
      have P : vf_P B N q = true := by have := ok q a; unfold vf_g1 at this; rw [fs] at this; exact this
      exact ih (q + 2) (by omega) (by have := vf_P24 P c; omega) f2.2 (fun z => by
        have ne : g ≠ (q : Int) + 1 := fun y => by
          have z2 := z.2.2
          rw [y, show ((q : Int) + 1).toNat = q + 1 from by omega, f2.1] at z2
          exact absurd z2 (by decide)
        omega)
theorem vq_isGoal {K : Nat → Option (Nat × Nat)} {I : Nat → Nat → Int32} {L : Nat → Nat → Int64} {R : Nat → Nat → Value} {B : Nat → Nat} {N T : Nat} {g : Int} (hW : jv_rW K R) (h : vr_tp I 197 T B) (hl : T ≤ 8192) (hle : 8 * N ≤ T) (hg : -1099511627776 ≤ g ∧ g ≤ 1099511627776) (ok : ∀ q, q < N → vf_g1 B N q = true) {n sl : Nat} : jv_Ms 269 [.ref 196, .long (Int64.ofInt g), .int (vl_I N)] (jv_H K I L R) n sl (some (.int (vr_b (decide (vf_go (vf_c B) N g)))), jv_H K I L R, n, sl) := by
  obtain ⟨Q, hQ⟩ : ∃ Q : jv_R → Prop, Q = fun X => X = (some (.int (vr_b (decide (vf_go (vf_c B) N g)))), jv_H K I L R, n, sl) := ⟨_, rfl⟩
  suffices h : jv_Wp 269 0 [(0, .ref 196), (1, .long (Int64.ofInt g)), (3, .int (vl_I N))] [] (jv_H K I L R) n sl Q by
    rw [hQ] at h
    obtain ⟨X, h, e⟩ := h
    subst e
    exact h
  refine jv_Wp.lift (fun _ Kz => jv_Ev.steps jv_i269 2 (pc' := 3) (l' := [(4, .int (vl_I 0)), (0, .ref 196), (1, .long (Int64.ofInt g)), (3, .int (vl_I N))]) (st' := []) rfl Kz) ?_
  refine jv_Wp.loc (l := [(0, .ref 196), (1, .long (Int64.ofInt g)), (3, .int (vl_I N)), (4, .int (vl_I 0))]) ⟨List.forall_mem_cons.mpr ⟨.tail _ (.head _), List.forall_mem_cons.mpr ⟨.tail _ (.tail _ (.head _)), List.forall_mem_cons.mpr ⟨.tail _ (.tail _ (.tail _ (.head _))), List.forall_mem_cons.mpr ⟨.head _, fun _ h => absurd h List.not_mem_nil⟩⟩⟩⟩, by show List.Nodup [4, 0, 1, 3]; decide⟩ ?_
  exact vq_gl_loop hW h hl hle hg ok (by rw [hQ]) N 0 (by omega) (by omega) rfl (fun z => z.1)