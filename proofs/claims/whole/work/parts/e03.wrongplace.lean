/-! part e03: the places of a program, one after another, as the reference goes over them (gen/te03.py) -/
abbrev vr_E19 : Nat → Nat → Prop := fun q g => q = 196 ∧ 19 ≤ g
/-- whether place p is the first one of an instruction, by the codes of the places before it -/
def vf_fs (c : Nat → Nat) : Nat → Bool
  | 0 => true
  | p + 1 => !(vf_fs c p && decide (c p = 24))
/-- the first place from p on, among k, that isn't as it ought to be -/
def vf_fi (g : Nat → Bool) : Nat → Nat → Nat
  | 0, p => p
  | k + 1, p => if g p = true then vf_fi g k (p + 1) else p
theorem vf_fi_at {g : Nat → Bool} : ∀ (k p m : Nat), p ≤ m → m ≤ p + k → (∀ q, p ≤ q → q < m → g q = true) → (m = p + k ∨ g m = false) → vf_fi g k p = m
  | 0, p, m, h1, h2, _, _ => (Nat.le_antisymm h1 h2)
  | k + 1, p, m, h1, h2, h3, h4 => by
    show (if g p = true then vf_fi g k (p + 1) else p) = m
    by_cases e : p = m
    · subst e
      have z : g p = false := h4.elim (fun z => absurd z (by omega)) id
      rw [if_neg (by rw [z]; decide)]
    · rw [if_pos (h3 p (Nat.le_refl p) (by omega))]
      exact vf_fi_at k (p + 1) m (by omega) (by omega) (fun q a b => h3 q (by omega) b) (h4.imp (fun z => by omega) id)
abbrev vf_c (B : Nat → Nat) : Nat → Nat := fun q => B (8 * q)
abbrev vf_P (B : Nat → Nat) (N p : Nat) : Bool := vf_bI (vr_F B p) (p + 1) N (vr_n4 B (8 * p + 8)) (vr_n4 B (8 * p + 12))
def vf_g1 (B : Nat → Nat) (N p : Nat) : Bool := !vf_fs (vf_c B) p || vf_P B N p
theorem vf_fs1 {B : Nat → Nat} {p : Nat} (h : vf_fs (vf_c B) p = true) (hc : (vr_F B p).code ≠ 24) : vf_fs (vf_c B) (p + 1) = true := by
  show (!(vf_fs (vf_c B) p && decide (B (8 * p) = 24))) = true
  rw [show decide (B (8 * p) = 24) = false from decide_eq_false hc, Bool.and_false]; rfl
theorem vf_fs2 {B : Nat → Nat} {p : Nat} (h : vf_fs (vf_c B) p = true) (hc : (vr_F B p).code = 24) : vf_fs (vf_c B) (p + 1) = false ∧ vf_fs (vf_c B) (p + 2) = true := by
  have e : vf_fs (vf_c B) (p + 1) = false := by
    show (!(vf_fs (vf_c B) p && decide (B (8 * p) = 24))) = false
    rw [show decide (B (8 * p) = 24) = true from decide_eq_true hc, h]; rfl
  refine ⟨e, ?_⟩
  show (!(vf_fs (vf_c B) (p + 1) && _)) = true
  rw [e]; rfl
theorem vf_P24 {B : Nat → Nat} {N p : Nat} (h : vf_P B N p = true) (hc : (vr_F B p).code = 24) : p + 1 < N := by
  have k : (vr_F B p).kind = 0 := by show (vr_F B p).code % 8 = 0; omega
  exact (of_decide_eq_true ((vf_bI_0 k).symm.trans h)).2.2.2.2.1
theorem jv_i268 : jv_I 268 3 (some .int) 4 87 jv_c268 := ⟨rfl, rfl, rfl, rfl, rfl⟩
theorem vq_wp_turn {K : Nat → Option (Nat × Nat)} {I : Nat → Nat → Int32} {L : Nat → Nat → Int64} {R : Nat → Nat → Value} {B : Nat → Nat} {N T p : Nat} (hW : jv_rW K R) (hf : vr_fl I) (h : vr_tp I 197 T B) (hl : T ≤ 8192) (hle : 8 * N ≤ T) (hp : p ≤ N) {n sl : Nat} {Q : jv_R → Prop}
    (contE : N ≤ p → jv_Wp 268 42 [(0, .ref 196), (1, .int (vl_I N)), (2, .int (vl_I p))] [] (jv_H K I L R) n sl Q)
    (contB : p < N → vf_P B N p = false → ∀ I1 L1, vr_fr noP vr_E19 I L I1 L1 → Q (some (.int (vl_I p)), jv_H K I1 L1 R, n, sl))
    (contG : p < N → vf_P B N p = true → (vr_F B p).code ≠ 24 → ∀ I1 L1, vr_fr noP vr_E19 I L I1 L1 → jv_Wp 268 2 [(0, .ref 196), (1, .int (vl_I N)), (2, .int (vl_I (p + 1)))] [] (jv_H K I1 L1 R) n sl Q)
    (contW : p < N → vf_P B N p = true → (vr_F B p).code = 24 → ∀ I1 L1, vr_fr noP vr_E19 I L I1 L1 → jv_Wp 268 2 [(0, .ref 196), (1, .int (vl_I N)), (2, .int (vl_I (p + 2)))] [] (jv_H K I1 L1 R) n sl Q) : jv_Wp 268 2 [(0, .ref 196), (1, .int (vl_I N)), (2, .int (vl_I p))] [] (jv_H K I L R) n sl Q := by
  refine jv_Wp.lift (fun _ Kz => jv_Ev.steps jv_i268 2 (pc' := 4) (l' := [(0, .ref 196), (1, .int (vl_I N)), (2, .int (vl_I p))]) (st' := [.int (vl_I N), .int (vl_I p)]) rfl Kz) ?_
  refine jv_Wp.cnd jv_i268 (pt := 42) (pe := 7) (p := ((vl_I N) ≤ (vl_I p))) (q := ((vl_I N) ≤ (vl_I p))) rfl jv_bc_ge rfl rfl Iff.rfl (fun h1 => ?_) (fun h1 => ?_)
  · exact contE ((vl_I_le (by omega) (by omega)).mp h1)
  · refine jv_Wp.lift (fun _ Kz => jv_Ev.steps jv_i268 2 (pc' := 9) (l' := [(0, .ref 196), (1, .int (vl_I N)), (2, .int (vl_I p))]) (st' := [.ref 196, .ref 196]) rfl Kz) ?_
    refine jv_Wp.lift (fun _ Kz => jv_Ev.m jv_i268 (pc' := 12) (st' := [.ref 197, .ref 196]) (G' := (jv_H K I L R)) rfl rfl (jv_m_getR (jv_rwK hW 196 12 24 (by decide)) rfl rfl (jv_rwR hW 196 1 197 (by decide))) Kz) ?_
    refine jv_Wp.lift (fun _ Kz => jv_Ev.steps jv_i268 2 (pc' := 14) (l' := [(0, .ref 196), (1, .int (vl_I N)), (2, .int (vl_I p))]) (st' := [.int (vl_I N), .int (vl_I p), .ref 197, .ref 196]) rfl Kz) ?_
    have pN := Nat.lt_of_not_le (fun z => h1 ((vl_I_le (by omega) (by omega)).mpr z))
    obtain ⟨I1, L1, H1, D1, F1⟩ := vq_isInstruction (I := I) (L := L) (R := R) (n := n) (sl := sl) (vr_F B p) p N T B hW hf h hl pN hle rfl
    refine jv_Wp.lift (fun _ Kz => jv_Ev.c jv_i268 (pc' := 17) (S' := [.int (vr_b (vf_P B N p))]) (G1 := (jv_H K I1 L1 R)) jv_i267 [.ref 196, .ref 197, .int (vl_I p), .int (vl_I N)] rfl rfl rfl rfl (jv_cal rfl (jv_H_at (jv_rwK hW 196 12 24 (by decide))) rfl rfl) rfl H1 rfl rfl Kz) ?_
    refine jv_Wp.cnd jv_i268 (pt := 22) (pe := 20) (p := (¬ (vr_b (vf_P B N p)) = 0)) (q := (¬ (vr_b (vf_P B N p)) = 0)) rfl jv_bi_ne rfl rfl Iff.rfl (fun h2 => ?_) (fun h2 => ?_)
    · refine jv_Wp.lift (fun _ Kz => jv_Ev.steps jv_i268 1 (pc' := 23) (l' := [(0, .ref 196), (1, .int (vl_I N)), (2, .int (vl_I p))]) (st' := [.ref 196]) rfl Kz) ?_
      refine jv_Wp.lift (fun _ Kz => jv_Ev.c jv_i268 (pc' := 26) (S' := [.int (vr_b (decide ((vr_F B p).code = 24)))]) jv_i262 [.ref 196] rfl rfl rfl rfl (jv_cal rfl (jv_H_at (jv_rwK hW 196 12 24 (by decide))) rfl rfl) rfl (vq_isWide (vr_F B p) hW D1) rfl rfl Kz) ?_
      refine jv_Wp.cnd jv_i268 (pt := 35) (pe := 29) (p := ((vr_b (decide ((vr_F B p).code = 24))) = 0)) (q := ((vr_b (decide ((vr_F B p).code = 24))) = 0)) rfl jv_bi_eq rfl rfl Iff.rfl (fun h3 => ?_) (fun h3 => ?_)
      · refine jv_Wp.lift (fun _ Kz => jv_Ev.steps jv_i268 5 (pc' := 2) (l' := [(2, .int ((vl_I p) + (1 : Int32))), (0, .ref 196), (1, .int (vl_I N))]) (st' := []) rfl Kz) ?_
        refine jv_Wp.loc (l := [(0, .ref 196), (1, .int (vl_I N)), (2, .int ((vl_I p) + (1 : Int32)))]) ⟨List.forall_mem_cons.mpr ⟨.tail _ (.head _), List.forall_mem_cons.mpr ⟨.tail _ (.tail _ (.head _)), List.forall_mem_cons.mpr ⟨.head _, fun _ h => absurd h List.not_mem_nil⟩⟩⟩, by show List.Nodup [2, 0, 1]; decide⟩ ?_
        rw [show vl_I p + (1 : Int32) = vl_I (p + 1) from vl_I_add p 1]
        exact contG pN (vr_b_t h2) (of_decide_eq_false (vr_b_f h3)) I1 L1 F1
      · refine jv_Wp.lift (fun _ Kz => jv_Ev.steps jv_i268 6 (pc' := 2) (l' := [(2, .int ((vl_I p) + (2 : Int32))), (0, .ref 196), (1, .int (vl_I N))]) (st' := []) rfl Kz) ?_
        refine jv_Wp.loc (l := [(0, .ref 196), (1, .int (vl_I N)), (2, .int ((vl_I p) + (2 : Int32)))]) ⟨List.forall_mem_cons.mpr ⟨.tail _ (.head _), List.forall_mem_cons.mpr ⟨.tail _ (.tail _ (.head _)), List.forall_mem_cons.mpr ⟨.head _, fun _ h => absurd h List.not_mem_nil⟩⟩⟩, by show List.Nodup [2, 0, 1]; decide⟩ ?_
        rw [show vl_I p + (2 : Int32) = vl_I (p + 2) from vl_I_add p 2]
        exact contW pN (vr_b_t h2) (of_decide_eq_true (vr_b_t h3)) I1 L1 F1
    · refine jv_Wp.lift (fun _ Kz => jv_Ev.steps jv_i268 1 (pc' := 21) (l' := [(0, .ref 196), (1, .int (vl_I N)), (2, .int (vl_I p))]) (st' := [.int (vl_I p)]) rfl Kz) ?_
      refine jv_Wp.of (jv_Ev.ret jv_i268 rfl rfl) ?_
      exact contB pN (vr_b_f (Classical.not_not.mp h2)) I1 L1 F1
theorem vl_I_i {a : Nat} (h : a < 2147483648) : (vl_I a).toInt = (a : Int) := vl_I_int h
theorem vi_div8 {T : Nat} (h : T ≤ 8192) : (vl_I T) / (8 : Int32) = vl_I (T / 8) := by
  refine Int32.toInt_inj.mp ?_
  rw [Int32.toInt_div, vl_I_i (by omega), vl_I_i (by omega), show (8 : Int32).toInt = 8 from rfl, Int.tdiv_eq_ediv_of_nonneg (by omega), Int.bmod_def]
  split <;> omega
theorem vi_rem8 {T : Nat} (h : T ≤ 8192) : (vl_I T) - (vl_I T) / (8 : Int32) * (8 : Int32) = vl_I (T % 8) := by
  refine Int32.toInt_inj.mp ?_
  rw [vi_div8 h, Int32.toInt_sub, Int32.toInt_mul, vl_I_i (by omega), vl_I_i (by omega), vl_I_i (by omega), show (8 : Int32).toInt = 8 from rfl, Int.bmod_def, Int.bmod_def]
  split <;> split <;> omega
theorem vq_wp_end {K : Nat → Option (Nat × Nat)} {I : Nat → Nat → Int32} {L : Nat → Nat → Int64} {R : Nat → Nat → Value} {N T p : Nat} (hW : jv_rW K R) (hl : T ≤ 8192) (hle : 8 * N ≤ T) (h2 : I 196 2 = vl_I T) {n sl : Nat} {Q : jv_R → Prop} (hQ : Q (some (.int (if T % 8 ≠ 0 ∨ N = 0 then vl_I N else -1)), jv_H K I L R, n, sl)) : jv_Wp 268 42 [(0, .ref 196), (1, .int (vl_I N)), (2, .int (vl_I p))] [] (jv_H K I L R) n sl Q := by
  refine jv_Wp.lift (fun _ Kz => jv_Ev.steps jv_i268 1 (pc' := 43) (l' := [(0, .ref 196), (1, .int (vl_I N)), (2, .int (vl_I p))]) (st' := [.ref 196]) rfl Kz) ?_
  refine jv_Wp.lift (fun _ Kz => jv_Ev.m jv_i268 (pc' := 46) (st' := [.int (vl_I T)]) (G' := (jv_H K I L R)) rfl rfl (jv_m_getI (jv_rwK hW 196 12 24 (by decide)) rfl rfl h2) Kz) ?_
  refine jv_Wp.lift (fun _ Kz => jv_Ev.steps jv_i268 1 (pc' := 48) (l' := [(0, .ref 196), (1, .int (vl_I N)), (2, .int (vl_I p))]) (st' := [.int (8 : Int32), .int (vl_I T)]) rfl Kz) ?_
  refine jv_Wp.lift (fun _ Kz => jv_Ev.op jv_i268 (pc' := 49) (l' := [(0, .ref 196), (1, .int (vl_I N)), (2, .int (vl_I p))]) (st' := [.int ((vl_I T) - (vl_I T) / (8 : Int32) * (8 : Int32))]) rfl (jv_op_irem (by decide)) Kz) ?_
  refine jv_Wp.cnd jv_i268 (pt := 56) (pe := 52) (p := (¬ ((vl_I T) - (vl_I T) / (8 : Int32) * (8 : Int32)) = 0)) (q := (¬ ((vl_I T) - (vl_I T) / (8 : Int32) * (8 : Int32)) = 0)) rfl jv_bi_ne rfl rfl Iff.rfl (fun h1 => ?_) (fun h1 => ?_)
  · refine jv_Wp.lift (fun _ Kz => jv_Ev.steps jv_i268 2 (pc' := 61) (l' := [(0, .ref 196), (1, .int (vl_I N)), (2, .int (vl_I p))]) (st' := [.int (vl_I N)]) rfl Kz) ?_
    refine jv_Wp.of (jv_Ev.ret jv_i268 rfl rfl) ?_
    have r1 : ¬ T % 8 = 0 := fun z => h1 ((vi_rem8 hl).trans (congrArg vl_I z))
    rw [if_pos (by omega)] at hQ
    exact hQ
  · refine jv_Wp.lift (fun _ Kz => jv_Ev.steps jv_i268 1 (pc' := 53) (l' := [(0, .ref 196), (1, .int (vl_I N)), (2, .int (vl_I p))]) (st' := [.int (vl_I N)]) rfl Kz) ?_
    refine jv_Wp.cnd jv_i268 (pt := 60) (pe := 56) (p := (¬ (vl_I N) = 0)) (q := (¬ (vl_I N) = 0)) rfl jv_bi_ne rfl rfl Iff.rfl (fun h2 => ?_) (fun h2 => ?_)
    · refine jv_Wp.lift (fun _ Kz => jv_Ev.steps jv_i268 1 (pc' := 61) (l' := [(0, .ref 196), (1, .int (vl_I N)), (2, .int (vl_I p))]) (st' := [.int (-1 : Int32)]) rfl Kz) ?_
      refine jv_Wp.of (jv_Ev.ret jv_i268 rfl rfl) ?_
      have r1 : T % 8 = 0 := (vl_I_inj (b := 0) (by omega) (by decide)).mp ((vi_rem8 hl).symm.trans (Classical.not_not.mp h1))
      have r2 : ¬ N = 0 := fun z => h2 ((vl_I_inj (a := N) (b := 0) (by omega) (by decide)).mpr z)
      rw [if_neg (by omega)] at hQ
      exact hQ
    · refine jv_Wp.lift (fun _ Kz => jv_Ev.steps jv_i268 2 (pc' := 61) (l' := [(0, .ref 196), (1, .int (vl_I N)), (2, .int (vl_I p))]) (st' := [.int (vl_I N)]) rfl Kz) ?_
      refine jv_Wp.of (jv_Ev.ret jv_i268 rfl rfl) ?_
      have r1 : T % 8 = 0 := (vl_I_inj (b := 0) (by omega) (by decide)).mp ((vi_rem8 hl).symm.trans (Classical.not_not.mp h1))
      have r2 : N = 0 := (vl_I_inj (a := N) (b := 0) (by omega) (by decide)).mp (Classical.not_not.mp h2)
      rw [if_pos (by omega)] at hQ
      exact hQ
theorem vq_wp_loop {K : Nat → Option (Nat × Nat)} {I0 : Nat → Nat → Int32} {L0 : Nat → Nat → Int64} {R : Nat → Nat → Value} {B : Nat → Nat} {N T : Nat} (hW : jv_rW K R) (h : vr_tp I0 197 T B) (hl : T ≤ 8192) (hle : 8 * N ≤ T) (h2 : I0 196 2 = vl_I T) {n sl : Nat} {Q : jv_R → Prop} (HQ : ∀ I1 L1, vr_fr noP vr_E19 I0 L0 I1 L1 → Q (some (.int (if vf_fi (vf_g1 B N) N 0 < N then vl_I (vf_fi (vf_g1 B N) N 0) else if T % 8 ≠ 0 ∨ N = 0 then vl_I N else -1)), jv_H K I1 L1 R, n, sl)) :
    ∀ (k p : Nat) (I : Nat → Nat → Int32) (L : Nat → Nat → Int64), N ≤ p + k → p ≤ N → vf_fs (vf_c B) p = true → (∀ q, q < p → vf_g1 B N q = true) → vr_fr noP vr_E19 I0 L0 I L → jv_Wp 268 2 [(0, .ref 196), (1, .int (vl_I N)), (2, .int (vl_I p))] [] (jv_H K I L R) n sl Q := by
  intro k
  induction k with
  | zero =>
    intro p I L hk hp fs ok fr
    have e : vf_fi (vf_g1 B N) N 0 = N := vf_fi_at N 0 N (by omega) (by omega) (fun q _ b => ok q (by omega)) (Or.inl (by omega))
    have t2 : I 196 2 = vl_I T := (fr.2.1 196 2 (fun z => by omega) (by decide) (fun z => by omega)).trans h2
    have q := HQ I L fr
    rw [e, if_neg (Nat.lt_irrefl N)] at q
    exact vq_wp_turn (p := p) hW (vr_fl_of fr) (vr_tp_fr fr (Or.inl rfl) (fun j z => by omega) h) hl hle hp (fun _ => vq_wp_end hW hl hle t2 q) (fun z => absurd z (by omega)) (fun z => absurd z (by omega)) (fun z => absurd z (by omega))
  | succ k ih =>
    intro p I L hk hp fs ok fr
    have g1 : ∀ (y : vf_P B N p = true), vf_g1 B N p = true := fun y => by unfold vf_g1; rw [fs, y]; rfl
    refine vq_wp_turn (p := p) hW (vr_fl_of fr) (vr_tp_fr fr (Or.inl rfl) (fun j z => by omega) h) hl hle hp (fun z => ?_) (fun pN b I1 L1 F => ?_) (fun pN b c I1 L1 F => ?_) (fun pN b c I1 L1 F => ?_)
    · have e : vf_fi (vf_g1 B N) N 0 = N := vf_fi_at N 0 N (by omega) (by omega) (fun q _ b => ok q (by omega)) (Or.inl (by omega))
      have t2 : I 196 2 = vl_I T := (fr.2.1 196 2 (fun z => by omega) (by decide) (fun z => by omega)).trans h2
      have q := HQ I L fr
      rw [e, if_neg (Nat.lt_irrefl N)] at q
      exact vq_wp_end hW hl hle t2 q
    · have e : vf_fi (vf_g1 B N) N 0 = p := vf_fi_at N 0 p (by omega) (by omega) (fun q _ b => ok q (by omega)) (Or.inr (by unfold vf_g1; rw [fs, b]; rfl))
      have q := HQ I1 L1 (vr_fr_trans fr F)
      rw [e, if_pos pN] at q
      exact q
    · exact ih (p + 1) I1 L1 (by omega) (by omega) (vf_fs1 fs c) (fun q hq => by
        by_cases e : q = p
        · rw [e]; exact g1 b
        · exact ok q (by omega)) (vr_fr_trans fr F)
    · have f2 := vf_fs2 fs c
      exact ih (p + 2) I1 L1 (by omega) (by have := vf_P24 b c; omega) f2.2 (fun q hq => by
        by_cases e : q = p
        · rw [e]; exact g1 b
        · by_cases e2 : q = p + 1
          · rw [e2]; unfold vf_g1; rw [f2.1]; rfl
          · exact ok q (by omega)) (vr_fr_trans fr F)
theorem vq_wrongPlace {K : Nat → Option (Nat × Nat)} {I : Nat → Nat → Int32} {L : Nat → Nat → Int64} {R : Nat → Nat → Value} {B : Nat → Nat} {N T : Nat} (hW : jv_rW K R) (hf : vr_fl I) (h : vr_tp I 197 T B) (hl : T ≤ 8192) (hle : 8 * N ≤ T) (h2 : I 196 2 = vl_I T) {n sl : Nat} : ∃ I1 L1, jv_Ms 268 [.ref 196, .int (vl_I N)] (jv_H K I L R) n sl (some (.int (if vf_fi (vf_g1 B N) N 0 < N then vl_I (vf_fi (vf_g1 B N) N 0) else if T % 8 ≠ 0 ∨ N = 0 then vl_I N else -1)), jv_H K I1 L1 R, n, sl) ∧ vr_fr noP vr_E19 I L I1 L1 := by
  obtain ⟨Q, hQ⟩ : ∃ Q : jv_R → Prop, Q = fun X => ∃ I1 L1, X = (some (.int (if vf_fi (vf_g1 B N) N 0 < N then vl_I (vf_fi (vf_g1 B N) N 0) else if T % 8 ≠ 0 ∨ N = 0 then vl_I N else -1)), jv_H K I1 L1 R, n, sl) ∧ vr_fr noP vr_E19 I L I1 L1 := ⟨_, rfl⟩
  suffices h : jv_Wp 268 0 [(0, .ref 196), (1, .int (vl_I N))] [] (jv_H K I L R) n sl Q by
    rw [hQ] at h
    obtain ⟨X, h, I1, L1, e, h'⟩ := h
    subst e
    exact ⟨I1, L1, h, h'⟩
  refine jv_Wp.lift (fun _ Kz => jv_Ev.steps jv_i268 2 (pc' := 2) (l' := [(2, .int (vl_I 0)), (0, .ref 196), (1, .int (vl_I N))]) (st' := []) rfl Kz) ?_
  refine jv_Wp.loc (l := [(0, .ref 196), (1, .int (vl_I N)), (2, .int (vl_I 0))]) ⟨List.forall_mem_cons.mpr ⟨.tail _ (.head _), List.forall_mem_cons.mpr ⟨.tail _ (.tail _ (.head _)), List.forall_mem_cons.mpr ⟨.head _, fun _ h => absurd h List.not_mem_nil⟩⟩⟩, by show List.Nodup [2, 0, 1]; decide⟩ ?_
  exact vq_wp_loop hW h hl hle h2 (fun I1 L1 F => by rw [hQ]; exact ⟨I1, L1, rfl, F⟩) N 0 I L (by omega) (by omega) rfl (fun q z => absurd z (by omega)) (vr_fr_refl hf)