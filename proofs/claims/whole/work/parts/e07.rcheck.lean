/-! part e07: check, of the reference (gen/te07.py) -/
/-- the first wrong place of a program of T bytes, by its form -/
def vf_bad (B : Nat → Nat) (N T : Nat) : Option Nat :=
  if vf_fi (vf_g1 B N) N 0 < N then some (vf_fi (vf_g1 B N) N 0) else if T % 8 ≠ 0 ∨ N = 0 then some N else if vf_fi (vf_g2 B N) N 0 < N then some (vf_fi (vf_g2 B N) N 0) else none
def vr_on : Option Nat → Int32
  | none => -1
  | some k => vl_I k
theorem vl_I_n1 {k : Nat} (h : k < 2147483648) : vl_I k ≠ -1 := fun z => by
  have y := vl_I_i h
  rw [z, show (-1 : Int32).toInt = -1 from by decide] at y
  omega
theorem vf_fi_le {g : Nat → Bool} : ∀ (k p : Nat), vf_fi g k p ≤ p + k
  | 0, p => Nat.le_refl p
  | k + 1, p => by
    show (if g p = true then vf_fi g k (p + 1) else p) ≤ _
    split
    · have := vf_fi_le (g := g) k (p + 1); omega
    · omega
theorem vf_fi_all {g : Nat → Bool} : ∀ (k p : Nat), ¬ vf_fi g k p < p + k → ∀ q, p ≤ q → q < p + k → g q = true
  | 0, p, _, q, a, b => absurd b (by omega)
  | k + 1, p, h, q, a, b => by
    have h : ¬ (if g p = true then vf_fi g k (p + 1) else p) < p + (k + 1) := h
    by_cases c : g p = true
    · rw [if_pos c] at h
      by_cases e : q = p
      · rw [e]; exact c
      · exact vf_fi_all k (p + 1) (by omega) q (by omega) (by omega)
    · rw [if_neg c] at h; exact absurd (show p < p + (k + 1) by omega) h
abbrev vr_E0 : Nat → Nat → Prop := fun q g => q = 196 ∧ (g = 0 ∨ 19 ≤ g)
/-- the first j bytes are copied -/
def vr_cp (j : Nat) (I I1 : Nat → Nat → Int32) : Prop := (∀ i, i < j → I1 198 i = I 197 i) ∧ ∀ q f, ¬ (q = 198 ∧ f < 8192) → I1 q f = I q f
theorem vr_cp_step {j : Nat} {I I1 : Nat → Nat → Int32} (hj : j < 8192) (h : vr_cp j I I1) : vr_cp (j + 1) I (jv_u I1 198 j (I1 197 j)) := by
  refine ⟨fun i hi => ?_, fun q f a => ?_⟩
  · by_cases e : i = j
    · rw [e]; exact (jv_u_self _ _ _ _).trans (h.2 197 j (fun z => by omega))
    · exact (jv_u_j _ _ _ _ e).trans (h.1 i (by omega))
  · by_cases e : q = 198
    · rw [e]; exact (jv_u_j _ _ _ _ (fun z => a ⟨e, by omega⟩)).trans (h.2 198 f (fun z => a ⟨e, z.2⟩))
    · exact (jv_u_o _ _ _ _ e).trans (h.2 q f a)
/-- nothing is said of any place -/
def vr_ha (j : Nat) (I I1 : Nat → Nat → Int32) : Prop := ∀ q f, ¬ (q = 202) → I1 q f = I q f

theorem jv_i315 : jv_I 315 4 (some .int) 13 367 jv_c315 := ⟨rfl, rfl, rfl, rfl, rfl⟩
theorem vq_ck_0 {K : Nat → Option (Nat × Nat)} {I : Nat → Nat → Int32} {L : Nat → Nat → Int64} {R : Nat → Nat → Value} {N T : Nat} (hW : jv_rW K R) (e8 : (vl_I T) / (8 : Int32) = vl_I N) (h2 : I 196 2 = vl_I T) {n sl : Nat} {Q : jv_R → Prop} (cont : jv_Wp 315 13 [(0, .ref 196), (1, .int (vl_I N))] [] (jv_H K (jv_u I 196 0 (0 : Int32)) L R) n sl Q) : jv_Wp 315 0 [(0, .ref 196)] [] (jv_H K I L R) n sl Q := by
  refine jv_Wp.lift (fun _ Kz => jv_Ev.steps jv_i315 2 (pc' := 2) (l' := [(0, .ref 196)]) (st' := [.int (0 : Int32), .ref 196]) rfl Kz) ?_
  refine jv_Wp.lift (fun _ Kz => jv_Ev.m jv_i315 (pc' := 5) (st' := []) (G' := (jv_H K (jv_u I 196 0 (0 : Int32)) L R)) rfl rfl (jv_m_putI (jv_rwK hW 196 12 24 (by decide)) rfl rfl rfl rfl) Kz) ?_
  refine jv_Wp.lift (fun _ Kz => jv_Ev.steps jv_i315 1 (pc' := 6) (l' := [(0, .ref 196)]) (st' := [.ref 196]) rfl Kz) ?_
  refine jv_Wp.lift (fun _ Kz => jv_Ev.m jv_i315 (pc' := 9) (st' := [.int (vl_I T)]) (G' := (jv_H K (jv_u I 196 0 (0 : Int32)) L R)) rfl rfl (jv_m_getI (jv_rwK hW 196 12 24 (by decide)) rfl rfl ((jv_u_j _ _ _ _ (by decide)).trans h2)) Kz) ?_
  refine jv_Wp.lift (fun _ Kz => jv_Ev.steps jv_i315 1 (pc' := 11) (l' := [(0, .ref 196)]) (st' := [.int (8 : Int32), .int (vl_I T)]) rfl Kz) ?_
  refine jv_Wp.lift (fun _ Kz => jv_Ev.op jv_i315 (pc' := 12) (l' := [(0, .ref 196)]) (st' := [.int ((vl_I T) / (8 : Int32))]) rfl (jv_op_idiv (by decide)) Kz) ?_
  refine jv_Wp.lift (fun _ Kz => jv_Ev.steps jv_i315 1 (pc' := 13) (l' := [(1, .int ((vl_I T) / (8 : Int32))), (0, .ref 196)]) (st' := []) rfl Kz) ?_
  refine jv_Wp.loc (l := [(0, .ref 196), (1, .int ((vl_I T) / (8 : Int32)))]) ⟨List.forall_mem_cons.mpr ⟨.tail _ (.head _), List.forall_mem_cons.mpr ⟨.head _, fun _ h => absurd h List.not_mem_nil⟩⟩, by show List.Nodup [1, 0]; decide⟩ ?_
  rw [e8]
  exact cont
theorem vf_wp_ok {B : Nat → Nat} {N T : Nat} (hN : N ≤ 1024) (h : (if vf_fi (vf_g1 B N) N 0 < N then vl_I (vf_fi (vf_g1 B N) N 0) else if T % 8 ≠ 0 ∨ N = 0 then vl_I N else -1) = -1) : ¬ vf_fi (vf_g1 B N) N 0 < N ∧ ¬ (T % 8 ≠ 0 ∨ N = 0) ∧ ∀ q, q < N → vf_g1 B N q = true := by
  have a : ¬ vf_fi (vf_g1 B N) N 0 < N := fun z => by rw [if_pos z] at h; exact vl_I_n1 (by omega) h
  rw [if_neg a] at h
  have b : ¬ (T % 8 ≠ 0 ∨ N = 0) := fun z => by rw [if_pos z] at h; exact vl_I_n1 (by omega) h
  exact ⟨a, b, fun q hq => vf_fi_all N 0 (by rw [Nat.zero_add]; exact a) q (by omega) (by omega)⟩
theorem vf_wp_no {B : Nat → Nat} {N T : Nat} {v : Int32} (h : (if vf_fi (vf_g1 B N) N 0 < N then vl_I (vf_fi (vf_g1 B N) N 0) else if T % 8 ≠ 0 ∨ N = 0 then vl_I N else -1) = v) (hn : ¬ v = (-1 : Int32)) : v = vr_on (vf_bad B N T) := by
  rw [← h]; unfold vf_bad
  by_cases a : vf_fi (vf_g1 B N) N 0 < N
  · rw [if_pos a, if_pos a]; rfl
  · rw [if_neg a] at h ⊢
    rw [if_neg a]
    by_cases b : T % 8 ≠ 0 ∨ N = 0
    · rw [if_pos b, if_pos b]; rfl
    · rw [if_neg b] at h; exact absurd h.symm hn
theorem vq_ck_13 {K : Nat → Option (Nat × Nat)} {I : Nat → Nat → Int32} {L : Nat → Nat → Int64} {R : Nat → Nat → Value} {N T : Nat} (hW : jv_rW K R) {B : Nat → Nat} (hN : N ≤ 1024) (hf : vr_fl I) (h : vr_tp I 197 T B) (hl : T ≤ 8192) (hle : 8 * N ≤ T) (h2 : I 196 2 = vl_I T) {n sl : Nat} {Q : jv_R → Prop} (cont : ∀ I1 L1, vr_fr noP vr_E19 I L I1 L1 → jv_Wp 315 34 [(0, .ref 196), (1, .int (vl_I N)), (2, .int (vr_on (vf_bad B N T)))] [] (jv_H K I1 L1 R) n sl Q) : jv_Wp 315 13 [(0, .ref 196), (1, .int (vl_I N))] [] (jv_H K I L R) n sl Q := by
  refine jv_Wp.lift (fun _ Kz => jv_Ev.steps jv_i315 2 (pc' := 15) (l' := [(0, .ref 196), (1, .int (vl_I N))]) (st' := [.int (vl_I N), .ref 196]) rfl Kz) ?_
  obtain ⟨I1, L1, H1, F1⟩ := vq_wrongPlace (I := I) (L := L) (R := R) (n := n) (sl := sl) hW hf h hl hle h2
  have Z1 := vr_fl_of F1
  have tp1 := vr_tp_fr F1 (Or.inl rfl) (fun j z => by omega) h
  generalize hv1 : (if vf_fi (vf_g1 B N) N 0 < N then vl_I (vf_fi (vf_g1 B N) N 0) else if T % 8 ≠ 0 ∨ N = 0 then vl_I N else -1) = v1 at H1
  refine jv_Wp.lift (fun _ Kz => jv_Ev.c jv_i315 (pc' := 18) (S' := [.int v1]) (G1 := (jv_H K I1 L1 R)) jv_i268 [.ref 196, .int (vl_I N)] rfl rfl rfl rfl (jv_cal rfl (jv_H_at (jv_rwK hW 196 12 24 (by decide))) rfl rfl) rfl H1 rfl rfl Kz) ?_
  refine jv_Wp.lift (fun _ Kz => jv_Ev.steps jv_i315 3 (pc' := 21) (l' := [(2, .int v1), (0, .ref 196), (1, .int (vl_I N))]) (st' := [.int (-1 : Int32), .int v1]) rfl Kz) ?_
  refine jv_Wp.cnd jv_i315 (pt := 32) (pe := 24) (p := (¬ v1 = (-1 : Int32))) (q := (¬ v1 = (-1 : Int32))) rfl jv_bc_ne rfl rfl Iff.rfl (fun h1 => ?_) (fun h1 => ?_)
  · refine jv_Wp.lift (fun _ Kz => jv_Ev.steps jv_i315 2 (pc' := 34) (l' := [(2, .int v1), (0, .ref 196), (1, .int (vl_I N))]) (st' := []) rfl Kz) ?_
    refine jv_Wp.loc (l := [(0, .ref 196), (1, .int (vl_I N)), (2, .int v1)]) ⟨List.forall_mem_cons.mpr ⟨.tail _ (.head _), List.forall_mem_cons.mpr ⟨.tail _ (.tail _ (.head _)), List.forall_mem_cons.mpr ⟨.head _, fun _ h => absurd h List.not_mem_nil⟩⟩⟩, by show List.Nodup [2, 0, 1]; decide⟩ ?_
    have eb : v1 = vr_on (vf_bad B N T) := vf_wp_no hv1 h1
    rw [eb]
    exact cont I1 L1 F1
  · refine jv_Wp.lift (fun _ Kz => jv_Ev.steps jv_i315 2 (pc' := 26) (l' := [(2, .int v1), (0, .ref 196), (1, .int (vl_I N))]) (st' := [.int (vl_I N), .ref 196]) rfl Kz) ?_
    have w1 := vf_wp_ok hN (hv1.trans (Classical.not_not.mp h1))
    obtain ⟨I2, L2, H2, F2⟩ := vq_wrongWay (I := I1) (L := L1) (R := R) (n := n) (sl := sl) hW Z1 tp1 hl hle w1.2.2
    generalize hv2 : (if vf_fi (vf_g2 B N) N 0 < N then vl_I (vf_fi (vf_g2 B N) N 0) else -1) = v2 at H2
    refine jv_Wp.lift (fun _ Kz => jv_Ev.c jv_i315 (pc' := 29) (S' := [.int v2]) (G1 := (jv_H K I2 L2 R)) jv_i270 [.ref 196, .int (vl_I N)] rfl rfl rfl rfl (jv_cal rfl (jv_H_at (jv_rwK hW 196 12 24 (by decide))) rfl rfl) rfl H2 rfl rfl Kz) ?_
    refine jv_Wp.lift (fun _ Kz => jv_Ev.steps jv_i315 2 (pc' := 34) (l' := [(2, .int v2), (0, .ref 196), (1, .int (vl_I N))]) (st' := []) rfl Kz) ?_
    refine jv_Wp.loc (l := [(0, .ref 196), (1, .int (vl_I N)), (2, .int v2)]) ⟨List.forall_mem_cons.mpr ⟨.tail _ (.head _), List.forall_mem_cons.mpr ⟨.tail _ (.tail _ (.head _)), List.forall_mem_cons.mpr ⟨.head _, fun _ h => absurd h List.not_mem_nil⟩⟩⟩, by show List.Nodup [2, 0, 1]; decide⟩ ?_
    have eb : v2 = vr_on (vf_bad B N T) := by rw [← hv2]; unfold vf_bad; rw [if_neg w1.1, if_neg w1.2.1]; split <;> rfl
    rw [eb]
    exact cont I2 L2 (vr_fr_trans F1 F2)