/-! part b38: the checker's loops (gen/tb38.py) -/
abbrev vs_S (sc : Nat) (sa : Nat → Nat) : Nat → Option Nat := fun p => if p < sc then some (sa p) else none
theorem vs_S_lt {sc : Nat} {sa : Nat → Nat} {p : Nat} (h : p < sc) : vs_S sc sa p = some (sa p) := if_pos h
theorem vs_S_some {sc : Nat} {sa : Nat → Nat} {p a : Nat} (h : vs_S sc sa p = some a) : p < sc ∧ a = sa p := by
  unfold vs_S at h
  by_cases c : p < sc
  · rw [if_pos c] at h; exact ⟨c, (Option.some.inj h).symm⟩
  · rw [if_neg c] at h; cases h
/-- where the states are: the first sc places have one -/
def vc_SS (K : Nat → Option (Nat × Nat)) (R : Nat → Nat → Value) (sc : Nat) (sa : Nat → Nat) (n : Nat) : Prop :=
  K 11 = some (104, 1024) ∧ sc ≤ 1024 ∧ (∀ p, p < 1024 → ¬ p < sc → R 11 p = .null) ∧ (∀ p, p < sc → R 11 p = .ref (sa p) ∧ vc_St K R (sa p) ∧ 227 ≤ sa p ∧ sa p + 77 ≤ n) ∧ ∀ p q, p < sc → q < sc → p ≠ q → sa p + 77 ≤ sa q ∨ sa q + 77 ≤ sa p
/-- what holds of the checker's states while it passes -/
def vc_V (K : Nat → Option (Nat × Nat)) (R : Nat → Nat → Value) (sc : Nat) (sa : Nat → Nat) (N : Nat) (fst : Nat → Bool) (bnd : Nat) (I : Nat → Nat → Int32) (L : Nat → Nat → Int64) (st : vz_F) : Prop :=
  vc_ST K I L R (vs_S sc sa) st ∧ vz_okS st.1 ∧ vz_gS st.1 ∧ vz_at N fst st.1 ∧ (∀ p, st.1.2 p ≤ bnd) ∧ ∀ p, st.2 p = true → (st.1.1 p).isSome = true
theorem vz_gosF_app {fr : Nat} : ∀ (l l' : List (Int × vt_A)) (st : vz_F), vz_gosF fr (l ++ l') st = ((vz_gosF fr l' (vz_gosF fr l st).1).1, (vz_gosF fr l st).2 || (vz_gosF fr l' (vz_gosF fr l st).1).2)
  | [], l', st => by show vz_gosF fr l' st = ((vz_gosF fr l' st).1, false || (vz_gosF fr l' st).2); rw [Bool.false_or]
  | e :: l, l', st => by
    show ((vz_gosF fr (l ++ l') (vz_goF fr e.1.toNat e.2 st).1).1, (vz_goF fr e.1.toNat e.2 st).2 || (vz_gosF fr (l ++ l') (vz_goF fr e.1.toNat e.2 st).1).2) = _
    rw [vz_gosF_app l l']
    show _ = ((vz_gosF fr l' (vz_gosF fr l (vz_goF fr e.1.toNat e.2 st).1).1).1, ((vz_goF fr e.1.toNat e.2 st).2 || (vz_gosF fr l (vz_goF fr e.1.toNat e.2 st).1).2) || (vz_gosF fr l' (vz_gosF fr l (vz_goF fr e.1.toNat e.2 st).1).1).2)
    rw [Bool.or_assoc]
/-- cells that the checker changes while it passes -/
def vc_ck (sc : Nat) (sa : Nat → Nat) (q : Nat) : Prop := vc_in 12 q ∨ vc_in 89 q ∨ (166 ≤ q ∧ q ≤ 170) ∨ q = 10 ∨ ∃ p, p < sc ∧ vc_in (sa p) q
/-- a state goes to a place, if it goes -/
theorem vc_arr2 {K : Nat → Option (Nat × Nat)} {I : Nat → Nat → Int32} {L : Nat → Nat → Int64} {R : Nat → Nat → Value} {sc : Nat} {sa : Nat → Nat} {N : Nat} {fst : Nat → Bool} {bnd fr b : Nat} {st : vz_F} {t : Int32} (o : Option (Int × vt_A)) (hC : vc_C K R) (hCs : R 10 1 = .ref 11) (hN : N ≤ sc) (hsc : sc ≤ 1024) (h : vc_V K R sc sa N fst bnd I L st) (hbnd : bnd < 2147483647) (hb : vc_St K R b) (hb170 : b ≤ 89) (ob : vc_okA I L b) (hfr : fr < 2147483648)
    (ho : ∀ e, o = some e → t.toInt = e.1 ∧ vc_A I L b = e.2 ∧ vt_okA e.2 ∧ vt_gA e.2 ∧ 0 ≤ e.1 ∧ e.1 < N ∧ fst e.1.toNat = true) (hn : o = none → t = -1) {n sl : Nat} :
    ∃ I1 L1, jv_Ms 24 [.ref 10, .ref b, .int (vl_I fr), .int t] (jv_H K I L R) n sl (some (.int (vr_b (vz_gosF fr o.toList st).2)), jv_H K I1 L1 R, n, sl) ∧ vc_V K R sc sa N fst (bnd + 1) I1 L1 (vz_gosF fr o.toList st).1 ∧ vc_fr (fun q => q = 170 ∨ ∃ p, p < sc ∧ vc_in (sa p) q) I L I1 L1 := by
  obtain ⟨v1, v2, v3, v4, v5, v6⟩ := h
  cases o with
  | none =>
    obtain ⟨I1, L1, H, e1, e2⟩ := vc_arrN (K := K) (I := I) (L := L) (R := R) (n := n) (sl := sl) (b := b) (vl_I fr)
    rw [e1, e2] at H
    rw [hn rfl]
    exact ⟨I, L, H, ⟨v1, v2, v3, v4, fun p => Nat.le_succ_of_le (v5 p), v6⟩, vc_fr_refl _ _⟩
  | some e =>
    obtain ⟨e1, e2, e3, e4, e5, e6, e7⟩ := ho e rfl
    have hq : e.1.toNat < sc := by omega
    have et : t = vl_I e.1.toNat := by
      refine Int32.toInt_inj.mp ?_
      have f : (vl_I e.1.toNat).toInt = (e.1.toNat : Int) := vl_I_int (by omega)
      rw [f, e1]; omega
    obtain ⟨I1, L1, H, s, f⟩ := vc_arrive (fr := fr) (n := n) (sl := sl) hC hCs v1 (by omega) (vs_S_lt hq) hb hb170 ob (by rw [e2]; exact e3) hfr (by have := v5 e.1.toNat; omega)
    rw [e2] at H s
    obtain ⟨g1, g2, g3⟩ := vz_go_g (fr := fr) e3 e4 ⟨by omega, e7⟩ v2 v3 v4
    have gs : vz_gosF fr [e] st = ((vz_goF fr e.1.toNat e.2 st).1, (vz_goF fr e.1.toNat e.2 st).2 || false) := rfl
    rw [Bool.or_false] at gs
    show ∃ I1 L1, jv_Ms 24 _ _ n sl (some (.int (vr_b (vz_gosF fr [e] st).2)), _) ∧ vc_V K R sc sa N fst (bnd + 1) I1 L1 (vz_gosF fr [e] st).1 ∧ _
    rw [gs, et]
    refine ⟨I1, L1, H, ⟨s, (vz_go_ok e3 v2).1, g1, g2, fun p => Nat.le_trans (g3 p) (Nat.succ_le_succ (v5 p)), fun p hp => ?_⟩, vc_fr_mono f (fun q z => z.elim (fun z => Or.inr ⟨_, hq, z⟩) Or.inl)⟩
    have hp : (if (vz_go fr e.1.toNat e.2 st.1).2 = true then vz_u st.2 e.1.toNat true else st.2) p = true := hp
    show ((vz_go fr e.1.toNat e.2 st.1).1.1 p).isSome = true
    obtain ⟨k1, k2, k3, k4, k5⟩ := vz_go_ok (fr := fr) (q := e.1.toNat) e3 v2
    by_cases c : p = e.1.toNat
    · obtain ⟨C, hc, _⟩ := k3
      rw [c, hc]; rfl
    · rw [k4 p c]
      refine v6 p ?_
      split at hp
      · rw [vz_u_ne _ _ c] at hp; exact hp
      · exact hp
theorem jv_i23 : jv_I 23 7 (some .int) 7 183 jv_c23 := ⟨rfl, rfl, rfl, rfl, rfl⟩
theorem vc_look1go {K : Nat → Option (Nat × Nat)} {I : Nat → Nat → Int32} {L : Nat → Nat → Int64} {R : Nat → Nat → Value} (hC : vc_C K R) (hCs : R 10 1 = .ref 11) (h11 : K 11 = some (104, 1024)) {pr : Nat} {pl : Int32} {n sl : Nat} {Q : jv_R → Prop} {a p : Nat} (hp : p < 1024) (hs : vc_St K R a) (hr0 : R 11 p = .ref a) (HI : jv_Wp 23 14 [(0, .ref 10), (1, .ref pr), (2, .int pl), (3, .int (vl_I (p + 1)))] [] (jv_H K (jv_u (jv_u I a 3 (0 : Int32)) a 4 (0 : Int32)) L R) n sl Q) : jv_Wp 23 14 [(0, .ref 10), (1, .ref pr), (2, .int pl), (3, .int (vl_I p))] [] (jv_H K I L R) n sl Q := by
  have hS : K 11 = some (104, 1024) ∧ True := ⟨h11, trivial⟩
  have hr := (congrArg (R 11) (vl_I_nat (i := p) (by omega))).trans hr0
  refine jv_Wp.lift (fun _ Kz => jv_Ev.steps jv_i23 2 (pc' := 18) (l' := [(0, .ref 10), (1, .ref pr), (2, .int pl), (3, .int (vl_I p))]) (st' := [.int (1024 : Int32), .int (vl_I p)]) rfl Kz) ?_
  refine jv_Wp.cnd jv_i23 (pt := 56) (pe := 21) (p := ((1024 : Int32) ≤ (vl_I p))) (q := ((1024 : Int32) ≤ (vl_I p))) rfl jv_bc_ge rfl rfl Iff.rfl (fun hz => absurd hz (fun z => absurd ((vl_I_le (a := 1024) (by decide) (by omega)).mp z) (by omega))) (fun _ => ?_)
  refine jv_Wp.lift (fun _ Kz => jv_Ev.steps jv_i23 1 (pc' := 22) (l' := [(0, .ref 10), (1, .ref pr), (2, .int pl), (3, .int (vl_I p))]) (st' := [.ref 10]) rfl Kz) ?_
  refine jv_Wp.lift (fun _ Kz => jv_Ev.m jv_i23 (pc' := 25) (st' := [.ref 11]) (G' := (jv_H K I L R)) rfl rfl (jv_m_getR hC.k rfl rfl hCs) Kz) ?_
  refine jv_Wp.lift (fun _ Kz => jv_Ev.steps jv_i23 1 (pc' := 26) (l' := [(0, .ref 10), (1, .ref pr), (2, .int pl), (3, .int (vl_I p))]) (st' := [.int (vl_I p), .ref 11]) rfl Kz) ?_
  refine jv_Wp.lift (fun _ Kz => jv_Ev.m jv_i23 (pc' := 27) (st' := [.ref a]) (G' := (jv_H K I L R)) rfl rfl (jv_m_aaldR hS.1 rfl (vl_I_ix (by omega) (by decide)) rfl hr) Kz) ?_
  refine jv_Wp.lift (fun _ Kz => jv_Ev.br jv_i23 (pc' := 30) (st' := []) rfl (by rfl) Kz) ?_
  refine jv_Wp.lift (fun _ Kz => jv_Ev.steps jv_i23 1 (pc' := 31) (l' := [(0, .ref 10), (1, .ref pr), (2, .int pl), (3, .int (vl_I p))]) (st' := [.ref 10]) rfl Kz) ?_
  refine jv_Wp.lift (fun _ Kz => jv_Ev.m jv_i23 (pc' := 34) (st' := [.ref 11]) (G' := (jv_H K I L R)) rfl rfl (jv_m_getR hC.k rfl rfl hCs) Kz) ?_
  refine jv_Wp.lift (fun _ Kz => jv_Ev.steps jv_i23 1 (pc' := 35) (l' := [(0, .ref 10), (1, .ref pr), (2, .int pl), (3, .int (vl_I p))]) (st' := [.int (vl_I p), .ref 11]) rfl Kz) ?_
  refine jv_Wp.lift (fun _ Kz => jv_Ev.m jv_i23 (pc' := 36) (st' := [.ref a]) (G' := (jv_H K I L R)) rfl rfl (jv_m_aaldR hS.1 rfl (vl_I_ix (by omega) (by decide)) rfl hr) Kz) ?_
  refine jv_Wp.lift (fun _ Kz => jv_Ev.steps jv_i23 1 (pc' := 37) (l' := [(0, .ref 10), (1, .ref pr), (2, .int pl), (3, .int (vl_I p))]) (st' := [.int (0 : Int32), .ref a]) rfl Kz) ?_
  refine jv_Wp.lift (fun _ Kz => jv_Ev.m jv_i23 (pc' := 40) (st' := []) (G' := (jv_H K (jv_u I a 3 (0 : Int32)) L R)) rfl rfl (jv_m_putI hs.k rfl rfl rfl (jv_fit_b (Or.inl rfl))) Kz) ?_
  refine jv_Wp.lift (fun _ Kz => jv_Ev.steps jv_i23 1 (pc' := 41) (l' := [(0, .ref 10), (1, .ref pr), (2, .int pl), (3, .int (vl_I p))]) (st' := [.ref 10]) rfl Kz) ?_
  refine jv_Wp.lift (fun _ Kz => jv_Ev.m jv_i23 (pc' := 44) (st' := [.ref 11]) (G' := (jv_H K (jv_u I a 3 (0 : Int32)) L R)) rfl rfl (jv_m_getR hC.k rfl rfl hCs) Kz) ?_
  refine jv_Wp.lift (fun _ Kz => jv_Ev.steps jv_i23 1 (pc' := 45) (l' := [(0, .ref 10), (1, .ref pr), (2, .int pl), (3, .int (vl_I p))]) (st' := [.int (vl_I p), .ref 11]) rfl Kz) ?_
  refine jv_Wp.lift (fun _ Kz => jv_Ev.m jv_i23 (pc' := 46) (st' := [.ref a]) (G' := (jv_H K (jv_u I a 3 (0 : Int32)) L R)) rfl rfl (jv_m_aaldR hS.1 rfl (vl_I_ix (by omega) (by decide)) rfl hr) Kz) ?_
  refine jv_Wp.lift (fun _ Kz => jv_Ev.steps jv_i23 1 (pc' := 47) (l' := [(0, .ref 10), (1, .ref pr), (2, .int pl), (3, .int (vl_I p))]) (st' := [.int (0 : Int32), .ref a]) rfl Kz) ?_
  refine jv_Wp.lift (fun _ Kz => jv_Ev.m jv_i23 (pc' := 50) (st' := []) (G' := (jv_H K (jv_u (jv_u I a 3 (0 : Int32)) a 4 (0 : Int32)) L R)) rfl rfl (jv_m_putI hs.k rfl rfl rfl (jv_fit_b (Or.inl rfl))) Kz) ?_
  refine jv_Wp.lift (fun _ Kz => jv_Ev.steps jv_i23 2 (pc' := 14) (l' := [(3, .int ((vl_I p) + Int32.ofInt 1)), (0, .ref 10), (1, .ref pr), (2, .int pl)]) (st' := []) rfl Kz) ?_
  refine jv_Wp.loc (l := [(0, .ref 10), (1, .ref pr), (2, .int pl), (3, .int ((vl_I p) + Int32.ofInt 1))]) ⟨List.forall_mem_cons.mpr ⟨.tail _ (.head _), List.forall_mem_cons.mpr ⟨.tail _ (.tail _ (.head _)), List.forall_mem_cons.mpr ⟨.tail _ (.tail _ (.tail _ (.head _))), List.forall_mem_cons.mpr ⟨.head _, fun _ h => absurd h List.not_mem_nil⟩⟩⟩⟩, by show List.Nodup [3, 0, 1, 2]; decide⟩ ?_
  rw [show vl_I p + Int32.ofInt 1 = vl_I (p + 1) from vl_I_add p 1]
  exact HI
theorem vc_look1null {K : Nat → Option (Nat × Nat)} {I : Nat → Nat → Int32} {L : Nat → Nat → Int64} {R : Nat → Nat → Value} (hC : vc_C K R) (hCs : R 10 1 = .ref 11) (h11 : K 11 = some (104, 1024)) {pr : Nat} {pl : Int32} {n sl : Nat} {Q : jv_R → Prop} {p : Nat} (hp : p < 1024) (hr0 : R 11 p = .null) (HE : jv_Wp 23 58 [(0, .ref 10), (1, .ref pr), (2, .int pl), (3, .int (0 : Int32))] [] (jv_H K I L R) n sl Q) : jv_Wp 23 14 [(0, .ref 10), (1, .ref pr), (2, .int pl), (3, .int (vl_I p))] [] (jv_H K I L R) n sl Q := by
  have hS : K 11 = some (104, 1024) ∧ True := ⟨h11, trivial⟩
  have hr := (congrArg (R 11) (vl_I_nat (i := p) (by omega))).trans hr0
  refine jv_Wp.lift (fun _ Kz => jv_Ev.steps jv_i23 2 (pc' := 18) (l' := [(0, .ref 10), (1, .ref pr), (2, .int pl), (3, .int (vl_I p))]) (st' := [.int (1024 : Int32), .int (vl_I p)]) rfl Kz) ?_
  refine jv_Wp.cnd jv_i23 (pt := 56) (pe := 21) (p := ((1024 : Int32) ≤ (vl_I p))) (q := ((1024 : Int32) ≤ (vl_I p))) rfl jv_bc_ge rfl rfl Iff.rfl (fun hz => absurd hz (fun z => absurd ((vl_I_le (a := 1024) (by decide) (by omega)).mp z) (by omega))) (fun _ => ?_)
  refine jv_Wp.lift (fun _ Kz => jv_Ev.steps jv_i23 1 (pc' := 22) (l' := [(0, .ref 10), (1, .ref pr), (2, .int pl), (3, .int (vl_I p))]) (st' := [.ref 10]) rfl Kz) ?_
  refine jv_Wp.lift (fun _ Kz => jv_Ev.m jv_i23 (pc' := 25) (st' := [.ref 11]) (G' := (jv_H K I L R)) rfl rfl (jv_m_getR hC.k rfl rfl hCs) Kz) ?_
  refine jv_Wp.lift (fun _ Kz => jv_Ev.steps jv_i23 1 (pc' := 26) (l' := [(0, .ref 10), (1, .ref pr), (2, .int pl), (3, .int (vl_I p))]) (st' := [.int (vl_I p), .ref 11]) rfl Kz) ?_
  refine jv_Wp.lift (fun _ Kz => jv_Ev.m jv_i23 (pc' := 27) (st' := [.null]) (G' := (jv_H K I L R)) rfl rfl (jv_m_aaldR hS.1 rfl (vl_I_ix (by omega) (by decide)) rfl hr) Kz) ?_
  refine jv_Wp.lift (fun _ Kz => jv_Ev.br jv_i23 (pc' := 56) (st' := []) rfl (by rfl) Kz) ?_
  refine jv_Wp.lift (fun _ Kz => jv_Ev.steps jv_i23 2 (pc' := 58) (l' := [(3, .int (0 : Int32)), (0, .ref 10), (1, .ref pr), (2, .int pl)]) (st' := []) rfl Kz) ?_
  refine jv_Wp.loc (l := [(0, .ref 10), (1, .ref pr), (2, .int pl), (3, .int (0 : Int32))]) ⟨List.forall_mem_cons.mpr ⟨.tail _ (.head _), List.forall_mem_cons.mpr ⟨.tail _ (.tail _ (.head _)), List.forall_mem_cons.mpr ⟨.tail _ (.tail _ (.tail _ (.head _))), List.forall_mem_cons.mpr ⟨.head _, fun _ h => absurd h List.not_mem_nil⟩⟩⟩⟩, by show List.Nodup [3, 0, 1, 2]; decide⟩ ?_
  exact HE
theorem vc_look1end {K : Nat → Option (Nat × Nat)} {I : Nat → Nat → Int32} {L : Nat → Nat → Int64} {R : Nat → Nat → Value} (hC : vc_C K R) (hCs : R 10 1 = .ref 11) (h11 : K 11 = some (104, 1024)) {pr : Nat} {pl : Int32} {n sl : Nat} {Q : jv_R → Prop} {p : Nat} (hp1024 : vl_I p = 1024) (HE : jv_Wp 23 58 [(0, .ref 10), (1, .ref pr), (2, .int pl), (3, .int (0 : Int32))] [] (jv_H K I L R) n sl Q) : jv_Wp 23 14 [(0, .ref 10), (1, .ref pr), (2, .int pl), (3, .int (vl_I p))] [] (jv_H K I L R) n sl Q := by
  have hS : K 11 = some (104, 1024) ∧ True := ⟨h11, trivial⟩
  refine jv_Wp.lift (fun _ Kz => jv_Ev.steps jv_i23 2 (pc' := 18) (l' := [(0, .ref 10), (1, .ref pr), (2, .int pl), (3, .int (vl_I p))]) (st' := [.int (1024 : Int32), .int (vl_I p)]) rfl Kz) ?_
  refine jv_Wp.cnd jv_i23 (pt := 56) (pe := 21) (p := ((1024 : Int32) ≤ (vl_I p))) (q := ((1024 : Int32) ≤ (vl_I p))) rfl jv_bc_ge rfl rfl Iff.rfl (fun _ => ?_) (fun hz => absurd (by rw [hp1024]; exact Int32.le_refl _) hz)
  refine jv_Wp.lift (fun _ Kz => jv_Ev.steps jv_i23 2 (pc' := 58) (l' := [(3, .int (0 : Int32)), (0, .ref 10), (1, .ref pr), (2, .int pl)]) (st' := []) rfl Kz) ?_
  refine jv_Wp.loc (l := [(0, .ref 10), (1, .ref pr), (2, .int pl), (3, .int (0 : Int32))]) ⟨List.forall_mem_cons.mpr ⟨.tail _ (.head _), List.forall_mem_cons.mpr ⟨.tail _ (.tail _ (.head _)), List.forall_mem_cons.mpr ⟨.tail _ (.tail _ (.tail _ (.head _))), List.forall_mem_cons.mpr ⟨.head _, fun _ h => absurd h List.not_mem_nil⟩⟩⟩⟩, by show List.Nodup [3, 0, 1, 2]; decide⟩ ?_
  exact HE
/-- loop 1: no state is there, none is fresh -/
theorem vc_look1 {K : Nat → Option (Nat × Nat)} {L : Nat → Nat → Int64} {R : Nat → Nat → Value} (hC : vc_C K R) (hCs : R 10 1 = .ref 11) {sc : Nat} {sa : Nat → Nat} {n sl : Nat} (hS : vc_SS K R sc sa n) {pr : Nat} {pl : Int32} {Q : jv_R → Prop} : ∀ d p (I : Nat → Nat → Int32), p + d = sc → (∀ I1, (∀ k, p ≤ k → k < sc → I1 (sa k) 3 = 0 ∧ I1 (sa k) 4 = 0) → (∀ q f, ¬ ((∃ k, k < sc ∧ q = sa k) ∧ (f = 3 ∨ f = 4)) → I1 q f = I q f) → (∀ k, k < p → I1 (sa k) = I (sa k)) → jv_Wp 23 58 [(0, .ref 10), (1, .ref pr), (2, .int pl), (3, .int (0 : Int32))] [] (jv_H K I1 L R) n sl Q) → jv_Wp 23 14 [(0, .ref 10), (1, .ref pr), (2, .int pl), (3, .int (vl_I p))] [] (jv_H K I L R) n sl Q := by
  intro d
  induction d with
  | zero =>
    intro p I hp k
    have hp : p = sc := by omega
    subst hp
    have k0 := k I (fun j h1 h2 => absurd h1 (by omega)) (fun _ _ _ => rfl) (fun _ _ => rfl)
    by_cases c : p < 1024
    · exact vc_look1null hC hCs hS.1 c (hS.2.2.1 p c (Nat.lt_irrefl _)) k0
    · have e : p = 1024 := by have := hS.2.1; omega
      exact vc_look1end hC hCs hS.1 (by rw [e]; rfl) k0
  | succ d ih =>
    intro p I hp k
    have hlt : p < sc := by omega
    have h1024 := hS.2.1
    obtain ⟨r1, r2, r3, r4⟩ := hS.2.2.2.1 p hlt
    refine vc_look1go hC hCs hS.1 (by omega) r2 r1 (ih (p + 1) _ (by omega) (fun I1 z1 z2 z3 => k I1 (fun j h1 h2 => ?_) (fun q f hq => ?_) (fun j hj => ?_)))
    · by_cases c : j = p
      · subst c
        rw [z3 j (by omega)]
        exact ⟨(jv_u_j _ _ _ _ (by decide)).trans (jv_u_self _ _ _ _), jv_u_self _ _ _ _⟩
      · exact z1 j (by omega) h2
    · refine (z2 q f hq).trans ?_
      by_cases c : q = sa p
      · subst c
        exact (jv_u_j _ _ _ _ (fun z => hq ⟨⟨p, hlt, rfl⟩, Or.inr z⟩)).trans (jv_u_j _ _ _ _ (fun z => hq ⟨⟨p, hlt, rfl⟩, Or.inl z⟩))
      · exact (jv_u_o _ _ _ _ c).trans (jv_u_o _ _ _ _ c)
    · rw [z3 j (by omega)]
      have d := hS.2.2.2.2 j p (by omega) hlt (by omega)
      funext f
      exact (jv_u_o _ _ _ _ (by omega)).trans (jv_u_o _ _ _ _ (by omega))