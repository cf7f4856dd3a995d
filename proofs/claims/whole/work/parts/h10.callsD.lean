/-! part h10: calls on maps against the checker's states (a hand text: this part is the source) -/
section
variable {M : vf_M} {A : vt_A} {w w' : vm_S} {rho : Int → Option Nat} {wn : Nat → BitVec 64} {we wb : Nat → Nat}
theorem vs_bs {α β : Type} (a : α) (f : α → Option β) : (some a).bind f = f a := rfl
theorem vs_ms {α β : Type} (a : α) (f : α → β) : (some a).map f = some (f a) := rfl
/-- sizes of keys and values that the checker knows -/
theorem vs_kv {i : Int} (hO : vs_O M w A) (h : vx_ismap M A i = 0) : M.key (A.1 1).det = w.2 9 (A.1 1).det.toNat ∧ M.value (A.1 1).det = w.2 10 (A.1 1).det.toNat := by
  unfold vf_M.key vf_M.value
  rw [(vs_some hO h).2]; exact ⟨rfl, rfl⟩
theorem vs_kvb {k : Nat} (hO : vs_O M w A) (hk : k < vm_cnt w) (h2 : w.2 8 k ≠ 2) : 0 < w.2 9 k ∧ w.2 9 k ≤ 256 ∧ 0 < w.2 10 k ∧ w.2 10 k ≤ 256 := by
  rcases hO.1.2.1 k hk with z | ⟨z, a, b, _, _, c, d⟩
  · exact absurd z.1 h2
  · rcases Nat.lt_or_ge (w.2 8 k) 1 with y | y
    · have := c (by omega); omega
    · have := d (by omega); omega
theorem vs_callp {p i : Int} {p' : Nat} (hO : vs_O M w A) (h : vx_allowed M A i = 0) (h1 : i ≠ 1) (h6 : i ≠ 6) {w' : vm_S} (hK : vs_K w w') {v : Int64} (hc : ∀ SE AB S, vs_b SE AB → vs_A SE AB w rho wn we wb A S → ∃ S', vm_call SE AB i S = some (vm_ans S' v) ∧ vs_G w' S S') : vs_cl M i p' A w rho wn we wb := by
  unfold vs_cl
  rw [vx_clp h h1 h6]
  refine ⟨w', rho, vs_u wn 0 v.toBitVec, vs_u we 0 0, vs_KO hK hO hO.2.2.1, fun SE AB S hb hA => ?_⟩
  obtain ⟨S', hS, hG⟩ := hc SE AB S hb hA
  exact ⟨_, hS, vs_ret hA hG (vs_KQ hK)⟩
theorem vs_call2 {p : Nat} (hO : vs_O M w A) (gA : vt_gA A) (h : vx_allowed M A 2 = 0) : vs_cl M 2 p A w rho wn we wb := by
  have h0 := h
  rw [vx_al2] at h
  obtain ⟨m1, h⟩ := vs_then0 h
  obtain ⟨m2, h⟩ := vs_then0 h
  obtain ⟨m3, h⟩ := vs_then0 h
  have n4 := vx_isnum0 (by decide) h
  obtain ⟨s6, d0, hk, _, _, k2, hm⟩ := vs_ismap (rho := rho) (wn := wn) (we := we) (wb := wb) hO gA m1
  have k2 := k2 (by decide) (by decide)
  obtain ⟨ek, ev⟩ := vs_kv hO m1
  obtain ⟨b1, b2, b3, b4⟩ := vs_kvb hO hk k2
  rw [ek] at m2; rw [ev] at m3
  obtain ⟨k, hke⟩ : ∃ k, k = (A.1 1).det.toNat := ⟨_, rfl⟩
  rw [← hke] at m2 m3 b1 b2 b3 b4 k2 hk hm
  obtain ⟨key, _, gk⟩ := vs_tells (rho := rho) (wn := wn) (we := we) (wb := wb) hO (r := 2) (by decide) b1 b2 m2
  obtain ⟨val, vl, gv⟩ := vs_tells (rho := rho) (wn := wn) (we := we) (wb := wb) hO (r := 3) (by decide) b3 b4 m3
  obtain ⟨fl, hfl⟩ : ∃ fl : Int, fl = (Int64.ofBitVec (wn 4)).toInt32.toInt := ⟨_, rfl⟩
  refine vs_callp (p := 0) hO h0 (by decide) (by decide) (w' := (vm_upd w k key val fl).2) (vs_Kupd vl) (v := vm_i (vm_upd w k key val fl).1) (fun SE AB S hb hA => ?_)
  have x4 := vs_rd hA (r := 4) (by decide) (by rw [n4]; decide)
  have e4 : (S.1 0 4).toInt32.toInt = fl := by rw [hfl, ← (x4.2.1 n4).1]; rfl
  have u := vs_updG (vs_G0 hA.1) k key val fl
  refine ⟨(vm_upd S k key val fl).2, ?_, u.2⟩
  unfold vm_call
  rw [if_neg (by decide), if_neg (by decide), hm SE AB S hA, vs_bs, if_neg (by decide), if_pos rfl, hA.1.1 8 (by omega), if_neg k2, hA.1.1 9 (by omega), hA.1.1 10 (by omega), gk SE AB S hb hA, vs_bs, gv SE AB S hb hA, vs_bs, x4.1, vs_ms, e4, u.1]
theorem vs_call3 {p : Nat} (hO : vs_O M w A) (gA : vt_gA A) (h : vx_allowed M A 3 = 0) : vs_cl M 3 p A w rho wn we wb := by
  have h0 := h
  rw [vx_al3] at h
  obtain ⟨m1, m2⟩ := vs_then0 h
  obtain ⟨s6, d0, hk, _, k1, _, hm⟩ := vs_ismap (rho := rho) (wn := wn) (we := we) (wb := wb) hO gA m1
  have k1 := k1 rfl
  obtain ⟨ek, ev⟩ := vs_kv hO m1
  obtain ⟨b1, b2, b3, b4⟩ := vs_kvb hO hk (by rw [k1]; decide)
  rw [ek] at m2
  obtain ⟨k, hke⟩ : ∃ k, k = (A.1 1).det.toNat := ⟨_, rfl⟩
  rw [← hke] at m2 b1 b2 b3 b4 k1 hk hm
  obtain ⟨key, _, gk⟩ := vs_tells (rho := rho) (wn := wn) (we := we) (wb := wb) hO (r := 2) (by decide) b1 b2 m2
  refine vs_callp (p := 0) hO h0 (by decide) (by decide) (w' := (vm_drop w k key).2) vs_Kdrop (v := vm_i (vm_drop w k key).1) (fun SE AB S hb hA => ?_)
  have u := vs_dropG (vs_G0 hA.1) k key
  refine ⟨(vm_drop S k key).2, ?_, u.2⟩
  unfold vm_call
  rw [if_neg (by decide), if_neg (by decide), hm SE AB S hA, vs_bs, if_neg (by decide), if_neg (by decide), if_pos rfl, hA.1.1 8 (by omega), if_pos k1, hA.1.1 9 (by omega), gk SE AB S hb hA, vs_ms, u.1]
theorem vs_call4 {p : Nat} (hO : vs_O M w A) (gA : vt_gA A) (h : vx_allowed M A 4 = 0) : vs_cl M 4 p A w rho wn we wb := by
  have h0 := h
  rw [vx_al4] at h
  obtain ⟨m1, h⟩ := vs_then0 h
  obtain ⟨m2, h⟩ := vs_then0 h
  obtain ⟨m3, m4⟩ := vs_then0 h
  have n3 := vx_isnum0 (by decide) m2
  have m3 : ¬ ((A.1 3).val.least.toInt < 1 ∨ 256 < (A.1 3).val.greatest.toInt) := fun z => by rw [if_pos z] at m3; exact absurd m3 (by decide)
  obtain ⟨s6, d0, hk, k2, _, _, hm⟩ := vs_ismap (rho := rho) (wn := wn) (we := we) (wb := wb) hO gA m1
  have k2 := k2 rfl
  obtain ⟨k, hke⟩ : ∃ k, k = (A.1 1).det.toNat := ⟨_, rfl⟩
  rw [← hke] at k2 hk hm
  obtain ⟨n, hn⟩ : ∃ n, n = (wn 3).toInt.toNat := ⟨_, rfl⟩
  by_cases hne : ∃ SE AB S, vs_b SE AB ∧ vs_A SE AB w rho wn we wb A S
  · obtain ⟨SE0, AB0, S0, hb0, hA0⟩ := hne
    have y := (vs_rd hA0 (r := 3) (by decide) (by rw [n3]; decide)).2.1 n3
    have y1 := y.2.2.2.2.1; have y2 := y.2.2.2.2.2
    obtain ⟨key, lk, gk⟩ := vs_tells (rho := rho) (wn := wn) (we := we) (wb := wb) hO (r := 2) (by decide) (by omega) (by omega) m4
    refine vs_callp (p := 0) hO h0 (by decide) (by decide) (w' := (vm_send w k (fun i => if i < n then key i else 0) n).2) (vs_Ksend (fun j => by show (if j < n then key j else 0) < 256; split; exact lk j; decide)) (v := vm_i (vm_send w k (fun i => if i < n then key i else 0) n).1) (fun SE AB S hb hA => ?_)
    have x3 := vs_rd hA (r := 3) (by decide) (by rw [n3]; decide)
    have e3 : (S.1 0 3).toInt = (wn 3).toInt := by rw [← (x3.2.1 n3).1]; rfl
    have u := vs_sendG (vs_G0 hA.1) k (fun i => if i < n then key i else 0) n
    refine ⟨(vm_send S k (fun i => if i < n then key i else 0) n).2, ?_, u.2⟩
    unfold vm_call
    rw [if_neg (by decide), if_neg (by decide), hm SE AB S hA, vs_bs, if_neg (by decide), if_neg (by decide), if_neg (by decide), if_pos rfl, hA.1.1 8 (by omega), if_pos k2, x3.1, vs_bs, e3, if_pos (by omega), ← hn, vm_gat_le (m := n) (by omega) (gk SE AB S hb hA), vs_ms, u.1]
  · exact vs_callp (p := 0) hO h0 (by decide) (by decide) (vs_K0 w) (v := 0) (fun SE AB S hb hA => absurd ⟨SE, AB, S, hb, hA⟩ hne)
/-- what a call that looks an entry up leaves, and answers -/
def vs_fw (w : vm_S) (k : Nat) : Option Nat → vm_S
  | none => w
  | some e => if w.2 8 k = 0 then w else (w.1, jv_u w.2 7 (4096 * k + e) 1)
def vs_fv (AB : Int) (w : vm_S) (k : Nat) : Option Nat → Int64
  | none => 0
  | some e => vm_i (AB + vm_at w k e)
theorem vs_fws {w : vm_S} {k e : Nat} : vs_fw w k (some e) = if w.2 8 k = 0 then w else (w.1, jv_u w.2 7 (4096 * k + e) 1) := rfl
theorem vs_fvs {AB : Int} {w : vm_S} {k e : Nat} : vs_fv AB w k (some e) = vm_i (AB + vm_at w k e) := rfl
theorem vs_call1 {p : Nat} (hO : vs_O M w A) (gA : vt_gA A) (h : vx_allowed M A 1 = 0) : vs_cl M 1 p A w rho wn we wb := by
  have ec := vx_cl1 (p := p) h
  unfold vs_cl
  rw [ec]
  rw [vx_al1] at h
  obtain ⟨m1, m2⟩ := vs_then0 h
  obtain ⟨s6, d0, hk, _, _, k2, hm⟩ := vs_ismap (rho := rho) (wn := wn) (we := we) (wb := wb) hO gA m1
  have k2 := k2 (by decide) (by decide)
  obtain ⟨ek, ev⟩ := vs_kv hO m1
  obtain ⟨b1, b2, b3, b4⟩ := vs_kvb hO hk k2
  rw [ek] at m2
  obtain ⟨k, hke⟩ : ∃ k, k = (A.1 1).det.toNat := ⟨_, rfl⟩
  rw [← hke] at m2 b1 b2 b3 b4 k2 hk hm
  obtain ⟨key, _, gk⟩ := vs_tells (rho := rho) (wn := wn) (we := we) (wb := wb) hO (r := 2) (by decide) b1 b2 m2
  obtain ⟨en, hen⟩ : ∃ en, en = vm_ent w k key := ⟨_, rfl⟩
  obtain ⟨w', hw⟩ : ∃ w' : vm_S, w' = vs_fw w k en := ⟨_, rfl⟩
  obtain ⟨rho', hr⟩ : ∃ rho' : Int → Option Nat, rho' = fun t => if t = (p : Int) then en else rho t := ⟨_, rfl⟩
  have eo : ∀ c, c ≠ 7 → w'.2 c = w.2 c := fun c z => by
    rw [hw]; clear hw hr hen; cases en with
    | none => rfl
    | some e => rw [vs_fws]; split; rfl; exact funext fun i => jv_u_o _ _ _ _ z
  have e1 : w'.1 = w.1 := by
    rw [hw]; clear hw hr hen; cases en with
    | none => rfl
    | some e => rw [vs_fws]; split <;> rfl
  have e7 : ∀ i, w.2 7 i = 1 → w'.2 7 i = 1 := fun i z => by
    rw [hw]; clear hw hr hen; cases en with
    | none => exact z
    | some e =>
      rw [vs_fws]; split
      · exact z
      · show jv_u w.2 7 (4096 * k + e) 1 7 i = 1
        rw [jv_u_at]; split
        · rfl
        · exact z
  have hK : vs_K w w' := ⟨e1, fun c _ _ z => eo c z, fun i z => by rw [eo 6 (by decide)]; exact z, e7⟩
  obtain ⟨A', hA'⟩ : ∃ A', A' = vx_drop A (fun t => decide (t.sort = 8) && decide (t.org = (p : Int))) := ⟨_, rfl⟩
  rw [← hA']
  have o2 : (vt_up (vx_clear A') 0 (vt_maybe (A.1 1).det p)).2 = A.2 := by rw [hA']; rfl
  refine ⟨w', rho', vs_u wn 0 0, vs_u we 0 0, vs_KO hK hO (by rw [o2]; exact hO.2.2.1), fun SE AB S hb hA => ?_⟩
  obtain ⟨v, hv⟩ : ∃ v : Int64, v = vs_fv AB w k en := ⟨_, rfl⟩
  have hS : ∃ S', vm_call SE AB 1 S = some (vm_ans S' v) ∧ vs_G w' S S' := by
    have eS : vm_ent S k key = en := by rw [hen]; exact vs_entS hA.1.1 k key
    have ea : ∀ e, vm_at S k e = vm_at w k e := fun e => by unfold vm_at; rw [hA.1.1 12 (by omega), hA.1.1 10 (by omega)]
    have hc : vm_call SE AB 1 S = some (vm_ans (vs_fw S k en) (vs_fv AB w k en)) := by
      unfold vm_call
      rw [if_neg (by decide), if_neg (by decide), hm SE AB S hA, vs_bs, if_pos rfl, hA.1.1 8 (by omega), if_neg k2, hA.1.1 9 (by omega), gk SE AB S hb hA, vs_ms, eS]
      clear hw hr hen eS hv
      cases en with
      | none => rfl
      | some e => dsimp only; rw [vs_fws, vs_fvs, ea, hA.1.1 8 (by omega)]
    refine ⟨_, by rw [hc, hv], ?_⟩
    rw [hw]
    clear hw hr hen eS hv hc
    cases en with
    | none => exact vs_G0 hA.1
    | some e =>
      rw [vs_fws, vs_fws, hA.1.1 8 (by omega)]
      by_cases c : w.2 8 k = 0
      · rw [if_pos c, if_pos c]; exact vs_G0 hA.1
      · rw [if_neg c, if_neg c]; exact vs_Gu (by decide) (vs_G0 hA.1)
  obtain ⟨S', hS, hG⟩ := hS
  refine ⟨_, hS, vs_ans hA hG (t := vt_maybe (A.1 1).det p) (fun q hq => ⟨vx_clearA.1, vx_clearA.2.1, fun z => ?_⟩) ?_⟩
  · rw [vx_clearA.2.2 z, hA']
    have dA := vx_dropA (A := A) (f := fun t => decide (t.sort = 8) && decide (t.org = (p : Int))) hq
    by_cases c : (A.1 q).sort = 8 ∧ (A.1 q).org = (p : Int)
    · exact Or.inl (dA.1 (by simp [c.1, c.2]))
    · refine Or.inr ⟨dA.2 (by simp; exact fun a b => c ⟨a, b⟩), fun SE AB x y => ?_⟩
      obtain ⟨y1, y2, y3, y4, y5, y6, y7, y8, y9⟩ := vs_KQ hK SE AB x y
      refine ⟨y1, y2, y3, y4, y5, y6, y7, fun z => ?_, y9⟩
      have u := y8 z
      rw [hr]
      show ((if (A.1 q).org = (p : Int) then en else rho (A.1 q).org) = none → _) ∧ ∀ e', (if (A.1 q).org = (p : Int) then en else rho (A.1 q).org) = some e' → _
      rw [if_neg (fun b => c ⟨z, b⟩)]; exact u
  · have no : ∀ {a : Nat}, a ≠ 8 → (vt_maybe (A.1 1).det p).sort = a → False := fun z y => z (y.symm.trans rfl)
    refine ⟨fun z => (no (by decide) z).elim, fun z => (no (by decide) z).elim, fun z => (no (by decide) z).elim, fun z => (no (by decide) z).elim, fun z => (no (by decide) z).elim, fun z => (no (by decide) z).elim, fun z => (no (by decide) z).elim, fun _ => ?_, Nat.le_refl 8⟩
    rw [hr]
    show ((if (p : Int) = (p : Int) then en else rho p) = none → _) ∧ ∀ e', (if (p : Int) = (p : Int) then en else rho p) = some e' → vs_ent w' (A.1 1).det e' ∧ v.toBitVec = BitVec.ofInt 64 (AB + vm_at w' (A.1 1).det.toNat e')
    rw [if_pos rfl]
    refine ⟨fun z => by rw [hv, z]; rfl, fun e z => ?_⟩
    have lt := vm_ent_lt (hen.symm.trans z)
    refine ⟨⟨d0, ?_, ?_, ?_, ?_⟩, ?_⟩
    · unfold vm_cnt; rw [eo 0 (by decide), ← hke]; exact hk
    · rw [eo 8 (by decide), ← hke]; exact k2
    · rw [eo 11 (by decide), ← hke]; exact lt
    · rw [← hke, eo 8 (by decide)]
      by_cases c : w.2 8 k = 0
      · exact Or.inl c
      · refine Or.inr ?_
        rw [hw, z]
        rw [vs_fws, if_neg c]; exact jv_u_self _ _ _ _
    · rw [hv, z, ← hke]
      show BitVec.ofInt 64 (AB + vm_at w k e) = _
      unfold vm_at; rw [eo 12 (by decide), eo 10 (by decide)]
theorem vs_call {i : Int} {p : Nat} (hO : vs_O M w A) (gA : vt_gA A) (h : (vx_call M i p A).1 = 0) : vs_cl M i p A w rho wn we wb := by
  have h0 : vx_allowed M A i = 0 := Classical.byContradiction fun z => by rw [vx_cl0 z] at h; exact z h
  by_cases c : i < 1 ∨ 6 < i
  · rw [vx_al7 c] at h0; exact absurd h0 (by decide)
  have : i = 1 ∨ i = 2 ∨ i = 3 ∨ i = 4 ∨ i = 5 ∨ i = 6 := by omega
  rcases this with c | c | c | c | c | c <;> subst c
  · exact vs_call1 hO gA h0
  · exact vs_call2 hO gA h0
  · exact vs_call3 hO gA h0
  · exact vs_call4 hO gA h0
  · exact vs_call5 hO
  · exact vs_call6 hO h0
end
