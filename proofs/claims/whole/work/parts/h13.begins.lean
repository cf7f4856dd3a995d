/-! part h13: runs begin alike (a hand text: this part is the source) -/
section
variable {M : vf_M} {F : Nat → vf_F} {fst : Nat → Bool} {N : Nat}
/-- a state at the beginning of a run, of a world -/
def vs_B (SE : Int) (w S : vm_S) : Prop := vs_W w S ∧ (S.2 1 1 = 1 ∧ S.1 0 1 = vm_i 1073745920) ∧ (S.2 1 10 = 1 ∧ S.1 0 10 = vm_i SE) ∧ ∀ k, k < 512 → S.2 3 k ≠ 1
/-- what a world is like that a run begins with -/
def vs_w (M : vf_M) (w : vm_S) : Prop := vs_O M w vt_start
theorem vs_start {SE AB : Int} {w S : vm_S} {rho : Int → Option Nat} {wn : Nat → BitVec 64} {we wb : Nat → Nat} (h : vs_B SE w S) : vs_A SE AB w rho wn we wb vt_start S := by
  obtain ⟨h1, h2, h3, h4⟩ := h
  have e1 : vt_start.1 1 = vt_ctx 0 := rfl
  have e10 : vt_start.1 10 = vt_stk 0 := rfl
  have eo : ∀ r, r ≠ 1 → r ≠ 10 → vt_start.1 r = vt_none 0 := fun r a b => by
    show (if r = 1 then vt_ctx 0 else if r = 10 then vt_stk 0 else vt_none 0) = _
    rw [if_neg a, if_neg b]
  have nos : ∀ {t : vt_T} {a b : Nat}, t.sort = a → a ≠ b → t.sort = b → False := fun x y z => y (x.symm.trans z)
  refine ⟨h1, fun r hr hn => ?_, fun s hs hn => ?_, fun s hs hn i hi ht => ?_, fun k hk hw => absurd hw (h4 k hk)⟩
  · by_cases c1 : r = 1
    · subst c1
      rw [e1]
      have s2 : (vt_ctx 0).sort = 2 := rfl
      refine ⟨h2.1, fun z => (nos s2 (by decide) z).elim, fun _ => ?_, fun z => (nos s2 (by decide) z).elim, fun z => (nos s2 (by decide) z).elim, fun z => (nos s2 (by decide) z).elim, fun z => (nos s2 (by decide) z).elim, fun z => (nos s2 (by decide) z).elim, fun z => (nos s2 (by decide) z).elim, by decide⟩
      rw [h2.2]; rfl
    by_cases c2 : r = 10
    · subst c2
      rw [e10]
      have s3 : (vt_stk 0).sort = 3 := rfl
      refine ⟨h3.1, fun z => (nos s3 (by decide) z).elim, fun z => (nos s3 (by decide) z).elim, fun _ => ?_, fun z => (nos s3 (by decide) z).elim, fun z => (nos s3 (by decide) z).elim, fun z => (nos s3 (by decide) z).elim, fun z => (nos s3 (by decide) z).elim, fun z => (nos s3 (by decide) z).elim, by decide⟩
      rw [h3.2]
      show BitVec.ofInt 64 SE = BitVec.ofInt 64 (SE + 0)
      rw [Int.add_zero]
    · rw [eo r c1 c2] at hn; exact absurd rfl hn
  · rw [eo (11 + s) (by omega) (by omega)] at hn; exact absurd rfl hn
  · rw [eo (11 + s) (by omega) (by omega)] at ht
    have ht : (0 : Nat).testBit i = true := ht
    rw [Nat.zero_testBit] at ht; cases ht
theorem vs_begin {st : vz_S} {w : vm_S} {SE1 AB1 : Int} {S1 : vm_S} {SE2 AB2 : Int} {S2 : vm_S} (hC : vs_C M F N fst st) (hw : vs_w M w) (h1 : vs_B SE1 w S1) (h2 : vs_B SE2 w S2) : vs_at M st 0 SE1 AB1 S1 SE2 AB2 S2 := by
  obtain ⟨A, hA, lA⟩ := hC.2.1
  refine ⟨A, w, fun _ => none, fun _ => 0, fun _ => 0, vs_sb vt_start (fun _ => 0) (fun _ => 0), hA, ?_, vs_le lA (vs_start h1), vs_le lA (vs_start h2)⟩
  obtain ⟨o1, o2, o3, o4⟩ := hw
  exact ⟨o1, o2, Int.le_trans lA.2 o3, o4⟩
/-- a run of at most n instructions more: how many it made, the place where it ended, its result (none: no fuel), and what there is then; nothing at all where a breach would be -/
noncomputable def vm_go (SE AB : Int) (F : Nat → vf_F) : Nat → Nat → vm_S → Option (Nat × Nat × Option Int64 × vm_S)
  | 0, p, S => some (0, p, none, S)
  | n + 1, p, S =>
    if ((F p).kind = 5 ∨ (F p).kind = 6) ∧ (F p).code = 149 then (vm_rd S 0).map fun v => (1, p, some v, S)
    else (vm_step SE AB (F p) (F (p + 1)).i p S).bind fun e => (vm_go SE AB F n e.1.toNat e.2).map fun r => (r.1 + 1, r.2)
theorem vs_onp {st : vz_S} {p : Nat} {SE1 AB1 : Int} {S1 : vm_S} {SE2 AB2 : Int} {S2 : vm_S} (hC : vs_C M F N fst st) (h : vs_at M st p SE1 AB1 S1 SE2 AB2 S2) : p < N ∧ fst p = true := by
  obtain ⟨A, w, rho, wn, we, wb, hA, _⟩ := h
  obtain ⟨⟨b, hb⟩, _⟩ := hC
  exact hb.2.2.1 p (by rw [hA]; rfl)
/-- two machines run alike -/
theorem vs_run {st : vz_S} {SE1 AB1 SE2 AB2 : Int} (b1 : vs_b SE1 AB1) (b2 : vs_b SE2 AB2) (hF : vs_F F N fst) (hC : vs_C M F N fst st) : ∀ (n p : Nat) (S1 S2 : vm_S), vs_at M st p SE1 AB1 S1 SE2 AB2 S2 → ∃ m q v T1 T2, vm_go SE1 AB1 F n p S1 = some (m, q, v, T1) ∧ vm_go SE2 AB2 F n p S2 = some (m, q, v, T2) ∧ q < N ∧ fst q = true ∧ (∀ c, ¬ (1 ≤ c ∧ c ≤ 3) → T1.2 c = T2.2 c) ∧ T1.1 1 = T2.1 1
  | 0, p, S1, S2, h => ⟨0, p, none, S1, S2, rfl, rfl, (vs_onp hC h).1, (vs_onp hC h).2, vs_same h⟩
  | n + 1, p, S1, S2, h => by
    by_cases c : ((F p).kind = 5 ∨ (F p).kind = 6) ∧ (F p).code = 149
    · obtain ⟨v, e1, e2⟩ := vs_exits hC h c.1 c.2
      refine ⟨1, p, some v, S1, S2, ?_, ?_, (vs_onp hC h).1, (vs_onp hC h).2, vs_same h⟩
      · unfold vm_go; rw [if_pos c, e1]; rfl
      · unfold vm_go; rw [if_pos c, e2]; rfl
    · obtain ⟨q, U1, U2, hq, hs, e1, e2, h'⟩ := vs_goes b1 b2 hF hC h (fun k z => c ⟨k, z⟩)
      obtain ⟨m, r, v, T1, T2, g1, g2, g3⟩ := vs_run b1 b2 hF hC n q U1 U2 h'
      refine ⟨m + 1, r, v, T1, T2, ?_, ?_, g3⟩
      · unfold vm_go
        rw [if_neg c, e1, vs_bs, Int.toNat_natCast, g1]; rfl
      · unfold vm_go
        rw [if_neg c, e2, vs_bs, Int.toNat_natCast, g2]; rfl
end
