/-! part h09: calls against the checker's states (a hand text: this part is the source) -/
section
variable {M : vf_M} {A : vt_A} {w w' : vm_S} {rho : Int → Option Nat} {wn : Nat → BitVec 64} {we wb : Nat → Nat}
/-- an answer that is any number -/
theorem vs_ret {SE AB : Int} {S S' : vm_S} {v : Int64} (h : vs_A SE AB w rho wn we wb A S) (hG : vs_G w' S S') (hQ : ∀ {t : vt_T} {n : BitVec 64} {e : Nat}, ∀ SE AB x, vs_v SE AB w rho t n e x → vs_v SE AB w' rho t n e x) : vs_A SE AB w' rho (vs_u wn 0 v.toBitVec) (vs_u we 0 0) wb (vt_up (vx_clear A) 0 (vt_num vb_any)) (vm_ans S' v) :=
  vs_ans h hG (t := vt_num vb_any) (fun q hq => ⟨vx_clearA.1, vx_clearA.2.1, fun z => Or.inr ⟨vx_clearA.2.2 z, hQ⟩⟩) (vs_num (vb_any_mem _))
theorem vm_gat_le {SE AB : Int} {S : vm_S} {r m n : Nat} {key : Nat → Nat} (hm : m ≤ n) (h : vm_gat SE AB S r n = some key) : vm_gat SE AB S r m = some (fun i => if i < m then key i else 0) := by
  unfold vm_gat at h ⊢
  cases hr : vm_rd S r with
  | none => rw [hr] at h; cases h
  | some a =>
    rw [hr] at h
    letI := Classical.propDecidable (vm_all SE AB S a n)
    letI := Classical.propDecidable (vm_all SE AB S a m)
    have h : (if vm_all SE AB S a n then some (fun i => if i < n then vm_row SE AB S a i else 0) else none) = some key := h
    by_cases c : vm_all SE AB S a n
    · rw [if_pos c] at h
      have e := Option.some.inj h
      show (if vm_all SE AB S a m then some (fun i => if i < m then vm_row SE AB S a i else 0) else none) = _
      have am : vm_all SE AB S a m := fun i hi => c i (by omega)
      rw [if_pos am, ← e]
      congr 1
      funext i
      by_cases y : i < m
      · rw [if_pos y, if_pos y]; exact (if_pos (show i < n by omega)).symm
      · rw [if_neg y, if_neg y]
    · rw [if_neg c] at h; cases h
theorem vm_ent_lt {S : vm_S} {k e : Nat} {key : Nat → Nat} (h : vm_ent S k key = some e) : e < S.2 11 k := by
  unfold vm_ent at h
  by_cases c : S.2 8 k = 0
  · rw [if_pos c] at h
    by_cases d : vm_le key 0 4 < S.2 11 k
    · rw [if_pos d] at h; exact Option.some.inj h ▸ d
    · rw [if_neg d] at h; cases h
  · rw [if_neg c] at h
    by_cases d : vm_look S k key < S.2 11 k
    · rw [if_pos d] at h; exact Option.some.inj h ▸ d
    · rw [if_neg d] at h; cases h
/-- what a call leaves: of both machines -/
abbrev vs_cl (M : vf_M) (i : Int) (p : Nat) (A : vt_A) (w : vm_S) (rho : Int → Option Nat) (wn : Nat → BitVec 64) (we wb : Nat → Nat) : Prop := ∃ w' rho' wn' we', vs_O M w' (vx_call M i p A).2 ∧ ∀ SE AB S, vs_b SE AB → vs_A SE AB w rho wn we wb A S → ∃ T, vm_call SE AB i S = some T ∧ vs_A SE AB w' rho' wn' we' wb (vx_call M i p A).2 T
theorem vs_call5 {p : Nat} (hO : vs_O M w A) : vs_cl M 5 p A w rho wn we wb := by
  obtain ⟨w', hw⟩ : ∃ w' : vm_S, w' = (jv_u w.1 1 0 (w.1 1 0 + 1), w.2) := ⟨_, rfl⟩
  have e2 : w'.2 = w.2 := by rw [hw]
  have ec : vx_call M 5 p A = (0, vt_up (vx_clear A) 0 (vt_num vb_any)) := vx_clp rfl (by decide) (by decide)
  unfold vs_cl
  rw [ec]
  refine ⟨w', rho, vs_u wn 0 (w.1 1 0).toBitVec, vs_u we 0 0, vs_O_w hO (fun c _ => by rw [e2]) hO.2.2.1 (by rw [e2]; exact hO.2.2.2.2.1) (by rw [e2]; exact hO.2.2.2.2.2.1) (by rw [e2]; exact hO.2.2.2.2.2.2), fun SE AB S hb hA => ?_⟩
  have e1 : S.1 1 = w.1 1 := hA.1.2
  refine ⟨vm_ans (jv_u S.1 1 0 (S.1 1 0 + 1), S.2) (S.1 1 0), if_pos rfl, ?_⟩
  rw [e1]
  refine vs_ret hA ⟨funext fun i => by show jv_u S.1 1 0 (w.1 1 0 + 1) 0 i = S.1 0 i; rw [jv_u_at, if_neg (by omega)], ?_, fun _ _ => rfl, fun c hc => ?_⟩ (fun {t n e} => vs_Qk (by rw [e2]) (fun c _ => by rw [e2]) (fun i z => by rw [e2]; exact z))
  · funext i
    rw [hw]
    show jv_u S.1 1 0 (w.1 1 0 + 1) 1 i = jv_u w.1 1 0 (w.1 1 0 + 1) 1 i
    rw [jv_u_at, jv_u_at, e1]
  · rw [e2]; exact hA.1.1 c hc
theorem vm_sh_0 {S : vm_S} {n : Nat} (h : vm_sh S) : vm_sh (S.1, jv_u S.2 0 0 n) := by
  obtain ⟨a1, a2, a3, a4, a5⟩ := h
  obtain ⟨T, hT⟩ : ∃ T : vm_S, T = (S.1, jv_u S.2 0 0 n) := ⟨_, rfl⟩
  have e : ∀ c i, c ≠ 0 → T.2 c i = S.2 c i := fun c i z => by rw [hT]; exact jv_u_o _ _ _ _ z
  have e0 : ∀ i, i ≠ 0 → T.2 0 i = S.2 0 i := fun i z => by rw [hT]; show jv_u S.2 0 0 n 0 i = _; rw [jv_u_at, if_neg (fun y => z y.2)]
  have ec : vm_cnt T = vm_cnt S := e0 1 (by decide)
  rw [← hT]
  have eb : ∀ k, vm_bg T k = vm_bg S k := fun k => by
    induction k with
    | zero => rfl
    | succ k ih =>
      show vm_bg T k + vm_szof T k = vm_bg S k + vm_szof S k
      unfold vm_szof
      rw [ih, e 8 k (by decide), e 10 k (by decide), e 11 k (by decide)]
  refine ⟨by rw [ec]; exact a1, fun k hk => ?_, fun k hk => ?_, by rw [ec, eb]; exact a4, by rw [ec, eb, e0 2 (by decide)]; exact a5⟩
  · rw [e 8 k (by decide), e 9 k (by decide), e 10 k (by decide), e 11 k (by decide)]; rw [ec] at hk; exact a2 k hk
  · rw [e 12 k (by decide), eb]; rw [ec] at hk; exact a3 k hk
theorem vs_call6 {p : Nat} (hO : vs_O M w A) (h : vx_allowed M A 6 = 0) : vs_cl M 6 p A w rho wn we wb := by
  have ec : vx_call M 6 p A = (0, vt_up (vx_clear ((vx_drop A (fun t => decide (t.sort = 4) || decide (t.sort = 5))).1, 0)) 0 (vt_num vb_any)) := vx_cl6 h
  unfold vs_cl
  rw [ec]
  rw [vx_al6] at h
  have s0 : (A.1 1).sort ≠ 0 := fun z => by rw [if_pos z] at h; exact absurd h (by decide)
  rw [if_neg s0] at h
  have s2 : (A.1 1).sort = 2 ∧ (A.1 1).det = 0 := Classical.byContradiction fun z => by rw [if_neg z] at h; exact absurd h (by decide)
  rw [if_pos s2] at h
  have n2 := vx_isnum0 (by decide) h
  have hi : ∀ SE AB S, vs_A SE AB w rho wn we wb A S → vm_rd S 1 = some (S.1 0 1) ∧ (S.1 0 1).toInt = 1073745920 ∧ vm_rd S 2 = some (S.1 0 2) ∧ (S.1 0 2).toBitVec = wn 2 := fun SE AB S hA => by
    have x1 := vs_rd hA (r := 1) (by decide) s0
    have x2 := vs_rd hA (r := 2) (by decide) (by rw [n2]; decide)
    refine ⟨x1.1, ?_, x2.1, (x2.2.1 n2).1⟩
    show (S.1 0 1).toBitVec.toInt = _
    rw [x1.2.2.1 s2.1, s2.2, BitVec.toInt_ofInt]; exact vi_bm (by decide) (by decide)
  obtain ⟨q, hq⟩ : ∃ q, q = vx_drop A (fun t => decide (t.sort = 4) || decide (t.sort = 5)) := ⟨_, rfl⟩
  rw [← hq]
  obtain ⟨w', hw⟩ : ∃ w' : vm_S, w' = if 0 ≤ (wn 2).toInt ∧ (wn 2).toInt ≤ vm_size w then (w.1, jv_u w.2 0 0 (wn 2).toInt.toNat) else w := ⟨_, rfl⟩
  have e1 : ∀ c, c ≠ 0 → w'.2 c = w.2 c := fun c z => by rw [hw]; split; exact funext fun i => jv_u_o _ _ _ _ z; rfl
  have e0 : vm_cnt w' = vm_cnt w := by
    rw [hw]; split
    · show jv_u w.2 0 0 (wn 2).toInt.toNat 0 1 = _; rw [jv_u_at, if_neg (by omega)]
    · rfl
  have es : vm_size w' ≤ vm_size w := by
    rw [hw]; split
    · show jv_u w.2 0 0 (wn 2).toInt.toNat 0 0 ≤ _; rw [jv_u_at, if_pos ⟨rfl, rfl⟩]; omega
    · exact Nat.le_refl _
  have hsh : vm_sh w' := by
    rw [hw]; split
    · exact vm_sh_0 hO.1
    · exact hO.1
  have hQ : ∀ {t : vt_T} {n : BitVec 64} {e : Nat}, t.sort ≠ 5 → ∀ SE AB x, vs_v SE AB w rho t n e x → vs_v SE AB w' rho t n e x := fun {t n e} s5 SE AB x y => by
    obtain ⟨y1, y2, y3, y4, y5, y6, y7, y8, y9⟩ := y
    refine ⟨y1, y2, y3, y4, fun z => absurd z s5, y6, fun z => ?_, fun z => ?_, y9⟩
    · have u := y7 z
      unfold vs_ent vm_at at u ⊢
      rw [e0, e1 8 (by decide), e1 11 (by decide), e1 7 (by decide), e1 10 (by decide), e1 12 (by decide)]; exact u
    · have u := y8 z
      unfold vs_ent vm_at at u ⊢
      rw [e0, e1 8 (by decide), e1 11 (by decide), e1 7 (by decide), e1 10 (by decide), e1 12 (by decide)]; exact u
  obtain ⟨o1, o2, o3, o4, o5, o6, o7⟩ := hO
  obtain ⟨ok, hok⟩ : ∃ ok : Prop, ok = (0 ≤ (wn 2).toInt ∧ (wn 2).toInt ≤ vm_size w) := ⟨_, rfl⟩
  refine ⟨w', rho, vs_u wn 0 (if 0 ≤ (wn 2).toInt ∧ (wn 2).toInt ≤ vm_size w then (0 : Int64) else -22).toBitVec, vs_u we 0 0, ⟨hsh, by omega, Int.natCast_nonneg _, fun k => by rw [e0, e1 8 (by decide), e1 9 (by decide), e1 10 (by decide)]; exact o4 k, by rw [e1 4 (by decide)]; exact o5, by rw [e1 5 (by decide)]; exact o6, by rw [e1 6 (by decide)]; exact o7⟩, fun SE AB S hb hA => ?_⟩
  obtain ⟨x1, x2, x3, x4⟩ := hi SE AB S hA
  have x4 : (S.1 0 2).toInt = (wn 2).toInt := by show (S.1 0 2).toBitVec.toInt = _; rw [x4]
  have zs : vm_size S = vm_size w := vs_size hA.1
  have fin : ∀ S' v, vs_G w' S S' → vs_A SE AB w' rho (vs_u wn 0 v.toBitVec) (vs_u we 0 0) wb (vt_up (vx_clear (q.1, 0)) 0 (vt_num vb_any)) (vm_ans S' v) := fun S' v hG => by
    refine vs_ans hA hG (t := vt_num vb_any) (fun r hr => ⟨vx_clearA.1, vx_clearA.2.1, fun z => ?_⟩) (vs_num (vb_any_mem _))
    rw [vx_clearA.2.2 z]
    show vs_Q w w' rho rho (A.1 r) (wn r) (we r) (q.1 r)
    rw [hq]
    have dA := vx_dropA (A := A) (f := fun t => decide (t.sort = 4) || decide (t.sort = 5)) hr
    by_cases c : (A.1 r).sort = 4 ∨ (A.1 r).sort = 5
    · exact Or.inl (dA.1 (by rcases c with c | c <;> simp [c]))
    · exact Or.inr ⟨dA.2 (by simp; omega), hQ (fun z => c (Or.inr z))⟩
  have hv : vm_call SE AB 6 S = if 0 ≤ (S.1 0 2).toInt ∧ (S.1 0 2).toInt ≤ vm_size S then some (vm_ans (S.1, jv_u S.2 0 0 (S.1 0 2).toInt.toNat) 0) else some (vm_ans S (-22)) := by
    unfold vm_call
    rw [if_neg (by decide), if_pos rfl, x1, x3]
    exact if_pos x2
  rw [hv, x4, zs]
  by_cases c : 0 ≤ (wn 2).toInt ∧ (wn 2).toInt ≤ vm_size w
  · rw [if_pos c, if_pos c]
    rw [if_pos c] at hw
    refine ⟨_, rfl, fin _ _ ⟨rfl, by rw [hw]; exact hA.1.2, fun c hc => funext fun i => jv_u_o _ _ _ _ (by omega), fun c hc => ?_⟩⟩
    rw [hw]; funext i
    show jv_u S.2 0 0 (wn 2).toInt.toNat c i = jv_u w.2 0 0 (wn 2).toInt.toNat c i
    rw [jv_u_at, jv_u_at, hA.1.1 c hc]
  · rw [if_neg c, if_neg c]
    rw [if_neg c] at hw
    refine ⟨_, rfl, fin _ _ ?_⟩
    rw [hw]; exact vs_G0 hA.1
end
