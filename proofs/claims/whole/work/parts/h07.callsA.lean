/-! part h07: calls (a hand text: this part is the source) -/
/-- what maps make rests on what both machines share -/
abbrev vs_eqS (w S : vm_S) : Prop := ∀ c, ¬ (1 ≤ c ∧ c ≤ 3) → S.2 c = w.2 c
theorem vs_entS {w S : vm_S} (h : vs_eqS w S) (k : Nat) (key : Nat → Nat) : vm_ent S k key = vm_ent w k key := by
  unfold vm_ent vm_look vm_has
  rw [h 8 (by omega), h 9 (by omega), h 11 (by omega), h 13 (by omega), h 14 (by omega)]
theorem vs_freeS {w S : vm_S} (h : vs_eqS w S) (k : Nat) : vm_free S k = vm_free w k := by
  unfold vm_free; rw [h 11 (by omega), h 13 (by omega)]
/-- S' is S with what maps made of the world: w' -/
def vs_G (w' S S' : vm_S) : Prop := S'.1 0 = S.1 0 ∧ S'.1 1 = w'.1 1 ∧ (∀ c, 1 ≤ c ∧ c ≤ 3 → S'.2 c = S.2 c) ∧ ∀ c, ¬ (1 ≤ c ∧ c ≤ 3) → S'.2 c = w'.2 c
theorem vs_G0 {w S : vm_S} (h : vs_W w S) : vs_G w S S := ⟨rfl, h.2, fun _ _ => rfl, h.1⟩
theorem vs_Gu {w S S' : vm_S} {d k x : Nat} (hd : 4 ≤ d) (h : vs_G w S S') : vs_G (w.1, jv_u w.2 d k x) S (S'.1, jv_u S'.2 d k x) := by
  obtain ⟨a, b, c, e⟩ := h
  refine ⟨a, b, fun q hq => ?_, fun q hq => ?_⟩
  · rw [← c q hq]; funext i; exact jv_u_o _ _ _ _ (by omega)
  · funext i
    show jv_u S'.2 d k x q i = jv_u w.2 d k x q i
    rw [jv_u_at, jv_u_at, e q hq]
theorem vs_Gw {w S S' : vm_S} {d k n : Nat} {f : Nat → Nat} (hd : 4 ≤ d) (h : vs_G w S S') : vs_G (w.1, vm_wr w.2 d k n f) S (S'.1, vm_wr S'.2 d k n f) := by
  obtain ⟨a, b, c, e⟩ := h
  refine ⟨a, b, fun q hq => ?_, fun q hq => ?_⟩
  · rw [← c q hq]; funext i; exact vm_wr_o (fun z => by omega)
  · funext i
    show vm_wr S'.2 d k n f q i = vm_wr w.2 d k n f q i
    unfold vm_wr; rw [e q hq]
theorem vs_Gr {w S S' : vm_S} {d b len c : Nat} {f : Nat → Nat} (hd : 4 ≤ d) (h : vs_G w S S') : ∀ n, vs_G (w.1, vm_ring w.2 d b len c f n) S (S'.1, vm_ring S'.2 d b len c f n)
  | 0 => h
  | n + 1 => vs_Gu hd (vs_Gr hd h n)
theorem vs_GS {w S S' : vm_S} (h : vs_G w S S') : vs_eqS w S' := h.2.2.2
theorem vs_writeG {w S S' : vm_S} (h : vs_G w S S') (k e : Nat) (val : Nat → Nat) : vs_G (vm_write w k e val) S (vm_write S' k e val) := by
  have z := vs_GS h
  unfold vm_write vm_at
  rw [z 12 (by omega), z 10 (by omega)]
  exact vs_Gw (by decide) h
theorem vs_takeG {w S S' : vm_S} (h : vs_G w S S') (k e : Nat) (key : Nat → Nat) : vs_G (vm_take w k e key) S (vm_take S' k e key) := by
  have z := vs_GS h
  unfold vm_take
  rw [z 9 (by omega)]
  exact vs_Gw (w := (w.1, jv_u w.2 13 (4096 * k + e) 1)) (S' := (S'.1, jv_u S'.2 13 (4096 * k + e) 1)) (by decide) (vs_Gu (by decide) h)
theorem vs_updG {w S S' : vm_S} (h : vs_G w S S') (k : Nat) (key val : Nat → Nat) (fl : Int) : (vm_upd S' k key val fl).1 = (vm_upd w k key val fl).1 ∧ vs_G (vm_upd w k key val fl).2 S (vm_upd S' k key val fl).2 := by
  have z := vs_GS h
  unfold vm_upd
  by_cases c1 : fl < 0 ∨ 2 < fl
  · rw [if_pos c1, if_pos c1]; exact ⟨rfl, h⟩
  rw [if_neg c1, if_neg c1, vs_entS z]
  cases vm_ent w k key with
  | some e =>
    dsimp only
    by_cases c2 : fl = 1
    · rw [if_pos c2, if_pos c2]; exact ⟨rfl, h⟩
    · rw [if_neg c2, if_neg c2]; exact ⟨rfl, vs_writeG h k e val⟩
  | none =>
    dsimp only
    rw [z 8 (by omega), z 11 (by omega), vs_freeS z]
    by_cases c2 : w.2 8 k = 0
    · rw [if_pos c2, if_pos c2]; exact ⟨rfl, h⟩
    rw [if_neg c2, if_neg c2]
    by_cases c3 : fl = 2
    · rw [if_pos c3, if_pos c3]; exact ⟨rfl, h⟩
    rw [if_neg c3, if_neg c3]
    by_cases c4 : vm_free w k < w.2 11 k
    · rw [if_pos c4, if_pos c4]; exact ⟨rfl, vs_writeG (vs_takeG h k _ key) k _ val⟩
    · rw [if_neg c4, if_neg c4]; exact ⟨rfl, h⟩
theorem vs_dropG {w S S' : vm_S} (h : vs_G w S S') (k : Nat) (key : Nat → Nat) : (vm_drop S' k key).1 = (vm_drop w k key).1 ∧ vs_G (vm_drop w k key).2 S (vm_drop S' k key).2 := by
  have z := vs_GS h
  unfold vm_drop
  rw [vs_entS z]
  cases vm_ent w k key with
  | some e => exact ⟨rfl, vs_Gu (by decide) h⟩
  | none => exact ⟨rfl, h⟩
theorem vs_sendG {w S S' : vm_S} (h : vs_G w S S') (k : Nat) (data : Nat → Nat) (n : Nat) : (vm_send S' k data n).1 = (vm_send w k data n).1 ∧ vs_G (vm_send w k data n).2 S (vm_send S' k data n).2 := by
  have z := vs_GS h
  unfold vm_send
  rw [z 18 (by omega), z 11 (by omega), z 15 (by omega), z 16 (by omega), z 12 (by omega), z 17 (by omega)]
  by_cases c1 : w.2 18 k = 1
  · rw [if_pos c1, if_pos c1]; exact ⟨rfl, h⟩
  rw [if_neg c1, if_neg c1]
  by_cases c2 : w.2 11 k < w.2 15 k - w.2 16 k + (8 + vm_fill n)
  · rw [if_pos c2, if_pos c2]; exact ⟨rfl, h⟩
  rw [if_neg c2, if_neg c2]
  refine ⟨rfl, ?_⟩
  exact vs_Gu (w := (w.1, jv_u (vm_ring w.2 6 (w.2 12 k) (w.2 11 k) (w.2 15 k) (vm_rec n (w.2 17 k) data) (8 + vm_fill n)) 15 k (w.2 15 k + (8 + vm_fill n)))) (S' := (S'.1, jv_u (vm_ring S'.2 6 (w.2 12 k) (w.2 11 k) (w.2 15 k) (vm_rec n (w.2 17 k) data) (8 + vm_fill n)) 15 k (w.2 15 k + (8 + vm_fill n)))) (by decide) (vs_Gu (w := (w.1, vm_ring w.2 6 (w.2 12 k) (w.2 11 k) (w.2 15 k) (vm_rec n (w.2 17 k) data) (8 + vm_fill n))) (S' := (S'.1, vm_ring S'.2 6 (w.2 12 k) (w.2 11 k) (w.2 15 k) (vm_rec n (w.2 17 k) data) (8 + vm_fill n))) (by decide) (vs_Gr (by decide) h _))
/-- what goes over a call: of another world -/
def vs_Q (w w' : vm_S) (rho rho' : Int → Option Nat) (t : vt_T) (n : BitVec 64) (e : Nat) (t' : vt_T) : Prop :=
  t' = vt_none 0 ∨ (t' = t ∧ ∀ SE AB x, vs_v SE AB w rho t n e x → vs_v SE AB w' rho' t n e x)
theorem vs_ans {SE AB : Int} {w w' : vm_S} {rho rho' : Int → Option Nat} {wn : Nat → BitVec 64} {we wb : Nat → Nat} {A A' : vt_A} {S S' : vm_S} {t : vt_T} {n : BitVec 64} {e : Nat} {v : Int64} (h : vs_A SE AB w rho wn we wb A S) (hG : vs_G w' S S') (hA : ∀ q, q < 75 → (q = 0 → A'.1 q = t) ∧ (1 ≤ q ∧ q ≤ 5 → A'.1 q = vt_none 0) ∧ (6 ≤ q → vs_Q w w' rho rho' (A.1 q) (wn q) (we q) (A'.1 q))) (hv : vs_v SE AB w' rho' t n e v.toBitVec) : vs_A SE AB w' rho' (vs_u wn 0 n) (vs_u we 0 e) wb A' (vm_ans S' v) := by
  obtain ⟨h1, h2, h3, h4, h5⟩ := h
  obtain ⟨g1, g2, g3, g4⟩ := hG
  have e1 : ∀ c i, c ≠ 1 → (vm_ans S' v).2 c i = S'.2 c i := fun c i z => by
    show jv_u (fun c i => if c = 1 ∧ 1 ≤ i ∧ i ≤ 5 then 0 else S'.2 c i) 1 0 1 c i = _
    rw [jv_u_o _ _ _ _ z]; exact if_neg (fun y => z y.1)
  have q0 : ∀ {q}, vs_Q w w' rho rho' (A.1 q) (wn q) (we q) (A'.1 q) → (A'.1 q).sort ≠ 0 → (A.1 q).sort ≠ 0 ∧ A'.1 q = A.1 q ∧ ∀ SE AB x, vs_v SE AB w rho (A.1 q) (wn q) (we q) x → vs_v SE AB w' rho' (A.1 q) (wn q) (we q) x := fun hq hn => by
    rcases hq with z | ⟨z, y⟩
    · rw [z] at hn; exact absurd rfl hn
    · exact ⟨z ▸ hn, z, y⟩
  refine ⟨⟨fun c hc => ?_, ?_⟩, fun r hr hn => ?_, fun s hs hn => ?_, fun s hs hn i hi hb => ?_, fun k hk hw => ?_⟩
  · rw [← g4 c hc]; funext i; exact e1 c i (by omega)
  · rw [← g2]; funext i; exact jv_u_o S'.1 0 i v (show 1 ≠ 0 by decide)
  · have z := hA r (by omega)
    by_cases r0 : r = 0
    · subst r0
      rw [z.1 rfl]
      refine ⟨show jv_u (fun c i => if c = 1 ∧ 1 ≤ i ∧ i ≤ 5 then 0 else S'.2 c i) 1 0 1 1 0 = 1 from jv_u_self _ _ _ _, ?_⟩
      show vs_v SE AB w' rho' t (if 0 = 0 then n else _) (if 0 = 0 then e else _) (jv_u S'.1 0 0 v 0 0).toBitVec
      rw [jv_u_self]; exact hv
    · by_cases r5 : r ≤ 5
      · rw [z.2.1 ⟨by omega, r5⟩] at hn; exact absurd rfl hn
      · obtain ⟨y1, y2, y3⟩ := q0 (z.2.2 (by omega)) hn
        have x := h2 r hr y1
        show jv_u (fun c i => if c = 1 ∧ 1 ≤ i ∧ i ≤ 5 then 0 else S'.2 c i) 1 0 1 1 r = 1 ∧ vs_v SE AB w' rho' (A'.1 r) (if r = 0 then n else wn r) (if r = 0 then e else we r) (jv_u S'.1 0 0 v 0 r).toBitVec
        rw [jv_u_j _ _ _ _ r0, jv_u_j _ _ _ _ r0, if_neg r0, if_neg r0, y2, g1, if_neg (by omega), g3 1 (by omega)]
        exact ⟨x.1, y3 SE AB _ x.2⟩
  · have z := (hA (11 + s) (by omega)).2.2 (by omega)
    obtain ⟨y1, y2, y3⟩ := q0 z hn
    have x := h3 s hs y1
    have e2 : (vm_ans S' v).2 2 = S.2 2 := by rw [← g3 2 (by omega)]; funext i; exact e1 2 i (by decide)
    show (∀ i, i < 8 → (vm_ans S' v).2 3 (8 * s + i) = 1) ∧ vs_v SE AB w' rho' (A'.1 (11 + s)) (if 11 + s = 0 then n else wn (11 + s)) (if 11 + s = 0 then e else we (11 + s)) _
    rw [if_neg (by omega), if_neg (by omega), e2, y2]
    exact ⟨fun i hi => by rw [e1 3 _ (by decide), g3 3 (by omega)]; exact x.1 i hi, y3 SE AB _ x.2⟩
  · have z := (hA (11 + s) (by omega)).2.2 (by omega)
    rw [e1 3 _ (by decide), e1 2 _ (by decide), g3 3 (by omega), g3 2 (by omega)]
    rcases z with y | ⟨y, _⟩
    · rw [y] at hb
      have hb : (0 : Nat).testBit i = true := hb
      rw [Nat.zero_testBit] at hb; cases hb
    · rw [y] at hn hb; exact h4 s hs hn i hi hb
  · rw [e1 2 _ (by decide), g3 2 (by omega)]
    rw [e1 3 _ (by decide), g3 3 (by omega)] at hw
    exact h5 k hk hw
/-- bytes that a register tells: of both machines the same -/
theorem vs_tells {M : vf_M} {A : vt_A} {w : vm_S} {rho : Int → Option Nat} {wn : Nat → BitVec 64} {we wb : Nat → Nat} (hO : vs_O M w A) {r n : Nat} (hr : r < 11) (hn0 : 0 < n) (hn : n ≤ 256) (h : vx_tells M A r n = 0) : ∃ key : Nat → Nat, (∀ i, key i < 256) ∧ ∀ SE AB S, vs_b SE AB → vs_A SE AB w rho wn we wb A S → vm_gat SE AB S r n = some key := by
  obtain ⟨o1, o2, o3, o4, o5, o6, o7⟩ := hO
  obtain ⟨t, ht⟩ : ∃ t, t = A.1 r := ⟨_, rfl⟩
  have hun : vx_tells M A r n = (if t.sort = 0 then 1 else if t.sort = 4 then (if 0 ≤ t.val.least.toInt ∧ t.val.greatest.toInt + n ≤ A.2 then 0 else 4) else if t.sort = 7 then (if 0 ≤ t.val.least.toInt ∧ t.val.greatest.toInt + n ≤ (M.value t.det : Int) then 0 else 4) else if t.sort = 3 then (if t.det < -512 ∨ -(n : Int) < t.det then 4 else if vx_nums A t.det n = true then 0 else 5) else 3) := by rw [ht]; rfl
  rw [hun] at h
  have s0 : t.sort ≠ 0 := fun z => by rw [if_pos z] at h; exact absurd h (by decide)
  rw [if_neg s0] at h
  -- bytes B from k behind c on
  have fin : ∀ (B : Nat → Nat), (∀ i, i < n → B i < 256) → (∀ SE AB S, vs_b SE AB → vs_A SE AB w rho wn we wb A S → ∀ i, i < n → vm_get SE AB S (vm_nx (S.1 0 r) i) = some (B i)) → ∃ key : Nat → Nat, (∀ i, key i < 256) ∧ ∀ SE AB S, vs_b SE AB → vs_A SE AB w rho wn we wb A S → vm_gat SE AB S r n = some key := fun B hB hg => by
    refine ⟨fun i => if i < n then B i else 0, fun i => by show (if i < n then B i else 0) < 256; split; exact hB i (by assumption); decide, fun SE AB S hb hA => ?_⟩
    have rd := (vs_rd hA hr (ht ▸ s0)).1
    show (vm_rd S r).bind _ = _
    rw [rd]
    have g := hg SE AB S hb hA
    have al : vm_all SE AB S (S.1 0 r) n := fun i hi => ⟨B i, g i hi⟩
    letI := Classical.propDecidable (vm_all SE AB S (S.1 0 r) n)
    show (if vm_all SE AB S (S.1 0 r) n then some (fun i => if i < n then vm_row SE AB S (S.1 0 r) i else 0) else none) = _
    rw [if_pos al]
    congr 1
    funext i
    by_cases c : i < n
    · rw [if_pos c, if_pos c]
      show (vm_get SE AB S (vm_nx (S.1 0 r) i)).getD 0 = _
      rw [g i c]; rfl
    · rw [if_neg c, if_neg c]
  have val : ∀ SE AB S, vs_A SE AB w rho wn we wb A S → vs_v SE AB w rho t (wn r) (we r) (S.1 0 r).toBitVec := fun SE AB S hA => by
    have z := (vs_rd hA hr (ht ▸ s0)).2
    rw [← ht] at z; exact z
  by_cases s4 : t.sort = 4
  · rw [if_pos s4] at h
    have r1 : 0 ≤ t.val.least.toInt ∧ t.val.greatest.toInt + n ≤ A.2 := Classical.byContradiction fun z => by rw [if_neg z] at h; exact absurd h (by decide)
    obtain ⟨k, hk⟩ : ∃ k : Nat, k = (wn r).toInt.toNat := ⟨_, rfl⟩
    by_cases hne : ∃ SE AB S, vs_b SE AB ∧ vs_A SE AB w rho wn we wb A S
    · obtain ⟨SE0, AB0, S0, hb0, hA0⟩ := hne
      have m := ((val SE0 AB0 S0 hA0).2.2.2.1 s4).1
      have m1 := m.2.2.2.1; have m2 := m.2.2.2.2
      refine fin (fun i => w.2 4 (k + i)) (fun i hi => o5 _ (by omega)) (fun SE AB S hb hA i hi => ?_)
      have ad := vs_adrn (c := 1073741824) (o := 0) (k := k) ((val SE AB S hA).2.2.2.1 s4).2 (by omega)
      have ad : S.1 0 r = vm_a 1073741824 k := by
        have z : S.1 0 r + vm_i 0 = S.1 0 r := Int64.toBitVec_inj.mp (by rw [Int64.toBitVec_add]; exact BitVec.add_zero _)
        rw [← z]; exact ad
      rw [ad, vm_nx_a, vm_get_p hb (by rw [vs_size hA.1]; omega) (by rw [vs_size hA.1]; exact o2), hA.1.1 4 (by omega)]
    · exact ⟨fun _ => 0, fun _ => (by decide : (0 : Nat) < 256), fun SE AB S hb hA => absurd ⟨SE, AB, S, hb, hA⟩ hne⟩
  rw [if_neg s4] at h
  by_cases s7 : t.sort = 7
  · rw [if_pos s7] at h
    have r1 : 0 ≤ t.val.least.toInt ∧ t.val.greatest.toInt + n ≤ (M.value t.det : Int) := Classical.byContradiction fun z => by rw [if_neg z] at h; exact absurd h (by decide)
    by_cases hne : ∃ SE AB S, vs_b SE AB ∧ vs_A SE AB w rho wn we wb A S
    · obtain ⟨SE0, AB0, S0, hb0, hA0⟩ := hne
      obtain ⟨m, he, _⟩ := (val SE0 AB0 S0 hA0).2.2.2.2.2.2.1 s7
      have m1 := m.2.2.2.1; have m2 := m.2.2.2.2
      have hM : M.value t.det ≤ w.2 10 t.det.toNat := vs_val o4 _
      have hin := vm_at_in o1 he.2.1 he.2.2.1 he.2.2.2.1
      have hff := vm_fill_ge (w.2 10 t.det.toNat)
      obtain ⟨j, hj⟩ : ∃ j : Nat, j = (wn r).toInt.toNat := ⟨_, rfl⟩
      refine fin (fun i => w.2 6 (vm_at w t.det.toNat (we r) + j + i)) (fun i hi => o7 _ (by omega)) (fun SE AB S hb hA i hi => ?_)
      have x := ((val SE AB S hA).2.2.2.2.2.2.1 s7).2.2
      have ad := vs_adri (c := AB) (o := 0) (q := vm_at w t.det.toNat (we r)) (j := j) x (by omega)
      have ad : S.1 0 r = vm_a AB (vm_at w t.det.toNat (we r) + j) := by
        have z : S.1 0 r + vm_i 0 = S.1 0 r := Int64.toBitVec_inj.mp (by rw [Int64.toBitVec_add]; exact BitVec.add_zero _)
        rw [← z]; exact ad
      rw [ad, vm_nx_a, vm_get_a hb (by omega) ((vs_led hA.1 _).mpr ⟨t.det.toNat, we r, he.2.1, he.2.2.1, he.2.2.2.1, by omega, by omega, he.2.2.2.2⟩) (by rw [vs_size hA.1]; exact o2), hA.1.1 6 (by omega)]
    · exact ⟨fun _ => 0, fun _ => (by decide : (0 : Nat) < 256), fun SE AB S hb hA => absurd ⟨SE, AB, S, hb, hA⟩ hne⟩
  rw [if_neg s7] at h
  by_cases s3 : t.sort = 3
  · rw [if_pos s3] at h
    have r1 : ¬ (t.det < -512 ∨ -(n : Int) < t.det) := fun z => by rw [if_pos z] at h; exact absurd h (by decide)
    rw [if_neg r1] at h
    have cn : vx_nums A t.det n = true := Classical.byContradiction fun z => by rw [if_neg z] at h; exact absurd h (by decide)
    obtain ⟨k, hk⟩ : ∃ k : Nat, k = (t.det + 512).toNat := ⟨_, rfl⟩
    have bits : ∀ i, i < n → (vt_wr (A.1 (11 + (k + i) / 8))).testBit ((k + i) % 8) = true := fun i hi => by rw [hk]; exact vx_nums_bit cn (by omega) (by omega) hi
    by_cases hne : ∃ SE AB S, vs_b SE AB ∧ vs_A SE AB w rho wn we wb A S
    · obtain ⟨SE0, AB0, S0, hb0, hA0⟩ := hne
      refine fin (fun i => vs_sb A wn wb (k + i)) (fun i hi => by have z := vs_stk hA0 (k := k + i) (by omega) (bits i hi); rw [← z.2.1]; exact z.2.2) (fun SE AB S hb hA i hi => ?_)
      have z := vs_stk hA (k := k + i) (by omega) (bits i hi)
      have ad := vs_adr (c := SE - 512) (o := 0) (k := k) ((val SE AB S hA).2.2.1 s3) (by omega)
      have ad : S.1 0 r = vm_a (SE - 512) k := by
        have z : S.1 0 r + vm_i 0 = S.1 0 r := Int64.toBitVec_inj.mp (by rw [Int64.toBitVec_add]; exact BitVec.add_zero _)
        rw [← z]; exact ad
      rw [ad, vm_nx_a, vm_get_s hb (by omega) z.1, z.2.1]
    · exact ⟨fun _ => 0, fun _ => (by decide : (0 : Nat) < 256), fun SE AB S hb hA => absurd ⟨SE, AB, S, hb, hA⟩ hne⟩
  · rw [if_neg s3] at h; exact absurd h (by decide)
