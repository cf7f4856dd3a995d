/-! part h05: reckoning, wide words (a hand text: this part is the source) -/
theorem vs_v1 {SE AB : Int} {w : vm_S} {rho : Int → Option Nat} {t : vt_T} {n : BitVec 64} {e : Nat} {x : BitVec 64} (hs : t.sort = 1) (hx : x = n ∧ vb_mem t.val n) : vs_v SE AB w rho t n e x := ⟨fun _ => hx, fun z => absurd (hs.symm.trans z) (by decide), fun z => absurd (hs.symm.trans z) (by decide), fun z => absurd (hs.symm.trans z) (by decide), fun z => absurd (hs.symm.trans z) (by decide), fun z => absurd (hs.symm.trans z) (by decide), fun z => absurd (hs.symm.trans z) (by decide), fun z => absurd (hs.symm.trans z) (by decide), by rw [hs]; decide⟩
theorem vs_v2 {SE AB : Int} {w : vm_S} {rho : Int → Option Nat} {t : vt_T} {n : BitVec 64} {e : Nat} {x : BitVec 64} (hs : t.sort = 2) (hx : x = BitVec.ofInt 64 (1073745920 + t.det)) : vs_v SE AB w rho t n e x := ⟨fun z => absurd (hs.symm.trans z) (by decide), fun _ => hx, fun z => absurd (hs.symm.trans z) (by decide), fun z => absurd (hs.symm.trans z) (by decide), fun z => absurd (hs.symm.trans z) (by decide), fun z => absurd (hs.symm.trans z) (by decide), fun z => absurd (hs.symm.trans z) (by decide), fun z => absurd (hs.symm.trans z) (by decide), by rw [hs]; decide⟩
theorem vs_v3 {SE AB : Int} {w : vm_S} {rho : Int → Option Nat} {t : vt_T} {n : BitVec 64} {e : Nat} {x : BitVec 64} (hs : t.sort = 3) (hx : x = BitVec.ofInt 64 (SE + t.det)) : vs_v SE AB w rho t n e x := ⟨fun z => absurd (hs.symm.trans z) (by decide), fun z => absurd (hs.symm.trans z) (by decide), fun _ => hx, fun z => absurd (hs.symm.trans z) (by decide), fun z => absurd (hs.symm.trans z) (by decide), fun z => absurd (hs.symm.trans z) (by decide), fun z => absurd (hs.symm.trans z) (by decide), fun z => absurd (hs.symm.trans z) (by decide), by rw [hs]; decide⟩
theorem vs_v4 {SE AB : Int} {w : vm_S} {rho : Int → Option Nat} {t : vt_T} {n : BitVec 64} {e : Nat} {x : BitVec 64} (hs : t.sort = 4) (hx : vb_mem t.val n ∧ x = BitVec.ofInt 64 1073741824 + n) : vs_v SE AB w rho t n e x := ⟨fun z => absurd (hs.symm.trans z) (by decide), fun z => absurd (hs.symm.trans z) (by decide), fun z => absurd (hs.symm.trans z) (by decide), fun _ => hx, fun z => absurd (hs.symm.trans z) (by decide), fun z => absurd (hs.symm.trans z) (by decide), fun z => absurd (hs.symm.trans z) (by decide), fun z => absurd (hs.symm.trans z) (by decide), by rw [hs]; decide⟩
theorem vs_v5 {SE AB : Int} {w : vm_S} {rho : Int → Option Nat} {t : vt_T} {n : BitVec 64} {e : Nat} {x : BitVec 64} (hs : t.sort = 5) (hx : x = BitVec.ofInt 64 (1073741824 + vm_size w)) : vs_v SE AB w rho t n e x := ⟨fun z => absurd (hs.symm.trans z) (by decide), fun z => absurd (hs.symm.trans z) (by decide), fun z => absurd (hs.symm.trans z) (by decide), fun z => absurd (hs.symm.trans z) (by decide), fun _ => hx, fun z => absurd (hs.symm.trans z) (by decide), fun z => absurd (hs.symm.trans z) (by decide), fun z => absurd (hs.symm.trans z) (by decide), by rw [hs]; decide⟩
theorem vs_v6 {SE AB : Int} {w : vm_S} {rho : Int → Option Nat} {t : vt_T} {n : BitVec 64} {e : Nat} {x : BitVec 64} (hs : t.sort = 6) (hx : x = BitVec.ofInt 64 t.det) : vs_v SE AB w rho t n e x := ⟨fun z => absurd (hs.symm.trans z) (by decide), fun z => absurd (hs.symm.trans z) (by decide), fun z => absurd (hs.symm.trans z) (by decide), fun z => absurd (hs.symm.trans z) (by decide), fun z => absurd (hs.symm.trans z) (by decide), fun _ => hx, fun z => absurd (hs.symm.trans z) (by decide), fun z => absurd (hs.symm.trans z) (by decide), by rw [hs]; decide⟩
theorem vs_v7 {SE AB : Int} {w : vm_S} {rho : Int → Option Nat} {t : vt_T} {n : BitVec 64} {e : Nat} {x : BitVec 64} (hs : t.sort = 7) (hx : vb_mem t.val n ∧ vs_ent w t.det e ∧ x = BitVec.ofInt 64 (AB + vm_at w t.det.toNat e) + n) : vs_v SE AB w rho t n e x := ⟨fun z => absurd (hs.symm.trans z) (by decide), fun z => absurd (hs.symm.trans z) (by decide), fun z => absurd (hs.symm.trans z) (by decide), fun z => absurd (hs.symm.trans z) (by decide), fun z => absurd (hs.symm.trans z) (by decide), fun z => absurd (hs.symm.trans z) (by decide), fun _ => hx, fun z => absurd (hs.symm.trans z) (by decide), by rw [hs]; decide⟩
theorem vs_v8 {SE AB : Int} {w : vm_S} {rho : Int → Option Nat} {t : vt_T} {n : BitVec 64} {e : Nat} {x : BitVec 64} (hs : t.sort = 8) (hx : (rho t.org = none → x = 0) ∧ ∀ e', rho t.org = some e' → vs_ent w t.det e' ∧ x = BitVec.ofInt 64 (AB + vm_at w t.det.toNat e')) : vs_v SE AB w rho t n e x := ⟨fun z => absurd (hs.symm.trans z) (by decide), fun z => absurd (hs.symm.trans z) (by decide), fun z => absurd (hs.symm.trans z) (by decide), fun z => absurd (hs.symm.trans z) (by decide), fun z => absurd (hs.symm.trans z) (by decide), fun z => absurd (hs.symm.trans z) (by decide), fun z => absurd (hs.symm.trans z) (by decide), fun _ => hx, by rw [hs]; decide⟩
theorem vx_reckon_11 {f : vf_F} (h : f.n = 11) (x x' y : vb_S) : vx_reckon f x y = vx_reckon f x' y := by
  have n13 : ¬ f.n = 13 := by omega
  have n8 : ¬ f.n = 8 := by omega
  unfold vx_reckon
  rw [if_neg n13, if_neg n13]
  by_cases ho : f.o ≠ 0
  · rw [if_pos ho, if_pos ho]
  · rw [if_neg ho, if_neg ho, if_neg n8, if_neg n8, h]
    have op : ∀ a a' b t, vx_op 11 a b t = vx_op 11 a' b t := fun a a' b t => by unfold vx_op; rw [vb_cOp11, vb_cOp11]
    by_cases k : f.kind = 7
    · rw [if_pos k, if_pos k]; exact op _ _ _ _
    · rw [if_neg k, if_neg k]; unfold vx_op32; rw [op]
theorem vx_reckon_13 {f : vf_F} (h : f.n = 13) (x y y' : vb_S) : vx_reckon f x y = vx_reckon f x y' := by
  unfold vx_reckon; rw [if_pos h, if_pos h]
theorem vx_do_11 {f : vf_F} (h : f.n = 11) (hk : f.kind = 7) (ho : f.o = 0) (x y g : BitVec 64) : vx_do f x y g = y := by rw [vm_do7m hk h, if_pos ho]
theorem vx_do_01 {f : vf_F} (h : f.n = 0 ∨ f.n = 1) (hk : f.kind = 7) (ho : f.o = 0) (x y g : BitVec 64) : vx_do f x y g = if f.n = 0 then x + y else x - y := by
  unfold vx_do
  rw [if_neg (by omega), if_neg (by omega), if_neg (by omega), if_pos hk]
  rcases h with h | h
  · rw [h, if_pos rfl]; exact if_pos (by decide)
  · rw [h, if_neg (by decide)]; unfold vb_op; rw [if_neg (by decide), if_pos (by decide)]
theorem vb_op_01 {k : Nat} (h : k = 0 ∨ k = 1) (x y : BitVec 64) : vb_op (vl_I k) x y 63 = if k = 0 then x + y else x - y := by
  rcases h with h | h
  · subst h; exact if_pos (by decide)
  · subst h; unfold vb_op; rw [if_neg (by decide), if_pos (by decide)]; rfl
/-- a pointer and a number -/
theorem vs_move {k : Nat} (hk : k = 0 ∨ k = 1) {d y : vt_T} (hd : vt_ok d) (hy : vt_ok y) (hr : (vx_move k d y).1 = 0) {w : vm_S} {rho : Int → Option Nat} {dn yn : BitVec 64} {de ye : Nat} : ∃ n e, ∀ SE AB X Y, vs_v SE AB w rho d dn de X → vs_v SE AB w rho y yn ye Y → vs_v SE AB w rho (vx_move k d y).2 n e (if k = 0 then X + Y else X - Y) := by
  obtain ⟨b, hb⟩ : ∃ b, b = if d.sort = 1 then y else d := ⟨_, rfl⟩
  obtain ⟨x, hx⟩ : ∃ x, x = if d.sort = 1 then d else y := ⟨_, rfl⟩
  obtain ⟨bn, hbn⟩ : ∃ bn, bn = if d.sort = 1 then yn else dn := ⟨_, rfl⟩
  obtain ⟨xn, hxn⟩ : ∃ xn, xn = if d.sort = 1 then dn else yn := ⟨_, rfl⟩
  obtain ⟨be, hbe⟩ : ∃ be, be = if d.sort = 1 then ye else de := ⟨_, rfl⟩
  have hun : vx_move k d y = (if x.sort ≠ 1 ∨ (k = 1 ∧ d.sort = 1) then (2, d) else if b.sort = 4 ∨ b.sort = 7 then (if (vx_op k b.val x.val 63).least.toInt < -vx_far ∨ vx_far < (vx_op k b.val x.val 63).greatest.toInt then (2, d) else (0, (b.sort, b.det, -1, vx_op k b.val x.val 63))) else if (b.sort ≠ 2 ∧ b.sort ≠ 3) ∨ x.val.low ≠ x.val.high then (2, d) else (if (if k = 0 then b.det + x.val.low.toInt else b.det - x.val.low.toInt) < -vx_far ∨ vx_far < (if k = 0 then b.det + x.val.low.toInt else b.det - x.val.low.toInt) then (2, d) else (0, (b.sort, (if k = 0 then b.det + x.val.low.toInt else b.det - x.val.low.toInt), -1, vb_any)))) := by rw [hb, hx]; rfl
  rw [hun] at hr ⊢
  have bad : ∀ {t : vt_T}, ((2, t) : Nat × vt_T).1 = 0 → False := fun z => absurd (show (2 : Nat) = 0 from z) (by decide)
  have c1 : ¬ (x.sort ≠ 1 ∨ (k = 1 ∧ d.sort = 1)) := fun z => by rw [if_pos z] at hr; exact bad hr
  rw [if_neg c1] at hr ⊢
  have x1 : x.sort = 1 := Classical.byContradiction fun z => c1 (Or.inl z)
  -- the two values as base and number
  have bx : ∀ SE AB X Y, vs_v SE AB w rho d dn de X → vs_v SE AB w rho y yn ye Y → ∃ V, vs_v SE AB w rho b bn be V ∧ vb_mem x.val xn ∧ (if k = 0 then X + Y else X - Y) = (if k = 0 then V + xn else V - xn) := fun SE AB X Y vX vY => by
    by_cases c : d.sort = 1
    · rw [if_pos c] at hb hx hbn hxn hbe
      have k0 : k = 0 := by rcases hk with z | z; exact z; exact absurd ⟨z, c⟩ (fun t => c1 (Or.inr t))
      have z := vX.1 c
      refine ⟨Y, by rw [hb, hbn, hbe]; exact vY, by rw [hx, hxn]; exact z.2, ?_⟩
      rw [if_pos k0, if_pos k0, z.1, hxn, BitVec.add_comm]
    · rw [if_neg c] at hb hx hbn hxn hbe
      have z := vY.1 (hx ▸ x1)
      refine ⟨X, by rw [hb, hbn, hbe]; exact vX, by rw [hx, hxn]; exact z.2, ?_⟩
      rw [z.1, hxn]
  have okb : vt_ok b := by rw [hb]; split <;> assumption
  by_cases c47 : b.sort = 4 ∨ b.sort = 7
  · rw [if_pos c47] at hr ⊢
    by_cases cf : (vx_op k b.val x.val 63).least.toInt < -vx_far ∨ vx_far < (vx_op k b.val x.val 63).greatest.toInt
    · rw [if_pos cf] at hr; exact (bad hr).elim
    rw [if_neg cf]
    refine ⟨if k = 0 then bn + xn else bn - xn, be, fun SE AB X Y vX vY => ?_⟩
    obtain ⟨V, vb, mx, eV⟩ := bx SE AB X Y vX vY
    rw [eV]
    have mem : ∀ {m}, vb_mem b.val bn → vb_mem (vx_op k b.val x.val 63) (if k = 0 then bn + xn else bn - xn) ∨ m := fun hm => Or.inl (by
      have z := (vx_op_in (n := k) (top := 63) (Or.inl rfl) hm mx).2
      rw [vb_op_01 hk] at z; exact z)
    have ass : ∀ P : BitVec 64, (if k = 0 then P + bn + xn else P + bn - xn) = P + (if k = 0 then bn + xn else bn - xn) := fun P => by
      rcases hk with z | z
      · rw [if_pos z, if_pos z, BitVec.add_assoc]
      · rw [if_neg (by omega), if_neg (by omega), BitVec.sub_eq_add_neg, BitVec.sub_eq_add_neg, BitVec.add_assoc]
    rcases c47 with c | c
    · have z := vb.2.2.2.1 c
      refine vs_v4 (show b.sort = 4 from c) ⟨(mem (m := False) z.1).resolve_right id, ?_⟩
      rw [z.2]; exact ass _
    · have z := vb.2.2.2.2.2.2.1 c
      refine vs_v7 (show b.sort = 7 from c) ⟨(mem (m := False) z.1).resolve_right id, z.2.1, ?_⟩
      rw [z.2.2]; exact ass _
  rw [if_neg c47] at hr ⊢
  have c23 : ¬ ((b.sort ≠ 2 ∧ b.sort ≠ 3) ∨ x.val.low ≠ x.val.high) := fun z => by rw [if_pos z] at hr; exact bad hr
  rw [if_neg c23] at hr ⊢
  obtain ⟨c, hc⟩ : ∃ c : Int, c = if k = 0 then b.det + x.val.low.toInt else b.det - x.val.low.toInt := ⟨_, rfl⟩
  rw [← hc] at hr ⊢
  by_cases cf : c < -vx_far ∨ vx_far < c
  · rw [if_pos cf] at hr; exact (bad hr).elim
  rw [if_neg cf]
  refine ⟨0, 0, fun SE AB X Y vX vY => ?_⟩
  obtain ⟨V, vb, mx, eV⟩ := bx SE AB X Y vX vY
  rw [eV]
  have es : xn = x.val.low := vb_single_mem mx (Classical.byContradiction fun z => c23 (Or.inr z))
  have sum : ∀ P : Int, (if k = 0 then BitVec.ofInt 64 (P + b.det) + xn else BitVec.ofInt 64 (P + b.det) - xn) = BitVec.ofInt 64 (P + c) := fun P => by
    have e : xn = BitVec.ofInt 64 x.val.low.toInt := by rw [es, BitVec.ofInt_toInt]
    rw [hc]
    rcases hk with z | z
    · rw [if_pos z, if_pos z, e, ← BitVec.ofInt_add]; congr 1; omega
    · rw [if_neg (by omega), if_neg (by omega), e, BitVec.sub_eq_add_neg, ← BitVec.ofInt_neg, ← BitVec.ofInt_add]; congr 1; omega
  by_cases c2 : b.sort = 2
  · refine vs_v2 (show b.sort = 2 from c2) ?_
    rw [vb.2.1 c2]; exact sum _
  · have c3 : b.sort = 3 := Classical.byContradiction fun z => c23 (Or.inl ⟨c2, z⟩)
    refine vs_v3 (show b.sort = 3 from c3) ?_
    rw [vb.2.2.1 c3]; exact sum _
theorem vs_arith {f : vf_F} {A : vt_A} {w : vm_S} {rho : Int → Option Nat} {wn : Nat → BitVec 64} {we wb : Nat → Nat} (okA : vt_okA A) (hok : vf_ok f) (har : vf_ar f) (hk : f.kind = 4 ∨ f.kind = 7) (hd : f.d < 11) (hs : f.s < 11) (hr : (vx_arith f A).1 = 0) : ∃ n e, ∀ SE AB S, vs_A SE AB w rho wn we wb A S → ∃ T, vm_arith f S = some T ∧ vs_A SE AB w rho (vs_u wn f.d n) (vs_u we f.d e) wb (vx_arith f A).2 T := by
  obtain ⟨a1, a2, a3, a4, a5⟩ := id har
  obtain ⟨d, hde⟩ : ∃ d, d = A.1 f.d := ⟨_, rfl⟩
  obtain ⟨y, hye⟩ : ∃ y, y = vx_y f A := ⟨_, rfl⟩
  have hun : vx_arith f A = (if (decide (f.n ≠ 11) = true ∧ d.sort = 0) ∨ ((decide (f.n ≠ 8) && decide (f.n ≠ 13)) = true ∧ y.sort = 0) then (1, A) else if f.n = 11 ∧ f.kind = 7 ∧ f.o = 0 then (0, vt_up A f.d y) else if (decide (f.n ≠ 11) = true ∧ d.sort ≠ 1) ∨ ((decide (f.n ≠ 8) && decide (f.n ≠ 13)) = true ∧ y.sort ≠ 1) then (if f.kind = 7 ∧ (f.n = 0 ∨ f.n = 1) then (if (vx_move f.n d y).1 ≠ 0 then ((vx_move f.n d y).1, A) else (0, vt_up A f.d (vx_move f.n d y).2)) else (2, A)) else (0, vt_up A f.d (vt_num (vx_reckon f d.val y.val)))) := by rw [hde, hye]; rfl
  rw [hun] at hr ⊢
  have c1 : ¬ ((decide (f.n ≠ 11) = true ∧ d.sort = 0) ∨ ((decide (f.n ≠ 8) && decide (f.n ≠ 13)) = true ∧ y.sort = 0)) := fun z => by rw [if_pos z] at hr; exact absurd (show (1 : Nat) = 0 from hr) (by decide)
  rw [if_neg c1] at hr ⊢
  have d0 : f.n ≠ 11 → d.sort ≠ 0 := fun z t => c1 (Or.inl ⟨decide_eq_true z, t⟩)
  have y0 : f.n ≠ 8 → f.n ≠ 13 → y.sort ≠ 0 := fun z z' t => c1 (Or.inr ⟨by rw [decide_eq_true z, decide_eq_true z']; rfl, t⟩)
  obtain ⟨yn, hyn⟩ : ∃ yn, yn = if f.bit3 = true then wn f.s else BitVec.ofInt 64 f.i := ⟨_, rfl⟩
  -- what is read
  have rdx : ∀ SE AB S, vs_A SE AB w rho wn we wb A S → f.n ≠ 11 → vm_rd S f.d = some (S.1 0 f.d) ∧ vs_v SE AB w rho d (wn f.d) (we f.d) (S.1 0 f.d).toBitVec := fun SE AB S hA z => by
    have := vs_rd hA hd (hde ▸ d0 z); rw [← hde] at this; exact this
  have rdy : ∀ SE AB S, vs_A SE AB w rho wn we wb A S → f.n ≠ 13 → ∃ Y : Int64, (if f.bit3 = true then vm_rd S f.s else some (vm_i f.i)) = some Y ∧ vs_v SE AB w rho y yn (we f.s) Y.toBitVec := fun SE AB S hA z => by
    by_cases b : f.bit3 = true
    · have n8 : f.n ≠ 8 := fun t => by rw [a2 t] at b; cases b
      have ey : y = A.1 f.s := by rw [hye]; unfold vx_y; rw [if_pos b]
      have := vs_rd hA hs (ey ▸ y0 n8 z)
      rw [hyn, if_pos b, if_pos b, ey]
      exact ⟨_, this⟩
    · have ey : y = vt_num (vx_just f.i) := by rw [hye]; unfold vx_y; rw [if_neg b]
      rw [hyn, if_neg b, if_neg b, ey]
      exact ⟨_, rfl, vs_num (vb_just_mem _)⟩
  have fin : ∀ S x y', (if f.n = 11 then some (0 : Int64) else vm_rd S f.d) = some x → (if f.n = 13 then some (0 : Int64) else if f.bit3 = true then vm_rd S f.s else some (vm_i f.i)) = some y' → vm_arith f S = some (vm_gv S f.d (Int64.ofBitVec (vx_do f x.toBitVec y'.toBitVec (vm_sg f x.toBitVec y'.toBitVec)))) := fun S x y' hx hy => by
    show (if f.n = 11 then some (0 : Int64) else vm_rd S f.d).bind _ = _
    rw [hx]
    show (if f.n = 13 then some (0 : Int64) else if f.bit3 = true then vm_rd S f.s else some (vm_i f.i)).bind _ = _
    rw [hy]; rfl
  by_cases cm : f.n = 11 ∧ f.kind = 7 ∧ f.o = 0
  · rw [if_pos cm]
    refine ⟨yn, we f.s, fun SE AB S hA => ?_⟩
    obtain ⟨Y, eY, vY⟩ := rdy SE AB S hA (by omega)
    refine ⟨_, fin S 0 Y (if_pos cm.1) (by rw [if_neg (by omega)]; exact eY), vs_up hA hd ?_⟩
    rw [vx_do_11 cm.1 cm.2.1 cm.2.2]; exact vY
  rw [if_neg cm] at hr ⊢
  by_cases cp : (decide (f.n ≠ 11) = true ∧ d.sort ≠ 1) ∨ ((decide (f.n ≠ 8) && decide (f.n ≠ 13)) = true ∧ y.sort ≠ 1)
  · rw [if_pos cp] at hr ⊢
    have c7 : f.kind = 7 ∧ (f.n = 0 ∨ f.n = 1) := Classical.byContradiction fun z => by rw [if_neg z] at hr; exact absurd (show (2 : Nat) = 0 from hr) (by decide)
    rw [if_pos c7] at hr ⊢
    have cr : ¬ (vx_move f.n d y).1 ≠ 0 := fun z => by rw [if_pos z] at hr; exact z hr
    rw [if_neg cr]
    have oky : vt_ok y := by rw [hye]; exact vx_y_ok okA (by omega)
    obtain ⟨n, e, hm⟩ := vs_move (w := w) (rho := rho) (dn := wn f.d) (yn := yn) (de := we f.d) (ye := we f.s) c7.2 (hde ▸ okA f.d (by omega)) oky (Classical.not_not.mp cr)
    refine ⟨n, e, fun SE AB S hA => ?_⟩
    have X := rdx SE AB S hA (by omega)
    obtain ⟨Y, eY, vY⟩ := rdy SE AB S hA (by omega)
    refine ⟨_, fin S _ Y (by rw [if_neg (by omega)]; exact X.1) (by rw [if_neg (by omega)]; exact eY), vs_up hA hd ?_⟩
    rw [vx_do_01 c7.2 c7.1 (Classical.byContradiction fun z => by have := a3 (by omega) (by omega) z; omega)]
    exact hm SE AB _ _ X.2 vY
  rw [if_neg cp]
  have d1 : f.n ≠ 11 → d.sort = 1 := fun z => Classical.byContradiction fun t => cp (Or.inl ⟨decide_eq_true z, t⟩)
  have y1 : f.n ≠ 8 → f.n ≠ 13 → y.sort = 1 := fun z z' => Classical.byContradiction fun t => cp (Or.inr ⟨by rw [decide_eq_true z, decide_eq_true z']; rfl, t⟩)
  obtain ⟨xn, hxn⟩ : ∃ xn, xn = if f.n = 11 then (0 : BitVec 64) else wn f.d := ⟨_, rfl⟩
  obtain ⟨zn, hzn⟩ : ∃ zn, zn = if f.n = 13 then (0 : BitVec 64) else yn := ⟨_, rfl⟩
  refine ⟨vx_do f xn zn (vm_sg f xn zn), 0, fun SE AB S hA => ?_⟩
  have hx : ∃ x : Int64, (if f.n = 11 then some (0 : Int64) else vm_rd S f.d) = some x ∧ x.toBitVec = xn ∧ (f.n ≠ 11 → vb_mem d.val xn) := by
    by_cases c : f.n = 11
    · rw [if_pos c] at hxn; rw [if_pos c]; exact ⟨0, rfl, hxn.symm, fun z => absurd c z⟩
    · rw [if_neg c] at hxn; rw [if_neg c]
      have X := rdx SE AB S hA c
      have z := X.2.1 (d1 c)
      exact ⟨_, X.1, by rw [hxn]; exact z.1, fun _ => by rw [hxn]; exact z.2⟩
  have hy : ∃ y' : Int64, (if f.n = 13 then some (0 : Int64) else if f.bit3 = true then vm_rd S f.s else some (vm_i f.i)) = some y' ∧ y'.toBitVec = zn ∧ (f.n ≠ 13 → vb_mem y.val zn) := by
    by_cases c : f.n = 13
    · rw [if_pos c] at hzn; rw [if_pos c]; exact ⟨0, rfl, hzn.symm, fun z => absurd c z⟩
    · rw [if_neg c] at hzn; rw [if_neg c]
      obtain ⟨Y, eY, vY⟩ := rdy SE AB S hA c
      have ys : y.sort = 1 := by
        by_cases c8 : f.n = 8
        · rw [hye]; unfold vx_y; rw [if_neg (by rw [a2 c8]; decide)]; rfl
        · exact y1 c8 c
      have z := vY.1 ys
      exact ⟨Y, eY, by rw [hzn]; exact z.1, fun _ => by rw [hzn]; exact z.2⟩
  obtain ⟨x, ex, tx, mx⟩ := hx
  obtain ⟨y', ey, ty, my⟩ := hy
  refine ⟨_, fin S x y' ex ey, vs_up hA hd ?_⟩
  rw [tx, ty]
  refine vs_num ?_
  by_cases c11 : f.n = 11
  · rw [vx_reckon_11 c11 _ vb_any]
    exact (vx_reckon_in hok hk _ (vb_any_mem _) (my (by omega))).2
  · by_cases c13 : f.n = 13
    · rw [vx_reckon_13 c13 _ _ vb_any]
      exact (vx_reckon_in hok hk _ (mx c11) (vb_any_mem _)).2
    · exact (vx_reckon_in hok hk _ (mx c11) (my c13)).2
theorem vs_wide {M : vf_M} {f : vf_F} {i2 : Int} {A : vt_A} {w : vm_S} {rho : Int → Option Nat} {wn : Nat → BitVec 64} {we wb : Nat → Nat} (hd : f.d < 11) (h1 : f.s ≠ 0 → i2 = 0 ∧ 0 ≤ f.i ∧ f.i < 2147483648) (hr : (vx_wide M f i2 A).1 = 0) : ∃ n e, ∀ SE AB S, vs_A SE AB w rho wn we wb A S → vs_A SE AB w rho (vs_u wn f.d n) (vs_u we f.d e) wb (vx_wide M f i2 A).2 (vm_gv S f.d (vm_i (i2 * 4294967296 + f.i % 4294967296))) := by
  unfold vx_wide at hr ⊢
  by_cases c : f.s = 0
  · rw [if_pos c]
    exact ⟨_, 0, fun SE AB S hA => vs_up hA hd (vs_num (vb_just_mem _))⟩
  · rw [if_neg c] at hr ⊢
    have cm : (M f.i.toNat).isSome = true := Classical.byContradiction fun z => by rw [if_neg z] at hr; exact absurd (show (8 : Nat) = 0 from hr) (by decide)
    rw [if_pos cm]
    obtain ⟨e2, h0, hlt⟩ := h1 c
    refine ⟨0, 0, fun SE AB S hA => vs_up hA hd (vs_v6 (show (6 : Nat) = 6 from rfl) ?_)⟩
    show BitVec.ofInt 64 (i2 * 4294967296 + f.i % 4294967296) = BitVec.ofInt 64 f.i
    congr 1; omega
