/-! part h08: calls, and every instruction (a hand text: this part is the source) -/
theorem vs_some {M : vf_M} {A : vt_A} {w : vm_S} {i : Int} (hO : vs_O M w A) (h : vx_ismap M A i = 0) : (A.1 1).det.toNat < vm_cnt w ∧ M (A.1 1).det.toNat = some (w.2 8 (A.1 1).det.toNat, w.2 9 (A.1 1).det.toNat, w.2 10 (A.1 1).det.toNat) := by
  unfold vx_ismap at h
  have s0 : (A.1 1).sort ≠ 0 := fun z => by rw [if_pos z] at h; exact absurd h (by decide)
  rw [if_neg s0] at h
  have s6 : (A.1 1).sort = 6 := Classical.byContradiction fun z => by rw [if_neg z] at h; exact absurd h (by decide)
  rw [if_pos s6] at h
  obtain ⟨e, he⟩ : ∃ e, M (A.1 1).det.toNat = some e := by
    cases c : M (A.1 1).det.toNat with
    | none =>
      exfalso
      unfold vf_M.kind at h
      rw [c] at h
      exact absurd (show (8 : Nat) = 0 from h) (by decide)
    | some e => exact ⟨e, rfl⟩
  have z := hO.2.2.2.1 _ _ he
  exact ⟨z.1, by rw [he, z.2]⟩
theorem vs_ismap {M : vf_M} {A : vt_A} {w : vm_S} {rho : Int → Option Nat} {wn : Nat → BitVec 64} {we wb : Nat → Nat} {i : Int} (hO : vs_O M w A) (gA : vt_gA A) (h : vx_ismap M A i = 0) : (A.1 1).sort = 6 ∧ 0 ≤ (A.1 1).det ∧ (A.1 1).det.toNat < vm_cnt w ∧ (i = 4 → w.2 8 (A.1 1).det.toNat = 2) ∧ (i = 3 → w.2 8 (A.1 1).det.toNat = 1) ∧ (i ≠ 4 → i ≠ 3 → w.2 8 (A.1 1).det.toNat ≠ 2) ∧ ∀ SE AB S, vs_A SE AB w rho wn we wb A S → vm_map S = some (A.1 1).det.toNat := by
  have h0 := h
  unfold vx_ismap at h
  have s0 : (A.1 1).sort ≠ 0 := fun z => by rw [if_pos z] at h; exact absurd h (by decide)
  rw [if_neg s0] at h
  have s6 : (A.1 1).sort = 6 := Classical.byContradiction fun z => by rw [if_neg z] at h; exact absurd h (by decide)
  rw [if_pos s6] at h
  have g := (gA.1 1 (by decide)).2.1 (Or.inl s6)
  have hk := (vs_some hO h0).1
  have hM : M.kind (A.1 1).det = some (w.2 8 (A.1 1).det.toNat) := by unfold vf_M.kind; rw [(vs_some hO h0).2]; rfl
  rw [hM] at h
  have h : (if (if i = 4 then w.2 8 (A.1 1).det.toNat = 2 else if i = 3 then w.2 8 (A.1 1).det.toNat = 1 else w.2 8 (A.1 1).det.toNat ≠ 2) then (0 : Nat) else 8) = 0 := h
  have hc : (if i = 4 then w.2 8 (A.1 1).det.toNat = 2 else if i = 3 then w.2 8 (A.1 1).det.toNat = 1 else w.2 8 (A.1 1).det.toNat ≠ 2) := Classical.byContradiction fun z => by rw [if_neg z] at h; exact absurd h (by decide)
  refine ⟨s6, g.1, hk, fun z => by rw [if_pos z] at hc; exact hc, fun z => by rw [if_neg (by omega), if_pos z] at hc; exact hc, fun z z' => by rw [if_neg z, if_neg z'] at hc; exact hc, fun SE AB S hA => ?_⟩
  have x := vs_rd hA (r := 1) (by decide) s0
  have xi : (S.1 0 1).toInt = (A.1 1).det := by
    show (S.1 0 1).toBitVec.toInt = _
    rw [x.2.2.2.2.2.2.1 s6, BitVec.toInt_ofInt]; exact vi_bm (by omega) (by omega)
  unfold vm_map
  rw [x.1]
  show (if 0 ≤ (S.1 0 1).toInt ∧ (S.1 0 1).toInt < vm_cnt S then some (S.1 0 1).toInt.toNat else none) = _
  have ec : vm_cnt S = vm_cnt w := congrFun (hA.1.1 0 (by omega)) 1
  rw [xi, ec, if_pos ⟨g.1, by omega⟩]
theorem vs_then0 {a b : Nat} (h : vx_then a b = 0) : a = 0 ∧ b = 0 := by
  unfold vx_then at h
  by_cases c : a ≠ 0
  · rw [if_pos c] at h; exact absurd h c
  · rw [if_neg c] at h; exact ⟨Classical.not_not.mp c, h⟩
theorem vx_isnum0 {A : vt_A} {r o : Nat} (ho : o ≠ 0) (h : vx_isnum A r o = 0) : (A.1 r).sort = 1 := by
  unfold vx_isnum at h
  by_cases c : (A.1 r).sort = 1
  · exact c
  · rw [if_neg c] at h
    by_cases d : (A.1 r).sort = 0
    · rw [if_pos d] at h; exact absurd h (by decide)
    · rw [if_neg d] at h; exact absurd h ho
/-- things over a call that changes no shapes; what was found stays found -/
theorem vs_Qk {w w' : vm_S} {rho : Int → Option Nat} {t : vt_T} {n : BitVec 64} {e : Nat} (h0 : w'.2 0 = w.2 0) (hw : ∀ c, 8 ≤ c ∧ c ≤ 12 → w'.2 c = w.2 c) (h7 : ∀ i, w.2 7 i = 1 → w'.2 7 i = 1) : ∀ SE AB x, vs_v SE AB w rho t n e x → vs_v SE AB w' rho t n e x := fun SE AB x h => by
  have en : ∀ k j, vs_ent w k j → vs_ent w' k j := fun k j z => by
    unfold vs_ent vm_cnt at *
    rw [h0, hw 8 (by omega), hw 11 (by omega)]
    exact ⟨z.1, z.2.1, z.2.2.1, z.2.2.2.1, z.2.2.2.2.imp id (h7 _)⟩
  have ea : ∀ k j, vm_at w' k j = vm_at w k j := fun k j => by unfold vm_at; rw [hw 10 (by omega), hw 12 (by omega)]
  obtain ⟨x1, x2, x3, x4, x5, x6, x7, x8, x9⟩ := h
  refine ⟨x1, x2, x3, x4, fun z => by have y := x5 z; unfold vm_size at *; rw [h0]; exact y, x6, fun z => ?_, fun z => ?_, x9⟩
  · have y := x7 z; rw [ea]; exact ⟨y.1, en _ _ y.2.1, y.2.2⟩
  · have y := x8 z
    exact ⟨y.1, fun e' he => by have u := y.2 e' he; rw [ea]; exact ⟨en _ _ u.1, u.2⟩⟩
theorem vx_clearA {A : vt_A} {t : vt_T} {q : Nat} : (q = 0 → (vt_up (vx_clear A) 0 t).1 q = t) ∧ (1 ≤ q ∧ q ≤ 5 → (vt_up (vx_clear A) 0 t).1 q = vt_none 0) ∧ (6 ≤ q → (vt_up (vx_clear A) 0 t).1 q = A.1 q) := by
  refine ⟨fun z => if_pos z, fun z => ?_, fun z => ?_⟩
  · show (if q = 0 then t else if 1 ≤ q ∧ q ≤ 5 then vt_none 0 else A.1 q) = _
    rw [if_neg (by omega), if_pos z]
  · show (if q = 0 then t else if 1 ≤ q ∧ q ≤ 5 then vt_none 0 else A.1 q) = _
    rw [if_neg (by omega), if_neg (by omega)]
theorem vx_dropA {A : vt_A} {f : vt_T → Bool} {q : Nat} (hq : q < 75) : (f (A.1 q) = true → (vx_drop A f).1 q = vt_none 0) ∧ (f (A.1 q) = false → (vx_drop A f).1 q = A.1 q) := by
  refine ⟨fun z => if_pos ⟨hq, z⟩, fun z => if_neg (fun y => by rw [z] at y; cases y.2)⟩
theorem vm_ring_lt {A : Nat → Nat → Nat} {r b len c : Nat} {f : Nat → Nat} {q i : Nat} (h : A q i < 256) (hf : ∀ j, f j < 256) : ∀ n, vm_ring A r b len c f n q i < 256
  | 0 => h
  | n + 1 => by
    show jv_u (vm_ring A r b len c f n) r (b + (c + n) % len) (f n) q i < 256
    rw [jv_u_at]; split
    · exact hf n
    · exact vm_ring_lt h hf n
theorem vm_rec_lt {n rc : Nat} {data : Nat → Nat} (hd : ∀ j, data j < 256) (j : Nat) : vm_rec n rc data j < 256 := by
  unfold vm_rec
  split
  · exact Nat.mod_lt _ (by decide)
  · split
    · exact Nat.mod_lt _ (by decide)
    · split
      · exact hd _
      · decide
theorem vm_wr_q {α : Type} {I : Nat → Nat → α} {r a n q i : Nat} {f : Nat → α} (h : q ≠ r) : vm_wr I r a n f q i = I q i := if_neg (fun z => h z.1)
theorem vm_wr_lt {I : Nat → Nat → Nat} {r a n q i : Nat} {f : Nat → Nat} (h : I q i < 256) (hf : ∀ j, f j < 256) : vm_wr I r a n f q i < 256 := by
  unfold vm_wr; split
  · exact hf _
  · exact h
/-- the bytes stay bytes, the shapes stay, over what maps do -/
def vs_K (w w' : vm_S) : Prop := w'.1 = w.1 ∧ (∀ c, c ≤ 12 → c ≠ 6 → c ≠ 7 → w'.2 c = w.2 c) ∧ (∀ i, w.2 6 i < 256 → w'.2 6 i < 256) ∧ ∀ i, w.2 7 i = 1 → w'.2 7 i = 1
theorem vs_K0 (w : vm_S) : vs_K w w := ⟨rfl, fun _ _ _ _ => rfl, fun _ h => h, fun _ h => h⟩
theorem vs_KO {M : vf_M} {w w' : vm_S} {A A' : vt_A} (h : vs_K w w') (hO : vs_O M w A) (hA : A'.2 ≤ vm_size w) : vs_O M w' A' := vs_O_w hO (fun c z => h.2.1 c (by omega) (by omega) (by omega)) hA (fun k hk => by rw [h.2.1 4 (by omega) (by omega) (by omega)]; exact hO.2.2.2.2.1 k hk) (fun k h16 hk => by rw [h.2.1 5 (by omega) (by omega) (by omega)]; exact hO.2.2.2.2.2.1 k h16 hk) (fun k hk => h.2.2.1 k (hO.2.2.2.2.2.2 k hk))
theorem vs_KQ {w w' : vm_S} (h : vs_K w w') {rho : Int → Option Nat} {t : vt_T} {n : BitVec 64} {e : Nat} : ∀ SE AB x, vs_v SE AB w rho t n e x → vs_v SE AB w' rho t n e x := vs_Qk (h.2.1 0 (by omega) (by omega) (by omega)) (fun c z => h.2.1 c (by omega) (by omega) (by omega)) h.2.2.2
theorem vs_Kw {w : vm_S} {k e : Nat} {val : Nat → Nat} (hv : ∀ j, val j < 256) : vs_K w (vm_write w k e val) := by
  have z : ∀ q i, q ≠ 6 → vm_wr w.2 6 (vm_at w k e) (w.2 10 k) val q i = w.2 q i := fun q i h => vm_wr_q h
  exact ⟨rfl, fun c _ h6 _ => funext fun i => z c i h6, fun i h => vm_wr_lt (I := w.2) h hv, fun i h => (z 7 i (by decide)).trans h⟩
theorem vs_Kt (a b c : vm_S) (h1 : vs_K a b) (h2 : vs_K b c) : vs_K a c := ⟨h2.1.trans h1.1, fun q x y z => (h2.2.1 q x y z).trans (h1.2.1 q x y z), fun i h => h2.2.2.1 i (h1.2.2.1 i h), fun i h => h2.2.2.2 i (h1.2.2.2 i h)⟩
theorem vs_Kupd {w : vm_S} {k : Nat} {key val : Nat → Nat} {fl : Int} (hv : ∀ j, val j < 256) : vs_K w (vm_upd w k key val fl).2 := by
  unfold vm_upd
  by_cases c1 : fl < 0 ∨ 2 < fl
  · rw [if_pos c1]; exact vs_K0 w
  rw [if_neg c1]
  cases vm_ent w k key with
  | some e =>
    dsimp only
    by_cases c2 : fl = 1
    · rw [if_pos c2]; exact vs_K0 w
    · rw [if_neg c2]; exact vs_Kw hv
  | none =>
    dsimp only
    by_cases c2 : w.2 8 k = 0
    · rw [if_pos c2]; exact vs_K0 w
    rw [if_neg c2]
    by_cases c3 : fl = 2
    · rw [if_pos c3]; exact vs_K0 w
    rw [if_neg c3]
    by_cases c4 : vm_free w k < w.2 11 k
    · rw [if_pos c4]
      have tk : ∀ q i, q ≠ 13 → q ≠ 14 → (vm_take w k (vm_free w k) key).2 q i = w.2 q i := fun q i a b => (vm_wr_q b).trans (jv_u_o _ _ _ _ a)
      refine vs_Kt w (vm_take w k (vm_free w k) key) _ ⟨rfl, fun c x _ _ => funext fun i => tk c i (by omega) (by omega), fun i h => ?_, fun i h => (tk 7 i (by decide) (by decide)).trans h⟩ (vs_Kw hv)
      rw [tk 6 i (by decide) (by decide)]; exact h
    · rw [if_neg c4]; exact vs_K0 w
theorem vs_Kdrop {w : vm_S} {k : Nat} {key : Nat → Nat} : vs_K w (vm_drop w k key).2 := by
  unfold vm_drop
  cases vm_ent w k key with
  | some e =>
    dsimp only
    have dk : ∀ q i, q ≠ 13 → jv_u w.2 13 (4096 * k + e) 0 q i = w.2 q i := fun q i a => jv_u_o _ _ _ _ a
    refine ⟨rfl, fun c x _ _ => funext fun i => dk c i (by omega), fun i h => ?_, fun i h => (dk 7 i (by decide)).trans h⟩
    show jv_u w.2 13 (4096 * k + e) 0 6 i < 256
    rw [dk 6 i (by decide)]; exact h
  | none => exact vs_K0 w
theorem vs_Ksend {w : vm_S} {k n : Nat} {data : Nat → Nat} (hd : ∀ j, data j < 256) : vs_K w (vm_send w k data n).2 := by
  unfold vm_send
  by_cases c1 : w.2 18 k = 1
  · rw [if_pos c1]; exact vs_K0 w
  rw [if_neg c1]
  by_cases c2 : w.2 11 k < w.2 15 k - w.2 16 k + (8 + vm_fill n)
  · rw [if_pos c2]; exact vs_K0 w
  rw [if_neg c2]
  have ro : ∀ m c i, c ≠ 6 → vm_ring w.2 6 (w.2 12 k) (w.2 11 k) (w.2 15 k) (vm_rec n (w.2 17 k) data) m c i = w.2 c i := fun m => by
    induction m with
    | zero => intro c i _; rfl
    | succ m ih => intro c i hc; exact (jv_u_o _ _ _ _ hc).trans (ih c i hc)
  obtain ⟨G, hG⟩ : ∃ G, G = vm_ring w.2 6 (w.2 12 k) (w.2 11 k) (w.2 15 k) (vm_rec n (w.2 17 k) data) (8 + vm_fill n) := ⟨_, rfl⟩
  have sk : ∀ q i, q ≠ 15 → q ≠ 17 → jv_u (jv_u G 15 k (w.2 15 k + (8 + vm_fill n))) 17 k (w.2 17 k + 1) q i = G q i := fun q i x y => (jv_u_o _ _ _ _ y).trans (jv_u_o _ _ _ _ x)
  show vs_K w (w.1, jv_u (jv_u (vm_ring w.2 6 (w.2 12 k) (w.2 11 k) (w.2 15 k) (vm_rec n (w.2 17 k) data) (8 + vm_fill n)) 15 k (w.2 15 k + (8 + vm_fill n))) 17 k (w.2 17 k + 1))
  rw [← hG]
  have ro : ∀ c i, c ≠ 6 → G c i = w.2 c i := fun c i z => by rw [hG]; exact ro _ c i z
  refine ⟨rfl, fun c x h6 _ => funext fun i => (sk c i (by omega) (by omega)).trans (ro c i h6), fun i h => ?_, fun i h => (sk 7 i (by decide) (by decide)).trans ((ro 7 i (by decide)).trans h)⟩
  show jv_u (jv_u G 15 k (w.2 15 k + (8 + vm_fill n))) 17 k (w.2 17 k + 1) 6 i < 256
  rw [sk 6 i (by decide) (by decide), hG]
  exact vm_ring_lt h (vm_rec_lt hd) _
