/-! part h06: jumps; states that say less (a hand text: this part is the source) -/
/-- what a thing says less of than another: of both machines' numbers alike -/
def vs_R (w : vm_S) (rho rho' : Int → Option Nat) (t : vt_T) (n : BitVec 64) (e : Nat) (t' : vt_T) (n' : BitVec 64) (e' : Nat) : Prop :=
  (t'.sort ≠ 0 → t.sort ≠ 0 ∧ ∀ SE AB x, vs_v SE AB w rho t n e x → vs_v SE AB w rho' t' n' e' x) ∧ (t'.sort = 0 → ∀ i, t'.det.toNat.testBit i = true → (vt_wr t).testBit i = true)
theorem vs_R_refl {w : vm_S} {rho : Int → Option Nat} {t : vt_T} {n : BitVec 64} {e : Nat} : vs_R w rho rho t n e t n e := ⟨fun h => ⟨h, fun _ _ _ z => z⟩, fun h i z => by unfold vt_wr; rw [if_pos h]; exact z⟩
theorem vs_R_none {w : vm_S} {rho rho' : Int → Option Nat} {t : vt_T} {n n' : BitVec 64} {e e' : Nat} : vs_R w rho rho' t n e (vt_none 0) n' e' := ⟨fun h => absurd rfl h, fun _ i z => by
    have z : (0 : Nat).testBit i = true := z
    rw [Nat.zero_testBit] at z; cases z⟩
theorem vs_mono {SE AB : Int} {w : vm_S} {rho rho' : Int → Option Nat} {wn wn' : Nat → BitVec 64} {we we' wb : Nat → Nat} {A A' : vt_A} {S : vm_S} (hR : ∀ q, q < 75 → vs_R w rho rho' (A.1 q) (wn q) (we q) (A'.1 q) (wn' q) (we' q)) (h : vs_A SE AB w rho wn we wb A S) : vs_A SE AB w rho' wn' we' (vs_sb A wn wb) A' S := by
  obtain ⟨h1, h2, h3, h4, h5⟩ := id h
  refine ⟨h1, fun r hr hn => ?_, fun s hs hn => ?_, fun s hs hn i hi hb => ?_, h5⟩
  · have z := (hR r (by omega)).1 hn
    have y := h2 r hr z.1
    exact ⟨y.1, z.2 SE AB _ y.2⟩
  · have z := (hR (11 + s) (by omega)).1 hn
    have y := h3 s hs z.1
    exact ⟨y.1, z.2 SE AB _ y.2⟩
  · have z := (hR (11 + s) (by omega)).2 hn i hb
    have y := vs_stk h (k := 8 * s + i) (by omega) (by rw [show (8 * s + i) / 8 = s by omega, show (8 * s + i) % 8 = i by omega]; exact z)
    exact ⟨y.1, y.2.1⟩
theorem vs_R_le {w : vm_S} {rho : Int → Option Nat} {t u : vt_T} {n : BitVec 64} {e : Nat} (h : vt_le t u) : vs_R w rho rho u n e t n e := by
  rcases h with ⟨h0, hw⟩ | ⟨h0, hs, hd, ho, hv⟩
  · refine ⟨fun z => absurd h0 z, fun _ i hb => ?_⟩
    have e1 : vt_wr t = t.det.toNat := by unfold vt_wr; rw [if_pos h0]
    have z := congrArg (fun x => x.testBit i) hw
    have z : (vt_wr t &&& vt_wr u).testBit i = (vt_wr t).testBit i := z
    rw [Nat.testBit_and, e1, hb, Bool.true_and] at z; exact z
  · refine ⟨fun _ => ⟨by omega, fun SE AB x hx => ?_⟩, fun z => absurd z h0⟩
    obtain ⟨x1, x2, x3, x4, x5, x6, x7, x8, x9⟩ := hx
    refine ⟨fun z => ?_, fun z => ?_, fun z => ?_, fun z => ?_, fun z => x5 (by omega), fun z => ?_, fun z => ?_, fun z => ?_, by omega⟩
    · have y := x1 (by omega); exact ⟨y.1, hv (by rw [z]; rfl) _ y.2⟩
    · rw [hd]; exact x2 (by omega)
    · rw [hd]; exact x3 (by omega)
    · have y := x4 (by omega); exact ⟨hv (by rw [z]; rfl) _ y.1, y.2⟩
    · rw [hd]; exact x6 (by omega)
    · have y := x7 (by omega); rw [hd]; exact ⟨hv (by rw [z]; rfl) _ y.1, y.2⟩
    · have y := x8 (by omega); rw [hd, ho]; exact y
/-- a state within another holds too -/
theorem vs_le {SE AB : Int} {w : vm_S} {rho : Int → Option Nat} {wn : Nat → BitVec 64} {we wb : Nat → Nat} {A A' : vt_A} {S : vm_S} (hl : vt_leA A' A) (h : vs_A SE AB w rho wn we wb A S) : vs_A SE AB w rho wn we (vs_sb A wn wb) A' S := vs_mono (fun q hq => vs_R_le (hl.1 q hq)) h
theorem vb_refine_sound {c : Nat} {x y : vb_S} {n m : BitVec 64} (hx : vb_tight x) (hy : vb_tight y) (hn : vb_mem x n) (hm : vb_mem y m) (h : vb_cmp c n m) : ∃ a b, vb_refine c x y = some (a, b) ∧ vb_mem a n ∧ vb_mem b m := by
  obtain ⟨a, b, hs, ma, mb⟩ := vb_say_sound hn hm h
  obtain ⟨o1, o2⟩ := vb_say_ones hs (vb_tight_ones hx) (vb_tight_ones hy)
  have ca := vb_can_of o1 ma
  have cb := vb_can_of o2 mb
  refine ⟨vb_ctight a, vb_ctight b, ?_, ?_, ?_⟩
  · unfold vb_refine; rw [hs]; exact if_pos ⟨ca, cb⟩
  · have z := vr_tt_mem ma; unfold vb_tt at z; rw [if_pos ca] at z; exact z
  · have z := vr_tt_mem mb; unfold vb_tt at z; rw [if_pos cb] at z; exact z
theorem vb_cmp_not {c : Nat} (hc : c ≤ 11) {n m : BitVec 64} (h : ¬ vb_cmp c n m) : vb_cmp (vb_opp c) n m := by
  have ne : ∀ {a b : BitVec 64}, ¬ a < b → b ≤ a := fun z => BitVec.not_lt.mp z
  have nl : ∀ {a b : BitVec 64}, ¬ a ≤ b → b < a := fun z => BitVec.not_le.mp z
  unfold vb_cmp at h ⊢
  match c, hc with
  | 0, _ => exact h
  | 1, _ => exact Classical.not_not.mp h
  | 2, _ => exact ne h
  | 3, _ => exact nl h
  | 4, _ => exact ne h
  | 5, _ => exact nl h
  | 6, _ => exact Int.not_lt.mp h
  | 7, _ => exact Int.not_le.mp h
  | 8, _ => exact Int.not_lt.mp h
  | 9, _ => exact Int.not_le.mp h
  | 10, _ => exact Classical.not_not.mp h
  | 11, _ => exact h
  | k + 12, z => omega
theorem vm_sx_small {x : BitVec 64} (h0 : 0 ≤ x.toInt) (h1 : x.toInt ≤ 2147483647) : vm_sx x 32 = x := by
  have hn : x.toNat < 2147483648 := by
    have := vm_toNat (Int64.ofBitVec x)
    have e : (Int64.ofBitVec x).toInt = x.toInt := rfl
    have e2 : (Int64.ofBitVec x).toBitVec = x := rfl
    rw [e, e2] at this; omega
  have id := vb_low_id (x := x) (n := 32) (by decide) (by omega)
  unfold vm_sx vb_sext
  rw [if_neg (by decide), id, vb_bit_ge (n := 32) (by decide) (by omega) (by decide), if_neg (by rw [decide_eq_false (by omega)]; decide)]
theorem vx_small_mem {v : vb_S} {n : BitVec 64} (h : vx_small v = true) (m : vb_mem v n) : vm_sx n 32 = n := by
  unfold vx_small at h
  obtain ⟨a, b⟩ := Bool.and_eq_true_iff.mp h
  have a := of_decide_eq_true a; have b := of_decide_eq_true b
  have m1 := m.2.2.2.1; have m2 := m.2.2.2.2
  exact vm_sx_small (by omega) (by omega)
/-- what a jump makes: which way it goes is the same for both machines -/
def vs_jp (M : vf_M) (f : vf_F) (A : vt_A) (w : vm_S) (rho : Int → Option Nat) (wn : Nat → BitVec 64) (we wb : Nat → Nat) : Prop :=
  ∃ (go : Bool) (B : vt_A) (wn' : Nat → BitVec 64) (we' wb' : Nat → Nat), (if go = true then (vx_jump f A).2.2 else (vx_jump f A).2.1) = some B ∧ vs_O M w B ∧
    ∀ SE AB S, vs_b SE AB → vs_A SE AB w rho wn we wb A S → (∀ p, vm_jump f p S = some (if go = true then (p : Int) + 1 + f.o else (p : Int) + 1)) ∧ vs_A SE AB w rho wn' we' wb' B S
theorem vs_jump {M : vf_M} {f : vf_F} {A : vt_A} {w : vm_S} {rho : Int → Option Nat} {wn : Nat → BitVec 64} {we wb : Nat → Nat} (hO : vs_O M w A) (okA : vt_okA A) (gA : vt_gA A) (hk : f.kind = 5 ∨ f.kind = 6) (hi : -2147483648 ≤ f.i ∧ f.i ≤ 2147483647) (hd : f.d < 11) (hs : f.s < 11) (hr : (vx_jump f A).1 = 0) (hne : ∃ SE AB S, vs_b SE AB ∧ vs_A SE AB w rho wn we wb A S) : vs_jp M f A w rho wn we wb := by
  have j1 : ¬ vx_j1 f A := fun z => by rw [vx_jp1 z] at hr; exact absurd (show (1 : Nat) = 0 from hr) (by decide)
  have d0 : (A.1 f.d).sort ≠ 0 := fun z => j1 (Or.inl z)
  have y0 : (vx_y f A).sort ≠ 0 := fun z => j1 (Or.inr z)
  obtain ⟨yn, hyn⟩ : ∃ yn, yn = if f.bit3 = true then wn f.s else BitVec.ofInt 64 f.i := ⟨_, rfl⟩
  have rdx : ∀ SE AB S, vs_A SE AB w rho wn we wb A S → vm_rd S f.d = some (S.1 0 f.d) ∧ vs_v SE AB w rho (A.1 f.d) (wn f.d) (we f.d) (S.1 0 f.d).toBitVec := fun SE AB S hA => vs_rd hA hd d0
  have rdy : ∀ SE AB S, vs_A SE AB w rho wn we wb A S → ∃ Y : Int64, (if f.bit3 = true then vm_rd S f.s else some (vm_i f.i)) = some Y ∧ vs_v SE AB w rho (vx_y f A) yn (we f.s) Y.toBitVec ∧ (f.bit3 = true → Y = S.1 0 f.s) := fun SE AB S hA => by
    by_cases b : f.bit3 = true
    · have ey : vx_y f A = A.1 f.s := by unfold vx_y; rw [if_pos b]
      have := vs_rd hA hs (ey ▸ y0)
      rw [hyn, if_pos b, if_pos b, ey]
      exact ⟨_, this.1, this.2, fun _ => rfl⟩
    · have ey : vx_y f A = vt_num (vx_just f.i) := by unfold vx_y; rw [if_neg b]
      rw [hyn, if_neg b, if_neg b, ey]
      exact ⟨_, rfl, vs_num (vb_just_mem _), fun z => absurd z b⟩
  have run : ∀ S (X Y : Int64), vm_rd S f.d = some X → (if f.bit3 = true then vm_rd S f.s else some (vm_i f.i)) = some Y → ∀ p, vm_jump f p S = some (if vm_so f X.toBitVec Y.toBitVec = true then (p : Int) + 1 + f.o else (p : Int) + 1) := fun S X Y hX hY p => by
    show (vm_rd S f.d).bind _ = _
    rw [hX]
    show (if f.bit3 = true then vm_rd S f.s else some (vm_i f.i)).bind _ = _
    rw [hY]; rfl
  by_cases j2 : vx_j2 f A
  · -- two numbers
    have nX : ∀ SE AB S, vs_A SE AB w rho wn we wb A S → (S.1 0 f.d).toBitVec = wn f.d ∧ vb_mem (A.1 f.d).val (wn f.d) := fun SE AB S hA => (rdx SE AB S hA).2.1 j2.1
    by_cases j3 : (f.bit3 = true ∧ f.d = f.s) ∨ (f.kind ≠ 5 ∧ ¬ (vx_small (A.1 f.d).val = true ∧ vx_small (vx_yv f A) = true))
    · unfold vs_jp
      rw [vx_jp2 j1 j2 j3]
      refine ⟨vm_so f (wn f.d) yn, A, wn, we, wb, by split <;> rfl, hO, fun SE AB S hb hA => ⟨fun p => ?_, hA⟩⟩
      obtain ⟨Y, eY, vY, _⟩ := rdy SE AB S hA
      have z := run S _ Y (rdx SE AB S hA).1 eY p
      rw [(nX SE AB S hA).1, (vY.1 j2.2).1] at z; exact z
    · have e2' := vx_jp2' j1 j2 j3
      have tx : vb_tight (A.1 f.d).val := (okA f.d (by omega)).2.1 (by rw [j2.1]; rfl)
      obtain ⟨SE0, AB0, S0, hb0, hA0⟩ := hne
      have mx := (nX SE0 AB0 S0 hA0).2
      obtain ⟨Y0, eY0, vY0, _⟩ := rdy SE0 AB0 S0 hA0
      have my0 := (vY0.1 j2.2).2
      -- the second number is in what the checker says of it
      have my : vb_tight (vx_yv f A) ∧ (f.kind = 5 ∨ (vx_small (A.1 f.d).val = true ∧ vx_small (vx_yv f A) = true)) ∧ vb_mem (vx_yv f A) yn := by
        have sm : f.kind = 5 ∨ (vx_small (A.1 f.d).val = true ∧ vx_small (vx_yv f A) = true) := by
          by_cases c : f.kind = 5
          · exact Or.inl c
          · exact Or.inr (Classical.byContradiction fun z => j3 (Or.inr ⟨c, z⟩))
        refine ⟨?_, sm, ?_⟩
        · unfold vx_yv
          split
          · exact (vx_y_ok okA (by omega)).2.1 (by rw [j2.2]; rfl)
          · split
            · exact vb_just_tight _
            · exact vb_just_tight _
        · unfold vx_yv at sm ⊢
          by_cases b : f.bit3 = true
          · rw [if_pos b]; exact my0
          · rw [if_neg b] at sm hyn ⊢
            by_cases c : f.kind = 5
            · rw [if_pos c, hyn]; exact vb_just_mem _
            · rw [if_neg c] at sm ⊢
              have s2 := (sm.resolve_left c).2
              unfold vx_small at s2
              have q := of_decide_eq_true (Bool.and_eq_true_iff.mp s2).2
              have q : (BitVec.ofInt 64 (f.i % 4294967296)).toInt ≤ 2147483647 := q
              rw [BitVec.toInt_ofInt, vi_bm (by omega) (by omega)] at q
              rw [hyn, show f.i = f.i % 4294967296 by omega, show f.i % 4294967296 % 4294967296 = f.i % 4294967296 by omega]
              exact vb_just_mem _
      have so_iff : vm_so f (wn f.d) yn = true ↔ vb_cmp (vx_cmp f.n) (wn f.d) yn := by
        rw [vm_so_iff]
        by_cases c : f.kind = 5
        · rw [if_pos c, if_pos c]
        · have sm := my.2.1.resolve_left c
          rw [if_neg c, if_neg c, vx_small_mem sm.1 mx, vx_small_mem sm.2 my.2.2]
      -- a refined state holds
      have fin : ∀ (go : Bool) (c : Nat), vb_cmp c (wn f.d) yn → vm_so f (wn f.d) yn = go → (if go = true then (vb_refine (vx_cmp f.n) (A.1 f.d).val (vx_yv f A)).map (vx_refd f A) else (vb_refine (vb_opp (vx_cmp f.n)) (A.1 f.d).val (vx_yv f A)).map (vx_refd f A)) = (vb_refine c (A.1 f.d).val (vx_yv f A)).map (vx_refd f A) → vs_jp M f A w rho wn we wb := fun go c hc hgo hsel => by
        obtain ⟨a, b, hab, ma, mb⟩ := vb_refine_sound tx my.1 mx my.2.2 hc
        refine ⟨go, vx_refd f A (a, b), wn, we, vs_sb A wn wb, ?_, vs_O_A hO (by unfold vx_refd; split <;> exact hO.2.2.1), fun SE AB S hb hA => ⟨fun p => ?_, vs_mono (fun q hq => ?_) hA⟩⟩
        · rw [e2']; show (if go = true then (vb_refine (vx_cmp f.n) _ _).map _ else (vb_refine (vb_opp (vx_cmp f.n)) _ _).map _) = _
          rw [hsel, hab]; rfl
        · obtain ⟨Y, eY, vY, _⟩ := rdy SE AB S hA
          have z := run S _ Y (rdx SE AB S hA).1 eY p
          rw [(nX SE AB S hA).1, (vY.1 j2.2).1, hgo] at z; exact z
        · have up1 : ∀ {v : vb_S} {m : BitVec 64} {t : vt_T} {e : Nat}, t.sort = 1 → vb_mem v m → vs_R w rho rho t m e (vt_num v) m e := fun ht hm => ⟨fun _ => ⟨by omega, fun SE AB x hx => by rw [(hx.1 ht).1]; exact vs_num hm⟩, fun z => absurd (show (1 : Nat) = 0 from z) (by decide)⟩
          unfold vx_refd
          by_cases b3 : f.bit3 = true
          · rw [if_pos b3]
            have ey : vx_y f A = A.1 f.s := by unfold vx_y; rw [if_pos b3]
            have ds : f.d ≠ f.s := fun z => j3 (Or.inl ⟨b3, z⟩)
            show vs_R w rho rho (A.1 q) (wn q) (we q) (if q = f.s then vt_num b else if q = f.d then vt_num a else A.1 q) (wn q) (we q)
            by_cases q1 : q = f.s
            · rw [if_pos q1, q1]
              rw [hyn, if_pos b3] at mb
              exact up1 (ey ▸ j2.2) mb
            · rw [if_neg q1]
              by_cases q2 : q = f.d
              · rw [if_pos q2, q2]; exact up1 j2.1 ma
              · rw [if_neg q2]; exact vs_R_refl
          · rw [if_neg b3]
            show vs_R w rho rho (A.1 q) (wn q) (we q) (if q = f.d then vt_num a else A.1 q) (wn q) (we q)
            by_cases q2 : q = f.d
            · rw [if_pos q2, q2]; exact up1 j2.1 ma
            · rw [if_neg q2]; exact vs_R_refl
      cases hso : vm_so f (wn f.d) yn with
      | true => exact fin true (vx_cmp f.n) (so_iff.mp hso) hso (if_pos rfl)
      | false => exact fin false (vb_opp (vx_cmp f.n)) (vb_cmp_not ((vx_cmp_le f.n)) (fun z => by rw [so_iff.mpr z] at hso; cases hso)) hso (if_neg (by decide))
  by_cases j3 : vx_j3 f A
  · -- found, or not
    obtain ⟨k5, hn, d8, y1, yl, yh⟩ := j3
    have e3 := vx_jp3 j1 j2 ⟨k5, hn, d8, y1, yl, yh⟩
    obtain ⟨go, hgo⟩ : ∃ go : Bool, go = (if f.n = 1 then (rho (A.1 f.d).org).isNone else (rho (A.1 f.d).org).isSome) := ⟨_, rfl⟩
    obtain ⟨fd, hfd⟩ : ∃ fd : Bool, fd = (rho (A.1 f.d).org).isSome := ⟨_, rfl⟩
    have hsel : (if go = true then (vx_jump f A).2.2 else (vx_jump f A).2.1) = some (vx_settle A (A.1 f.d).org fd) := by
      rw [e3, hgo, hfd]
      rcases hn with n1 | n5
      · rw [n1]; cases rho (A.1 f.d).org <;> rfl
      · rw [n5]; cases rho (A.1 f.d).org <;> rfl
    refine ⟨go, vx_settle A (A.1 f.d).org fd, fun q => if (A.1 q).sort = 8 ∧ (A.1 q).org = (A.1 f.d).org then 0 else wn q, fun q => if (A.1 q).sort = 8 ∧ (A.1 q).org = (A.1 f.d).org then (rho (A.1 f.d).org).getD 0 else we q, vs_sb A wn wb, hsel, vs_O_A hO hO.2.2.1, fun SE AB S hb hA => ⟨fun p => ?_, vs_mono (fun q hq => ?_) hA⟩⟩
    · obtain ⟨Y, eY, vY, _⟩ := rdy SE AB S hA
      have X := rdx SE AB S hA
      have x8 := X.2.2.2.2.2.2.2.2.1 d8
      have yz : Y.toBitVec = 0 := by
        have z := vY.1 y1
        rw [z.1]; exact (vb_single_mem z.2 (by rw [yl, yh])).trans yl
      have z := run S _ Y X.1 eY p
      have eso : vm_so f (S.1 0 f.d).toBitVec Y.toBitVec = go := by
        have nz : ∀ e', rho (A.1 f.d).org = some e' → ¬ (S.1 0 f.d).toBitVec = 0 := fun e' he' h0 => by
          have q := x8.2 e' he'
          have hin := vm_at_in hO.1 q.1.2.1 q.1.2.2.1 q.1.2.2.2.1
          have t := congrArg BitVec.toInt (q.2.symm.trans h0)
          rw [BitVec.toInt_ofInt, vi_bm (by omega) (by omega)] at t
          have t : AB + (vm_at w (A.1 f.d).det.toNat e' : Int) = 0 := t
          omega
        have iff : vm_so f (S.1 0 f.d).toBitVec Y.toBitVec = true ↔ go = true := by
          rw [vm_so_iff, if_pos k5, if_pos k5, yz, hgo]
          rcases hn with n1 | n5
          · rw [n1, if_pos rfl]
            show vb_cmp 0 _ _ ↔ _
            unfold vb_cmp; rw [if_pos rfl]
            cases hrho : rho (A.1 f.d).org with
            | none => exact ⟨fun _ => rfl, fun _ => x8.1 hrho⟩
            | some e' => exact ⟨fun t => absurd t (nz e' hrho), fun t => by cases t⟩
          · rw [n5, if_neg (by decide)]
            show vb_cmp 1 _ _ ↔ _
            unfold vb_cmp; rw [if_neg (by decide), if_pos rfl]
            cases hrho : rho (A.1 f.d).org with
            | none => exact ⟨fun t => absurd (x8.1 hrho) t, fun t => by cases t⟩
            | some e' => exact ⟨fun _ => rfl, fun _ => nz e' hrho⟩
        cases hg : go with
        | true => exact iff.mpr hg
        | false => cases hs' : vm_so f (S.1 0 f.d).toBitVec Y.toBitVec with
          | true => rw [iff.mp hs'] at hg; cases hg
          | false => rfl
      rw [eso] at z; exact z
    · show vs_R w rho rho (A.1 q) (wn q) (we q) (if q < 75 ∧ (A.1 q).sort = 8 ∧ (A.1 q).org = (A.1 f.d).org then (if fd = true then vt_item (A.1 q).det (vb_just 0) else vt_num (vb_just 0)) else A.1 q) (if (A.1 q).sort = 8 ∧ (A.1 q).org = (A.1 f.d).org then 0 else wn q) (if (A.1 q).sort = 8 ∧ (A.1 q).org = (A.1 f.d).org then (rho (A.1 f.d).org).getD 0 else we q)
      by_cases c : (A.1 q).sort = 8 ∧ (A.1 q).org = (A.1 f.d).org
      · rw [if_pos ⟨hq, c⟩, if_pos c, if_pos c, hfd]
        cases hrho : rho (A.1 f.d).org with
        | none =>
          show vs_R w rho rho (A.1 q) (wn q) (we q) (vt_num (vb_just 0)) 0 0
          exact ⟨fun _ => ⟨by omega, fun SE AB x hx => by
            have z := (hx.2.2.2.2.2.2.2.1 c.1).1 (by rw [c.2]; exact hrho)
            rw [z]; exact vs_num (vb_just_mem 0)⟩, fun z => absurd (show (1 : Nat) = 0 from z) (by decide)⟩
        | some e' =>
          show vs_R w rho rho (A.1 q) (wn q) (we q) (vt_item (A.1 q).det (vb_just 0)) 0 e'
          exact ⟨fun _ => ⟨by omega, fun SE AB x hx => by
            have z := (hx.2.2.2.2.2.2.2.1 c.1).2 e' (by rw [c.2]; exact hrho)
            exact vs_v7 (show (7 : Nat) = 7 from rfl) ⟨vb_just_mem 0, z.1, by rw [z.2]; exact (BitVec.add_zero _).symm⟩⟩, fun z => absurd (show (7 : Nat) = 0 from z) (by decide)⟩
      · rw [if_neg (fun z => c z.2), if_neg c, if_neg c]; exact vs_R_refl
  by_cases j4 : vx_j4 f A
  · -- a place of the packet and its end
    obtain ⟨k5, hn, hsort⟩ := j4
    obtain ⟨pf, hpf⟩ : ∃ pf, pf = decide ((A.1 f.d).sort = 4) := ⟨_, rfl⟩
    obtain ⟨v, hv⟩ : ∃ v, v = if pf = true then (A.1 f.d).val else (vx_y f A).val := ⟨_, rfl⟩
    obtain ⟨n, hnn⟩ : ∃ n, n = if pf = true then wn f.d else yn := ⟨_, rfl⟩
    have e4 := vx_jp4 j1 j2 j3 ⟨k5, hn, hsort⟩ hpf hv
    obtain ⟨P, hP⟩ : ∃ P, P = BitVec.ofInt 64 1073741824 + n := ⟨_, rfl⟩
    obtain ⟨E, hE⟩ : ∃ E, E = BitVec.ofInt 64 (1073741824 + (vm_size w : Int)) := ⟨_, rfl⟩
    have vals : ∀ SE AB S, vs_A SE AB w rho wn we wb A S → ∃ Y : Int64, (if f.bit3 = true then vm_rd S f.s else some (vm_i f.i)) = some Y ∧ vb_mem v n ∧ (S.1 0 f.d).toBitVec = (if pf = true then P else E) ∧ Y.toBitVec = (if pf = true then E else P) := fun SE AB S hA => by
      obtain ⟨Y, eY, vY, _⟩ := rdy SE AB S hA
      have X := (rdx SE AB S hA).2
      refine ⟨Y, eY, ?_⟩
      rcases hsort with ⟨a, b⟩ | ⟨a, b⟩
      · have tp : pf = true := by rw [hpf]; exact decide_eq_true a
        rw [if_pos tp] at hv hnn
        have z := X.2.2.2.1 a
        rw [if_pos tp, if_pos tp, hv, hnn, hP, hE, hnn]
        exact ⟨z.1, z.2, vY.2.2.2.2.1 b⟩
      · have tp : ¬ pf = true := by rw [hpf, decide_eq_false (by omega)]; decide
        rw [if_neg tp] at hv hnn
        have z := vY.2.2.2.1 b
        rw [if_neg tp, if_neg tp, hv, hnn, hP, hE, hnn]
        exact ⟨z.1, X.2.2.2.2.1 a, z.2⟩
    obtain ⟨go, hgo⟩ : ∃ go, go = vm_so f (if pf = true then P else E) (if pf = true then E else P) := ⟨_, rfl⟩
    obtain ⟨SE0, AB0, S0, hb0, hA0⟩ := hne
    obtain ⟨_, _, mv, _, _⟩ := vals SE0 AB0 S0 hA0
    have hz := hO.2.1
    have eN : E.toNat = 1073741824 + vm_size w := by
      rw [hE, BitVec.toNat_ofInt, show ((2 ^ 64 : Nat) : Int) = 18446744073709551616 from rfl]; omega
    have so_iff : go = true ↔ vb_cmp (vx_cmp f.n) (if pf = true then P else E) (if pf = true then E else P) := by rw [hgo, vm_so_iff, if_pos k5, if_pos k5]
    -- what is learnt holds
    have known : ((if go = true then (vx_ms f.n pf v A A).2 else (vx_ms f.n pf v A A).1).1 = A.1) ∧ (if go = true then (vx_ms f.n pf v A A).2 else (vx_ms f.n pf v A A).1).2 ≤ vm_size w := by
      have h0 := hO.2.2.1
      by_cases cs : v.low ≠ v.high ∨ v.low.toInt < 0
      · have e : vx_ms f.n pf v A A = (A, A) := by unfold vx_ms; rw [if_pos cs]
        rw [e]; split <;> exact ⟨rfl, h0⟩
      · have lh : v.low = v.high := Classical.byContradiction fun z => cs (Or.inl z)
        have l0 : 0 ≤ v.low.toInt := Int.not_lt.mp fun z => cs (Or.inr z)
        have en : n = v.low := vb_single_mem mv lh
        have lg : v.low.toInt ≤ 536870912 := by
          rcases hsort with ⟨a, b⟩ | ⟨a, b⟩
          · have tp : pf = true := by rw [hpf]; exact decide_eq_true a
            rw [if_pos tp] at hv; rw [hv] at lh ⊢
            exact (gA.1 f.d (by omega)).2.2 a lh
          · have tp : ¬ pf = true := by rw [hpf, decide_eq_false (by omega)]; decide
            rw [if_neg tp] at hv; rw [hv] at lh ⊢
            exact (vx_y_g gA (by omega)).2.2 b lh
        obtain ⟨k, hkk⟩ : ∃ k : Int, k = v.low.toInt := ⟨_, rfl⟩
        have PN : (P.toNat : Int) = 1073741824 + k := by
          have e : P = BitVec.ofInt 64 (1073741824 + k) := by rw [hP, en, BitVec.ofInt_add, hkk, BitVec.ofInt_toInt]
          rw [e, BitVec.toNat_ofInt, show ((2 ^ 64 : Nat) : Int) = 18446744073709551616 from rfl]; omega
        have kn : ∀ j : Int, j ≤ vm_size w → ((vx_know A j).1 = A.1 ∧ (vx_know A j).2 ≤ vm_size w) := fun j hj => ⟨rfl, by
          show (if A.2 < j then j else A.2) ≤ _
          split <;> omega⟩
        have base : A.1 = A.1 ∧ A.2 ≤ vm_size w := ⟨rfl, h0⟩
        have lt1 : P < E ↔ k < vm_size w := by rw [BitVec.lt_def]; omega
        have le1 : P ≤ E ↔ k ≤ vm_size w := by rw [BitVec.le_def]; omega
        have lt2 : E < P ↔ (vm_size w : Int) < k := by rw [BitVec.lt_def]; omega
        have le2 : E ≤ P ↔ (vm_size w : Int) ≤ k := by rw [BitVec.le_def]; omega
        have c2 : ∀ a b : BitVec 64, vb_cmp 2 a b ↔ a < b := fun a b => Iff.rfl
        have c3 : ∀ a b : BitVec 64, vb_cmp 3 a b ↔ a ≤ b := fun a b => Iff.rfl
        have c4 : ∀ a b : BitVec 64, vb_cmp 4 a b ↔ b < a := fun a b => Iff.rfl
        have c5 : ∀ a b : BitVec 64, vb_cmp 5 a b ↔ b ≤ a := fun a b => Iff.rfl
        unfold vx_ms
        rw [if_neg cs, ← hkk]
        cases pf with
        | true =>
          simp only [if_true] at so_iff ⊢
          rcases hn with q | q | q | q <;> rw [q] at so_iff ⊢
          · rw [show vx_cmp 2 = 4 from rfl, c4, lt2] at so_iff
            rw [if_pos (show (2 : Nat) = 2 from rfl)]
            by_cases g : go = true
            · rw [if_pos g]; exact base
            · rw [if_neg g]; exact kn _ (by have := (not_congr so_iff).mp g; omega)
          · rw [show vx_cmp 3 = 5 from rfl, c5, le2] at so_iff
            rw [if_neg (show ¬ (3 : Nat) = 2 by decide), if_pos (show (3 : Nat) = 3 from rfl)]
            by_cases g : go = true
            · rw [if_pos g]; exact base
            · rw [if_neg g]; exact kn _ (by have := (not_congr so_iff).mp g; omega)
          · rw [show vx_cmp 10 = 2 from rfl, c2, lt1] at so_iff
            rw [if_neg (show ¬ (10 : Nat) = 2 by decide), if_neg (show ¬ (10 : Nat) = 3 by decide), if_pos (show (10 : Nat) = 10 from rfl)]
            by_cases g : go = true
            · rw [if_pos g]; exact kn _ (by have := so_iff.mp g; omega)
            · rw [if_neg g]; exact base
          · rw [show vx_cmp 11 = 3 from rfl, c3, le1] at so_iff
            rw [if_neg (show ¬ (11 : Nat) = 2 by decide), if_neg (show ¬ (11 : Nat) = 3 by decide), if_neg (show ¬ (11 : Nat) = 10 by decide)]
            by_cases g : go = true
            · rw [if_pos g]; exact kn _ (by have := so_iff.mp g; omega)
            · rw [if_neg g]; exact base
        | false =>
          simp only [Bool.false_eq_true, if_false] at so_iff ⊢
          rcases hn with q | q | q | q <;> rw [q] at so_iff ⊢
          · rw [show vx_cmp 2 = 4 from rfl, c4, lt1] at so_iff
            rw [if_pos (show (2 : Nat) = 2 from rfl)]
            by_cases g : go = true
            · rw [if_pos g]; exact kn _ (by have := so_iff.mp g; omega)
            · rw [if_neg g]; exact base
          · rw [show vx_cmp 3 = 5 from rfl, c5, le1] at so_iff
            rw [if_neg (show ¬ (3 : Nat) = 2 by decide), if_pos (show (3 : Nat) = 3 from rfl)]
            by_cases g : go = true
            · rw [if_pos g]; exact kn _ (by have := so_iff.mp g; omega)
            · rw [if_neg g]; exact base
          · rw [show vx_cmp 10 = 2 from rfl, c2, lt2] at so_iff
            rw [if_neg (show ¬ (10 : Nat) = 2 by decide), if_neg (show ¬ (10 : Nat) = 3 by decide), if_pos (show (10 : Nat) = 10 from rfl)]
            by_cases g : go = true
            · rw [if_pos g]; exact base
            · rw [if_neg g]; exact kn _ (by have := (not_congr so_iff).mp g; omega)
          · rw [show vx_cmp 11 = 3 from rfl, c3, le2] at so_iff
            rw [if_neg (show ¬ (11 : Nat) = 2 by decide), if_neg (show ¬ (11 : Nat) = 3 by decide), if_neg (show ¬ (11 : Nat) = 10 by decide)]
            by_cases g : go = true
            · rw [if_pos g]; exact base
            · rw [if_neg g]; exact kn _ (by have := (not_congr so_iff).mp g; omega)
    refine ⟨go, (if go = true then (vx_ms f.n pf v A A).2 else (vx_ms f.n pf v A A).1), wn, we, vs_sb A wn wb, by rw [e4]; split <;> rfl, vs_O_A hO known.2, fun SE AB S hb hA => ⟨fun p => ?_, vs_mono (fun q hq => by rw [known.1]; exact vs_R_refl) hA⟩⟩
    obtain ⟨Y, eY, _, eX, eYv⟩ := vals SE AB S hA
    have z := run S _ Y (rdx SE AB S hA).1 eY p
    rw [eX, eYv, ← hgo] at z; exact z
  · rw [vx_jp5 j1 j2 j3 j4] at hr; exact absurd (show (2 : Nat) = 0 from hr) (by decide)
