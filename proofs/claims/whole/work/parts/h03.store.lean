/-! part h03: stores (a hand text: this part is the source) -/
/-- the world's parts on which things rest -/
theorem vs_v_w {SE AB : Int} {w w' : vm_S} {rho : Int → Option Nat} {t : vt_T} {n : BitVec 64} {e : Nat} {x : BitVec 64} (hw : ∀ c, (c = 0 ∨ 7 ≤ c ∧ c ≤ 12) → w'.2 c = w.2 c) (h : vs_v SE AB w rho t n e x) : vs_v SE AB w' rho t n e x := by
  unfold vs_v vs_ent vm_at vm_cnt vm_size at *
  rw [hw 0 (by omega), hw 7 (by omega), hw 8 (by omega), hw 10 (by omega), hw 11 (by omega), hw 12 (by omega)]
  exact h
theorem vs_A_w {SE AB : Int} {w w' : vm_S} {rho : Int → Option Nat} {wn : Nat → BitVec 64} {we wb : Nat → Nat} {A : vt_A} {S S' : vm_S} (hw : ∀ c, (c = 0 ∨ 7 ≤ c ∧ c ≤ 12) → w'.2 c = w.2 c) (h : vs_A SE AB w rho wn we wb A S) (hW : vs_W w' S') (e0 : S'.1 0 = S.1 0) (e1 : S'.2 1 = S.2 1) (e2 : S'.2 2 = S.2 2) (e3 : S'.2 3 = S.2 3) : vs_A SE AB w' rho wn we wb A S' := by
  obtain ⟨h1, h2, h3, h4, h5⟩ := h
  refine ⟨hW, fun r hr hn => ?_, fun s hs hn => ?_, fun s hs hn i hi ht => ?_, fun k hk hk' => ?_⟩
  · rw [e0, e1]; exact ⟨(h2 r hr hn).1, vs_v_w hw (h2 r hr hn).2⟩
  · rw [e2, e3]; exact ⟨(h3 s hs hn).1, vs_v_w hw (h3 s hs hn).2⟩
  · rw [e2, e3]; exact h4 s hs hn i hi ht
  · rw [e2]; rw [e3] at hk'; exact h5 k hk hk'
/-- a world with bytes of packet, context or area put -/
abbrev vs_wd (w : vm_S) (d k n : Nat) (f : Nat → Nat) : vm_S := (w.1, vm_wr w.2 d k n f)
theorem vs_wr {SE AB : Int} {w : vm_S} {rho : Int → Option Nat} {wn : Nat → BitVec 64} {we wb : Nat → Nat} {A : vt_A} {S : vm_S} {d k n : Nat} {f : Nat → Nat} (hd : 4 ≤ d ∧ d ≤ 6) (h : vs_A SE AB w rho wn we wb A S) : vs_A SE AB (vs_wd w d k n f) rho wn we wb A (S.1, vm_wr S.2 d k n f) := by
  have o : ∀ (G : Nat → Nat → Nat) c, c ≠ d → vm_wr G d k n f c = G c := fun G c z => funext fun i => vm_wr_o (fun y => z y.1)
  refine vs_A_w (fun c z => o w.2 c (by omega)) h ⟨fun c hc => ?_, h.1.2⟩ rfl (o S.2 1 (by omega)) (o S.2 2 (by omega)) (o S.2 3 (by omega))
  show vm_wr S.2 d k n f c = vm_wr w.2 d k n f c
  by_cases z : c = d
  · subst z
    funext i; unfold vm_wr; rw [h.1.1 c hc]
  · rw [o S.2 c z, o w.2 c z]; exact h.1.1 c hc
theorem vs_O_w {M : vf_M} {w w' : vm_S} {A A' : vt_A} (h : vs_O M w A) (hw : ∀ c, (c = 0 ∨ 8 ≤ c ∧ c ≤ 12) → w'.2 c = w.2 c) (hA : A'.2 ≤ vm_size w) (h4 : ∀ k, k < 2048 → w'.2 4 k < 256) (h5 : ∀ k, 16 ≤ k → k < 64 → w'.2 5 k < 256) (h6 : ∀ k, k < 65536 → w'.2 6 k < 256) : vs_O M w' A' := by
  obtain ⟨o1, o2, o3, o4, o5, o6, o7⟩ := h
  have e0 : w'.2 0 = w.2 0 := hw 0 (by omega)
  refine ⟨vm_sh_same o1 (fun c i z w => congrFun (hw c (by omega)) i), ?_, ?_, fun k => ?_, h4, h5, h6⟩
  · show w'.2 0 0 ≤ 2048; rw [e0]; exact o2
  · show A'.2 ≤ ((w'.2 0 0 : Nat) : Int); rw [e0]; exact hA
  · unfold vm_cnt; rw [e0, hw 8 (by omega), hw 9 (by omega), hw 10 (by omega)]; exact o4 k
theorem vs_O_wr {M : vf_M} {w : vm_S} {A : vt_A} {d k n : Nat} {v : Int64} (hd : 4 ≤ d ∧ d ≤ 6) (h : vs_O M w A) : vs_O M (vs_wd w d k n (vm_bt v)) A := by
  have o : ∀ c, c ≠ d → vm_wr w.2 d k n (vm_bt v) c = w.2 c := fun c z => funext fun i => vm_wr_o (fun y => z y.1)
  have b : ∀ c i, w.2 c i < 256 → vm_wr w.2 d k n (vm_bt v) c i < 256 := fun c i z => by
    unfold vm_wr; split
    · exact vm_bt_lt v _
    · exact z
  exact vs_O_w h (fun c z => o c (by omega)) h.2.2.1 (fun i hi => b 4 i (h.2.2.2.2.1 i hi)) (fun i h16 hi => b 5 i (h.2.2.2.2.2.1 i h16 hi)) (fun i hi => b 6 i (h.2.2.2.2.2.2 i hi))
/-! the stack -/
theorem vs_stO {SE AB : Int} {w : vm_S} {rho : Int → Option Nat} {wn wn' : Nat → BitVec 64} {we we' wb wb' : Nat → Nat} {A A' : vt_A} {S : vm_S} {k z : Nat} {f : Nat → Nat} (h : vs_A SE AB w rho wn we wb A S) (hz : k % 8 + z ≤ 8) (hk : k + z ≤ 512) (z0 : 0 < z) (hf : ∀ i, i < z → f i < 256)
    (hA : ∀ r, r ≠ 11 + k / 8 → A'.1 r = A.1 r ∧ wn' r = wn r ∧ we' r = we r) (hb : ∀ s, s ≠ k / 8 → ∀ i, i < 8 → (A.1 (11 + s)).sort = 0 → wb' (8 * s + i) = wb (8 * s + i))
    (hs1 : (A'.1 (11 + k / 8)).sort ≠ 0 → (∀ i, i < 8 → vm_wr (vm_wr S.2 2 k z f) 3 k z (fun _ => 1) 3 (8 * (k / 8) + i) = 1) ∧ vs_v SE AB w rho (A'.1 (11 + k / 8)) (wn' (11 + k / 8)) (we' (11 + k / 8)) (BitVec.ofNat 64 (vm_le (vm_wr (vm_wr S.2 2 k z f) 3 k z (fun _ => 1) 2) (8 * (k / 8)) 8)))
    (hs0 : (A'.1 (11 + k / 8)).sort = 0 → ∀ i, i < 8 → (A'.1 (11 + k / 8)).det.toNat.testBit i = true → vm_wr (vm_wr S.2 2 k z f) 3 k z (fun _ => 1) 3 (8 * (k / 8) + i) = 1 ∧ vm_wr (vm_wr S.2 2 k z f) 3 k z (fun _ => 1) 2 (8 * (k / 8) + i) = wb' (8 * (k / 8) + i)) :
    vs_A SE AB w rho wn' we' wb' A' (S.1, vm_wr (vm_wr S.2 2 k z f) 3 k z (fun _ => 1)) := by
  obtain ⟨h1, h2, h3, h4, h5⟩ := h
  have oS : ∀ c i, ¬ ((c = 2 ∨ c = 3) ∧ k ≤ i ∧ i < k + z) → vm_wr (vm_wr S.2 2 k z f) 3 k z (fun _ => 1) c i = S.2 c i := fun c i y => (vm_wr_o (fun x => y ⟨Or.inr x.1, x.2⟩)).trans (vm_wr_o (fun x => y ⟨Or.inl x.1, x.2⟩))
  have in2 : ∀ i, k ≤ i → i < k + z → vm_wr (vm_wr S.2 2 k z f) 3 k z (fun _ => 1) 2 i = f (i - k) := fun i a b => (vm_wr_o (fun x => absurd x.1 (by decide))).trans (if_pos ⟨rfl, a, b⟩)
  refine ⟨⟨fun c hc => ?_, h1.2⟩, fun r hr hn => ?_, fun s hs hn => ?_, fun s hs hn i hi ht => ?_, fun q hq hw => ?_⟩
  · rw [← h1.1 c hc]; funext i; exact oS c i (by omega)
  · have e := hA r (by omega)
    rw [e.1] at hn
    rw [e.1, e.2.1, e.2.2]
    show vm_wr (vm_wr S.2 2 k z f) 3 k z (fun _ => 1) 1 r = 1 ∧ _
    rw [oS 1 r (by omega)]; exact h2 r hr hn
  · by_cases c : s = k / 8
    · subst c; exact hs1 hn
    · have e := hA (11 + s) (by omega)
      rw [e.1] at hn
      rw [e.1, e.2.1, e.2.2]
      have y := h3 s hs hn
      refine ⟨fun i hi => (oS 3 _ (by omega)).trans (y.1 i hi), ?_⟩
      show vs_v SE AB w rho _ _ _ (BitVec.ofNat 64 (vm_le (vm_wr (vm_wr S.2 2 k z f) 3 k z (fun _ => 1) 2) (8 * s) 8))
      rw [vm_le_eq (B' := S.2 2) 8 (8 * s) (fun i hi => oS 2 _ (by omega))]
      exact y.2
  · by_cases c : s = k / 8
    · subst c; exact hs0 hn i hi ht
    · have e := hA (11 + s) (by omega)
      rw [e.1] at hn ht
      have y := h4 s hs hn i hi ht
      show vm_wr (vm_wr S.2 2 k z f) 3 k z (fun _ => 1) 3 (8 * s + i) = 1 ∧ vm_wr (vm_wr S.2 2 k z f) 3 k z (fun _ => 1) 2 (8 * s + i) = wb' (8 * s + i)
      rw [oS 3 _ (by omega), oS 2 _ (by omega), hb s c i hi hn]; exact y
  · show vm_wr (vm_wr S.2 2 k z f) 3 k z (fun _ => 1) 2 q < 256
    by_cases c : k ≤ q ∧ q < k + z
    · rw [in2 q c.1 c.2]; exact hf _ (by omega)
    · rw [oS 2 q (by omega)]
      exact h5 q hq ((oS 3 q (by omega)).symm.trans hw)
theorem vm_or_bit {a b i : Nat} : (a ||| b).testBit i = (a.testBit i || b.testBit i) := Nat.testBit_or a b i
theorem vm_mask_bit {z b i : Nat} : ((2 ^ z - 1) <<< b).testBit i = (decide (b ≤ i) && decide (i - b < z)) := by
  rw [Nat.testBit_shiftLeft, Nat.testBit_two_pow_sub_one]
/-- a number that is put into the stack -/
theorem vs_put {A : vt_A} {w : vm_S} {rho : Int → Option Nat} {wn : Nat → BitVec 64} {we wb : Nat → Nat} {a : Int} {z : Nat} {y : vt_T} {n : BitVec 64} {e : Nat} (hA0 : ∀ q, q < 75 → (A.1 q).sort = 0 → (A.1 q).det.toNat < 256) (hz : z = 1 ∨ z = 2 ∨ z = 4 ∨ z = 8) (h1 : -512 ≤ a) (h2 : a ≤ -(z : Int)) (h3 : a % (z : Int) = 0) (hy : y.sort ≠ 0) (hy1 : z ≠ 8 → y.sort = 1) :
    ∃ wn' we' wb', ∀ SE AB S (v : Int64), vs_A SE AB w rho wn we wb A S → vs_v SE AB w rho y n e v.toBitVec → vs_A SE AB w rho wn' we' wb' (vx_put A a z y) (S.1, vm_wr (vm_wr S.2 2 (a + 512).toNat z (vm_bt v)) 3 (a + 512).toNat z (fun _ => 1)) := by
  obtain ⟨k, hk⟩ : ∃ k : Nat, k = (a + 512).toNat := ⟨_, rfl⟩
  rw [← hk]
  have es : vx_slot a = 11 + k / 8 := by unfold vx_slot; omega
  have eb : vx_bit a = k % 8 := by unfold vx_bit; omega
  have hkz : k % 8 + z ≤ 8 := by rcases hz with q | q | q | q <;> subst q <;> omega
  have hk5 : k + z ≤ 512 := by omega
  unfold vx_put
  rw [es, eb]
  by_cases c8 : z = 8
  · rw [if_pos c8]
    have hk8 : k = 8 * (k / 8) := by omega
    refine ⟨vs_u wn (11 + k / 8) n, vs_u we (11 + k / 8) e, wb, fun SE AB S v hA hv => ?_⟩
    have self : (vt_up A (11 + k / 8) y).1 (11 + k / 8) = y := if_pos rfl
    refine vs_stO hA hkz hk5 (by omega) (fun i _ => vm_bt_lt v i) (fun r hr => ⟨if_neg hr, if_neg hr, if_neg hr⟩) (fun _ _ _ _ _ => rfl) (fun _ => ⟨fun i hi => ?_, ?_⟩) (fun y0 => absurd (self ▸ y0) hy)
    · rw [← hk8]; exact vm_wr_i (by omega)
    · rw [self]
      show vs_v SE AB w rho y (if 11 + k / 8 = 11 + k / 8 then n else _) (if 11 + k / 8 = 11 + k / 8 then e else _) _
      rw [if_pos rfl, if_pos rfl, ← hk8]
      have el : vm_le (vm_wr (vm_wr S.2 2 k z (vm_bt v)) 3 k z (fun _ => 1) 2) k 8 = v.toBitVec.toNat := by
        have key : ∀ m j, j + m = 8 → vm_le (vm_wr (vm_wr S.2 2 k z (vm_bt v)) 3 k z (fun _ => 1) 2) (k + j) m = vm_le (vm_bt v) j m := fun m => by
          induction m with
          | zero => intro j _; rfl
          | succ m ih =>
            intro j hj
            show vm_wr (vm_wr S.2 2 k z (vm_bt v)) 3 k z (fun _ => 1) 2 (k + j) + 256 * vm_le _ (k + j + 1) m = vm_bt v j + 256 * vm_le (vm_bt v) (j + 1) m
            rw [show k + j + 1 = k + (j + 1) from rfl, ih (j + 1) (by omega), vm_wr_o (fun x => absurd x.1 (by decide)), vm_wr_i (by omega)]
        exact (key 8 0 rfl).trans (vm_bt_all v)
      rw [el, BitVec.ofNat_toNat, BitVec.setWidth_eq]; exact hv
  · rw [if_neg c8]
    have hy1 := hy1 c8
    obtain ⟨t, ht⟩ : ∃ t, t = vt_none (vt_wr (A.1 (11 + k / 8)) ||| ((2 ^ z - 1) <<< (k % 8))) := ⟨_, rfl⟩
    rw [← ht]
    have td : t.det.toNat = (vt_wr (A.1 (11 + k / 8)) ||| ((2 ^ z - 1) <<< (k % 8))) := by rw [ht]; exact Int.toNat_natCast _
    have ts : t.sort = 0 := by rw [ht]; rfl
    have self : (vt_up A (11 + k / 8) t).1 (11 + k / 8) = t := if_pos rfl
    refine ⟨wn, we, fun q => if k ≤ q ∧ q < k + z then vm_bt (Int64.ofBitVec n) (q - k) else vs_sb A wn wb q, fun SE AB S v hA hv => ?_⟩
    have evn : v.toBitVec = n := (hv.1 hy1).1
    refine vs_stO hA hkz hk5 (by omega) (fun i _ => vm_bt_lt v i) (fun r hr => ⟨if_neg hr, rfl, rfl⟩) (fun s hs i hi h0 => ?_) (fun y0 => absurd (self.symm ▸ ts : ((vt_up A (11 + k / 8) t).1 (11 + k / 8)).sort = 0) y0) (fun _ i hi hb => ?_)
    · show (if k ≤ 8 * s + i ∧ 8 * s + i < k + z then _ else vs_sb A wn wb (8 * s + i)) = _
      rw [if_neg (by omega)]
      unfold vs_sb
      rw [show (8 * s + i) / 8 = s by omega, if_neg (by omega)]
    · rw [self, td, vm_or_bit, vm_mask_bit] at hb
      show _ ∧ _ = (if k ≤ 8 * (k / 8) + i ∧ 8 * (k / 8) + i < k + z then vm_bt (Int64.ofBitVec n) (8 * (k / 8) + i - k) else vs_sb A wn wb (8 * (k / 8) + i))
      by_cases c : k ≤ 8 * (k / 8) + i ∧ 8 * (k / 8) + i < k + z
      · rw [if_pos c]
        refine ⟨if_pos ⟨rfl, c⟩, ?_⟩
        rw [vm_wr_o (fun x => absurd x.1 (by decide))]
        refine (if_pos ⟨rfl, c⟩).trans ?_
        unfold vm_bt; rw [← evn]; rfl
      · rw [if_neg c, vm_wr_o (fun x => c x.2), vm_wr_o (fun x => c x.2), vm_wr_o (fun x => absurd x.1 (by decide)), vm_wr_o (fun x => c x.2)]
        have hb' : (vt_wr (A.1 (11 + k / 8))).testBit i = true := by
          rw [show (decide (k % 8 ≤ i) && decide (i - k % 8 < z)) = false from by
            rw [Bool.and_eq_false_iff]
            by_cases d : k % 8 ≤ i
            · exact Or.inr (decide_eq_false (by omega))
            · exact Or.inl (decide_eq_false d), Bool.or_false] at hb
          exact hb
        have q := vs_stk hA (k := 8 * (k / 8) + i) (by omega) (by rw [show (8 * (k / 8) + i) / 8 = k / 8 by omega, show (8 * (k / 8) + i) % 8 = i by omega]; exact hb')
        exact ⟨q.1, q.2.1⟩
theorem vs_adri {X : Int64} {n : BitVec 64} {c o : Int} {q j : Nat} (hx : X.toBitVec = BitVec.ofInt 64 (c + (q : Int)) + n) (h : n.toInt + o = j) : X + vm_i o = vm_a c (q + j) := by
  refine Int64.toBitVec_inj.mp ?_
  rw [Int64.toBitVec_add, hx]
  show BitVec.ofInt 64 (c + (q : Int)) + n + BitVec.ofInt 64 o = BitVec.ofInt 64 (c + ((q + j : Nat) : Int))
  have e : BitVec.ofInt 64 (n.toInt + o) = n + BitVec.ofInt 64 o := by rw [BitVec.ofInt_add, BitVec.ofInt_toInt]
  rw [show c + ((q + j : Nat) : Int) = c + (q : Int) + (n.toInt + o) by omega, BitVec.ofInt_add (c + (q : Int)) (n.toInt + o), e, BitVec.add_assoc]
theorem vs_O_A {M : vf_M} {w : vm_S} {A A' : vt_A} (h : vs_O M w A) (hA : A'.2 ≤ vm_size w) : vs_O M w A' := ⟨h.1, h.2.1, hA, h.2.2.2⟩
theorem vs_store {M : vf_M} {f : vf_F} {A : vt_A} {w : vm_S} {rho : Int → Option Nat} {wn : Nat → BitVec 64} {we wb : Nat → Nat} (hO : vs_O M w A) (okA : vt_okA A) (hk : f.kind = 2 ∨ f.kind = 3) (hd : f.d < 11) (hs : f.s < 11) (hr : (vx_store M f A).1 = 0) : ∃ w' wn' we' wb', vs_O M w' (vx_store M f A).2 ∧ ∀ SE AB S, vs_b SE AB → vs_A SE AB w rho wn we wb A S → ∃ T, vm_store SE AB f S = some T ∧ vs_A SE AB w' rho wn' we' wb' (vx_store M f A).2 T := by
  have hO' := hO
  obtain ⟨o1, o2, o3, o4, o5, o6, o7⟩ := hO
  have z4 := vf_z_cases f
  obtain ⟨d, hde⟩ : ∃ d, d = A.1 f.d := ⟨_, rfl⟩
  obtain ⟨y, hye⟩ : ∃ y, y = (if f.kind = 3 then A.1 f.s else vt_num (vx_just f.i)) := ⟨_, rfl⟩
  have hun : vx_store M f A = (if d.sort = 0 ∨ y.sort = 0 then (1, A) else if vx_reach M A d f.o f.z true ≠ 0 then (vx_reach M A d f.o f.z true, A) else if y.sort ≠ 1 ∧ (d.sort ≠ 3 ∨ f.z ≠ 8) then (6, A) else if d.sort = 3 then (0, vx_put A (d.det + f.o) f.z y) else (0, A)) := by rw [hde, hye]; rfl
  rw [hun] at hr ⊢
  have s0 : ¬ (d.sort = 0 ∨ y.sort = 0) := fun z => by rw [if_pos z] at hr; exact absurd (show (1 : Nat) = 0 from hr) (by decide)
  rw [if_neg s0] at hr ⊢
  have r0 : ¬ vx_reach M A d f.o f.z true ≠ 0 := fun z => by rw [if_pos z] at hr; exact z hr
  rw [if_neg r0] at hr ⊢
  have r0 : vx_reach M A d f.o f.z true = 0 := Classical.not_not.mp r0
  have c6 : ¬ (y.sort ≠ 1 ∧ (d.sort ≠ 3 ∨ f.z ≠ 8)) := fun z => by rw [if_pos z] at hr; exact absurd (show (6 : Nat) = 0 from hr) (by decide)
  rw [if_neg c6] at hr ⊢
  unfold vx_reach at r0
  have d0 : d.sort ≠ 0 := fun z => s0 (Or.inl z)
  have y0 : y.sort ≠ 0 := fun z => s0 (Or.inr z)
  obtain ⟨n, e, hyv⟩ : ∃ n e, ∀ SE AB S, vs_A SE AB w rho wn we wb A S → ∃ v : Int64, (if f.kind = 2 then some (vm_i f.i) else vm_rd S f.s) = some v ∧ vs_v SE AB w rho y n e v.toBitVec := by
    by_cases k3 : f.kind = 3
    · rw [if_pos k3] at hye
      refine ⟨wn f.s, we f.s, fun SE AB S hA => ⟨S.1 0 f.s, ?_⟩⟩
      have z := vs_rd hA hs (hye ▸ y0)
      rw [if_neg (by omega), hye]; exact z
    · rw [if_neg k3] at hye
      refine ⟨BitVec.ofInt 64 f.i, 0, fun SE AB S hA => ⟨vm_i f.i, if_pos (by omega), ?_⟩⟩
      rw [hye]; exact vs_num (vb_just_mem _)
  have fin : ∀ SE AB S T (v : Int64), vs_A SE AB w rho wn we wb A S → (if f.kind = 2 then some (vm_i f.i) else vm_rd S f.s) = some v → ∀ (c : Int) (k : Nat), S.1 0 f.d + vm_i f.o = vm_a c k → vm_even SE (vm_a c k) f.z → vm_keep SE AB S (vm_a c k) (vm_bt v) f.z = some T → vm_store SE AB f S = some T := fun SE AB S T v hA hv c k ea he hn => by
    have rd := (vs_rd hA hd (hde ▸ d0)).1
    show (vm_rd S f.d).bind _ = _
    rw [rd]
    show (if f.kind = 2 then some (vm_i f.i) else vm_rd S f.s).bind _ = _
    rw [hv]
    show (if vm_even SE (S.1 0 f.d + vm_i f.o) f.z then _ else none) = _
    rw [ea, if_pos he, hn]
  by_cases s3 : d.sort = 3
  · rw [if_neg (by omega), if_pos s3] at r0
    rw [if_pos s3]
    have r1 : -512 ≤ d.det + f.o ∧ d.det + f.o ≤ -(f.z : Int) ∧ (d.det + f.o) % (f.z : Int) = 0 := Classical.byContradiction fun z => by rw [if_neg z] at r0; exact absurd r0 (by decide)
    obtain ⟨wn', we', wb', hp⟩ := vs_put (rho := rho) (wn := wn) (we := we) (wb := wb) (w := w) (n := n) (e := e) (A := A) (y := y) (fun q hq z => ((okA q hq).1 z).2) z4 r1.1 r1.2.1 r1.2.2 y0 (fun z8 => Classical.byContradiction fun z => c6 ⟨z, Or.inr z8⟩)
    refine ⟨w, wn', we', wb', vs_O_A hO' (by unfold vx_put; split <;> exact o3), fun SE AB S hb hA => ?_⟩
    obtain ⟨v, hv, vv⟩ := hyv SE AB S hA
    have xv := (vs_rd hA hd (hde ▸ d0)).2
    rw [← hde] at xv
    refine ⟨_, fin SE AB S _ v hA hv (SE - 512) (d.det + f.o + 512).toNat (vs_adr (xv.2.2.1 s3) (by omega)) (fun _ => ?_) (vm_keep_2 hb f.z (by omega)), hp SE AB S v hA vv⟩
    rw [vm_a_int (by omega) (by omega), show SE - 512 + ((d.det + f.o + 512).toNat : Int) = SE + (d.det + f.o) by omega]
    exact vs_al z4 r1.2.2 hb.2.2.2.2.1
  rw [if_neg s3]
  have y1 : y.sort = 1 := Classical.byContradiction fun z => c6 ⟨z, Or.inl s3⟩
  have vn : ∀ {SE AB} {v : Int64}, vs_v SE AB w rho y n e v.toBitVec → v = Int64.ofBitVec n := fun vv => Int64.toBitVec_inj.mp (vv.1 y1).1
  by_cases s2 : d.sort = 2
  · rw [if_pos s2] at r0
    have r1 : 32 ≤ d.det + f.o ∧ d.det + f.o ≤ 64 - (f.z : Int) ∧ (d.det + f.o) % (f.z : Int) = 0 := Classical.byContradiction fun z => by rw [if_neg (by simpa using z)] at r0; exact absurd r0 (by decide)
    obtain ⟨k, hk'⟩ : ∃ k : Nat, k = (d.det + f.o).toNat := ⟨_, rfl⟩
    refine ⟨vs_wd w 5 k f.z (vm_bt (Int64.ofBitVec n)), wn, we, wb, vs_O_wr (by omega) hO', fun SE AB S hb hA => ?_⟩
    obtain ⟨v, hv, vv⟩ := hyv SE AB S hA
    have xv := (vs_rd hA hd (hde ▸ d0)).2
    rw [← hde] at xv
    have ev := vn vv
    subst ev
    refine ⟨_, fin SE AB S _ _ hA hv 1073745920 k (vs_adr (xv.2.1 s2) (by omega)) (fun _ => ?_) (vm_keep_1 (d := 5) f.z (fun i hi T _ hT => vm_put_c hb (by omega) (by omega) ?_)), vs_wr (by omega) hA⟩
    · rw [vm_a_int (by decide) (by omega), show (k : Int) = d.det + f.o by omega]; exact vs_al z4 r1.2.2 (by decide)
    · have z : vm_size T = vm_size S := congrFun (hT 0 (by decide)) 0
      rw [z, vs_size hA.1]; exact o2
  rw [if_neg s2, if_neg s3] at r0
  by_cases s4 : d.sort = 4
  · rw [if_pos s4] at r0
    have r1 : 0 ≤ d.val.least.toInt + f.o ∧ d.val.greatest.toInt + f.o + f.z ≤ A.2 := Classical.byContradiction fun z => by rw [if_neg z] at r0; exact absurd r0 (by decide)
    obtain ⟨k, hk'⟩ : ∃ k : Nat, k = ((wn f.d).toInt + f.o).toNat := ⟨_, rfl⟩
    refine ⟨vs_wd w 4 k f.z (vm_bt (Int64.ofBitVec n)), wn, we, wb, vs_O_wr (by omega) hO', fun SE AB S hb hA => ?_⟩
    obtain ⟨v, hv, vv⟩ := hyv SE AB S hA
    have xv := (vs_rd hA hd (hde ▸ d0)).2
    rw [← hde] at xv
    obtain ⟨m, hx⟩ := xv.2.2.2.1 s4
    have m1 := m.2.2.2.1; have m2 := m.2.2.2.2
    have ev := vn vv
    subst ev
    refine ⟨_, fin SE AB S _ _ hA hv 1073741824 k (vs_adrn hx (by omega)) (fun z => ?_) (vm_keep_1 (d := 4) f.z (fun i hi T _ hT => ?_)), vs_wr (by omega) hA⟩
    · rw [vm_a_int (by decide) (by omega)] at z
      exfalso; rcases z with z | z <;> omega
    · have z : vm_size T = vm_size S := congrFun (hT 0 (by decide)) 0
      have z2 := vs_size hA.1
      exact vm_put_p hb (by omega) (by omega)
  rw [if_neg s4] at r0
  by_cases s7 : d.sort = 7
  · rw [if_pos s7] at r0
    have r1 : 0 ≤ d.val.least.toInt + f.o ∧ d.val.greatest.toInt + f.o + f.z ≤ (M.value d.det : Int) := Classical.byContradiction fun z => by rw [if_neg z] at r0; exact absurd r0 (by decide)
    obtain ⟨j, hj⟩ : ∃ j : Nat, j = ((wn f.d).toInt + f.o).toNat := ⟨_, rfl⟩
    refine ⟨vs_wd w 6 (vm_at w d.det.toNat (we f.d) + j) f.z (vm_bt (Int64.ofBitVec n)), wn, we, wb, vs_O_wr (by omega) hO', fun SE AB S hb hA => ?_⟩
    obtain ⟨v, hv, vv⟩ := hyv SE AB S hA
    have xv := (vs_rd hA hd (hde ▸ d0)).2
    rw [← hde] at xv
    obtain ⟨m, he, hx⟩ := xv.2.2.2.2.2.2.1 s7
    have m1 := m.2.2.2.1; have m2 := m.2.2.2.2
    have ev := vn vv
    subst ev
    have hM : M.value d.det ≤ w.2 10 d.det.toNat := vs_val o4 _
    have hin := vm_at_in o1 he.2.1 he.2.2.1 he.2.2.2.1
    have hff := vm_fill_ge (w.2 10 d.det.toNat)
    refine ⟨_, fin SE AB S _ _ hA hv AB (vm_at w d.det.toNat (we f.d) + j) (vs_adri hx (by omega)) (fun z => ?_) (vm_keep_1 (d := 6) f.z (fun i hi T _ hT => ?_)), vs_wr (by omega) hA⟩
    · rw [vm_a_int (by omega) (by omega)] at z
      exfalso; rcases z with z | z <;> omega
    · have z : vm_size T = vm_size S := congrFun (hT 0 (by decide)) 0
      have z2 := vs_size hA.1
      refine vm_put_a hb (by omega) ?_ (by omega)
      have hl := (vs_led hA.1 (vm_at w d.det.toNat (we f.d) + j + i)).mpr ⟨d.det.toNat, we f.d, he.2.1, he.2.2.1, he.2.2.2.1, by omega, by omega, he.2.2.2.2⟩
      obtain ⟨a, b, h1, h2, h3, h4, h5, h6⟩ := hl
      unfold vm_led vm_at vm_cnt at *
      rw [hT 0 (by decide), hT 8 (by decide), hT 11 (by decide), hT 12 (by decide), hT 10 (by decide), hT 7 (by decide)]
      exact ⟨a, b, h1, h2, h3, h4, h5, h6⟩
  · rw [if_neg s7] at r0; exact absurd r0 (by decide)
