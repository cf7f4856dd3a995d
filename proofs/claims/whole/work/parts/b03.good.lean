/-! part b03: what an instruction makes of numbers; what comes of well formed states is well formed -/
/-- what the form of a word makes sure of -/
def vf_ok (f : vf_F) : Prop :=
  ((f.kind = 4 ∨ f.kind = 7) → f.n = 13 → f.i = 16 ∨ f.i = 32 ∨ f.i = 64) ∧
  ((f.kind = 4 ∨ f.kind = 7) → f.n ≠ 13 → f.o ≠ 0 → f.n = 11 → f.o = 8 ∨ f.o = 16 ∨ f.o = 32) ∧
  (f.kind = 1 → f.mode = 4 → f.z = 1 ∨ f.z = 2 ∨ f.z = 4)
/-- the number that a reckoning makes -/
def vx_do (f : vf_F) (a b sg : BitVec 64) : BitVec 64 :=
  if f.n = 13 then (if f.kind = 7 ∨ f.bit3 = true then vb_turned (a &&& vb_lowest f.i.toNat) f.i.toNat else a &&& vb_lowest f.i.toNat)
  else if f.o ≠ 0 then (if f.n = 11 then vb_sext (b &&& vb_lowest f.o.toNat) f.o.toNat else sg) &&& vb_lowest (if f.kind = 7 then 64 else 32)
  else if f.n = 8 then (if f.kind = 7 then vb_op (vl_I 1) 0 a 63 else vb_op (vl_I 1) (0 &&& vb_lowest 32) (a &&& vb_lowest 32) 31 &&& vb_lowest 32)
  else (if f.kind = 7 then vb_op (vl_I f.n) a b 63 else vb_op (vl_I f.n) (if f.n = 12 then vb_sext (a &&& vb_lowest 32) 32 else a &&& vb_lowest 32) (b &&& vb_lowest 32) 31 &&& vb_lowest 32)
/-- a number is in, and the sayings are tight -/
def vx_in (v : vb_S) (n : BitVec 64) : Prop := vb_tight v ∧ vb_mem v n
theorem vx_in_tt {v : vb_S} {n : BitVec 64} (h : vb_mem v n) : vx_in (vb_tt v) n := ⟨vb_tt_of_mem h, vr_tt_mem h⟩
theorem vx_cut_in {x : vb_S} {a : BitVec 64} {m : Nat} (h : vb_mem x a) : vx_in (vx_cut x m) (a &&& vb_lowest m) := vx_in_tt (vb_cut_sound h)
theorem vx_ext_in {x : vb_S} {a : BitVec 64} {m : Nat} (hm : m = 8 ∨ m = 16 ∨ m = 32) (h : vb_mem x a) : vx_in (vx_ext x m) (vb_sext (a &&& vb_lowest m) m) := vx_in_tt (vr_ext_mem hm h)
theorem vx_swap_in {x : vb_S} {a : BitVec 64} {m : Nat} (hm : m = 16 ∨ m = 32 ∨ m = 64) (h : vb_mem x a) : vx_in (vx_swap x m) (vb_turned (a &&& vb_lowest m) m) := vx_in_tt (vr_swap_mem hm h)
theorem vx_op_in {n : Nat} {x y : vb_S} {a b : BitVec 64} {top : Nat} (ht : top = 63 ∨ top = 31) (hx : vb_mem x a) (hy : vb_mem y b) : vx_in (vx_op n x y top) (vb_op (vl_I n) a b top) := vx_in_tt (vb_op_sound ht (vr_pat_ones hx.1) (vr_pat_ones hy.1) hx hy)
theorem vx_op32_in {n : Nat} {x y : vb_S} {a b : BitVec 64} (hx : vb_mem x a) (hy : vb_mem y b) : vx_in (vx_op32 n x y) (vb_op (vl_I n) (if n = 12 then vb_sext (a &&& vb_lowest 32) 32 else a &&& vb_lowest 32) (b &&& vb_lowest 32) 31 &&& vb_lowest 32) := by
  unfold vx_op32
  refine vx_cut_in (vx_op_in (Or.inr rfl) ?_ (vx_cut_in hy).2).2
  by_cases h : n = 12
  · rw [if_pos h, if_pos h]; exact (vx_ext_in (Or.inr (Or.inr rfl)) hx).2
  · rw [if_neg h, if_neg h]; exact (vx_cut_in hx).2
theorem vb_just_mem (a : BitVec 64) : vb_mem (vb_just a) a := by
  refine vb_mem_of ?_ (Nat.le_refl _) (Nat.le_refl _) (Int.le_refl _) (Int.le_refl _)
  show a &&& vb_m1 = a
  exact vr_andm1 a
theorem vb_just_tight (a : BitVec 64) : vb_tight (vb_just a) := by
  have hm : ∀ n, vb_mem (vb_just a) n → n = a := fun n hn => vb_single_mem hn rfl
  have hl := vb_just_mem a
  refine ⟨hl, hl, hl, hl, fun n hn => ?_, fun k hk => ?_, ?_⟩
  · have := hm n hn
    subst this
    exact ⟨BitVec.le_refl _, BitVec.le_refl _, Int.le_refl _, Int.le_refl _⟩
  · exact ⟨fun _ n n' hn hn' => by rw [hm n hn, hm n' hn'], fun _ => vb_m1_bit hk⟩
  · show a = a &&& vb_m1
    exact (vr_andm1 _).symm
theorem vb_just_eq {a n : BitVec 64} (h : vb_mem (vb_just a) n) : n = a := vb_single_mem h rfl
theorem vb_any_tight : vb_tight vb_any := by
  refine ⟨vb_any_mem _, vb_any_mem _, vb_any_mem _, vb_any_mem _, fun n _ => ⟨?_, ?_, vb_int_lo n, vb_int_hi n⟩, fun k hk => ⟨fun h => ?_, fun h => ?_⟩, ?_⟩
  · rw [BitVec.le_def]; exact Nat.zero_le _
  · rw [BitVec.le_def]; exact vb_nat_hi n
  · have h : (0 : BitVec 64).getLsbD k = true := h
    rw [vb_bit0] at h; cases h
  · have h2 := h 0 vb_m1 (vb_any_mem _) (vb_any_mem _)
    rw [vb_bit0, vb_m1_bit hk] at h2; cases h2
  · rfl
theorem vx_reckon_in {f : vf_F} (hf : vf_ok f) (hk : f.kind = 4 ∨ f.kind = 7) {x y : vb_S} {a b : BitVec 64} (sg : BitVec 64) (hx : vb_mem x a) (hy : vb_mem y b) : vx_in (vx_reckon f x y) (vx_do f a b sg) := by
  unfold vx_reckon vx_do
  by_cases h13 : f.n = 13
  · rw [if_pos h13, if_pos h13]
    have hi := hf.1 hk h13
    by_cases c : f.kind = 7 ∨ f.bit3 = true
    · rw [if_pos c, if_pos c]
      exact vx_swap_in (by rcases hi with e | e | e <;> rw [e] <;> decide) hx
    · rw [if_neg c, if_neg c]; exact vx_cut_in hx
  · rw [if_neg h13, if_neg h13]
    by_cases ho : f.o ≠ 0
    · rw [if_pos ho, if_pos ho]
      refine vx_cut_in ?_
      by_cases h11 : f.n = 11
      · rw [if_pos h11, if_pos h11]
        have hi := hf.2.1 hk h13 ho h11
        exact (vx_ext_in (by rcases hi with e | e | e <;> rw [e] <;> decide) hy).2
      · rw [if_neg h11, if_neg h11]; exact vb_any_mem _
    · rw [if_neg ho, if_neg ho]
      by_cases h8 : f.n = 8
      · rw [if_pos h8, if_pos h8]
        by_cases h7 : f.kind = 7
        · rw [if_pos h7, if_pos h7]; exact vx_op_in (Or.inl rfl) (vb_just_mem 0) hx
        · rw [if_neg h7, if_neg h7]
          have := vx_op32_in (n := 1) (vb_just_mem 0) hx
          exact this
      · rw [if_neg h8, if_neg h8]
        by_cases h7 : f.kind = 7
        · rw [if_pos h7, if_pos h7]; exact vx_op_in (Or.inl rfl) hx hy
        · rw [if_neg h7, if_neg h7]; exact vx_op32_in hx hy
theorem vt_ok_none {w : Nat} (h : w < 256) : vt_ok (vt_none w) := by
  have e : ((vt_none w).det).toNat = w := Int.toNat_natCast w
  refine ⟨fun _ => ?_, fun z => absurd (show vt_has 0 = true from z) (by decide), fun z => absurd (show (0 : Nat) = 1 from z) (by decide)⟩
  rw [e]; exact ⟨rfl, h⟩
theorem vt_ok_num {v : vb_S} (h : vb_tight v) : vt_ok (vt_num v) := ⟨fun z => absurd (show (1 : Nat) = 0 from z) (by decide), fun _ => h, fun _ => ⟨rfl, rfl⟩⟩
theorem vt_ok_val {s : Nat} {k : Int} {v : vb_S} (hs : s = 4 ∨ s = 7) (h : vb_tight v) : vt_ok (s, k, -1, v) := ⟨fun z => absurd (show s = 0 from z) (by omega), fun _ => h, fun z => absurd (show s = 1 from z) (by omega)⟩
theorem vt_ok_no {s : Nat} {k t : Int} {v : vb_S} (h0 : s ≠ 0) (h1 : vt_has s = false) : vt_ok (s, k, t, v) := ⟨fun z => absurd (show s = 0 from z) h0, fun z => absurd ((show vt_has s = true from z).symm.trans h1) (by decide), fun z => by
  have z : s = 1 := z
  rw [z] at h1; cases h1⟩
theorem vt_okA_up {A : vt_A} {r : Nat} {t : vt_T} (hA : vt_okA A) (ht : vt_ok t) : vt_okA (vt_up A r t) := fun n hn => by
  show vt_ok (if n = r then t else A.1 n)
  by_cases h : n = r
  · rw [if_pos h]; exact ht
  · rw [if_neg h]; exact hA n hn
theorem vt_okA_k {A : vt_A} (hA : vt_okA A) (k : Int) : vt_okA (A.1, k) := hA
theorem vx_anyz_in (z : Nat) (n : BitVec 64) : vx_in (vx_anyz z) (n &&& vb_lowest (8 * z)) := vx_cut_in (vb_any_mem n)
theorem vx_anys_in {z : Nat} (hz : z = 1 ∨ z = 2 ∨ z = 4) (n : BitVec 64) : vx_in (vx_anys z) (vb_sext (n &&& vb_lowest (8 * z)) (8 * z)) := vx_ext_in (by rcases hz with e | e | e <;> rw [e] <;> decide) (vb_any_mem n)
theorem vx_refine_tight {c : Nat} {x y a b : vb_S} (hx : vb_tight x) (hy : vb_tight y) (h : vb_refine c x y = some (a, b)) : vb_tight a ∧ vb_tight b := by
  unfold vb_refine at h
  cases hs : vb_say c x y with
  | none => rw [hs] at h; cases h
  | some p =>
    obtain ⟨u, v⟩ := p
    rw [hs] at h
    dsimp only at h
    obtain ⟨o1, o2⟩ := vb_say_ones hs (vb_tight_ones hx) (vb_tight_ones hy)
    by_cases c1 : vb_can u = true ∧ vb_can v = true
    · rw [if_pos c1] at h
      cases h
      exact ⟨vb_hull_tight (vb_ctight_ok o1 c1.1), vb_hull_tight (vb_ctight_ok o2 c1.2)⟩
    · rw [if_neg c1] at h; cases h
