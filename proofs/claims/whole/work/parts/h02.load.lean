/-! part h02: loads (a hand text: this part is the source) -/
theorem vs_adr {X : Int64} {c' c o : Int} {k : Nat} (hx : X.toBitVec = BitVec.ofInt 64 c') (h : c' + o = c + k) : X + vm_i o = vm_a c k := by
  refine Int64.toBitVec_inj.mp ?_
  rw [Int64.toBitVec_add, hx]
  show BitVec.ofInt 64 c' + BitVec.ofInt 64 o = BitVec.ofInt 64 (c + k)
  rw [← BitVec.ofInt_add, h]
theorem vs_adrn {X : Int64} {n : BitVec 64} {c o : Int} {k : Nat} (hx : X.toBitVec = BitVec.ofInt 64 c + n) (h : n.toInt + o = k) : X + vm_i o = vm_a c k := by
  refine Int64.toBitVec_inj.mp ?_
  rw [Int64.toBitVec_add, hx]
  show BitVec.ofInt 64 c + n + BitVec.ofInt 64 o = BitVec.ofInt 64 (c + k)
  rw [← h, BitVec.ofInt_add, BitVec.ofInt_add, BitVec.ofInt_toInt, BitVec.add_assoc]
theorem vb_low_id {x : BitVec 64} {n : Nat} (hn : n ≤ 64) (h : x.toNat < 2 ^ n) : x &&& vb_lowest n = x := by
  refine BitVec.eq_of_getLsbD_eq (fun i hi => ?_)
  rw [BitVec.getLsbD_and, vb_lowest_bit n hi]
  by_cases c : i < n
  · rw [decide_eq_true c, Bool.and_true]
  · rw [decide_eq_false c, Bool.and_false, ← BitVec.testBit_toNat]
    exact (Nat.testBit_lt_two_pow (Nat.lt_of_lt_of_le h (Nat.pow_le_pow_right (by decide) (by omega)))).symm
/-- a number that is loaded -/
abbrev vs_ld (f : vf_F) (v : Nat) : Int64 := if f.mode = 4 then Int64.ofBitVec (vm_sx (BitVec.ofNat 64 v) (8 * f.z)) else vm_J v
theorem vs_any {f : vf_F} (hz : f.mode = 4 → f.z = 1 ∨ f.z = 2 ∨ f.z = 4) {v : Nat} (hv : v < 256 ^ f.z) : vb_mem (if f.mode = 4 then vx_anys f.z else vx_anyz f.z) (vs_ld f v).toBitVec := by
  have z4 := vf_z_cases f
  have z8 : 8 * f.z ≤ 64 := by omega
  have hp : (256 : Nat) ^ f.z = 2 ^ (8 * f.z) := (Nat.pow_mul 2 8 f.z).symm
  have h64 : v < 2 ^ 64 := Nat.lt_of_lt_of_le (hp ▸ hv) (Nat.pow_le_pow_right (by decide) z8)
  have hn : (BitVec.ofNat 64 v).toNat = v := (BitVec.toNat_ofNat v 64).trans (Nat.mod_eq_of_lt h64)
  have id := vb_low_id (x := BitVec.ofNat 64 v) z8 (by rw [hn, ← hp]; exact hv)
  unfold vs_ld
  by_cases c : f.mode = 4
  · rw [if_pos c, if_pos c]
    have m := (vx_anys_in (hz c) (BitVec.ofNat 64 v)).2
    show vb_mem _ (vm_sx (BitVec.ofNat 64 v) (8 * f.z))
    unfold vm_sx
    rw [if_neg (by have := hz c; omega)]; exact m
  · rw [if_neg c, if_neg c]
    have m := (vx_anyz_in f.z (BitVec.ofNat 64 v)).2
    rw [id] at m; exact m
theorem vs_ldnum {SE AB : Int} {w : vm_S} {rho : Int → Option Nat} {f : vf_F} (hz : f.mode = 4 → f.z = 1 ∨ f.z = 2 ∨ f.z = 4) {v e : Nat} (hv : v < 256 ^ f.z) : vs_v SE AB w rho (vt_num (if f.mode = 4 then vx_anys f.z else vx_anyz f.z)) (vs_ld f v).toBitVec e (vs_ld f v).toBitVec := vs_num (vs_any hz hv)
theorem vs_ifnum {f : vf_F} : vt_num (if f.mode = 4 then vx_anys f.z else vx_anyz f.z) = (if f.mode = 4 then vt_num (vx_anys f.z) else vt_num (vx_anyz f.z)) := by split <;> rfl
/-- the digits of a number of eight bytes -/
theorem vm_le_dig {B : Nat → Nat} : ∀ (n a i : Nat), i < n → (∀ j, j < n → B (a + j) < 256) → vm_le B a n / 256 ^ i % 256 = B (a + i)
  | 0, _, i, h, _ => absurd h (Nat.not_lt_zero i)
  | n + 1, a, 0, _, hb => by
    show (B a + 256 * vm_le B (a + 1) n) / 256 ^ 0 % 256 = B a
    have := hb 0 (by omega)
    have : B a < 256 := this
    rw [Nat.pow_zero, Nat.div_one]; omega
  | n + 1, a, i + 1, h, hb => by
    have ih := vm_le_dig (B := B) n (a + 1) i (by omega) (fun j hj => by have := hb (j + 1) (by omega); rwa [show a + (j + 1) = a + 1 + j by omega] at this)
    have h0 : B a < 256 := hb 0 (by omega)
    show (B a + 256 * vm_le B (a + 1) n) / 256 ^ (i + 1) % 256 = B (a + (i + 1))
    rw [Nat.pow_succ, Nat.mul_comm (256 ^ i), ← Nat.div_div_eq_div_mul, show (B a + 256 * vm_le B (a + 1) n) / 256 = vm_le B (a + 1) n by omega, ih, show a + 1 + i = a + (i + 1) by omega]
/-- the stack's bytes that numbers have: of both machines the same -/
def vs_sb (A : vt_A) (wn : Nat → BitVec 64) (wb : Nat → Nat) (k : Nat) : Nat := if (A.1 (11 + k / 8)).sort = 1 then vm_bt (Int64.ofBitVec (wn (11 + k / 8))) (k % 8) else wb k
theorem vs_stk {SE AB : Int} {w : vm_S} {rho : Int → Option Nat} {wn : Nat → BitVec 64} {we wb : Nat → Nat} {A : vt_A} {S : vm_S} (h : vs_A SE AB w rho wn we wb A S) {k : Nat} (hk : k < 512) (hb : (vt_wr (A.1 (11 + k / 8))).testBit (k % 8) = true) : S.2 3 k = 1 ∧ S.2 2 k = vs_sb A wn wb k ∧ S.2 2 k < 256 := by
  obtain ⟨h1, h2, h3, h4, h5⟩ := h
  have ek : 8 * (k / 8) + k % 8 = k := by omega
  unfold vs_sb vt_wr at *
  by_cases c0 : (A.1 (11 + k / 8)).sort = 0
  · rw [if_pos c0] at hb
    have z := h4 (k / 8) (by omega) c0 (k % 8) (by omega) hb
    rw [ek] at z
    rw [if_neg (by omega)]
    exact ⟨z.1, z.2, h5 k hk z.1⟩
  · rw [if_neg c0] at hb
    by_cases c1 : (A.1 (11 + k / 8)).sort = 1
    · have z := h3 (k / 8) (by omega) c0
      have zk := z.1 (k % 8) (by omega)
      rw [ek] at zk
      rw [if_pos c1]
      have zn := (z.2.1 c1).1
      refine ⟨zk, ?_, h5 k hk zk⟩
      have by8 : ∀ j, j < 8 → S.2 2 (8 * (k / 8) + j) < 256 := fun j hj => h5 _ (by omega) (z.1 j hj)
      have lt := vm_le_lt (B := S.2 2) 8 (8 * (k / 8)) by8
      have dg := vm_le_dig (B := S.2 2) 8 (8 * (k / 8)) (k % 8) (by omega) by8
      rw [ek] at dg
      unfold vm_bt
      rw [← zn, ← dg]
      show _ = (vm_le (S.2 2) (8 * (k / 8)) 8 % 2 ^ 64) / 256 ^ (k % 8) % 256
      rw [Nat.mod_eq_of_lt (Nat.lt_of_lt_of_le lt (by decide))]
    · rw [if_neg c1] at hb
      exact absurd hb (by rw [Nat.zero_testBit]; decide)
theorem vs_al {a c : Int} {z : Nat} (hz : z = 1 ∨ z = 2 ∨ z = 4 ∨ z = 8) (h : a % (z : Int) = 0) (hc : c % 8 = 0) : (c + a) % (z : Int) = 0 := by rcases hz with e | e | e | e <;> subst e <;> omega
theorem vx_nums_bit {A : vt_A} {a : Int} {n k : Nat} (h : vx_nums A a n = true) (h1 : -512 ≤ a) (h2 : a ≤ -(n : Int)) (hk : k < n) : (vt_wr (A.1 (11 + ((a + 512).toNat + k) / 8))).testBit (((a + 512).toNat + k) % 8) = true := by
  have z := List.all_eq_true.mp h k (List.mem_range.mpr hk)
  have e1 : vx_slot (a + k) = 11 + ((a + 512).toNat + k) / 8 := by unfold vx_slot; omega
  have e2 : vx_bit (a + k) = ((a + 512).toNat + k) % 8 := by unfold vx_bit; omega
  rw [e1, e2] at z; exact z
theorem vs_load {M : vf_M} {f : vf_F} {A : vt_A} {w : vm_S} {rho : Int → Option Nat} {wn : Nat → BitVec 64} {we wb : Nat → Nat} (hO : vs_O M w A) (hd : f.d < 11) (hs : f.s < 11) (hz : f.mode = 4 → f.z = 1 ∨ f.z = 2 ∨ f.z = 4) (hr : (vx_load M f A).1 = 0) : ∃ n e, ∀ SE AB S, vs_b SE AB → vs_A SE AB w rho wn we wb A S → ∃ T, vm_load SE AB f S = some T ∧ vs_A SE AB w rho (vs_u wn f.d n) (vs_u we f.d e) wb (vx_load M f A).2 T := by
  obtain ⟨o1, o2, o3, o4, o5, o6, o7⟩ := hO
  have z4 := vf_z_cases f
  obtain ⟨t, ht⟩ : ∃ t, t = A.1 f.s := ⟨_, rfl⟩
  have hun : vx_load M f A = (if t.sort = 0 then (1, A) else if vx_reach M A t f.o f.z false ≠ 0 then (vx_reach M A t f.o f.z false, A) else if t.sort = 2 ∧ t.det + f.o = 0 then (0, vt_up A f.d (vt_pkt (vb_just 0))) else if t.sort = 2 ∧ t.det + f.o = 8 then (0, vt_up A f.d vt_end) else if t.sort = 3 then (if f.z = 8 ∧ (A.1 (vx_slot (t.det + f.o))).sort ≠ 0 then (0, vt_up A f.d (A.1 (vx_slot (t.det + f.o)))) else if vx_nums A (t.det + f.o) f.z = true then (0, vt_up A f.d (vt_num (if f.mode = 4 then vx_anys f.z else vx_anyz f.z))) else (5, A)) else (0, vt_up A f.d (vt_num (if f.mode = 4 then vx_anys f.z else vx_anyz f.z)))) := by rw [ht]; rfl
  rw [hun] at hr ⊢
  have s0 : t.sort ≠ 0 := fun z => by rw [if_pos z] at hr; exact absurd (show (1 : Nat) = 0 from hr) (by decide)
  rw [if_neg s0] at hr ⊢
  have r0 : ¬ vx_reach M A t f.o f.z false ≠ 0 := fun z => by rw [if_pos z] at hr; exact z hr
  rw [if_neg r0] at hr ⊢
  have r0 : vx_reach M A t f.o f.z false = 0 := Classical.not_not.mp r0
  unfold vx_reach at r0
  -- what the load makes of a number in a region
  have fin : ∀ SE AB S, vs_A SE AB w rho wn we wb A S → ∀ (c : Int) (k v : Nat), S.1 0 f.s + vm_i f.o = vm_a c k → vm_even SE (vm_a c k) f.z → vm_num SE AB S (vm_a c k) f.z = some v → vm_load SE AB f S = some (vm_gv S f.d (vs_ld f v)) := fun SE AB S hA c k v ea he hn => by
    have rd := (vs_rd hA hs (ht ▸ s0)).1
    show (vm_rd S f.s).bind _ = _
    rw [rd]
    show (if vm_even SE (S.1 0 f.s + vm_i f.o) f.z then _ else none) = _
    rw [ea, if_pos he, hn]; rfl
  by_cases s2 : t.sort = 2
  · rw [if_pos s2] at r0
    have r1 : (if f.z = 8 then (0 : Int) else 16) ≤ t.det + f.o ∧ t.det + f.o ≤ 64 - (f.z : Int) ∧ (t.det + f.o) % (f.z : Int) = 0 := Classical.byContradiction fun z => by rw [if_neg (by simpa using z)] at r0; exact absurd r0 (by decide)
    have ev : ∀ SE, vm_even SE (vm_a 1073745920 (t.det + f.o).toNat) f.z := fun SE _ => by
      rw [vm_a_int (by decide) (by split at r1 <;> omega)]
      have : ((t.det + f.o).toNat : Int) = t.det + f.o := by split at r1 <;> omega
      rw [this]; exact vs_al z4 r1.2.2 (by decide)
    have ad : ∀ SE AB S, vs_A SE AB w rho wn we wb A S → S.1 0 f.s + vm_i f.o = vm_a 1073745920 (t.det + f.o).toNat := fun SE AB S hA => by
      have v := (vs_rd hA hs (ht ▸ s0)).2
      rw [← ht] at v
      exact vs_adr (v.2.1 s2) (by split at r1 <;> omega)
    by_cases a0 : t.sort = 2 ∧ t.det + f.o = 0
    · rw [if_pos a0] at hr ⊢
      have z8 : f.z = 8 := Classical.byContradiction fun z => by rw [if_neg z] at r1; omega
      refine ⟨0, 0, fun SE AB S hb hA => ⟨_, fin SE AB S hA _ _ 1073741824 (ad SE AB S hA) (ev SE) ?_, ?_⟩⟩
      · unfold vm_num; rw [if_pos ⟨z8, by rw [a0.2]; exact (vm_a_int (by decide) (by decide))⟩]
      · refine vs_up hA hd ?_
        have m4 : ¬ f.mode = 4 := fun z => by have := hz z; omega
        show vs_v SE AB w rho (vt_pkt (vb_just 0)) 0 0 (if f.mode = 4 then _ else vm_J 1073741824 : Int64).toBitVec
        rw [if_neg m4]
        exact ⟨fun z => absurd (show (4 : Nat) = 1 from z) (by decide), fun z => absurd (show (4 : Nat) = 2 from z) (by decide), fun z => absurd (show (4 : Nat) = 3 from z) (by decide), fun _ => ⟨vb_just_mem 0, by decide⟩, fun z => absurd (show (4 : Nat) = 5 from z) (by decide), fun z => absurd (show (4 : Nat) = 6 from z) (by decide), fun z => absurd (show (4 : Nat) = 7 from z) (by decide), fun z => absurd (show (4 : Nat) = 8 from z) (by decide), (show (4 : Nat) ≤ 8 by decide)⟩
    rw [if_neg a0] at hr ⊢
    by_cases a8 : t.sort = 2 ∧ t.det + f.o = 8
    · rw [if_pos a8] at hr ⊢
      have z8 : f.z = 8 := Classical.byContradiction fun z => by rw [if_neg z] at r1; omega
      refine ⟨0, 0, fun SE AB S hb hA => ⟨_, fin SE AB S hA _ _ (1073741824 + vm_size S) (ad SE AB S hA) (ev SE) ?_, ?_⟩⟩
      · have e8 : (vm_a 1073745920 (t.det + f.o).toNat).toInt = 1073745928 := by rw [a8.2]; exact (vm_a_int (by decide) (by decide))
        unfold vm_num; rw [if_neg (by rw [e8]; omega), if_pos ⟨z8, e8⟩]
      · refine vs_up hA hd ?_
        have m4 : ¬ f.mode = 4 := fun z => by have := hz z; omega
        show vs_v SE AB w rho vt_end 0 0 (if f.mode = 4 then _ else vm_J (1073741824 + vm_size S) : Int64).toBitVec
        rw [if_neg m4, vs_size hA.1]
        exact ⟨fun z => absurd (show (5 : Nat) = 1 from z) (by decide), fun z => absurd (show (5 : Nat) = 2 from z) (by decide), fun z => absurd (show (5 : Nat) = 3 from z) (by decide), fun z => absurd (show (5 : Nat) = 4 from z) (by decide), fun _ => (BitVec.ofInt_natCast 64 (1073741824 + vm_size w)).symm.trans (congrArg (BitVec.ofInt 64) (show ((1073741824 + vm_size w : Nat) : Int) = 1073741824 + (vm_size w : Int) by omega)), fun z => absurd (show (5 : Nat) = 6 from z) (by decide), fun z => absurd (show (5 : Nat) = 7 from z) (by decide), fun z => absurd (show (5 : Nat) = 8 from z) (by decide), (show (5 : Nat) ≤ 8 by decide)⟩
    rw [if_neg a8, if_neg (by omega)] at hr ⊢
    have h16 : 16 ≤ t.det + f.o := by
      by_cases z8 : f.z = 8
      · rw [if_pos z8] at r1
        have := r1.2.2; rw [z8] at this
        have a0' : t.det + f.o ≠ 0 := fun z => a0 ⟨s2, z⟩
        have a8' : t.det + f.o ≠ 8 := fun z => a8 ⟨s2, z⟩
        omega
      · rw [if_neg z8] at r1; exact r1.1
    refine ⟨(vs_ld f (vm_le (w.2 5) (t.det + f.o).toNat f.z)).toBitVec, 0, fun SE AB S hb hA => ⟨_, fin SE AB S hA _ _ _ (ad SE AB S hA) (ev SE) (vm_num_of (B := w.2 5) (by decide) (by omega) (by omega) (by omega) (fun i hi => ?_)), ?_⟩⟩
    · rw [vm_get_c hb (by omega) (by omega) (by rw [vs_size hA.1]; exact o2), hA.1.1 5 (by omega)]
    · exact vs_up hA hd (vs_ldnum hz (vm_le_lt f.z _ (fun i hi => o6 _ (by omega) (by omega))))
  rw [if_neg s2] at r0
  rw [if_neg (fun z => s2 z.1), if_neg (fun z => s2 z.1)] at hr ⊢
  by_cases s3 : t.sort = 3
  · rw [if_pos s3] at r0 hr ⊢
    have r1 : -512 ≤ t.det + f.o ∧ t.det + f.o ≤ -(f.z : Int) ∧ (t.det + f.o) % (f.z : Int) = 0 := Classical.byContradiction fun z => by rw [if_neg z] at r0; exact absurd r0 (by decide)
    obtain ⟨k, hk⟩ : ∃ k : Nat, k = (t.det + f.o + 512).toNat := ⟨_, rfl⟩
    have ev : ∀ SE AB, vs_b SE AB → vm_even SE (vm_a (SE - 512) k) f.z := fun SE AB hb _ => by
      rw [vm_a_int (by omega) (by omega), show SE - 512 + (k : Int) = SE + (t.det + f.o) by omega]
      exact vs_al z4 r1.2.2 hb.2.2.2.2.1
    have ad : ∀ SE AB S, vs_A SE AB w rho wn we wb A S → S.1 0 f.s + vm_i f.o = vm_a (SE - 512) k := fun SE AB S hA => by
      have v := (vs_rd hA hs (ht ▸ s0)).2
      rw [← ht] at v
      exact vs_adr (v.2.2.1 s3) (by omega)
    by_cases c8 : f.z = 8 ∧ (A.1 (vx_slot (t.det + f.o))).sort ≠ 0
    · rw [if_pos c8] at hr ⊢
      have hk8 : k = 8 * (k / 8) := by have := r1.2.2; rw [c8.1] at this; omega
      have es : vx_slot (t.det + f.o) = 11 + k / 8 := by unfold vx_slot; omega
      rw [es] at c8 ⊢
      refine ⟨wn (11 + k / 8), we (11 + k / 8), fun SE AB S hb hA => ?_⟩
      have hsl := hA.2.2.1 (k / 8) (by omega) c8.2
      have m4 : ¬ f.mode = 4 := fun z => by have := hz z; omega
      refine ⟨_, fin SE AB S hA _ _ _ (ad SE AB S hA) (ev SE AB hb) (vm_num_of (B := S.2 2) (by omega) (by omega) (by omega) (by omega) (fun i hi => ?_)), ?_⟩
      · rw [vm_get_s hb (by omega) (by have := hsl.1 i (by omega); rwa [← hk8] at this)]
      · refine vs_up hA hd ?_
        unfold vs_ld
        rw [if_neg m4, c8.1]
        have z := hsl.2
        rw [← hk8] at z; exact z
    · rw [if_neg c8] at hr ⊢
      by_cases cn : vx_nums A (t.det + f.o) f.z = true
      · rw [if_pos cn] at hr ⊢
        have bits : ∀ i, i < f.z → (vt_wr (A.1 (11 + (k + i) / 8))).testBit ((k + i) % 8) = true := fun i hi => by rw [hk]; exact vx_nums_bit cn r1.1 r1.2.1 hi
        refine ⟨(vs_ld f (vm_le (vs_sb A wn wb) k f.z)).toBitVec, 0, fun SE AB S hb hA => ?_⟩
        have sb := fun i hi => vs_stk hA (k := k + i) (by omega) (bits i hi)
        refine ⟨_, fin SE AB S hA _ _ _ (ad SE AB S hA) (ev SE AB hb) (vm_num_of (B := vs_sb A wn wb) (by omega) (by omega) (by omega) (by omega) (fun i hi => ?_)), ?_⟩
        · rw [vm_get_s hb (by omega) (sb i hi).1, (sb i hi).2.1]
        · exact vs_up hA hd (vs_ldnum hz (vm_le_lt f.z _ (fun i hi => by rw [← (sb i hi).2.1]; exact (sb i hi).2.2)))
      · rw [if_neg cn] at hr; exact absurd (show (5 : Nat) = 0 from hr) (by decide)
  rw [if_neg s3] at r0 hr ⊢
  by_cases s4 : t.sort = 4
  · rw [if_pos s4] at r0
    have r1 : 0 ≤ t.val.least.toInt + f.o ∧ t.val.greatest.toInt + f.o + f.z ≤ A.2 := Classical.byContradiction fun z => by rw [if_neg z] at r0; exact absurd r0 (by decide)
    have key : ∀ SE AB S, vs_A SE AB w rho wn we wb A S → vb_mem t.val (wn f.s) ∧ (S.1 0 f.s).toBitVec = BitVec.ofInt 64 1073741824 + wn f.s := fun SE AB S hA => by
      have v := (vs_rd hA hs (ht ▸ s0)).2
      rw [← ht] at v
      exact v.2.2.2.1 s4
    obtain ⟨k, hk⟩ : ∃ k : Nat, k = ((wn f.s).toInt + f.o).toNat := ⟨_, rfl⟩
    refine ⟨(vs_ld f (vm_le (w.2 4) k f.z)).toBitVec, 0, fun SE AB S hb hA => ?_⟩
    obtain ⟨m, hx⟩ := key SE AB S hA
    have m1 := m.2.2.2.1; have m2 := m.2.2.2.2
    have ad : S.1 0 f.s + vm_i f.o = vm_a 1073741824 k := vs_adrn hx (by omega)
    have ev : vm_even SE (vm_a 1073741824 k) f.z := fun z => by
      rw [vm_a_int (by decide) (by omega)] at z
      exfalso; rcases z with z | z <;> omega
    refine ⟨_, fin SE AB S hA _ _ _ ad ev (vm_num_of (B := w.2 4) (by decide) (by omega) (by omega) (by omega) (fun i hi => ?_)), ?_⟩
    · rw [vm_get_p hb (by rw [vs_size hA.1]; omega) (by rw [vs_size hA.1]; exact o2), hA.1.1 4 (by omega)]
    · exact vs_up hA hd (vs_ldnum hz (vm_le_lt f.z _ (fun i hi => o5 _ (by omega))))
  rw [if_neg s4] at r0
  by_cases s7 : t.sort = 7
  · rw [if_pos s7] at r0
    have r1 : 0 ≤ t.val.least.toInt + f.o ∧ t.val.greatest.toInt + f.o + f.z ≤ (M.value t.det : Int) := Classical.byContradiction fun z => by rw [if_neg z] at r0; exact absurd r0 (by decide)
    obtain ⟨j, hj⟩ : ∃ j : Nat, j = ((wn f.s).toInt + f.o).toNat := ⟨_, rfl⟩
    refine ⟨(vs_ld f (vm_le (w.2 6) (vm_at w t.det.toNat (we f.s) + j) f.z)).toBitVec, 0, fun SE AB S hb hA => ?_⟩
    have v := (vs_rd hA hs (ht ▸ s0)).2
    rw [← ht] at v
    obtain ⟨m, he, hx⟩ := v.2.2.2.2.2.2.1 s7
    have m1 := m.2.2.2.1; have m2 := m.2.2.2.2
    have hM : M.value t.det ≤ w.2 10 t.det.toNat := vs_val o4 _
    have hin := vm_at_in o1 he.2.1 he.2.2.1 he.2.2.2.1
    have hff := vm_fill_ge (w.2 10 t.det.toNat)
    have ad : S.1 0 f.s + vm_i f.o = vm_a AB (vm_at w t.det.toNat (we f.s) + j) := by
      refine Int64.toBitVec_inj.mp ?_
      rw [Int64.toBitVec_add, hx]
      show BitVec.ofInt 64 (AB + _) + wn f.s + BitVec.ofInt 64 f.o = BitVec.ofInt 64 (AB + ((vm_at w t.det.toNat (we f.s) + j : Nat) : Int))
      have ej : (j : Int) = (wn f.s).toInt + f.o := by omega
      have e : BitVec.ofInt 64 ((wn f.s).toInt + f.o) = wn f.s + BitVec.ofInt 64 f.o := by rw [BitVec.ofInt_add, BitVec.ofInt_toInt]
      rw [show AB + ((vm_at w t.det.toNat (we f.s) + j : Nat) : Int) = AB + (vm_at w t.det.toNat (we f.s) : Int) + ((wn f.s).toInt + f.o) by omega, BitVec.ofInt_add (AB + (vm_at w t.det.toNat (we f.s) : Int)) ((wn f.s).toInt + f.o), e, BitVec.add_assoc]
    have ev : vm_even SE (vm_a AB (vm_at w t.det.toNat (we f.s) + j)) f.z := fun z => by
      rw [vm_a_int (by omega) (by omega)] at z
      exfalso; rcases z with z | z <;> omega
    refine ⟨_, fin SE AB S hA _ _ _ ad ev (vm_num_of (B := w.2 6) (by omega) (by omega) (by omega) (by omega) (fun i hi => ?_)), ?_⟩
    · rw [vm_get_a hb (by omega) ((vs_led hA.1 _).mpr ⟨t.det.toNat, we f.s, he.2.1, he.2.2.1, he.2.2.2.1, by omega, by omega, he.2.2.2.2⟩) (by rw [vs_size hA.1]; exact o2), hA.1.1 6 (by omega)]
    · exact vs_up hA hd (vs_ldnum hz (vm_le_lt f.z _ (fun i hi => o7 _ (by omega))))
  · rw [if_neg s7] at r0; exact absurd r0 (by decide)
