/-! part h04: atomic instructions (a hand text: this part is the source) -/
theorem vm_bg8 {S : vm_S} (h : vm_sh S) : ∀ k, k ≤ vm_cnt S → vm_bg S k % 8 = 0
  | 0, _ => rfl
  | k + 1, hk => by
    have ih := vm_bg8 h k (by omega)
    have hs := h.2.1 k (by omega)
    show (vm_bg S k + vm_szof S k) % 8 = 0
    have z : vm_szof S k % 8 = 0 := by
      unfold vm_szof
      by_cases c : S.2 8 k = 2
      · rw [if_pos c]
        rcases hs with y | y
        · exact y.2.2.2.2.2.1
        · omega
      · rw [if_neg c, Nat.mul_mod, (vm_fill_ge _).2.2, Nat.mul_zero]
    omega
theorem vm_at8 {S : vm_S} (h : vm_sh S) {k e : Nat} (hk : k < vm_cnt S) : vm_at S k e % 8 = 0 := by
  unfold vm_at
  rw [h.2.2.1 k hk, Nat.add_mod, vm_bg8 h k (by omega), Nat.mul_mod, (vm_fill_ge _).2.2, Nat.mul_zero]
theorem vb_mod_and {x : BitVec 64} {z : Nat} (hz : z = 1 ∨ z = 2 ∨ z = 4 ∨ z = 8) : (x &&& BitVec.ofNat 64 (z - 1)) = 0 ↔ x.toNat % z = 0 := by
  have key : ∀ k : Nat, k < 64 → ((x &&& BitVec.ofNat 64 (2 ^ k - 1)) = 0 ↔ x.toNat % 2 ^ k = 0) := fun k hk => by
    have p : 2 ^ k < 2 ^ 64 := Nat.pow_lt_pow_right (by decide) hk
    have e : (x &&& BitVec.ofNat 64 (2 ^ k - 1)).toNat = x.toNat % 2 ^ k := by
      rw [BitVec.toNat_and, BitVec.toNat_ofNat, Nat.mod_eq_of_lt (show 2 ^ k - 1 < 2 ^ 64 by omega), Nat.and_two_pow_sub_one_eq_mod]
    exact ⟨fun q => by rw [← e, q]; rfl, fun q => BitVec.eq_of_toNat_eq (e.trans q)⟩
  rcases hz with q | q | q | q <;> subst q
  · exact key 0 (by decide)
  · exact key 1 (by decide)
  · exact key 2 (by decide)
  · exact key 3 (by decide)
theorem vs_even {v : vb_S} {o : Int} {z : Nat} {n : BitVec 64} (hz : z = 1 ∨ z = 2 ∨ z = 4 ∨ z = 8) (h : vx_even v o z = true) (m : vb_mem v n) {j : Nat} (hj : n.toInt + o = j) (hj2 : j < 4294967296) : j % z = 0 := by
  unfold vx_even at h
  obtain ⟨h1, h2⟩ := Bool.and_eq_true_iff.mp h
  have h1 := of_decide_eq_true h1
  have h2 := of_decide_eq_true h2
  have hp : n &&& v.mask = v.ones := m.1
  obtain ⟨q, hq⟩ : ∃ q, q = BitVec.ofNat 64 (z - 1) := ⟨_, rfl⟩
  rw [← hq] at h1 h2
  -- the lowest bits of n are those of ones
  have e1 : n &&& q = v.ones &&& q := by
    rw [← hp, BitVec.and_assoc, h1]
  have e2 : n.toNat % z = v.ones.toNat % z := by
    have key : ∀ k : Nat, k < 64 → ∀ x : BitVec 64, (x &&& BitVec.ofNat 64 (2 ^ k - 1)).toNat = x.toNat % 2 ^ k := fun k hk x => by
      have p : 2 ^ k < 2 ^ 64 := Nat.pow_lt_pow_right (by decide) hk
      rw [BitVec.toNat_and, BitVec.toNat_ofNat, Nat.mod_eq_of_lt (show 2 ^ k - 1 < 2 ^ 64 by omega), Nat.and_two_pow_sub_one_eq_mod]
    have e := congrArg BitVec.toNat e1
    rw [hq] at e
    rcases hz with c | c | c | c <;> subst c
    · omega
    · exact (key 1 (by decide) n).symm.trans (e.trans (key 1 (by decide) v.ones))
    · exact (key 2 (by decide) n).symm.trans (e.trans (key 2 (by decide) v.ones))
    · exact (key 3 (by decide) n).symm.trans (e.trans (key 3 (by decide) v.ones))
  rw [hq] at h2
  have h3 := (vb_mod_and hz).mp h2
  have e4 : (BitVec.ofNat 64 j) = n + BitVec.ofInt 64 o := by
    have : BitVec.ofInt 64 (n.toInt + o) = n + BitVec.ofInt 64 o := by rw [BitVec.ofInt_add, BitVec.ofInt_toInt]
    rw [← this, hj, BitVec.ofInt_natCast]
  have t4 := congrArg BitVec.toNat e4
  rw [BitVec.toNat_ofNat, BitVec.toNat_add] at t4
  rw [BitVec.toNat_add] at h3
  generalize n.toNat = a at *
  generalize v.ones.toNat = b at *
  generalize (BitVec.ofInt 64 o).toNat = c at *
  rcases hz with y | y | y | y <;> subst y <;> omega
theorem vs_atomic {M : vf_M} {f : vf_F} {A : vt_A} {w : vm_S} {rho : Int → Option Nat} {wn : Nat → BitVec 64} {we wb : Nat → Nat} (hO : vs_O M w A) (hd : f.d < 11) (hs : f.s < 11) (hr : (vx_atomic M f A).1 = 0) : ∃ w' wn' we', vs_O M w' (vx_atomic M f A).2 ∧ ∀ SE AB S, vs_b SE AB → vs_A SE AB w rho wn we wb A S → ∃ T, vm_atomic SE AB f S = some T ∧ vs_A SE AB w' rho wn' we' wb (vx_atomic M f A).2 T := by
  have hO' := hO
  obtain ⟨o1, o2, o3, o4, o5, o6, o7⟩ := hO
  have z4 := vf_z_cases f
  obtain ⟨d, hde⟩ : ∃ d, d = A.1 f.d := ⟨_, rfl⟩
  obtain ⟨y, hye⟩ : ∃ y, y = A.1 f.s := ⟨_, rfl⟩
  obtain ⟨q, hqe⟩ : ∃ q, q = A.1 0 := ⟨_, rfl⟩
  have hun : vx_atomic M f A = (if d.sort = 0 ∨ y.sort = 0 ∨ (decide (f.i = 241) = true ∧ q.sort = 0) then (1, A) else if d.sort ≠ 7 then (3, A) else if vx_even d.val f.o f.z = false ∨ vx_reach M A d f.o f.z true ≠ 0 then (4, A) else if y.sort ≠ 1 ∨ (decide (f.i = 241) = true ∧ q.sort ≠ 1) then (6, A) else if f.i % 2 = 1 then (0, vt_up A (if decide (f.i = 241) = true then 0 else f.s) (vt_num (vx_anyz f.z))) else (0, A)) := by rw [hde, hye, hqe]; rfl
  rw [hun] at hr ⊢
  have s0 : ¬ (d.sort = 0 ∨ y.sort = 0 ∨ (decide (f.i = 241) = true ∧ q.sort = 0)) := fun z => by rw [if_pos z] at hr; exact absurd (show (1 : Nat) = 0 from hr) (by decide)
  rw [if_neg s0] at hr ⊢
  have s7 : ¬ d.sort ≠ 7 := fun z => by rw [if_pos z] at hr; exact absurd (show (3 : Nat) = 0 from hr) (by decide)
  rw [if_neg s7] at hr ⊢
  have s7 : d.sort = 7 := Classical.not_not.mp s7
  have c4 : ¬ (vx_even d.val f.o f.z = false ∨ vx_reach M A d f.o f.z true ≠ 0) := fun z => by rw [if_pos z] at hr; exact absurd (show (4 : Nat) = 0 from hr) (by decide)
  rw [if_neg c4] at hr ⊢
  have c6 : ¬ (y.sort ≠ 1 ∨ (decide (f.i = 241) = true ∧ q.sort ≠ 1)) := fun z => by rw [if_pos z] at hr; exact absurd (show (6 : Nat) = 0 from hr) (by decide)
  rw [if_neg c6] at hr ⊢
  have evn : vx_even d.val f.o f.z = true := by cases hh : vx_even d.val f.o f.z with
    | true => rfl
    | false => exact absurd (Or.inl hh) c4
  have r0 : vx_reach M A d f.o f.z true = 0 := Classical.byContradiction fun z => c4 (Or.inr z)
  unfold vx_reach at r0
  rw [if_neg (by omega), if_neg (by omega), if_neg (by omega), if_pos s7] at r0
  have r1 : 0 ≤ d.val.least.toInt + f.o ∧ d.val.greatest.toInt + f.o + f.z ≤ (M.value d.det : Int) := Classical.byContradiction fun z => by rw [if_neg z] at r0; exact absurd r0 (by decide)
  have y1 : y.sort = 1 := Classical.byContradiction fun z => c6 (Or.inl z)
  have q1 : f.i = 241 → q.sort = 1 := fun z => Classical.byContradiction fun t => c6 (Or.inr ⟨decide_eq_true z, t⟩)
  obtain ⟨j, hj⟩ : ∃ j : Nat, j = ((wn f.d).toInt + f.o).toNat := ⟨_, rfl⟩
  obtain ⟨pos, hpos⟩ : ∃ pos, pos = vm_at w d.det.toNat (we f.d) + j := ⟨_, rfl⟩
  obtain ⟨old, hold⟩ : ∃ old, old = vm_le (w.2 6) pos f.z := ⟨_, rfl⟩
  obtain ⟨zq, hzq⟩ : ∃ zq : BitVec 64, zq = (if f.i = 241 then wn 0 else 0) := ⟨_, rfl⟩
  obtain ⟨nv, hnv⟩ : ∃ nv, nv = Int64.ofBitVec (vm_new f (BitVec.ofNat 64 old) (wn f.s) zq) := ⟨_, rfl⟩
  obtain ⟨r, hre⟩ : ∃ r, r = (if f.i = 241 then 0 else f.s) := ⟨_, rfl⟩
  refine ⟨vs_wd w 6 pos f.z (vm_bt nv), (if f.i % 2 = 1 then vs_u wn r (vm_J old).toBitVec else wn), (if f.i % 2 = 1 then vs_u we r 0 else we), ?_, fun SE AB S hb hA => ?_⟩
  · have z := vs_O_wr (d := 6) (k := pos) (n := f.z) (v := nv) (by omega) hO'
    split
    · exact vs_O_A z z.2.2.1
    · exact z
  have xv := (vs_rd hA hd (hde ▸ (by omega : d.sort ≠ 0))).2
  have rd := (vs_rd hA hd (hde ▸ (by omega : d.sort ≠ 0))).1
  rw [← hde] at xv
  obtain ⟨m, he, hx⟩ := xv.2.2.2.2.2.2.1 s7
  have m1 := m.2.2.2.1; have m2 := m.2.2.2.2
  have hM : M.value d.det ≤ w.2 10 d.det.toNat := vs_val o4 _
  have hin := vm_at_in o1 he.2.1 he.2.2.1 he.2.2.2.1
  have hff := vm_fill_ge (w.2 10 d.det.toNat)
  have ad : S.1 0 f.d + vm_i f.o = vm_a AB pos := by rw [hpos]; exact vs_adri hx (by omega)
  have yv := vs_rd hA hs (hye ▸ (by omega : y.sort ≠ 0))
  rw [← hye] at yv
  have yn : S.1 0 f.s = Int64.ofBitVec (wn f.s) := Int64.toBitVec_inj.mp (yv.2.1 y1).1
  have qv : (if f.i = 241 then vm_rd S 0 else some 0) = some (Int64.ofBitVec zq) := by
    rw [hzq]
    by_cases c : f.i = 241
    · rw [if_pos c, if_pos c]
      have z := vs_rd hA (r := 0) (by decide) (hqe ▸ (by have := q1 c; omega : q.sort ≠ 0))
      rw [← hqe] at z
      rw [z.1]; congr 1
      exact Int64.toBitVec_inj.mp (z.2.1 (q1 c)).1
    · rw [if_neg c, if_neg c]; rfl
  have al : (vm_a AB pos).toInt % (f.z : Int) = 0 := by
    rw [vm_a_int (by omega) (by omega)]
    have a8 := vm_at8 o1 (e := we f.d) he.2.1
    have ej := vs_even z4 evn m (show (wn f.d).toInt + f.o = j by omega) (by omega)
    rcases z4 with c | c | c | c <;> rw [c] at ej ⊢ <;> omega
  have hl : ∀ i, i < f.z → vm_led w (pos + i) := fun i hi => ⟨d.det.toNat, we f.d, he.2.1, he.2.2.1, he.2.2.2.1, by omega, by omega, he.2.2.2.2⟩
  have num : vm_num SE AB S (vm_a AB pos) f.z = some old := by
    rw [hold]
    refine vm_num_of (B := w.2 6) (by omega) (by omega) (by omega) (by omega) (fun i hi => ?_)
    rw [vm_get_a hb (by omega) ((vs_led hA.1 _).mpr (hl i hi)) (by rw [vs_size hA.1]; exact o2), hA.1.1 6 (by omega)]
  have keep : vm_keep SE AB S (vm_a AB pos) (vm_bt nv) f.z = some (S.1, vm_wr S.2 6 pos f.z (vm_bt nv)) := vm_keep_1 (d := 6) f.z (fun i hi T _ hT => by
    have z : vm_size T = vm_size S := congrFun (hT 0 (by decide)) 0
    have z2 := vs_size hA.1
    refine vm_put_a hb (by omega) ?_ (by omega)
    obtain ⟨a, b, h1, h2, h3, h4, h5, h6⟩ := (vs_led hA.1 (pos + i)).mpr (hl i hi)
    unfold vm_led vm_at vm_cnt at *
    rw [hT 0 (by decide), hT 8 (by decide), hT 11 (by decide), hT 12 (by decide), hT 10 (by decide), hT 7 (by decide)]
    exact ⟨a, b, h1, h2, h3, h4, h5, h6⟩)
  have hAw := vs_wr (d := 6) (k := pos) (n := f.z) (f := vm_bt nv) (by omega) hA
  have run : vm_atomic SE AB f S = some (if f.i = 241 then vm_gv (S.1, vm_wr S.2 6 pos f.z (vm_bt nv)) 0 (vm_J old) else if f.i % 2 = 1 then vm_gv (S.1, vm_wr S.2 6 pos f.z (vm_bt nv)) f.s (vm_J old) else (S.1, vm_wr S.2 6 pos f.z (vm_bt nv))) := by
    show (vm_rd S f.d).bind _ = _
    rw [rd]
    show (vm_rd S f.s).bind _ = _
    rw [yv.1]
    show (if f.i = 241 then vm_rd S 0 else some 0).bind _ = _
    rw [qv]
    show (if (S.1 0 f.d + vm_i f.o).toInt % (f.z : Int) = 0 then _ else none) = _
    rw [ad, if_pos al, num]
    show (vm_keep SE AB S (vm_a AB pos) (vm_bt (Int64.ofBitVec (vm_new f (BitVec.ofNat 64 old) (S.1 0 f.s).toBitVec zq))) f.z).map _ = _
    rw [yn]
    rw [hnv] at keep ⊢
    rw [show (Int64.ofBitVec (wn f.s)).toBitVec = wn f.s from rfl, keep]; rfl
  refine ⟨_, run, ?_⟩
  have lt : old < 256 ^ f.z := by rw [hold]; exact vm_le_lt f.z _ (fun i hi => o7 _ (by omega))
  have vn : vs_v SE AB (vs_wd w 6 pos f.z (vm_bt nv)) rho (vt_num (vx_anyz f.z)) (vm_J old).toBitVec 0 (vm_J old).toBitVec := by
    refine vs_num ?_
    have z := (vx_anyz_in f.z (vm_J old).toBitVec).2
    have hp : (256 : Nat) ^ f.z = 2 ^ (8 * f.z) := (Nat.pow_mul 2 8 f.z).symm
    have h64 : old < 18446744073709551616 := Nat.lt_of_lt_of_le (hp ▸ lt) (Nat.pow_le_pow_right (by decide) (show 8 * f.z ≤ 64 by omega))
    rw [vb_low_id (show 8 * f.z ≤ 64 by omega) (by rw [vm_J_nat h64, ← hp]; exact lt)] at z
    exact z
  by_cases c : f.i = 241
  · rw [if_pos c, if_pos (show f.i % 2 = 1 by omega), if_pos (show f.i % 2 = 1 by omega), if_pos (show f.i % 2 = 1 by omega), if_pos (decide_eq_true c), hre, if_pos c]
    exact vs_up hAw (by decide) vn
  · rw [if_neg c]
    by_cases c2 : f.i % 2 = 1
    · rw [if_pos c2, if_pos c2, if_pos c2, if_pos c2, if_neg (by rw [decide_eq_false c]; decide), hre, if_neg c]
      exact vs_up hAw hs vn
    · rw [if_neg c2, if_neg c2, if_neg c2, if_neg c2]
      exact hAw
