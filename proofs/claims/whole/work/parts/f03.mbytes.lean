/-! part f03: bytes and registers of the machine, of the class (gen/tf03.py) -/
/-- the cells of the class that stay: where, what kind, how long; and which cell holds which -/
def vm_cKl : List (Nat × Nat × Nat) := [(0, 10, 9), (1, 101, 8192), (2, 6, 11), (3, 101, 2048), (4, 101, 64), (5, 101, 512), (6, 101, 65536), (7, 106, 8), (8, 101, 8192), (9, 102, 8192), (171, 2, 13), (172, 103, 16), (173, 101, 512), (174, 100, 512), (175, 101, 32), (176, 101, 256), (177, 107, 8)]
def vm_cRl : List (Nat × Nat × Nat) := [(0, 0, 1), (0, 2, 2), (0, 3, 10), (0, 4, 171), (0, 5, 177), (2, 0, 3), (2, 2, 4), (2, 3, 5), (2, 4, 6), (2, 6, 7), (2, 9, 8), (2, 10, 9), (171, 0, 2), (171, 1, 172), (171, 3, 173), (171, 4, 174), (171, 5, 175), (171, 6, 176)]
def vm_CW (K : Nat → Option (Nat × Nat)) (R : Nat → Nat → Value) : Prop := (∀ e ∈ vm_cKl, K e.1 = some e.2) ∧ ∀ e ∈ vm_cRl, R e.1 e.2.1 = .ref e.2.2
theorem vm_cK {K : Nat → Option (Nat × Nat)} {R : Nat → Nat → Value} (h : vm_CW K R) (a k len : Nat) (hm : (a, k, len) ∈ vm_cKl) : K a = some (k, len) := h.1 (a, k, len) hm
theorem vm_cR {K : Nat → Option (Nat × Nat)} {R : Nat → Nat → Value} (h : vm_CW K R) (o f a : Nat) (hm : (o, f, a) ∈ vm_cRl) : R o f = .ref a := h.2 (o, f, a) hm
/-- the context's bytes, as the class has them in a run -/
def vm_cx (S : vm_S) (j : Nat) : Nat := if j < 8 then vm_bt 1073741824 j else if j < 16 then vm_bt (vm_J (1073741824 + vm_size S)) (j - 8) else S.2 5 j
/-- what the class's isLed says of a byte of the area -/
def vc_led (I : Nat → Nat → Int32) (q : Nat) : Prop := ((q % 8 : Nat) : Int) < (I 8 (q / 8)).toInt ∧ (I 9 (q / 8) = I 171 7 ∨ I 9 (q / 8) = -1)
/-- the class's machine and bytes, against a state -/
def vm_c (I : Nat → Nat → Int32) (L : Nat → Nat → Int64) (S : vm_S) : Prop :=
  (I 2 1 = vl_I (vm_size S) ∧ vm_size S ≤ 2048) ∧ (∀ r, r < 16 → (I 171 2).toBitVec.getLsbD r = decide (S.2 1 r = 1)) ∧ (∀ r, r < 11 → S.2 1 r = 1 → L 172 r = S.1 0 r) ∧
  (∀ k, k < 512 → I 174 k = vl_I (S.2 3 k) ∧ S.2 3 k ≤ 1 ∧ (S.2 3 k = 1 → I 173 k = vl_sb (S.2 2 k) ∧ S.2 2 k < 256)) ∧
  vm_by I 3 2048 (S.2 4) ∧ (∀ j, j < 64 → I 4 j = vl_sb (vm_cx S j) ∧ vm_cx S j < 256) ∧ vm_by I 6 65536 (S.2 6) ∧ (∀ q, q < 65536 → (vm_led S q ↔ vc_led I q)) ∧ L 2 8 = S.1 1 0
/-- the address that is k behind c -/
def vm_a (c : Int) (k : Nat) : Int64 := Int64.ofInt (c + k)
theorem vm_a_int {c : Int} {k : Nat} (hc : -1099511627776 ≤ c ∧ c ≤ 1099511627776) (hk : k < 1099511627776) : (vm_a c k).toInt = c + k := by unfold vm_a; rw [Int64.toInt_ofInt]; exact vi_bm (by omega) (by omega)
theorem vm_a_of (a : Int64) {c : Int} (h : c ≤ a.toInt) : a = vm_a c (a.toInt - c).toNat := by
  unfold vm_a
  rw [show c + ((a.toInt - c).toNat : Int) = a.toInt by omega]
  exact (Int64.ofInt_toInt a).symm
theorem vm_a_sub {c : Int} {k : Nat} {l : Int64} {d : Nat} (hc : -1099511627776 ≤ c ∧ c ≤ 1099511627776) (hl : l.toInt = c - d) (hk : k + d < 2147483648) (hd : -1099511627776 ≤ c - d) : (vm_a c k - l).toInt32 = vl_I (k + d) := by
  have e : (vm_a c k - l).toInt = ((k + d : Nat) : Int) := by
    rw [Int64.toInt_sub, vm_a_int hc (by omega), hl]
    exact (vi_bm (by omega) (by omega)).trans (by omega)
  refine Int32.toInt_inj.mp ?_
  rw [Int64.toInt_toInt32, e, vl_I_i hk, Int.bmod_def]
  split <;> omega
theorem vi_shb {x : BitVec 32} {r : Nat} (hr : r < 16) : (x.sshiftRight r) &&& 1#32 = if x.getLsbD r = true then 1#32 else 0#32 := by
  refine BitVec.eq_of_getLsbD_eq (fun i hi => ?_)
  rw [BitVec.getLsbD_and, BitVec.getLsbD_sshiftRight]
  have d3 : decide (32 ≤ i) = false := decide_eq_false (by omega)
  by_cases i0 : i = 0
  · subst i0
    rw [d3, if_pos (show r + 0 < 32 by omega)]
    cases h : x.getLsbD r <;> simp [h]
  · have d1 : (1#32).getLsbD i = false := by
      have : (1#32).getLsbD i = decide (i = 0) := by simp [BitVec.getLsbD_one]
      rw [this]; exact decide_eq_false i0
    rw [d1, Bool.and_false]
    split
    · exact d1.symm
    · simp
theorem vi_shr {x : Int32} {r : Nat} (hr : r < 16) : (x >>> (vl_I r &&& 31)) &&& (1 : Int32) = if x.toBitVec.getLsbD r = true then 1 else 0 := by
  refine Int32.toBitVec_inj.mp ?_
  have hs : ∀ c : Fin 16, ((vl_I c.val &&& 31 : Int32).toBitVec.smod 32) = BitVec.ofNat 32 c.val := by decide +kernel
  rw [Int32.toBitVec_and, Int32.toBitVec_shiftRight, show ((vl_I r &&& 31 : Int32).toBitVec.smod 32) = BitVec.ofNat 32 r from hs ⟨r, hr⟩, BitVec.sshiftRight_eq', show (BitVec.ofNat 32 r).toNat = r from (BitVec.toNat_ofNat _ _).trans (Nat.mod_eq_of_lt (by omega))]
  exact (vi_shb hr).trans (by cases x.toBitVec.getLsbD r <;> rfl)
theorem vi_shl1 : ∀ r j : Fin 16, ((1 : Int32) <<< (vl_I r.val &&& 31)).toBitVec.getLsbD j.val = decide (j.val = r.val) := by decide +kernel
theorem vc_m_gv {I : Nat → Nat → Int32} {L : Nat → Nat → Int64} {S : vm_S} {r : Nat} {v : Int64} (h : vm_c I L S) (hr : r < 11) : vm_c (jv_u I 171 2 (I 171 2 ||| ((1 : Int32) <<< (vl_I r &&& 31)))) (jv_u L 172 r v) (vm_gv S r v) := by
  obtain ⟨h1, h2, h3, h4, h5, h6, h7, h8, h9⟩ := h
  have eI : ∀ q f, ¬ (q = 171 ∧ f = 2) → jv_u I 171 2 (I 171 2 ||| ((1 : Int32) <<< (vl_I r &&& 31))) q f = I q f := fun q f z => by
    by_cases c : q = 171
    · subst c; exact jv_u_j _ _ _ _ (fun y => z ⟨rfl, y⟩)
    · exact jv_u_o _ _ _ _ c
  have eS : ∀ c i, c ≠ 1 → (vm_gv S r v).2 c i = S.2 c i := fun c i z => jv_u_o _ _ _ _ z
  have el : ∀ q, vm_led (vm_gv S r v) q ↔ vm_led S q := fun q => Iff.rfl
  refine ⟨⟨(eI 2 1 (by decide)).trans h1.1, h1.2⟩, fun j hj => ?_, fun j hj g => ?_, fun k hk => ?_, fun j hj => ?_, fun j hj => ?_, fun j hj => ?_, fun q hq => ?_, ?_⟩
  · rw [jv_u_self, Int32.toBitVec_or, BitVec.getLsbD_or, h2 j hj, vi_shl1 ⟨r, by omega⟩ ⟨j, hj⟩]
    show (decide (S.2 1 j = 1) || decide (j = r)) = decide (jv_u S.2 1 r 1 1 j = 1)
    by_cases c : j = r
    · subst c; rw [jv_u_self]; simp
    · rw [jv_u_j _ _ _ _ c]; simp [c]
  · show jv_u L 172 r v 172 j = jv_u S.1 0 r v 0 j
    by_cases c : j = r
    · subst c; rw [jv_u_self, jv_u_self]
    · rw [jv_u_j _ _ _ _ c, jv_u_j _ _ _ _ c]
      exact h3 j hj (by have g : jv_u S.2 1 r 1 1 j = 1 := g; rwa [jv_u_j _ _ _ _ c] at g)
  · rw [eI 174 k (by omega), eI 173 k (by omega)]; exact h4 k hk
  · rw [eI 3 j (by omega)]; exact h5 j hj
  · rw [eI 4 j (by omega)]; exact h6 j hj
  · rw [eI 6 j (by omega)]; exact h7 j hj
  · rw [el]; unfold vc_led
    rw [eI 8 _ (by omega), eI 9 _ (by omega), eI 171 7 (by omega)]; exact h8 q hq
  · exact (jv_u_o L r 8 v (show 2 ≠ 172 by decide)).trans (h9.trans (jv_u_o S.1 r 0 v (show 1 ≠ 0 by decide)).symm)
theorem jv_ret_y {x : Int32} (h : x.toInt8.toInt32 = x) : jv_ret (some .byte) .ireturn [.int x] = some (some (.int x)) := by
  show (if x.toInt8.toInt32 = x then some (some (Value.int x)) else none) = _
  rw [if_pos h]
theorem vi_d8 {a : Int32} {x : Nat} (h : a = vl_I x) (hx : x < 2147483648) : a / (8 : Int32) = vl_I (x / 8) := by
  rw [h]
  refine Int32.toInt_inj.mp ?_
  rw [Int32.toInt_div, vl_I_i (by omega), vl_I_i (by omega), show (8 : Int32).toInt = 8 from rfl, Int.tdiv_eq_ediv_of_nonneg (by omega), Int.bmod_def]
  split <;> omega
theorem vm_a_lt {c : Int} {k : Nat} {l : Int64} {d : Int} (hl : l.toInt = d) (hc : -1099511627776 ≤ c ∧ c ≤ 1099511627776) (hk : k < 1099511627776) : (vm_a c k < l) ↔ c + k < d := by rw [Int64.lt_iff_toInt_lt, vm_a_int hc hk, hl]
theorem vm_a_ge {c : Int} {k : Nat} {l : Int64} {d : Int} (hl : l.toInt = d) (hc : -1099511627776 ≤ c ∧ c ≤ 1099511627776) (hk : k < 1099511627776) : (l ≤ vm_a c k) ↔ d ≤ c + k := by rw [Int64.le_iff_toInt_le, vm_a_int hc hk, hl]
theorem vm_psz {c : Int64} (hc : c.toInt = 1073741824) {x : Int32} {s : Nat} (hx : x = vl_I s) (hs : s ≤ 2048) : (c + x.toInt64).toInt = 1073741824 + s := by
  rw [vi_add (by omega), hc, hx, vl_I_i (by omega)]
theorem vi_rem8J {v : Int64} {q : Nat} (hv : v.toInt = q) (hq : q < 65536) : (v - v / (8 : Int64) * (8 : Int64)).toInt = ((q % 8 : Nat) : Int) := by
  have e2 : (v / (8 : Int64)).toInt = ((q / 8 : Nat) : Int) := by
    rw [Int64.toInt_div, hv, show (8 : Int64).toInt = 8 from by decide]
    rw [show (q : Int).tdiv 8 = ((q / 8 : Nat) : Int) from rfl]
    exact vi_bm (by omega) (by omega)
  rw [Int64.toInt_sub, Int64.toInt_mul, e2, hv, show (8 : Int64).toInt = 8 from by decide]
  rw [vi_bm (x := ((q / 8 : Nat) : Int) * 8) (by omega) (by omega)]
  exact (vi_bm (by omega) (by omega)).trans (by omega)
theorem jv_i53 : jv_I 53 2 (some .long) 0 0 jv_c53 := ⟨rfl, rfl, rfl, rfl, rfl⟩
theorem vm_cget_0 {K : Nat → Option (Nat × Nat)} {I : Nat → Nat → Int32} {L : Nat → Nat → Int64} {R : Nat → Nat → Value} (hC : vm_CW K R) {S : vm_S} (h : vm_c I L S) {r : Nat} (hr : r < 11) {v : Int64} (hg : vm_rd S r = some v) {n sl : Nat} {Q : jv_R → Prop} (hQ : Q (some (.long v), jv_H K I L R, n, sl)) : jv_Wp 53 0 [(0, .ref 171), (1, .int (vl_I r))] [] (jv_H K I L R) n sl Q := by
  have hg1 : S.2 1 r = 1 := by
    unfold vm_rd at hg
    by_cases c : S.2 1 r = 1
    · exact c
    · rw [if_neg c] at hg; cases hg
  have hv : L 172 r = v := by
    unfold vm_rd at hg; rw [if_pos hg1] at hg
    exact (h.2.2.1 r hr hg1).trans (Option.some.inj hg)
  have hz0 : ¬ ((I 171 2) >>> ((vl_I r) &&& 31)) &&& (1 : Int32) = 0 := by
    rw [vi_shr (show r < 16 by omega), h.2.1 r (by omega), decide_eq_true hg1]; decide
  refine jv_Wp.lift (fun _ Kz => jv_Ev.steps jv_i53 1 (pc' := 1) (l' := [(0, .ref 171), (1, .int (vl_I r))]) (st' := [.ref 171]) rfl Kz) ?_
  refine jv_Wp.lift (fun _ Kz => jv_Ev.m jv_i53 (pc' := 4) (st' := [.int (I 171 2)]) (G' := (jv_H K I L R)) rfl rfl (jv_m_getI (vm_cK hC 171 2 13 (by decide)) rfl rfl rfl) Kz) ?_
  refine jv_Wp.lift (fun _ Kz => jv_Ev.steps jv_i53 4 (pc' := 8) (l' := [(0, .ref 171), (1, .int (vl_I r))]) (st' := [.int (((I 171 2) >>> ((vl_I r) &&& 31)) &&& (1 : Int32))]) rfl Kz) ?_
  refine jv_Wp.cnd jv_i53 (pt := 23) (pe := 11) (p := (¬ (((I 171 2) >>> ((vl_I r) &&& 31)) &&& (1 : Int32)) = 0)) (q := (¬ (((I 171 2) >>> ((vl_I r) &&& 31)) &&& (1 : Int32)) = 0)) rfl jv_bi_ne rfl rfl Iff.rfl (fun _ => ?_) (fun hz => absurd hz0 hz)
  refine jv_Wp.lift (fun _ Kz => jv_Ev.steps jv_i53 1 (pc' := 24) (l' := [(0, .ref 171), (1, .int (vl_I r))]) (st' := [.ref 171]) rfl Kz) ?_
  refine jv_Wp.lift (fun _ Kz => jv_Ev.m jv_i53 (pc' := 27) (st' := [.ref 172]) (G' := (jv_H K I L R)) rfl rfl (jv_m_getR (vm_cK hC 171 2 13 (by decide)) rfl rfl (vm_cR hC 171 1 172 (by decide))) Kz) ?_
  refine jv_Wp.lift (fun _ Kz => jv_Ev.steps jv_i53 1 (pc' := 28) (l' := [(0, .ref 171), (1, .int (vl_I r))]) (st' := [.int (vl_I r), .ref 172]) rfl Kz) ?_
  refine jv_Wp.lift (fun _ Kz => jv_Ev.m jv_i53 (pc' := 29) (st' := [.long (L 172 r)]) (G' := (jv_H K I L R)) rfl rfl (jv_m_laldv (vm_cK hC 172 103 16 (by decide)) rfl (vl_I_ix (by omega) (by decide)) rfl ((congrArg (L 172) (vl_I_nat (by omega))).trans rfl)) Kz) ?_
  refine jv_Wp.of (jv_Ev.ret jv_i53 rfl rfl) ?_
  rw [hv]
  exact hQ
theorem vm_cget {K : Nat → Option (Nat × Nat)} {I : Nat → Nat → Int32} {L : Nat → Nat → Int64} {R : Nat → Nat → Value} (hC : vm_CW K R) {S : vm_S} (h : vm_c I L S) {r : Nat} (hr : r < 11) {v : Int64} (hg : vm_rd S r = some v) {n sl : Nat} : jv_Ms 53 [.ref 171, .int (vl_I r)] (jv_H K I L R) n sl (some (.long v), jv_H K I L R, n, sl) := by
  obtain ⟨X, k, e⟩ := vm_cget_0 (n := n) (sl := sl) (Q := fun X => X = (some (.long v), jv_H K I L R, n, sl)) hC h hr hg rfl
  subst e
  exact k
theorem jv_i54 : jv_I 54 4 none 0 0 jv_c54 := ⟨rfl, rfl, rfl, rfl, rfl⟩
theorem vm_cset_0 {K : Nat → Option (Nat × Nat)} {I : Nat → Nat → Int32} {L : Nat → Nat → Int64} {R : Nat → Nat → Value} (hC : vm_CW K R) {r : Nat} (hr : r < 16) {v : Int64} {n sl : Nat} {Q : jv_R → Prop} (hQ : Q (none, jv_H K (jv_u I 171 2 (I 171 2 ||| ((1 : Int32) <<< (vl_I r &&& 31)))) (jv_u L 172 r v) R, n, sl)) : jv_Wp 54 0 [(0, .ref 171), (1, .int (vl_I r)), (2, .long v)] [] (jv_H K I L R) n sl Q := by
  refine jv_Wp.lift (fun _ Kz => jv_Ev.steps jv_i54 1 (pc' := 1) (l' := [(0, .ref 171), (1, .int (vl_I r)), (2, .long v)]) (st' := [.ref 171]) rfl Kz) ?_
  refine jv_Wp.lift (fun _ Kz => jv_Ev.m jv_i54 (pc' := 4) (st' := [.ref 172]) (G' := (jv_H K I L R)) rfl rfl (jv_m_getR (vm_cK hC 171 2 13 (by decide)) rfl rfl (vm_cR hC 171 1 172 (by decide))) Kz) ?_
  refine jv_Wp.lift (fun _ Kz => jv_Ev.steps jv_i54 2 (pc' := 6) (l' := [(0, .ref 171), (1, .int (vl_I r)), (2, .long v)]) (st' := [.long v, .int (vl_I r), .ref 172]) rfl Kz) ?_
  refine jv_Wp.lift (fun _ Kz => jv_Ev.m jv_i54 (pc' := 7) (st' := []) (G' := (jv_H K I (jv_u L 172 r v) R)) rfl rfl (by rw [jv_m_last (vm_cK hC 172 103 16 (by decide)) (vl_I_ix (by omega) (by decide)), (vl_I_nat (by omega))]) Kz) ?_
  refine jv_Wp.lift (fun _ Kz => jv_Ev.steps jv_i54 2 (pc' := 9) (l' := [(0, .ref 171), (1, .int (vl_I r)), (2, .long v)]) (st' := [.ref 171, .ref 171]) rfl Kz) ?_
  refine jv_Wp.lift (fun _ Kz => jv_Ev.m jv_i54 (pc' := 12) (st' := [.int (I 171 2), .ref 171]) (G' := (jv_H K I (jv_u L 172 r v) R)) rfl rfl (jv_m_getI (vm_cK hC 171 2 13 (by decide)) rfl rfl rfl) Kz) ?_
  refine jv_Wp.lift (fun _ Kz => jv_Ev.steps jv_i54 4 (pc' := 16) (l' := [(0, .ref 171), (1, .int (vl_I r)), (2, .long v)]) (st' := [.int ((I 171 2) ||| ((1 : Int32) <<< ((vl_I r) &&& 31))), .ref 171]) rfl Kz) ?_
  refine jv_Wp.lift (fun _ Kz => jv_Ev.m jv_i54 (pc' := 19) (st' := []) (G' := (jv_H K (jv_u I 171 2 ((I 171 2) ||| ((1 : Int32) <<< ((vl_I r) &&& 31)))) (jv_u L 172 r v) R)) rfl rfl (jv_m_putI (vm_cK hC 171 2 13 (by decide)) rfl rfl rfl rfl) Kz) ?_
  refine jv_Wp.of (jv_Ev.ret jv_i54 rfl rfl) ?_
  exact hQ
theorem vm_cset {K : Nat → Option (Nat × Nat)} {I : Nat → Nat → Int32} {L : Nat → Nat → Int64} {R : Nat → Nat → Value} (hC : vm_CW K R) {r : Nat} (hr : r < 16) {v : Int64} {n sl : Nat} : jv_Ms 54 [.ref 171, .int (vl_I r), .long v] (jv_H K I L R) n sl (none, jv_H K (jv_u I 171 2 (I 171 2 ||| ((1 : Int32) <<< (vl_I r &&& 31)))) (jv_u L 172 r v) R, n, sl) := by
  obtain ⟨X, k, e⟩ := vm_cset_0 (n := n) (sl := sl) (I := I) (L := L) (Q := fun X => X = (none, jv_H K (jv_u I 171 2 (I 171 2 ||| ((1 : Int32) <<< (vl_I r &&& 31)))) (jv_u L 172 r v) R, n, sl)) hC hr rfl
  subst e
  exact k
theorem jv_i129 : jv_I 129 5 (some .boolean) 0 0 jv_c129 := ⟨rfl, rfl, rfl, rfl, rfl⟩
theorem vc_isLed_0 {K : Nat → Option (Nat × Nat)} {I : Nat → Nat → Int32} {L : Nat → Nat → Int64} {R : Nat → Nat → Value} (hC : vm_CW K R) {v : Int64} {q : Nat} (hv : v.toInt = q) (hq : q < 65536) (hled : vc_led I q) {r : Int32} (hr : r = I 171 7) {n sl : Nat} {Q : jv_R → Prop} (hQ : Q (some (.int (1 : Int32)), jv_H K I L R, n, sl)) : jv_Wp 129 0 [(0, .ref 2), (1, .long v), (3, .int r)] [] (jv_H K I L R) n sl Q := by
  have hq32 : v.toInt32 = vl_I q := Int32.toInt_inj.mp (by rw [Int64.toInt_toInt32, hv, vl_I_i (by omega), Int.bmod_def]; split <;> omega)
  refine jv_Wp.lift (fun _ Kz => jv_Ev.steps jv_i129 3 (pc' := 3) (l' := [(0, .ref 2), (1, .long v), (3, .int r)]) (st' := [.int (lg_cmp v (0 : Int64))]) rfl Kz) ?_
  refine jv_Wp.cnd jv_i129 (pt := 14) (pe := 6) (p := ((lg_cmp v (0 : Int64)) < 0)) (q := (v < (0 : Int64))) rfl jv_bi_lt rfl rfl (lg_cmp_lt v (0 : Int64)) (fun hz => absurd hz (fun z => by have z := Int64.lt_iff_toInt_lt.mp z; rw [hv, show (0 : Int64).toInt = 0 from by decide] at z; omega)) (fun _ => ?_)
  refine jv_Wp.lift (fun _ Kz => jv_Ev.steps jv_i129 3 (pc' := 11) (l' := [(0, .ref 2), (1, .long v), (3, .int r)]) (st' := [.int (lg_cmp v (65536 : Int64))]) rfl Kz) ?_
  refine jv_Wp.cnd jv_i129 (pt := 16) (pe := 14) (p := ((lg_cmp v (65536 : Int64)) < 0)) (q := (v < (65536 : Int64))) rfl jv_bi_lt rfl rfl (lg_cmp_lt v (65536 : Int64)) (fun _ => ?_) (fun hz => absurd (Int64.lt_iff_toInt_lt.mpr (by rw [hv, show (65536 : Int64).toInt = 65536 from by decide]; omega)) hz)
  refine jv_Wp.lift (fun _ Kz => jv_Ev.steps jv_i129 3 (pc' := 20) (l' := [(0, .ref 2), (1, .long v), (3, .int r)]) (st' := [.int (8 : Int32), .int v.toInt32]) rfl Kz) ?_
  refine jv_Wp.lift (fun _ Kz => jv_Ev.op jv_i129 (pc' := 21) (l' := [(0, .ref 2), (1, .long v), (3, .int r)]) (st' := [.int (v.toInt32 / (8 : Int32))]) rfl (jv_op_idiv (by decide)) Kz) ?_
  refine jv_Wp.lift (fun _ Kz => jv_Ev.steps jv_i129 3 (pc' := 27) (l' := [(4, .int (v.toInt32 / (8 : Int32))), (0, .ref 2), (1, .long v), (3, .int r)]) (st' := [.long (8 : Int64), .long v]) rfl Kz) ?_
  refine jv_Wp.lift (fun _ Kz => jv_Ev.op jv_i129 (pc' := 28) (l' := [(4, .int (v.toInt32 / (8 : Int32))), (0, .ref 2), (1, .long v), (3, .int r)]) (st' := [.long (v - v / (8 : Int64) * (8 : Int64))]) rfl (jv_op_lrem (by decide)) Kz) ?_
  refine jv_Wp.lift (fun _ Kz => jv_Ev.steps jv_i129 1 (pc' := 29) (l' := [(4, .int (v.toInt32 / (8 : Int32))), (0, .ref 2), (1, .long v), (3, .int r)]) (st' := [.ref 2, .long (v - v / (8 : Int64) * (8 : Int64))]) rfl Kz) ?_
  refine jv_Wp.lift (fun _ Kz => jv_Ev.m jv_i129 (pc' := 32) (st' := [.ref 8, .long (v - v / (8 : Int64) * (8 : Int64))]) (G' := (jv_H K I L R)) rfl rfl (jv_m_getR (vm_cK hC 2 6 11 (by decide)) rfl rfl (vm_cR hC 2 9 8 (by decide))) Kz) ?_
  refine jv_Wp.lift (fun _ Kz => jv_Ev.steps jv_i129 1 (pc' := 34) (l' := [(4, .int (v.toInt32 / (8 : Int32))), (0, .ref 2), (1, .long v), (3, .int r)]) (st' := [.int (v.toInt32 / (8 : Int32)), .ref 8, .long (v - v / (8 : Int64) * (8 : Int64))]) rfl Kz) ?_
  refine jv_Wp.lift (fun _ Kz => jv_Ev.m jv_i129 (pc' := 35) (st' := [.int (I 8 (q / 8)), .long (v - v / (8 : Int64) * (8 : Int64))]) (G' := (jv_H K I L R)) rfl rfl (jv_m_baldv (vm_cK hC 8 101 8192 (by decide)) rfl (by rw [show (v.toInt32 / (8 : Int32)) = vl_I (q / 8) from (vi_d8 hq32 (by omega))]; exact vl_I_ix (by omega) (by first | omega | decide)) rfl ((congrArg (I 8) (show (v.toInt32 / (8 : Int32)).toNatClampNeg = q / 8 from by rw [show (v.toInt32 / (8 : Int32)) = vl_I (q / 8) from (vi_d8 hq32 (by omega))]; exact vl_I_nat (by omega))).trans rfl)) Kz) ?_
  refine jv_Wp.lift (fun _ Kz => jv_Ev.steps jv_i129 2 (pc' := 37) (l' := [(4, .int (v.toInt32 / (8 : Int32))), (0, .ref 2), (1, .long v), (3, .int r)]) (st' := [.int (lg_cmp (v - v / (8 : Int64) * (8 : Int64)) (I 8 (q / 8)).toInt64)]) rfl Kz) ?_
  refine jv_Wp.cnd jv_i129 (pt := 66) (pe := 40) (p := (0 ≤ (lg_cmp (v - v / (8 : Int64) * (8 : Int64)) (I 8 (q / 8)).toInt64))) (q := ((I 8 (q / 8)).toInt64 ≤ (v - v / (8 : Int64) * (8 : Int64)))) rfl jv_bi_ge rfl rfl (lg_cmp_ge (v - v / (8 : Int64) * (8 : Int64)) (I 8 (q / 8)).toInt64) (fun hz => absurd hz (fun z => by have z := Int64.le_iff_toInt_le.mp z; rw [vi_rem8J hv hq, Int32.toInt_toInt64] at z; have := hled.1; omega)) (fun _ => ?_)
  refine jv_Wp.lift (fun _ Kz => jv_Ev.steps jv_i129 1 (pc' := 41) (l' := [(4, .int (v.toInt32 / (8 : Int32))), (0, .ref 2), (1, .long v), (3, .int r)]) (st' := [.ref 2]) rfl Kz) ?_
  refine jv_Wp.lift (fun _ Kz => jv_Ev.m jv_i129 (pc' := 44) (st' := [.ref 9]) (G' := (jv_H K I L R)) rfl rfl (jv_m_getR (vm_cK hC 2 6 11 (by decide)) rfl rfl (vm_cR hC 2 10 9 (by decide))) Kz) ?_
  refine jv_Wp.lift (fun _ Kz => jv_Ev.steps jv_i129 1 (pc' := 46) (l' := [(4, .int (v.toInt32 / (8 : Int32))), (0, .ref 2), (1, .long v), (3, .int r)]) (st' := [.int (v.toInt32 / (8 : Int32)), .ref 9]) rfl Kz) ?_
  refine jv_Wp.lift (fun _ Kz => jv_Ev.m jv_i129 (pc' := 47) (st' := [.int (I 9 (q / 8))]) (G' := (jv_H K I L R)) rfl rfl (jv_m_ialdv (vm_cK hC 9 102 8192 (by decide)) rfl (by rw [show (v.toInt32 / (8 : Int32)) = vl_I (q / 8) from (vi_d8 hq32 (by omega))]; exact vl_I_ix (by omega) (by first | omega | decide)) rfl ((congrArg (I 9) (show (v.toInt32 / (8 : Int32)).toNatClampNeg = q / 8 from by rw [show (v.toInt32 / (8 : Int32)) = vl_I (q / 8) from (vi_d8 hq32 (by omega))]; exact vl_I_nat (by omega))).trans rfl)) Kz) ?_
  refine jv_Wp.lift (fun _ Kz => jv_Ev.steps jv_i129 1 (pc' := 48) (l' := [(4, .int (v.toInt32 / (8 : Int32))), (0, .ref 2), (1, .long v), (3, .int r)]) (st' := [.int r, .int (I 9 (q / 8))]) rfl Kz) ?_
  refine jv_Wp.cnd jv_i129 (pt := 62) (pe := 51) (p := ((I 9 (q / 8)) = r)) (q := ((I 9 (q / 8)) = r)) rfl jv_bc_eq rfl rfl Iff.rfl (fun h1 => ?_) (fun h1 => ?_)
  · refine jv_Wp.lift (fun _ Kz => jv_Ev.steps jv_i129 2 (pc' := 67) (l' := [(4, .int (v.toInt32 / (8 : Int32))), (0, .ref 2), (1, .long v), (3, .int r)]) (st' := [.int (1 : Int32)]) rfl Kz) ?_
    refine jv_Wp.of (jv_Ev.ret jv_i129 rfl (jv_ret_b (Or.inr rfl))) ?_
    exact hQ
  · refine jv_Wp.lift (fun _ Kz => jv_Ev.steps jv_i129 1 (pc' := 52) (l' := [(4, .int (v.toInt32 / (8 : Int32))), (0, .ref 2), (1, .long v), (3, .int r)]) (st' := [.ref 2]) rfl Kz) ?_
    refine jv_Wp.lift (fun _ Kz => jv_Ev.m jv_i129 (pc' := 55) (st' := [.ref 9]) (G' := (jv_H K I L R)) rfl rfl (jv_m_getR (vm_cK hC 2 6 11 (by decide)) rfl rfl (vm_cR hC 2 10 9 (by decide))) Kz) ?_
    refine jv_Wp.lift (fun _ Kz => jv_Ev.steps jv_i129 1 (pc' := 57) (l' := [(4, .int (v.toInt32 / (8 : Int32))), (0, .ref 2), (1, .long v), (3, .int r)]) (st' := [.int (v.toInt32 / (8 : Int32)), .ref 9]) rfl Kz) ?_
    refine jv_Wp.lift (fun _ Kz => jv_Ev.m jv_i129 (pc' := 58) (st' := [.int (I 9 (q / 8))]) (G' := (jv_H K I L R)) rfl rfl (jv_m_ialdv (vm_cK hC 9 102 8192 (by decide)) rfl (by rw [show (v.toInt32 / (8 : Int32)) = vl_I (q / 8) from (vi_d8 hq32 (by omega))]; exact vl_I_ix (by omega) (by first | omega | decide)) rfl ((congrArg (I 9) (show (v.toInt32 / (8 : Int32)).toNatClampNeg = q / 8 from by rw [show (v.toInt32 / (8 : Int32)) = vl_I (q / 8) from (vi_d8 hq32 (by omega))]; exact vl_I_nat (by omega))).trans rfl)) Kz) ?_
    refine jv_Wp.lift (fun _ Kz => jv_Ev.steps jv_i129 1 (pc' := 59) (l' := [(4, .int (v.toInt32 / (8 : Int32))), (0, .ref 2), (1, .long v), (3, .int r)]) (st' := [.int (-1 : Int32), .int (I 9 (q / 8))]) rfl Kz) ?_
    refine jv_Wp.cnd jv_i129 (pt := 66) (pe := 62) (p := (¬ (I 9 (q / 8)) = (-1 : Int32))) (q := (¬ (I 9 (q / 8)) = (-1 : Int32))) rfl jv_bc_ne rfl rfl Iff.rfl (fun h2 => ?_) (fun h2 => ?_)
    · refine jv_Wp.lift (fun _ Kz => jv_Ev.steps jv_i129 1 (pc' := 67) (l' := [(4, .int (v.toInt32 / (8 : Int32))), (0, .ref 2), (1, .long v), (3, .int r)]) (st' := [.int (0 : Int32)]) rfl Kz) ?_
      refine jv_Wp.of (jv_Ev.ret jv_i129 rfl (jv_ret_b (Or.inl rfl))) ?_
      exact absurd hled.2 (fun z => z.elim (fun z => h1 (z.trans hr.symm)) (fun z => h2 z))
    · refine jv_Wp.lift (fun _ Kz => jv_Ev.steps jv_i129 2 (pc' := 67) (l' := [(4, .int (v.toInt32 / (8 : Int32))), (0, .ref 2), (1, .long v), (3, .int r)]) (st' := [.int (1 : Int32)]) rfl Kz) ?_
      refine jv_Wp.of (jv_Ev.ret jv_i129 rfl (jv_ret_b (Or.inr rfl))) ?_
      exact hQ
theorem vc_isLed {K : Nat → Option (Nat × Nat)} {I : Nat → Nat → Int32} {L : Nat → Nat → Int64} {R : Nat → Nat → Value} (hC : vm_CW K R) {v : Int64} {q : Nat} (hv : v.toInt = q) (hq : q < 65536) (hled : vc_led I q) {r : Int32} (hr : r = I 171 7) {n sl : Nat} : jv_Ms 129 [.ref 2, .long v, .int r] (jv_H K I L R) n sl (some (.int (1 : Int32)), jv_H K I L R, n, sl) := by
  obtain ⟨X, k, e⟩ := vc_isLed_0 (n := n) (sl := sl) (I := I) (L := L) (Q := fun X => X = (some (.int (1 : Int32)), jv_H K I L R, n, sl)) hC hv hq hled hr rfl
  subst e
  exact k
theorem jv_i59 : jv_I 59 4 (some .byte) 1 24 jv_c59 := ⟨rfl, rfl, rfl, rfl, rfl⟩
theorem vc_readByte_s_0 {K : Nat → Option (Nat × Nat)} {I : Nat → Nat → Int32} {L : Nat → Nat → Int64} {R : Nat → Nat → Value} (hC : vm_CW K R) {S : vm_S} (h : vm_c I L S) {k : Nat} (hk : k < 512) (hex : S.2 3 k = 1) {n sl : Nat} {Q : jv_R → Prop} (hQ : Q (some (.int (I 173 k)), jv_H K I L R, n, sl)) : jv_Wp 59 0 [(0, .ref 171), (1, .long (vm_a 1073750016 k))] [] (jv_H K I L R) n sl Q := by
  have hs0 := h.1.2
  have hsz : ((1073741824 : Int64) + (I 2 1).toInt64).toInt = 1073741824 + (vm_size S : Int) := vm_psz (by decide) h.1.1 hs0
  have hw0 : ¬ (I 174 k) = 0 := by rw [(h.2.2.2.1 k hk).1, hex]; decide
  have hby : (I 173 k).toInt8.toInt32 = I 173 k := by have z := (h.2.2.2.1 k hk).2.2 hex; rw [z.1]; exact vl_sb_sb z.2
  refine jv_Wp.lift (fun _ Kz => jv_Ev.steps jv_i59 3 (pc' := 5) (l' := [(0, .ref 171), (1, .long (vm_a 1073750016 k))]) (st' := [.int (lg_cmp (vm_a 1073750016 k) (1073750016 : Int64))]) rfl Kz) ?_
  refine jv_Wp.cnd jv_i59 (pt := 51) (pe := 8) (p := ((lg_cmp (vm_a 1073750016 k) (1073750016 : Int64)) < 0)) (q := ((vm_a 1073750016 k) < (1073750016 : Int64))) rfl jv_bi_lt rfl rfl (lg_cmp_lt (vm_a 1073750016 k) (1073750016 : Int64)) (fun hz => absurd hz (fun z => absurd ((vm_a_lt (d := 1073750016) (by decide) (by decide) (by omega)).mp z) (by omega))) (fun _ => ?_)
  refine jv_Wp.lift (fun _ Kz => jv_Ev.steps jv_i59 3 (pc' := 13) (l' := [(0, .ref 171), (1, .long (vm_a 1073750016 k))]) (st' := [.int (lg_cmp (vm_a 1073750016 k) (1073750528 : Int64))]) rfl Kz) ?_
  refine jv_Wp.cnd jv_i59 (pt := 51) (pe := 16) (p := (0 ≤ (lg_cmp (vm_a 1073750016 k) (1073750528 : Int64)))) (q := ((1073750528 : Int64) ≤ (vm_a 1073750016 k))) rfl jv_bi_ge rfl rfl (lg_cmp_ge (vm_a 1073750016 k) (1073750528 : Int64)) (fun hz => absurd hz (fun z => absurd ((vm_a_ge (d := 1073750528) (by decide) (by decide) (by omega)).mp z) (by omega))) (fun _ => ?_)
  refine jv_Wp.lift (fun _ Kz => jv_Ev.steps jv_i59 6 (pc' := 24) (l' := [(3, .int ((vm_a 1073750016 k) - (1073750016 : Int64)).toInt32), (0, .ref 171), (1, .long (vm_a 1073750016 k))]) (st' := [.ref 171]) rfl Kz) ?_
  refine jv_Wp.lift (fun _ Kz => jv_Ev.m jv_i59 (pc' := 27) (st' := [.ref 174]) (G' := (jv_H K I L R)) rfl rfl (jv_m_getR (vm_cK hC 171 2 13 (by decide)) rfl rfl (vm_cR hC 171 4 174 (by decide))) Kz) ?_
  refine jv_Wp.lift (fun _ Kz => jv_Ev.steps jv_i59 1 (pc' := 28) (l' := [(3, .int ((vm_a 1073750016 k) - (1073750016 : Int64)).toInt32), (0, .ref 171), (1, .long (vm_a 1073750016 k))]) (st' := [.int ((vm_a 1073750016 k) - (1073750016 : Int64)).toInt32, .ref 174]) rfl Kz) ?_
  refine jv_Wp.lift (fun _ Kz => jv_Ev.m jv_i59 (pc' := 29) (st' := [.int (I 174 k)]) (G' := (jv_H K I L R)) rfl rfl (jv_m_baldv (vm_cK hC 174 100 512 (by decide)) rfl (by rw [show ((vm_a 1073750016 k) - (1073750016 : Int64)).toInt32 = vl_I (k) from (vm_a_sub (d := 0) (by decide) (by decide) (by omega) (by decide))]; exact vl_I_ix (by omega) (by first | omega | decide)) rfl ((congrArg (I 174) (show ((vm_a 1073750016 k) - (1073750016 : Int64)).toInt32.toNatClampNeg = k from by rw [show ((vm_a 1073750016 k) - (1073750016 : Int64)).toInt32 = vl_I (k) from (vm_a_sub (d := 0) (by decide) (by decide) (by omega) (by decide))]; exact vl_I_nat (by omega))).trans rfl)) Kz) ?_
  refine jv_Wp.cnd jv_i59 (pt := 39) (pe := 32) (p := ((I 174 k) = 0)) (q := ((I 174 k) = 0)) rfl jv_bi_eq rfl rfl Iff.rfl (fun hz => absurd hz hw0) (fun _ => ?_)
  refine jv_Wp.lift (fun _ Kz => jv_Ev.steps jv_i59 1 (pc' := 33) (l' := [(3, .int ((vm_a 1073750016 k) - (1073750016 : Int64)).toInt32), (0, .ref 171), (1, .long (vm_a 1073750016 k))]) (st' := [.ref 171]) rfl Kz) ?_
  refine jv_Wp.lift (fun _ Kz => jv_Ev.m jv_i59 (pc' := 36) (st' := [.ref 173]) (G' := (jv_H K I L R)) rfl rfl (jv_m_getR (vm_cK hC 171 2 13 (by decide)) rfl rfl (vm_cR hC 171 3 173 (by decide))) Kz) ?_
  refine jv_Wp.lift (fun _ Kz => jv_Ev.steps jv_i59 1 (pc' := 37) (l' := [(3, .int ((vm_a 1073750016 k) - (1073750016 : Int64)).toInt32), (0, .ref 171), (1, .long (vm_a 1073750016 k))]) (st' := [.int ((vm_a 1073750016 k) - (1073750016 : Int64)).toInt32, .ref 173]) rfl Kz) ?_
  refine jv_Wp.lift (fun _ Kz => jv_Ev.m jv_i59 (pc' := 38) (st' := [.int (I 173 k)]) (G' := (jv_H K I L R)) rfl rfl (jv_m_baldv (vm_cK hC 173 101 512 (by decide)) rfl (by rw [show ((vm_a 1073750016 k) - (1073750016 : Int64)).toInt32 = vl_I (k) from (vm_a_sub (d := 0) (by decide) (by decide) (by omega) (by decide))]; exact vl_I_ix (by omega) (by first | omega | decide)) rfl ((congrArg (I 173) (show ((vm_a 1073750016 k) - (1073750016 : Int64)).toInt32.toNatClampNeg = k from by rw [show ((vm_a 1073750016 k) - (1073750016 : Int64)).toInt32 = vl_I (k) from (vm_a_sub (d := 0) (by decide) (by decide) (by omega) (by decide))]; exact vl_I_nat (by omega))).trans rfl)) Kz) ?_
  refine jv_Wp.of (jv_Ev.ret jv_i59 rfl (jv_ret_y hby)) ?_
  exact hQ
theorem vc_readByte_s {K : Nat → Option (Nat × Nat)} {I : Nat → Nat → Int32} {L : Nat → Nat → Int64} {R : Nat → Nat → Value} (hC : vm_CW K R) {S : vm_S} (h : vm_c I L S) {k : Nat} (hk : k < 512) (hex : S.2 3 k = 1) {n sl : Nat} : jv_Ms 59 [.ref 171, .long (vm_a 1073750016 k)] (jv_H K I L R) n sl (some (.int (I 173 k)), jv_H K I L R, n, sl) := by
  obtain ⟨X, k, e⟩ := vc_readByte_s_0 (n := n) (sl := sl) (I := I) (L := L) (Q := fun X => X = (some (.int (I 173 k)), jv_H K I L R, n, sl)) hC h hk hex rfl
  subst e
  exact k
theorem vc_readByte_p_0 {K : Nat → Option (Nat × Nat)} {I : Nat → Nat → Int32} {L : Nat → Nat → Int64} {R : Nat → Nat → Value} (hC : vm_CW K R) {S : vm_S} (h : vm_c I L S) {k : Nat} (hk : k < vm_size S) {n sl : Nat} {Q : jv_R → Prop} (hQ : Q (some (.int (I 3 k)), jv_H K I L R, n, sl)) : jv_Wp 59 0 [(0, .ref 171), (1, .long (vm_a 1073741824 k))] [] (jv_H K I L R) n sl Q := by
  have hs0 := h.1.2
  have hsz : ((1073741824 : Int64) + (I 2 1).toInt64).toInt = 1073741824 + (vm_size S : Int) := vm_psz (by decide) h.1.1 hs0
  have hby : (I 3 k).toInt8.toInt32 = I 3 k := by have z := h.2.2.2.2.1 k (by omega); rw [z.1]; exact vl_sb_sb z.2
  refine jv_Wp.lift (fun _ Kz => jv_Ev.steps jv_i59 3 (pc' := 5) (l' := [(0, .ref 171), (1, .long (vm_a 1073741824 k))]) (st' := [.int (lg_cmp (vm_a 1073741824 k) (1073750016 : Int64))]) rfl Kz) ?_
  refine jv_Wp.cnd jv_i59 (pt := 51) (pe := 8) (p := ((lg_cmp (vm_a 1073741824 k) (1073750016 : Int64)) < 0)) (q := ((vm_a 1073741824 k) < (1073750016 : Int64))) rfl jv_bi_lt rfl rfl (lg_cmp_lt (vm_a 1073741824 k) (1073750016 : Int64)) (fun _ => ?_) (fun hz => absurd ((vm_a_lt (d := 1073750016) (by decide) (by decide) (by omega)).mpr (by omega)) hz)
  refine jv_Wp.lift (fun _ Kz => jv_Ev.steps jv_i59 3 (pc' := 56) (l' := [(0, .ref 171), (1, .long (vm_a 1073741824 k))]) (st' := [.int (lg_cmp (vm_a 1073741824 k) (1073741824 : Int64))]) rfl Kz) ?_
  refine jv_Wp.cnd jv_i59 (pt := 91) (pe := 59) (p := ((lg_cmp (vm_a 1073741824 k) (1073741824 : Int64)) < 0)) (q := ((vm_a 1073741824 k) < (1073741824 : Int64))) rfl jv_bi_lt rfl rfl (lg_cmp_lt (vm_a 1073741824 k) (1073741824 : Int64)) (fun hz => absurd hz (fun z => absurd ((vm_a_lt (d := 1073741824) (by decide) (by decide) (by omega)).mp z) (by omega))) (fun _ => ?_)
  refine jv_Wp.lift (fun _ Kz => jv_Ev.steps jv_i59 3 (pc' := 64) (l' := [(0, .ref 171), (1, .long (vm_a 1073741824 k))]) (st' := [.ref 171, .long (1073741824 : Int64), .long (vm_a 1073741824 k)]) rfl Kz) ?_
  refine jv_Wp.lift (fun _ Kz => jv_Ev.m jv_i59 (pc' := 67) (st' := [.ref 2, .long (1073741824 : Int64), .long (vm_a 1073741824 k)]) (G' := (jv_H K I L R)) rfl rfl (jv_m_getR (vm_cK hC 171 2 13 (by decide)) rfl rfl (vm_cR hC 171 0 2 (by decide))) Kz) ?_
  refine jv_Wp.lift (fun _ Kz => jv_Ev.m jv_i59 (pc' := 70) (st' := [.int (I 2 1), .long (1073741824 : Int64), .long (vm_a 1073741824 k)]) (G' := (jv_H K I L R)) rfl rfl (jv_m_getI (vm_cK hC 2 6 11 (by decide)) rfl rfl rfl) Kz) ?_
  refine jv_Wp.lift (fun _ Kz => jv_Ev.steps jv_i59 3 (pc' := 73) (l' := [(0, .ref 171), (1, .long (vm_a 1073741824 k))]) (st' := [.int (lg_cmp (vm_a 1073741824 k) ((1073741824 : Int64) + (I 2 1).toInt64))]) rfl Kz) ?_
  refine jv_Wp.cnd jv_i59 (pt := 91) (pe := 76) (p := (0 ≤ (lg_cmp (vm_a 1073741824 k) ((1073741824 : Int64) + (I 2 1).toInt64)))) (q := (((1073741824 : Int64) + (I 2 1).toInt64) ≤ (vm_a 1073741824 k))) rfl jv_bi_ge rfl rfl (lg_cmp_ge (vm_a 1073741824 k) ((1073741824 : Int64) + (I 2 1).toInt64)) (fun hz => absurd hz (fun z => absurd ((vm_a_ge (d := (1073741824 + (vm_size S : Int))) hsz (by decide) (by omega)).mp z) (by omega))) (fun _ => ?_)
  refine jv_Wp.lift (fun _ Kz => jv_Ev.steps jv_i59 1 (pc' := 77) (l' := [(0, .ref 171), (1, .long (vm_a 1073741824 k))]) (st' := [.ref 171]) rfl Kz) ?_
  refine jv_Wp.lift (fun _ Kz => jv_Ev.m jv_i59 (pc' := 80) (st' := [.ref 2]) (G' := (jv_H K I L R)) rfl rfl (jv_m_getR (vm_cK hC 171 2 13 (by decide)) rfl rfl (vm_cR hC 171 0 2 (by decide))) Kz) ?_
  refine jv_Wp.lift (fun _ Kz => jv_Ev.m jv_i59 (pc' := 83) (st' := [.ref 3]) (G' := (jv_H K I L R)) rfl rfl (jv_m_getR (vm_cK hC 2 6 11 (by decide)) rfl rfl (vm_cR hC 2 0 3 (by decide))) Kz) ?_
  refine jv_Wp.lift (fun _ Kz => jv_Ev.steps jv_i59 4 (pc' := 89) (l' := [(0, .ref 171), (1, .long (vm_a 1073741824 k))]) (st' := [.int ((vm_a 1073741824 k) - (1073741824 : Int64)).toInt32, .ref 3]) rfl Kz) ?_
  refine jv_Wp.lift (fun _ Kz => jv_Ev.m jv_i59 (pc' := 90) (st' := [.int (I 3 k)]) (G' := (jv_H K I L R)) rfl rfl (jv_m_baldv (vm_cK hC 3 101 2048 (by decide)) rfl (by rw [show ((vm_a 1073741824 k) - (1073741824 : Int64)).toInt32 = vl_I (k) from (vm_a_sub (d := 0) (by decide) (by decide) (by omega) (by decide))]; exact vl_I_ix (by omega) (by first | omega | decide)) rfl ((congrArg (I 3) (show ((vm_a 1073741824 k) - (1073741824 : Int64)).toInt32.toNatClampNeg = k from by rw [show ((vm_a 1073741824 k) - (1073741824 : Int64)).toInt32 = vl_I (k) from (vm_a_sub (d := 0) (by decide) (by decide) (by omega) (by decide))]; exact vl_I_nat (by omega))).trans rfl)) Kz) ?_
  refine jv_Wp.of (jv_Ev.ret jv_i59 rfl (jv_ret_y hby)) ?_
  exact hQ
theorem vc_readByte_p {K : Nat → Option (Nat × Nat)} {I : Nat → Nat → Int32} {L : Nat → Nat → Int64} {R : Nat → Nat → Value} (hC : vm_CW K R) {S : vm_S} (h : vm_c I L S) {k : Nat} (hk : k < vm_size S) {n sl : Nat} : jv_Ms 59 [.ref 171, .long (vm_a 1073741824 k)] (jv_H K I L R) n sl (some (.int (I 3 k)), jv_H K I L R, n, sl) := by
  obtain ⟨X, k, e⟩ := vc_readByte_p_0 (n := n) (sl := sl) (I := I) (L := L) (Q := fun X => X = (some (.int (I 3 k)), jv_H K I L R, n, sl)) hC h hk rfl
  subst e
  exact k
theorem vc_readByte_c_0 {K : Nat → Option (Nat × Nat)} {I : Nat → Nat → Int32} {L : Nat → Nat → Int64} {R : Nat → Nat → Value} (hC : vm_CW K R) {S : vm_S} (h : vm_c I L S) {k : Nat} (hk : k < 64) {n sl : Nat} {Q : jv_R → Prop} (hQ : Q (some (.int (I 4 k)), jv_H K I L R, n, sl)) : jv_Wp 59 0 [(0, .ref 171), (1, .long (vm_a 1073745920 k))] [] (jv_H K I L R) n sl Q := by
  have hs0 := h.1.2
  have hsz : ((1073741824 : Int64) + (I 2 1).toInt64).toInt = 1073741824 + (vm_size S : Int) := vm_psz (by decide) h.1.1 hs0
  have hby : (I 4 k).toInt8.toInt32 = I 4 k := by have z := h.2.2.2.2.2.1 k hk; rw [z.1]; exact vl_sb_sb z.2
  refine jv_Wp.lift (fun _ Kz => jv_Ev.steps jv_i59 3 (pc' := 5) (l' := [(0, .ref 171), (1, .long (vm_a 1073745920 k))]) (st' := [.int (lg_cmp (vm_a 1073745920 k) (1073750016 : Int64))]) rfl Kz) ?_
  refine jv_Wp.cnd jv_i59 (pt := 51) (pe := 8) (p := ((lg_cmp (vm_a 1073745920 k) (1073750016 : Int64)) < 0)) (q := ((vm_a 1073745920 k) < (1073750016 : Int64))) rfl jv_bi_lt rfl rfl (lg_cmp_lt (vm_a 1073745920 k) (1073750016 : Int64)) (fun _ => ?_) (fun hz => absurd ((vm_a_lt (d := 1073750016) (by decide) (by decide) (by omega)).mpr (by omega)) hz)
  refine jv_Wp.lift (fun _ Kz => jv_Ev.steps jv_i59 3 (pc' := 56) (l' := [(0, .ref 171), (1, .long (vm_a 1073745920 k))]) (st' := [.int (lg_cmp (vm_a 1073745920 k) (1073741824 : Int64))]) rfl Kz) ?_
  refine jv_Wp.cnd jv_i59 (pt := 91) (pe := 59) (p := ((lg_cmp (vm_a 1073745920 k) (1073741824 : Int64)) < 0)) (q := ((vm_a 1073745920 k) < (1073741824 : Int64))) rfl jv_bi_lt rfl rfl (lg_cmp_lt (vm_a 1073745920 k) (1073741824 : Int64)) (fun hz => absurd hz (fun z => absurd ((vm_a_lt (d := 1073741824) (by decide) (by decide) (by omega)).mp z) (by omega))) (fun _ => ?_)
  refine jv_Wp.lift (fun _ Kz => jv_Ev.steps jv_i59 3 (pc' := 64) (l' := [(0, .ref 171), (1, .long (vm_a 1073745920 k))]) (st' := [.ref 171, .long (1073741824 : Int64), .long (vm_a 1073745920 k)]) rfl Kz) ?_
  refine jv_Wp.lift (fun _ Kz => jv_Ev.m jv_i59 (pc' := 67) (st' := [.ref 2, .long (1073741824 : Int64), .long (vm_a 1073745920 k)]) (G' := (jv_H K I L R)) rfl rfl (jv_m_getR (vm_cK hC 171 2 13 (by decide)) rfl rfl (vm_cR hC 171 0 2 (by decide))) Kz) ?_
  refine jv_Wp.lift (fun _ Kz => jv_Ev.m jv_i59 (pc' := 70) (st' := [.int (I 2 1), .long (1073741824 : Int64), .long (vm_a 1073745920 k)]) (G' := (jv_H K I L R)) rfl rfl (jv_m_getI (vm_cK hC 2 6 11 (by decide)) rfl rfl rfl) Kz) ?_
  refine jv_Wp.lift (fun _ Kz => jv_Ev.steps jv_i59 3 (pc' := 73) (l' := [(0, .ref 171), (1, .long (vm_a 1073745920 k))]) (st' := [.int (lg_cmp (vm_a 1073745920 k) ((1073741824 : Int64) + (I 2 1).toInt64))]) rfl Kz) ?_
  refine jv_Wp.cnd jv_i59 (pt := 91) (pe := 76) (p := (0 ≤ (lg_cmp (vm_a 1073745920 k) ((1073741824 : Int64) + (I 2 1).toInt64)))) (q := (((1073741824 : Int64) + (I 2 1).toInt64) ≤ (vm_a 1073745920 k))) rfl jv_bi_ge rfl rfl (lg_cmp_ge (vm_a 1073745920 k) ((1073741824 : Int64) + (I 2 1).toInt64)) (fun _ => ?_) (fun hz => absurd ((vm_a_ge (d := (1073741824 + (vm_size S : Int))) hsz (by decide) (by omega)).mpr (by omega)) hz)
  refine jv_Wp.lift (fun _ Kz => jv_Ev.steps jv_i59 3 (pc' := 96) (l' := [(0, .ref 171), (1, .long (vm_a 1073745920 k))]) (st' := [.int (lg_cmp (vm_a 1073745920 k) (1073745920 : Int64))]) rfl Kz) ?_
  refine jv_Wp.cnd jv_i59 (pt := 122) (pe := 99) (p := ((lg_cmp (vm_a 1073745920 k) (1073745920 : Int64)) < 0)) (q := ((vm_a 1073745920 k) < (1073745920 : Int64))) rfl jv_bi_lt rfl rfl (lg_cmp_lt (vm_a 1073745920 k) (1073745920 : Int64)) (fun hz => absurd hz (fun z => absurd ((vm_a_lt (d := 1073745920) (by decide) (by decide) (by omega)).mp z) (by omega))) (fun _ => ?_)
  refine jv_Wp.lift (fun _ Kz => jv_Ev.steps jv_i59 3 (pc' := 104) (l' := [(0, .ref 171), (1, .long (vm_a 1073745920 k))]) (st' := [.int (lg_cmp (vm_a 1073745920 k) (1073745984 : Int64))]) rfl Kz) ?_
  refine jv_Wp.cnd jv_i59 (pt := 122) (pe := 107) (p := (0 ≤ (lg_cmp (vm_a 1073745920 k) (1073745984 : Int64)))) (q := ((1073745984 : Int64) ≤ (vm_a 1073745920 k))) rfl jv_bi_ge rfl rfl (lg_cmp_ge (vm_a 1073745920 k) (1073745984 : Int64)) (fun hz => absurd hz (fun z => absurd ((vm_a_ge (d := 1073745984) (by decide) (by decide) (by omega)).mp z) (by omega))) (fun _ => ?_)
  refine jv_Wp.lift (fun _ Kz => jv_Ev.steps jv_i59 1 (pc' := 108) (l' := [(0, .ref 171), (1, .long (vm_a 1073745920 k))]) (st' := [.ref 171]) rfl Kz) ?_
  refine jv_Wp.lift (fun _ Kz => jv_Ev.m jv_i59 (pc' := 111) (st' := [.ref 2]) (G' := (jv_H K I L R)) rfl rfl (jv_m_getR (vm_cK hC 171 2 13 (by decide)) rfl rfl (vm_cR hC 171 0 2 (by decide))) Kz) ?_
  refine jv_Wp.lift (fun _ Kz => jv_Ev.m jv_i59 (pc' := 114) (st' := [.ref 4]) (G' := (jv_H K I L R)) rfl rfl (jv_m_getR (vm_cK hC 2 6 11 (by decide)) rfl rfl (vm_cR hC 2 2 4 (by decide))) Kz) ?_
  refine jv_Wp.lift (fun _ Kz => jv_Ev.steps jv_i59 4 (pc' := 120) (l' := [(0, .ref 171), (1, .long (vm_a 1073745920 k))]) (st' := [.int ((vm_a 1073745920 k) - (1073745920 : Int64)).toInt32, .ref 4]) rfl Kz) ?_
  refine jv_Wp.lift (fun _ Kz => jv_Ev.m jv_i59 (pc' := 121) (st' := [.int (I 4 k)]) (G' := (jv_H K I L R)) rfl rfl (jv_m_baldv (vm_cK hC 4 101 64 (by decide)) rfl (by rw [show ((vm_a 1073745920 k) - (1073745920 : Int64)).toInt32 = vl_I (k) from (vm_a_sub (d := 0) (by decide) (by decide) (by omega) (by decide))]; exact vl_I_ix (by omega) (by first | omega | decide)) rfl ((congrArg (I 4) (show ((vm_a 1073745920 k) - (1073745920 : Int64)).toInt32.toNatClampNeg = k from by rw [show ((vm_a 1073745920 k) - (1073745920 : Int64)).toInt32 = vl_I (k) from (vm_a_sub (d := 0) (by decide) (by decide) (by omega) (by decide))]; exact vl_I_nat (by omega))).trans rfl)) Kz) ?_
  refine jv_Wp.of (jv_Ev.ret jv_i59 rfl (jv_ret_y hby)) ?_
  exact hQ
theorem vc_readByte_c {K : Nat → Option (Nat × Nat)} {I : Nat → Nat → Int32} {L : Nat → Nat → Int64} {R : Nat → Nat → Value} (hC : vm_CW K R) {S : vm_S} (h : vm_c I L S) {k : Nat} (hk : k < 64) {n sl : Nat} : jv_Ms 59 [.ref 171, .long (vm_a 1073745920 k)] (jv_H K I L R) n sl (some (.int (I 4 k)), jv_H K I L R, n, sl) := by
  obtain ⟨X, k, e⟩ := vc_readByte_c_0 (n := n) (sl := sl) (I := I) (L := L) (Q := fun X => X = (some (.int (I 4 k)), jv_H K I L R, n, sl)) hC h hk rfl
  subst e
  exact k
theorem vc_readByte_a_0 {K : Nat → Option (Nat × Nat)} {I : Nat → Nat → Int32} {L : Nat → Nat → Int64} {R : Nat → Nat → Value} (hC : vm_CW K R) {S : vm_S} (h : vm_c I L S) {k : Nat} (hk : k < 65536) (hex : vc_led I k) {n sl : Nat} {Q : jv_R → Prop} (hQ : Q (some (.int (I 6 k)), jv_H K I L R, n, sl)) : jv_Wp 59 0 [(0, .ref 171), (1, .long (vm_a 1073807360 k))] [] (jv_H K I L R) n sl Q := by
  have hs0 := h.1.2
  have hsz : ((1073741824 : Int64) + (I 2 1).toInt64).toInt = 1073741824 + (vm_size S : Int) := vm_psz (by decide) h.1.1 hs0
  have hby : (I 6 k).toInt8.toInt32 = I 6 k := by have z := h.2.2.2.2.2.2.1 k hk; rw [z.1]; exact vl_sb_sb z.2
  refine jv_Wp.lift (fun _ Kz => jv_Ev.steps jv_i59 3 (pc' := 5) (l' := [(0, .ref 171), (1, .long (vm_a 1073807360 k))]) (st' := [.int (lg_cmp (vm_a 1073807360 k) (1073750016 : Int64))]) rfl Kz) ?_
  refine jv_Wp.cnd jv_i59 (pt := 51) (pe := 8) (p := ((lg_cmp (vm_a 1073807360 k) (1073750016 : Int64)) < 0)) (q := ((vm_a 1073807360 k) < (1073750016 : Int64))) rfl jv_bi_lt rfl rfl (lg_cmp_lt (vm_a 1073807360 k) (1073750016 : Int64)) (fun hz => absurd hz (fun z => absurd ((vm_a_lt (d := 1073750016) (by decide) (by decide) (by omega)).mp z) (by omega))) (fun _ => ?_)
  refine jv_Wp.lift (fun _ Kz => jv_Ev.steps jv_i59 3 (pc' := 13) (l' := [(0, .ref 171), (1, .long (vm_a 1073807360 k))]) (st' := [.int (lg_cmp (vm_a 1073807360 k) (1073750528 : Int64))]) rfl Kz) ?_
  refine jv_Wp.cnd jv_i59 (pt := 51) (pe := 16) (p := (0 ≤ (lg_cmp (vm_a 1073807360 k) (1073750528 : Int64)))) (q := ((1073750528 : Int64) ≤ (vm_a 1073807360 k))) rfl jv_bi_ge rfl rfl (lg_cmp_ge (vm_a 1073807360 k) (1073750528 : Int64)) (fun _ => ?_) (fun hz => absurd ((vm_a_ge (d := 1073750528) (by decide) (by decide) (by omega)).mpr (by omega)) hz)
  refine jv_Wp.lift (fun _ Kz => jv_Ev.steps jv_i59 3 (pc' := 56) (l' := [(0, .ref 171), (1, .long (vm_a 1073807360 k))]) (st' := [.int (lg_cmp (vm_a 1073807360 k) (1073741824 : Int64))]) rfl Kz) ?_
  refine jv_Wp.cnd jv_i59 (pt := 91) (pe := 59) (p := ((lg_cmp (vm_a 1073807360 k) (1073741824 : Int64)) < 0)) (q := ((vm_a 1073807360 k) < (1073741824 : Int64))) rfl jv_bi_lt rfl rfl (lg_cmp_lt (vm_a 1073807360 k) (1073741824 : Int64)) (fun hz => absurd hz (fun z => absurd ((vm_a_lt (d := 1073741824) (by decide) (by decide) (by omega)).mp z) (by omega))) (fun _ => ?_)
  refine jv_Wp.lift (fun _ Kz => jv_Ev.steps jv_i59 3 (pc' := 64) (l' := [(0, .ref 171), (1, .long (vm_a 1073807360 k))]) (st' := [.ref 171, .long (1073741824 : Int64), .long (vm_a 1073807360 k)]) rfl Kz) ?_
  refine jv_Wp.lift (fun _ Kz => jv_Ev.m jv_i59 (pc' := 67) (st' := [.ref 2, .long (1073741824 : Int64), .long (vm_a 1073807360 k)]) (G' := (jv_H K I L R)) rfl rfl (jv_m_getR (vm_cK hC 171 2 13 (by decide)) rfl rfl (vm_cR hC 171 0 2 (by decide))) Kz) ?_
  refine jv_Wp.lift (fun _ Kz => jv_Ev.m jv_i59 (pc' := 70) (st' := [.int (I 2 1), .long (1073741824 : Int64), .long (vm_a 1073807360 k)]) (G' := (jv_H K I L R)) rfl rfl (jv_m_getI (vm_cK hC 2 6 11 (by decide)) rfl rfl rfl) Kz) ?_
  refine jv_Wp.lift (fun _ Kz => jv_Ev.steps jv_i59 3 (pc' := 73) (l' := [(0, .ref 171), (1, .long (vm_a 1073807360 k))]) (st' := [.int (lg_cmp (vm_a 1073807360 k) ((1073741824 : Int64) + (I 2 1).toInt64))]) rfl Kz) ?_
  refine jv_Wp.cnd jv_i59 (pt := 91) (pe := 76) (p := (0 ≤ (lg_cmp (vm_a 1073807360 k) ((1073741824 : Int64) + (I 2 1).toInt64)))) (q := (((1073741824 : Int64) + (I 2 1).toInt64) ≤ (vm_a 1073807360 k))) rfl jv_bi_ge rfl rfl (lg_cmp_ge (vm_a 1073807360 k) ((1073741824 : Int64) + (I 2 1).toInt64)) (fun _ => ?_) (fun hz => absurd ((vm_a_ge (d := (1073741824 + (vm_size S : Int))) hsz (by decide) (by omega)).mpr (by omega)) hz)
  refine jv_Wp.lift (fun _ Kz => jv_Ev.steps jv_i59 3 (pc' := 96) (l' := [(0, .ref 171), (1, .long (vm_a 1073807360 k))]) (st' := [.int (lg_cmp (vm_a 1073807360 k) (1073745920 : Int64))]) rfl Kz) ?_
  refine jv_Wp.cnd jv_i59 (pt := 122) (pe := 99) (p := ((lg_cmp (vm_a 1073807360 k) (1073745920 : Int64)) < 0)) (q := ((vm_a 1073807360 k) < (1073745920 : Int64))) rfl jv_bi_lt rfl rfl (lg_cmp_lt (vm_a 1073807360 k) (1073745920 : Int64)) (fun hz => absurd hz (fun z => absurd ((vm_a_lt (d := 1073745920) (by decide) (by decide) (by omega)).mp z) (by omega))) (fun _ => ?_)
  refine jv_Wp.lift (fun _ Kz => jv_Ev.steps jv_i59 3 (pc' := 104) (l' := [(0, .ref 171), (1, .long (vm_a 1073807360 k))]) (st' := [.int (lg_cmp (vm_a 1073807360 k) (1073745984 : Int64))]) rfl Kz) ?_
  refine jv_Wp.cnd jv_i59 (pt := 122) (pe := 107) (p := (0 ≤ (lg_cmp (vm_a 1073807360 k) (1073745984 : Int64)))) (q := ((1073745984 : Int64) ≤ (vm_a 1073807360 k))) rfl jv_bi_ge rfl rfl (lg_cmp_ge (vm_a 1073807360 k) (1073745984 : Int64)) (fun _ => ?_) (fun hz => absurd ((vm_a_ge (d := 1073745984) (by decide) (by decide) (by omega)).mpr (by omega)) hz)
  refine jv_Wp.lift (fun _ Kz => jv_Ev.steps jv_i59 1 (pc' := 123) (l' := [(0, .ref 171), (1, .long (vm_a 1073807360 k))]) (st' := [.ref 171]) rfl Kz) ?_
  refine jv_Wp.lift (fun _ Kz => jv_Ev.m jv_i59 (pc' := 126) (st' := [.ref 2]) (G' := (jv_H K I L R)) rfl rfl (jv_m_getR (vm_cK hC 171 2 13 (by decide)) rfl rfl (vm_cR hC 171 0 2 (by decide))) Kz) ?_
  refine jv_Wp.lift (fun _ Kz => jv_Ev.steps jv_i59 4 (pc' := 132) (l' := [(0, .ref 171), (1, .long (vm_a 1073807360 k))]) (st' := [.ref 171, .long ((vm_a 1073807360 k) - (1073807360 : Int64)), .ref 2]) rfl Kz) ?_
  refine jv_Wp.lift (fun _ Kz => jv_Ev.m jv_i59 (pc' := 135) (st' := [.int (I 171 7), .long ((vm_a 1073807360 k) - (1073807360 : Int64)), .ref 2]) (G' := (jv_H K I L R)) rfl rfl (jv_m_getI (vm_cK hC 171 2 13 (by decide)) rfl rfl rfl) Kz) ?_
  refine jv_Wp.lift (fun _ Kz => jv_Ev.c jv_i59 (pc' := 138) (S' := [.int (1 : Int32)]) jv_i129 [.ref 2, .long ((vm_a 1073807360 k) - (1073807360 : Int64)), .int (I 171 7)] rfl rfl rfl rfl (jv_cal rfl (jv_H_at (vm_cK hC 2 6 11 (by decide))) rfl rfl) rfl (vc_isLed (I := I) (L := L) (n := n) (sl := sl) hC (q := k) (show (vm_a 1073807360 k - (1073807360 : Int64)).toInt = k from by rw [Int64.toInt_sub, vm_a_int (by decide) (by omega), show (1073807360 : Int64).toInt = 1073807360 from by decide]; exact (vi_bm (by omega) (by omega)).trans (by omega)) hk hex rfl) rfl rfl Kz) ?_
  refine jv_Wp.lift (fun _ Kz => jv_Ev.br jv_i59 (pc' := 141) (st' := []) rfl (by rfl) Kz) ?_
  refine jv_Wp.lift (fun _ Kz => jv_Ev.steps jv_i59 1 (pc' := 142) (l' := [(0, .ref 171), (1, .long (vm_a 1073807360 k))]) (st' := [.ref 171]) rfl Kz) ?_
  refine jv_Wp.lift (fun _ Kz => jv_Ev.m jv_i59 (pc' := 145) (st' := [.ref 2]) (G' := (jv_H K I L R)) rfl rfl (jv_m_getR (vm_cK hC 171 2 13 (by decide)) rfl rfl (vm_cR hC 171 0 2 (by decide))) Kz) ?_
  refine jv_Wp.lift (fun _ Kz => jv_Ev.m jv_i59 (pc' := 148) (st' := [.ref 6]) (G' := (jv_H K I L R)) rfl rfl (jv_m_getR (vm_cK hC 2 6 11 (by decide)) rfl rfl (vm_cR hC 2 4 6 (by decide))) Kz) ?_
  refine jv_Wp.lift (fun _ Kz => jv_Ev.steps jv_i59 4 (pc' := 154) (l' := [(0, .ref 171), (1, .long (vm_a 1073807360 k))]) (st' := [.int ((vm_a 1073807360 k) - (1073807360 : Int64)).toInt32, .ref 6]) rfl Kz) ?_
  refine jv_Wp.lift (fun _ Kz => jv_Ev.m jv_i59 (pc' := 155) (st' := [.int (I 6 k)]) (G' := (jv_H K I L R)) rfl rfl (jv_m_baldv (vm_cK hC 6 101 65536 (by decide)) rfl (by rw [show ((vm_a 1073807360 k) - (1073807360 : Int64)).toInt32 = vl_I (k) from (vm_a_sub (d := 0) (by decide) (by decide) (by omega) (by decide))]; exact vl_I_ix (by omega) (by first | omega | decide)) rfl ((congrArg (I 6) (show ((vm_a 1073807360 k) - (1073807360 : Int64)).toInt32.toNatClampNeg = k from by rw [show ((vm_a 1073807360 k) - (1073807360 : Int64)).toInt32 = vl_I (k) from (vm_a_sub (d := 0) (by decide) (by decide) (by omega) (by decide))]; exact vl_I_nat (by omega))).trans rfl)) Kz) ?_
  refine jv_Wp.of (jv_Ev.ret jv_i59 rfl (jv_ret_y hby)) ?_
  exact hQ
theorem vc_readByte_a {K : Nat → Option (Nat × Nat)} {I : Nat → Nat → Int32} {L : Nat → Nat → Int64} {R : Nat → Nat → Value} (hC : vm_CW K R) {S : vm_S} (h : vm_c I L S) {k : Nat} (hk : k < 65536) (hex : vc_led I k) {n sl : Nat} : jv_Ms 59 [.ref 171, .long (vm_a 1073807360 k)] (jv_H K I L R) n sl (some (.int (I 6 k)), jv_H K I L R, n, sl) := by
  obtain ⟨X, k, e⟩ := vc_readByte_a_0 (n := n) (sl := sl) (I := I) (L := L) (Q := fun X => X = (some (.int (I 6 k)), jv_H K I L R, n, sl)) hC h hk hex rfl
  subst e
  exact k