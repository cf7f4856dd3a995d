/-! part c32: words of a program, as the reference reads them (gen/tc32.py) -/
def vr_16 (n : Nat) : Int := if n < 32768 then (n : Int) else (n : Int) - 65536
def vr_32 (n : Nat) : Int := if n < 2147483648 then (n : Int) else (n : Int) - 4294967296
def vr_n2 (B : Nat → Nat) (a : Nat) : Nat := B a + 256 * B (a + 1)
def vr_n4 (B : Nat → Nat) (a : Nat) : Nat := B a + 256 * B (a + 1) + 65536 * B (a + 2) + 16777216 * B (a + 3)
/-- the instruction at place p of a row of bytes -/
def vr_F (B : Nat → Nat) (p : Nat) : vf_F := (B (8 * p), B (8 * p + 1) % 16, B (8 * p + 1) / 16, vr_16 (vr_n2 B (8 * p + 2)), vr_32 (vr_n4 B (8 * p + 4)))
def vr_tp (I : Nat → Nat → Int32) (r m : Nat) (B : Nat → Nat) : Prop := ∀ j, j < m → I r j = vl_I (B j) ∧ B j < 256
theorem vi_sh8 {x b : Nat} (hb : b < 256) (hx : x * 256 + b < 4294967296) : ((vl_I x <<< ((8 : Int32) &&& 31)) ||| vl_I b) = vl_I (x * 256 + b) := by
  refine Int32.toBitVec_inj.mp ?_
  rw [Int32.toBitVec_or, Int32.toBitVec_shiftLeft]
  show (BitVec.ofNat 32 x <<< (((8 : Int32) &&& 31).toBitVec.smod 32)) ||| BitVec.ofNat 32 b = BitVec.ofNat 32 (x * 256 + b)
  rw [show (((8 : Int32) &&& 31).toBitVec.smod 32) = 8#32 from by decide]
  refine BitVec.eq_of_toNat_eq ?_
  have e : x * 256 + b = x <<< 8 ||| b := by rw [← Nat.shiftLeft_add_eq_or_of_lt (show b < 2 ^ 8 from hb) x, Nat.shiftLeft_eq]
  rw [BitVec.toNat_or, BitVec.shiftLeft_eq', BitVec.toNat_shiftLeft]
  show ((x % 2 ^ 32) <<< 8) % 2 ^ 32 ||| (b % 2 ^ 32) = (x * 256 + b) % 2 ^ 32
  have e2 : x <<< 8 < 2 ^ 32 := Nat.lt_of_le_of_lt Nat.left_le_or (by rw [← e]; exact hx)
  rw [Nat.mod_eq_of_lt (show x < 2 ^ 32 by omega), Nat.mod_eq_of_lt (show b < 2 ^ 32 by omega), Nat.mod_eq_of_lt (show x * 256 + b < 2 ^ 32 from hx), Nat.mod_eq_of_lt e2]
  exact e.symm
theorem vi_short {n : Nat} (h : n < 65536) : ((vl_I n).toInt16.toInt32).toInt = vr_16 n := by
  have e : (vl_I n).toInt = (n : Int) := vl_I_int (by omega)
  rw [Int16.toInt_toInt32, Int32.toInt_toInt16, e]
  unfold vr_16
  rw [Int.bmod_def]
  split <;> split <;> omega
theorem vi_long {n : Nat} (h : n < 4294967296) : (vl_I n).toInt = vr_32 n := by
  show (BitVec.ofNat 32 n).toInt = _
  have e : (BitVec.ofNat 32 n).toNat = n := (BitVec.toNat_ofNat n 32).trans (Nat.mod_eq_of_lt h)
  rw [BitVec.toInt_eq_toNat_cond, e]
  unfold vr_32
  split <;> split <;> omega
set_option maxRecDepth 100000 in
theorem vi_and15 : ∀ c : Fin 256, vl_I c.val &&& (15 : Int32) = vl_I (c.val % 16) := by decide +kernel
theorem vr_n2_lt {I : Nat → Nat → Int32} {r m a : Nat} {B : Nat → Nat} (h : vr_tp I r m B) (ha : a + 1 < m) : vr_n2 B a < 65536 := by
  have h0 := (h a (by omega)).2; have h1 := (h (a + 1) ha).2
  unfold vr_n2; omega
theorem vr_n4_lt {I : Nat → Nat → Int32} {r m a : Nat} {B : Nat → Nat} (h : vr_tp I r m B) (ha : a + 3 < m) : vr_n4 B a < 4294967296 := by
  have h0 := (h a (by omega)).2; have h1 := (h (a + 1) (by omega)).2; have h2 := (h (a + 2) (by omega)).2; have h3 := (h (a + 3) ha).2
  unfold vr_n4; omega
theorem vr_tp_u {I : Nat → Nat → Int32} {r m o j : Nat} {v : Int32} {B : Nat → Nat} (h : vr_tp I r m B) (ho : r ≠ o) : vr_tp (jv_u I o j v) r m B := fun i hi => ⟨(jv_u_o _ _ _ _ ho).trans (h i hi).1, (h i hi).2⟩
theorem vr_tp_fr {P : Nat → Prop} {E : Nat → Nat → Prop} {I I1 : Nat → Nat → Int32} {L L1 : Nat → Nat → Int64} {r m : Nat} {B : Nat → Nat} (fr : vr_fr P E I L I1 L1) (hr : r = 197 ∨ r = 198) (hE : ∀ j, ¬ E r j) (h : vr_tp I r m B) : vr_tp I1 r m B := fun i hi => ⟨(fr.2.1 r i (fun z => by omega) (by omega) (fun z => hE i z.2)).trans (h i hi).1, (h i hi).2⟩
theorem jv_i255 : jv_I 255 5 (some .int) 0 0 jv_c255 := ⟨rfl, rfl, rfl, rfl, rfl⟩
set_option maxRecDepth 8000 in
theorem vq_num2_197_ {K : Nat → Option (Nat × Nat)} {I : Nat → Nat → Int32} {L : Nat → Nat → Int64} {R : Nat → Nat → Value} (a len : Nat) (B : Nat → Nat) (hW : jv_rW K R) (h : vr_tp I 197 len B) (hl : len ≤ 8192) (ha : a + 1 < len) {n sl : Nat} : ∃ I1 L1, jv_Ms 255 [.ref 197, .int (vl_I a), .int (2 : Int32)] (jv_H K I L R) n sl (some (.int (vl_I (vr_n2 B a))), jv_H K I1 L1 R, n, sl) ∧ I1 = I ∧ L1 = L := by
  obtain ⟨Q, hQ⟩ : ∃ Q : jv_R → Prop, Q = fun X => ∃ I1 L1, X = (some (.int (vl_I (vr_n2 B a))), jv_H K I1 L1 R, n, sl) ∧ I1 = I ∧ L1 = L := ⟨_, rfl⟩
  suffices h : jv_Wp 255 0 [(0, .ref 197), (1, .int (vl_I a)), (2, .int (2 : Int32))] [] (jv_H K I L R) n sl Q by
    rw [hQ] at h
    obtain ⟨X, h, I1, L1, e, h'⟩ := h
    subst e
    exact ⟨I1, L1, h, h'⟩
  have b0 := (h a (by omega)).2
  have b1 := (h (a + 1) (by omega)).2
  refine jv_Wp.lift (fun _ Kz => jv_Ev.steps jv_i255 7 (pc' := 9) (l' := [(4, .int (1 : Int32)), (3, .int (0 : Int32)), (0, .ref 197), (1, .int (vl_I a)), (2, .int (2 : Int32))]) (st' := [.int (1 : Int32)]) rfl Kz) ?_
  refine jv_Wp.lift (fun _ Kz => jv_Ev.br jv_i255 (pc' := 12) (st' := []) rfl (by rfl) Kz) ?_
  refine jv_Wp.lift (fun _ Kz => jv_Ev.steps jv_i255 7 (pc' := 21) (l' := [(4, .int (1 : Int32)), (3, .int (0 : Int32)), (0, .ref 197), (1, .int (vl_I a)), (2, .int (2 : Int32))]) (st' := [.int ((vl_I a) + (1 : Int32)), .ref 197, .int ((0 : Int32) <<< ((8 : Int32) &&& 31))]) rfl Kz) ?_
  refine jv_Wp.lift (fun _ Kz => jv_Ev.m jv_i255 (pc' := 22) (st' := [.int (I 197 (a + 1)), .int ((0 : Int32) <<< ((8 : Int32) &&& 31))]) (G' := (jv_H K I L R)) rfl rfl (jv_m_ialdv (jv_rwK hW 197 102 8192 (by decide)) rfl (by rw [show ((vl_I a) + (1 : Int32)) = vl_I (a + 1) from ((congrArg (fun y => y + (1 : Int32)) rfl).trans (vl_I_add a 1))]; exact vl_I_ix (by omega) (by decide)) rfl ((congrArg (I 197) (by rw [show ((vl_I a) + (1 : Int32)) = vl_I (a + 1) from ((congrArg (fun y => y + (1 : Int32)) rfl).trans (vl_I_add a 1))]; exact vl_I_nat (by omega))).trans rfl)) Kz) ?_
  refine jv_Wp.lift (fun _ Kz => jv_Ev.steps jv_i255 5 (pc' := 9) (l' := [(4, .int (0 : Int32)), (3, .int (((0 : Int32) <<< ((8 : Int32) &&& 31)) ||| (I 197 (a + 1)))), (0, .ref 197), (1, .int (vl_I a)), (2, .int (2 : Int32))]) (st' := [.int (0 : Int32)]) rfl Kz) ?_
  refine jv_Wp.lift (fun _ Kz => jv_Ev.br jv_i255 (pc' := 12) (st' := []) rfl (by rfl) Kz) ?_
  refine jv_Wp.lift (fun _ Kz => jv_Ev.steps jv_i255 7 (pc' := 21) (l' := [(4, .int (0 : Int32)), (3, .int (((0 : Int32) <<< ((8 : Int32) &&& 31)) ||| (I 197 (a + 1)))), (0, .ref 197), (1, .int (vl_I a)), (2, .int (2 : Int32))]) (st' := [.int ((vl_I a) + (0 : Int32)), .ref 197, .int ((((0 : Int32) <<< ((8 : Int32) &&& 31)) ||| (I 197 (a + 1))) <<< ((8 : Int32) &&& 31))]) rfl Kz) ?_
  refine jv_Wp.lift (fun _ Kz => jv_Ev.m jv_i255 (pc' := 22) (st' := [.int (I 197 (a + 0)), .int ((((0 : Int32) <<< ((8 : Int32) &&& 31)) ||| (I 197 (a + 1))) <<< ((8 : Int32) &&& 31))]) (G' := (jv_H K I L R)) rfl rfl (jv_m_ialdv (jv_rwK hW 197 102 8192 (by decide)) rfl (by rw [show ((vl_I a) + (0 : Int32)) = vl_I (a + 0) from ((congrArg (fun y => y + (0 : Int32)) rfl).trans (vl_I_add a 0))]; exact vl_I_ix (by omega) (by decide)) rfl ((congrArg (I 197) (by rw [show ((vl_I a) + (0 : Int32)) = vl_I (a + 0) from ((congrArg (fun y => y + (0 : Int32)) rfl).trans (vl_I_add a 0))]; exact vl_I_nat (by omega))).trans rfl)) Kz) ?_
  refine jv_Wp.lift (fun _ Kz => jv_Ev.steps jv_i255 5 (pc' := 9) (l' := [(4, .int (-1 : Int32)), (3, .int (((((0 : Int32) <<< ((8 : Int32) &&& 31)) ||| (I 197 (a + 1))) <<< ((8 : Int32) &&& 31)) ||| (I 197 (a + 0)))), (0, .ref 197), (1, .int (vl_I a)), (2, .int (2 : Int32))]) (st' := [.int (-1 : Int32)]) rfl Kz) ?_
  refine jv_Wp.lift (fun _ Kz => jv_Ev.br jv_i255 (pc' := 30) (st' := []) rfl (by rfl) Kz) ?_
  refine jv_Wp.lift (fun _ Kz => jv_Ev.steps jv_i255 1 (pc' := 31) (l' := [(4, .int (-1 : Int32)), (3, .int (((((0 : Int32) <<< ((8 : Int32) &&& 31)) ||| (I 197 (a + 1))) <<< ((8 : Int32) &&& 31)) ||| (I 197 (a + 0)))), (0, .ref 197), (1, .int (vl_I a)), (2, .int (2 : Int32))]) (st' := [.int (((((0 : Int32) <<< ((8 : Int32) &&& 31)) ||| (I 197 (a + 1))) <<< ((8 : Int32) &&& 31)) ||| (I 197 (a + 0)))]) rfl Kz) ?_
  refine jv_Wp.of (jv_Ev.ret jv_i255 rfl rfl) ?_
  rw [hQ]
  have ev : (((((0 : Int32) <<< ((8 : Int32) &&& 31)) ||| (I 197 (a + 1))) <<< ((8 : Int32) &&& 31)) ||| (I 197 (a + 0))) = (vl_I (vr_n2 B a)) := (by
        have e1 : (((0 : Int32) <<< ((8 : Int32) &&& 31)) ||| (I 197 (a + 1))) = vl_I (B (a + 1)) := by rw [(h (a + 1) (by omega)).1]; exact (vi_sh8 (x := 0) b1 (by omega)).trans (congrArg vl_I (by omega))
        rw [e1, show I 197 (a + 0) = vl_I (B a) from (h a (by omega)).1, vi_sh8 b0 (by omega)]
        exact congrArg vl_I (by unfold vr_n2; omega))
  exact ⟨_, _, by rw [ev], rfl, rfl⟩
theorem vq_num2_197 {K : Nat → Option (Nat × Nat)} {I : Nat → Nat → Int32} {L : Nat → Nat → Int64} {R : Nat → Nat → Value} (a len : Nat) (B : Nat → Nat) (hW : jv_rW K R) (h : vr_tp I 197 len B) (hl : len ≤ 8192) (ha : a + 1 < len) {n sl : Nat} : jv_Ms 255 [.ref 197, .int (vl_I a), .int (2 : Int32)] (jv_H K I L R) n sl (some (.int (vl_I (vr_n2 B a))), jv_H K I L R, n, sl) := by
  obtain ⟨I1, L1, H, ei, el⟩ := vq_num2_197_ (n := n) (sl := sl) a len B hW h hl ha
  rw [ei, el] at H
  exact H
set_option maxRecDepth 8000 in
theorem vq_num4_197_ {K : Nat → Option (Nat × Nat)} {I : Nat → Nat → Int32} {L : Nat → Nat → Int64} {R : Nat → Nat → Value} (a len : Nat) (B : Nat → Nat) (hW : jv_rW K R) (h : vr_tp I 197 len B) (hl : len ≤ 8192) (ha : a + 3 < len) {n sl : Nat} : ∃ I1 L1, jv_Ms 255 [.ref 197, .int (vl_I a), .int (4 : Int32)] (jv_H K I L R) n sl (some (.int (vl_I (vr_n4 B a))), jv_H K I1 L1 R, n, sl) ∧ I1 = I ∧ L1 = L := by
  obtain ⟨Q, hQ⟩ : ∃ Q : jv_R → Prop, Q = fun X => ∃ I1 L1, X = (some (.int (vl_I (vr_n4 B a))), jv_H K I1 L1 R, n, sl) ∧ I1 = I ∧ L1 = L := ⟨_, rfl⟩
  suffices h : jv_Wp 255 0 [(0, .ref 197), (1, .int (vl_I a)), (2, .int (4 : Int32))] [] (jv_H K I L R) n sl Q by
    rw [hQ] at h
    obtain ⟨X, h, I1, L1, e, h'⟩ := h
    subst e
    exact ⟨I1, L1, h, h'⟩
  have b0 := (h a (by omega)).2
  have b1 := (h (a + 1) (by omega)).2
  have b2 := (h (a + 2) (by omega)).2
  have b3 := (h (a + 3) (by omega)).2
  refine jv_Wp.lift (fun _ Kz => jv_Ev.steps jv_i255 7 (pc' := 9) (l' := [(4, .int (3 : Int32)), (3, .int (0 : Int32)), (0, .ref 197), (1, .int (vl_I a)), (2, .int (4 : Int32))]) (st' := [.int (3 : Int32)]) rfl Kz) ?_
  refine jv_Wp.lift (fun _ Kz => jv_Ev.br jv_i255 (pc' := 12) (st' := []) rfl (by rfl) Kz) ?_
  refine jv_Wp.lift (fun _ Kz => jv_Ev.steps jv_i255 7 (pc' := 21) (l' := [(4, .int (3 : Int32)), (3, .int (0 : Int32)), (0, .ref 197), (1, .int (vl_I a)), (2, .int (4 : Int32))]) (st' := [.int ((vl_I a) + (3 : Int32)), .ref 197, .int ((0 : Int32) <<< ((8 : Int32) &&& 31))]) rfl Kz) ?_
  refine jv_Wp.lift (fun _ Kz => jv_Ev.m jv_i255 (pc' := 22) (st' := [.int (I 197 (a + 3)), .int ((0 : Int32) <<< ((8 : Int32) &&& 31))]) (G' := (jv_H K I L R)) rfl rfl (jv_m_ialdv (jv_rwK hW 197 102 8192 (by decide)) rfl (by rw [show ((vl_I a) + (3 : Int32)) = vl_I (a + 3) from ((congrArg (fun y => y + (3 : Int32)) rfl).trans (vl_I_add a 3))]; exact vl_I_ix (by omega) (by decide)) rfl ((congrArg (I 197) (by rw [show ((vl_I a) + (3 : Int32)) = vl_I (a + 3) from ((congrArg (fun y => y + (3 : Int32)) rfl).trans (vl_I_add a 3))]; exact vl_I_nat (by omega))).trans rfl)) Kz) ?_
  refine jv_Wp.lift (fun _ Kz => jv_Ev.steps jv_i255 5 (pc' := 9) (l' := [(4, .int (2 : Int32)), (3, .int (((0 : Int32) <<< ((8 : Int32) &&& 31)) ||| (I 197 (a + 3)))), (0, .ref 197), (1, .int (vl_I a)), (2, .int (4 : Int32))]) (st' := [.int (2 : Int32)]) rfl Kz) ?_
  refine jv_Wp.lift (fun _ Kz => jv_Ev.br jv_i255 (pc' := 12) (st' := []) rfl (by rfl) Kz) ?_
  refine jv_Wp.lift (fun _ Kz => jv_Ev.steps jv_i255 7 (pc' := 21) (l' := [(4, .int (2 : Int32)), (3, .int (((0 : Int32) <<< ((8 : Int32) &&& 31)) ||| (I 197 (a + 3)))), (0, .ref 197), (1, .int (vl_I a)), (2, .int (4 : Int32))]) (st' := [.int ((vl_I a) + (2 : Int32)), .ref 197, .int ((((0 : Int32) <<< ((8 : Int32) &&& 31)) ||| (I 197 (a + 3))) <<< ((8 : Int32) &&& 31))]) rfl Kz) ?_
  refine jv_Wp.lift (fun _ Kz => jv_Ev.m jv_i255 (pc' := 22) (st' := [.int (I 197 (a + 2)), .int ((((0 : Int32) <<< ((8 : Int32) &&& 31)) ||| (I 197 (a + 3))) <<< ((8 : Int32) &&& 31))]) (G' := (jv_H K I L R)) rfl rfl (jv_m_ialdv (jv_rwK hW 197 102 8192 (by decide)) rfl (by rw [show ((vl_I a) + (2 : Int32)) = vl_I (a + 2) from ((congrArg (fun y => y + (2 : Int32)) rfl).trans (vl_I_add a 2))]; exact vl_I_ix (by omega) (by decide)) rfl ((congrArg (I 197) (by rw [show ((vl_I a) + (2 : Int32)) = vl_I (a + 2) from ((congrArg (fun y => y + (2 : Int32)) rfl).trans (vl_I_add a 2))]; exact vl_I_nat (by omega))).trans rfl)) Kz) ?_
  refine jv_Wp.lift (fun _ Kz => jv_Ev.steps jv_i255 5 (pc' := 9) (l' := [(4, .int (1 : Int32)), (3, .int (((((0 : Int32) <<< ((8 : Int32) &&& 31)) ||| (I 197 (a + 3))) <<< ((8 : Int32) &&& 31)) ||| (I 197 (a + 2)))), (0, .ref 197), (1, .int (vl_I a)), (2, .int (4 : Int32))]) (st' := [.int (1 : Int32)]) rfl Kz) ?_
  refine jv_Wp.lift (fun _ Kz => jv_Ev.br jv_i255 (pc' := 12) (st' := []) rfl (by rfl) Kz) ?_
  refine jv_Wp.lift (fun _ Kz => jv_Ev.steps jv_i255 7 (pc' := 21) (l' := [(4, .int (1 : Int32)), (3, .int (((((0 : Int32) <<< ((8 : Int32) &&& 31)) ||| (I 197 (a + 3))) <<< ((8 : Int32) &&& 31)) ||| (I 197 (a + 2)))), (0, .ref 197), (1, .int (vl_I a)), (2, .int (4 : Int32))]) (st' := [.int ((vl_I a) + (1 : Int32)), .ref 197, .int ((((((0 : Int32) <<< ((8 : Int32) &&& 31)) ||| (I 197 (a + 3))) <<< ((8 : Int32) &&& 31)) ||| (I 197 (a + 2))) <<< ((8 : Int32) &&& 31))]) rfl Kz) ?_
  refine jv_Wp.lift (fun _ Kz => jv_Ev.m jv_i255 (pc' := 22) (st' := [.int (I 197 (a + 1)), .int ((((((0 : Int32) <<< ((8 : Int32) &&& 31)) ||| (I 197 (a + 3))) <<< ((8 : Int32) &&& 31)) ||| (I 197 (a + 2))) <<< ((8 : Int32) &&& 31))]) (G' := (jv_H K I L R)) rfl rfl (jv_m_ialdv (jv_rwK hW 197 102 8192 (by decide)) rfl (by rw [show ((vl_I a) + (1 : Int32)) = vl_I (a + 1) from ((congrArg (fun y => y + (1 : Int32)) rfl).trans (vl_I_add a 1))]; exact vl_I_ix (by omega) (by decide)) rfl ((congrArg (I 197) (by rw [show ((vl_I a) + (1 : Int32)) = vl_I (a + 1) from ((congrArg (fun y => y + (1 : Int32)) rfl).trans (vl_I_add a 1))]; exact vl_I_nat (by omega))).trans rfl)) Kz) ?_
  refine jv_Wp.lift (fun _ Kz => jv_Ev.steps jv_i255 5 (pc' := 9) (l' := [(4, .int (0 : Int32)), (3, .int (((((((0 : Int32) <<< ((8 : Int32) &&& 31)) ||| (I 197 (a + 3))) <<< ((8 : Int32) &&& 31)) ||| (I 197 (a + 2))) <<< ((8 : Int32) &&& 31)) ||| (I 197 (a + 1)))), (0, .ref 197), (1, .int (vl_I a)), (2, .int (4 : Int32))]) (st' := [.int (0 : Int32)]) rfl Kz) ?_
  refine jv_Wp.lift (fun _ Kz => jv_Ev.br jv_i255 (pc' := 12) (st' := []) rfl (by rfl) Kz) ?_
  refine jv_Wp.lift (fun _ Kz => jv_Ev.steps jv_i255 7 (pc' := 21) (l' := [(4, .int (0 : Int32)), (3, .int (((((((0 : Int32) <<< ((8 : Int32) &&& 31)) ||| (I 197 (a + 3))) <<< ((8 : Int32) &&& 31)) ||| (I 197 (a + 2))) <<< ((8 : Int32) &&& 31)) ||| (I 197 (a + 1)))), (0, .ref 197), (1, .int (vl_I a)), (2, .int (4 : Int32))]) (st' := [.int ((vl_I a) + (0 : Int32)), .ref 197, .int ((((((((0 : Int32) <<< ((8 : Int32) &&& 31)) ||| (I 197 (a + 3))) <<< ((8 : Int32) &&& 31)) ||| (I 197 (a + 2))) <<< ((8 : Int32) &&& 31)) ||| (I 197 (a + 1))) <<< ((8 : Int32) &&& 31))]) rfl Kz) ?_
  refine jv_Wp.lift (fun _ Kz => jv_Ev.m jv_i255 (pc' := 22) (st' := [.int (I 197 (a + 0)), .int ((((((((0 : Int32) <<< ((8 : Int32) &&& 31)) ||| (I 197 (a + 3))) <<< ((8 : Int32) &&& 31)) ||| (I 197 (a + 2))) <<< ((8 : Int32) &&& 31)) ||| (I 197 (a + 1))) <<< ((8 : Int32) &&& 31))]) (G' := (jv_H K I L R)) rfl rfl (jv_m_ialdv (jv_rwK hW 197 102 8192 (by decide)) rfl (by rw [show ((vl_I a) + (0 : Int32)) = vl_I (a + 0) from ((congrArg (fun y => y + (0 : Int32)) rfl).trans (vl_I_add a 0))]; exact vl_I_ix (by omega) (by decide)) rfl ((congrArg (I 197) (by rw [show ((vl_I a) + (0 : Int32)) = vl_I (a + 0) from ((congrArg (fun y => y + (0 : Int32)) rfl).trans (vl_I_add a 0))]; exact vl_I_nat (by omega))).trans rfl)) Kz) ?_
  refine jv_Wp.lift (fun _ Kz => jv_Ev.steps jv_i255 5 (pc' := 9) (l' := [(4, .int (-1 : Int32)), (3, .int (((((((((0 : Int32) <<< ((8 : Int32) &&& 31)) ||| (I 197 (a + 3))) <<< ((8 : Int32) &&& 31)) ||| (I 197 (a + 2))) <<< ((8 : Int32) &&& 31)) ||| (I 197 (a + 1))) <<< ((8 : Int32) &&& 31)) ||| (I 197 (a + 0)))), (0, .ref 197), (1, .int (vl_I a)), (2, .int (4 : Int32))]) (st' := [.int (-1 : Int32)]) rfl Kz) ?_
  refine jv_Wp.lift (fun _ Kz => jv_Ev.br jv_i255 (pc' := 30) (st' := []) rfl (by rfl) Kz) ?_
  refine jv_Wp.lift (fun _ Kz => jv_Ev.steps jv_i255 1 (pc' := 31) (l' := [(4, .int (-1 : Int32)), (3, .int (((((((((0 : Int32) <<< ((8 : Int32) &&& 31)) ||| (I 197 (a + 3))) <<< ((8 : Int32) &&& 31)) ||| (I 197 (a + 2))) <<< ((8 : Int32) &&& 31)) ||| (I 197 (a + 1))) <<< ((8 : Int32) &&& 31)) ||| (I 197 (a + 0)))), (0, .ref 197), (1, .int (vl_I a)), (2, .int (4 : Int32))]) (st' := [.int (((((((((0 : Int32) <<< ((8 : Int32) &&& 31)) ||| (I 197 (a + 3))) <<< ((8 : Int32) &&& 31)) ||| (I 197 (a + 2))) <<< ((8 : Int32) &&& 31)) ||| (I 197 (a + 1))) <<< ((8 : Int32) &&& 31)) ||| (I 197 (a + 0)))]) rfl Kz) ?_
  refine jv_Wp.of (jv_Ev.ret jv_i255 rfl rfl) ?_
  rw [hQ]
  have ev : (((((((((0 : Int32) <<< ((8 : Int32) &&& 31)) ||| (I 197 (a + 3))) <<< ((8 : Int32) &&& 31)) ||| (I 197 (a + 2))) <<< ((8 : Int32) &&& 31)) ||| (I 197 (a + 1))) <<< ((8 : Int32) &&& 31)) ||| (I 197 (a + 0))) = (vl_I (vr_n4 B a)) := (by
        have e1 : (((0 : Int32) <<< ((8 : Int32) &&& 31)) ||| (I 197 (a + 3))) = vl_I (B (a + 3)) := by rw [(h (a + 3) (by omega)).1]; exact (vi_sh8 (x := 0) b3 (by omega)).trans (congrArg vl_I (by omega))
        rw [e1, (h (a + 2) (by omega)).1, vi_sh8 b2 (by omega), (h (a + 1) (by omega)).1, vi_sh8 b1 (by omega), show I 197 (a + 0) = vl_I (B a) from (h a (by omega)).1, vi_sh8 b0 (by omega)]
        exact congrArg vl_I (by unfold vr_n4; omega))
  exact ⟨_, _, by rw [ev], rfl, rfl⟩
theorem vq_num4_197 {K : Nat → Option (Nat × Nat)} {I : Nat → Nat → Int32} {L : Nat → Nat → Int64} {R : Nat → Nat → Value} (a len : Nat) (B : Nat → Nat) (hW : jv_rW K R) (h : vr_tp I 197 len B) (hl : len ≤ 8192) (ha : a + 3 < len) {n sl : Nat} : jv_Ms 255 [.ref 197, .int (vl_I a), .int (4 : Int32)] (jv_H K I L R) n sl (some (.int (vl_I (vr_n4 B a))), jv_H K I L R, n, sl) := by
  obtain ⟨I1, L1, H, ei, el⟩ := vq_num4_197_ (n := n) (sl := sl) a len B hW h hl ha
  rw [ei, el] at H
  exact H
set_option maxRecDepth 8000 in
theorem vq_num2_198_ {K : Nat → Option (Nat × Nat)} {I : Nat → Nat → Int32} {L : Nat → Nat → Int64} {R : Nat → Nat → Value} (a len : Nat) (B : Nat → Nat) (hW : jv_rW K R) (h : vr_tp I 198 len B) (hl : len ≤ 8192) (ha : a + 1 < len) {n sl : Nat} : ∃ I1 L1, jv_Ms 255 [.ref 198, .int (vl_I a), .int (2 : Int32)] (jv_H K I L R) n sl (some (.int (vl_I (vr_n2 B a))), jv_H K I1 L1 R, n, sl) ∧ I1 = I ∧ L1 = L := by
  obtain ⟨Q, hQ⟩ : ∃ Q : jv_R → Prop, Q = fun X => ∃ I1 L1, X = (some (.int (vl_I (vr_n2 B a))), jv_H K I1 L1 R, n, sl) ∧ I1 = I ∧ L1 = L := ⟨_, rfl⟩
  suffices h : jv_Wp 255 0 [(0, .ref 198), (1, .int (vl_I a)), (2, .int (2 : Int32))] [] (jv_H K I L R) n sl Q by
    rw [hQ] at h
    obtain ⟨X, h, I1, L1, e, h'⟩ := h
    subst e
    exact ⟨I1, L1, h, h'⟩
  have b0 := (h a (by omega)).2
  have b1 := (h (a + 1) (by omega)).2
  refine jv_Wp.lift (fun _ Kz => jv_Ev.steps jv_i255 7 (pc' := 9) (l' := [(4, .int (1 : Int32)), (3, .int (0 : Int32)), (0, .ref 198), (1, .int (vl_I a)), (2, .int (2 : Int32))]) (st' := [.int (1 : Int32)]) rfl Kz) ?_
  refine jv_Wp.lift (fun _ Kz => jv_Ev.br jv_i255 (pc' := 12) (st' := []) rfl (by rfl) Kz) ?_
  refine jv_Wp.lift (fun _ Kz => jv_Ev.steps jv_i255 7 (pc' := 21) (l' := [(4, .int (1 : Int32)), (3, .int (0 : Int32)), (0, .ref 198), (1, .int (vl_I a)), (2, .int (2 : Int32))]) (st' := [.int ((vl_I a) + (1 : Int32)), .ref 198, .int ((0 : Int32) <<< ((8 : Int32) &&& 31))]) rfl Kz) ?_
  refine jv_Wp.lift (fun _ Kz => jv_Ev.m jv_i255 (pc' := 22) (st' := [.int (I 198 (a + 1)), .int ((0 : Int32) <<< ((8 : Int32) &&& 31))]) (G' := (jv_H K I L R)) rfl rfl (jv_m_ialdv (jv_rwK hW 198 102 8192 (by decide)) rfl (by rw [show ((vl_I a) + (1 : Int32)) = vl_I (a + 1) from ((congrArg (fun y => y + (1 : Int32)) rfl).trans (vl_I_add a 1))]; exact vl_I_ix (by omega) (by decide)) rfl ((congrArg (I 198) (by rw [show ((vl_I a) + (1 : Int32)) = vl_I (a + 1) from ((congrArg (fun y => y + (1 : Int32)) rfl).trans (vl_I_add a 1))]; exact vl_I_nat (by omega))).trans rfl)) Kz) ?_
  refine jv_Wp.lift (fun _ Kz => jv_Ev.steps jv_i255 5 (pc' := 9) (l' := [(4, .int (0 : Int32)), (3, .int (((0 : Int32) <<< ((8 : Int32) &&& 31)) ||| (I 198 (a + 1)))), (0, .ref 198), (1, .int (vl_I a)), (2, .int (2 : Int32))]) (st' := [.int (0 : Int32)]) rfl Kz) ?_
  refine jv_Wp.lift (fun _ Kz => jv_Ev.br jv_i255 (pc' := 12) (st' := []) rfl (by rfl) Kz) ?_
  refine jv_Wp.lift (fun _ Kz => jv_Ev.steps jv_i255 7 (pc' := 21) (l' := [(4, .int (0 : Int32)), (3, .int (((0 : Int32) <<< ((8 : Int32) &&& 31)) ||| (I 198 (a + 1)))), (0, .ref 198), (1, .int (vl_I a)), (2, .int (2 : Int32))]) (st' := [.int ((vl_I a) + (0 : Int32)), .ref 198, .int ((((0 : Int32) <<< ((8 : Int32) &&& 31)) ||| (I 198 (a + 1))) <<< ((8 : Int32) &&& 31))]) rfl Kz) ?_
  refine jv_Wp.lift (fun _ Kz => jv_Ev.m jv_i255 (pc' := 22) (st' := [.int (I 198 (a + 0)), .int ((((0 : Int32) <<< ((8 : Int32) &&& 31)) ||| (I 198 (a + 1))) <<< ((8 : Int32) &&& 31))]) (G' := (jv_H K I L R)) rfl rfl (jv_m_ialdv (jv_rwK hW 198 102 8192 (by decide)) rfl (by rw [show ((vl_I a) + (0 : Int32)) = vl_I (a + 0) from ((congrArg (fun y => y + (0 : Int32)) rfl).trans (vl_I_add a 0))]; exact vl_I_ix (by omega) (by decide)) rfl ((congrArg (I 198) (by rw [show ((vl_I a) + (0 : Int32)) = vl_I (a + 0) from ((congrArg (fun y => y + (0 : Int32)) rfl).trans (vl_I_add a 0))]; exact vl_I_nat (by omega))).trans rfl)) Kz) ?_
  refine jv_Wp.lift (fun _ Kz => jv_Ev.steps jv_i255 5 (pc' := 9) (l' := [(4, .int (-1 : Int32)), (3, .int (((((0 : Int32) <<< ((8 : Int32) &&& 31)) ||| (I 198 (a + 1))) <<< ((8 : Int32) &&& 31)) ||| (I 198 (a + 0)))), (0, .ref 198), (1, .int (vl_I a)), (2, .int (2 : Int32))]) (st' := [.int (-1 : Int32)]) rfl Kz) ?_
  refine jv_Wp.lift (fun _ Kz => jv_Ev.br jv_i255 (pc' := 30) (st' := []) rfl (by rfl) Kz) ?_
  refine jv_Wp.lift (fun _ Kz => jv_Ev.steps jv_i255 1 (pc' := 31) (l' := [(4, .int (-1 : Int32)), (3, .int (((((0 : Int32) <<< ((8 : Int32) &&& 31)) ||| (I 198 (a + 1))) <<< ((8 : Int32) &&& 31)) ||| (I 198 (a + 0)))), (0, .ref 198), (1, .int (vl_I a)), (2, .int (2 : Int32))]) (st' := [.int (((((0 : Int32) <<< ((8 : Int32) &&& 31)) ||| (I 198 (a + 1))) <<< ((8 : Int32) &&& 31)) ||| (I 198 (a + 0)))]) rfl Kz) ?_
  refine jv_Wp.of (jv_Ev.ret jv_i255 rfl rfl) ?_
  rw [hQ]
  have ev : (((((0 : Int32) <<< ((8 : Int32) &&& 31)) ||| (I 198 (a + 1))) <<< ((8 : Int32) &&& 31)) ||| (I 198 (a + 0))) = (vl_I (vr_n2 B a)) := (by
        have e1 : (((0 : Int32) <<< ((8 : Int32) &&& 31)) ||| (I 198 (a + 1))) = vl_I (B (a + 1)) := by rw [(h (a + 1) (by omega)).1]; exact (vi_sh8 (x := 0) b1 (by omega)).trans (congrArg vl_I (by omega))
        rw [e1, show I 198 (a + 0) = vl_I (B a) from (h a (by omega)).1, vi_sh8 b0 (by omega)]
        exact congrArg vl_I (by unfold vr_n2; omega))
  exact ⟨_, _, by rw [ev], rfl, rfl⟩
theorem vq_num2_198 {K : Nat → Option (Nat × Nat)} {I : Nat → Nat → Int32} {L : Nat → Nat → Int64} {R : Nat → Nat → Value} (a len : Nat) (B : Nat → Nat) (hW : jv_rW K R) (h : vr_tp I 198 len B) (hl : len ≤ 8192) (ha : a + 1 < len) {n sl : Nat} : jv_Ms 255 [.ref 198, .int (vl_I a), .int (2 : Int32)] (jv_H K I L R) n sl (some (.int (vl_I (vr_n2 B a))), jv_H K I L R, n, sl) := by
  obtain ⟨I1, L1, H, ei, el⟩ := vq_num2_198_ (n := n) (sl := sl) a len B hW h hl ha
  rw [ei, el] at H
  exact H
set_option maxRecDepth 8000 in
theorem vq_num4_198_ {K : Nat → Option (Nat × Nat)} {I : Nat → Nat → Int32} {L : Nat → Nat → Int64} {R : Nat → Nat → Value} (a len : Nat) (B : Nat → Nat) (hW : jv_rW K R) (h : vr_tp I 198 len B) (hl : len ≤ 8192) (ha : a + 3 < len) {n sl : Nat} : ∃ I1 L1, jv_Ms 255 [.ref 198, .int (vl_I a), .int (4 : Int32)] (jv_H K I L R) n sl (some (.int (vl_I (vr_n4 B a))), jv_H K I1 L1 R, n, sl) ∧ I1 = I ∧ L1 = L := by
  obtain ⟨Q, hQ⟩ : ∃ Q : jv_R → Prop, Q = fun X => ∃ I1 L1, X = (some (.int (vl_I (vr_n4 B a))), jv_H K I1 L1 R, n, sl) ∧ I1 = I ∧ L1 = L := ⟨_, rfl⟩
  suffices h : jv_Wp 255 0 [(0, .ref 198), (1, .int (vl_I a)), (2, .int (4 : Int32))] [] (jv_H K I L R) n sl Q by
    rw [hQ] at h
    obtain ⟨X, h, I1, L1, e, h'⟩ := h
    subst e
    exact ⟨I1, L1, h, h'⟩
  have b0 := (h a (by omega)).2
  have b1 := (h (a + 1) (by omega)).2
  have b2 := (h (a + 2) (by omega)).2
  have b3 := (h (a + 3) (by omega)).2
  refine jv_Wp.lift (fun _ Kz => jv_Ev.steps jv_i255 7 (pc' := 9) (l' := [(4, .int (3 : Int32)), (3, .int (0 : Int32)), (0, .ref 198), (1, .int (vl_I a)), (2, .int (4 : Int32))]) (st' := [.int (3 : Int32)]) rfl Kz) ?_
  refine jv_Wp.lift (fun _ Kz => jv_Ev.br jv_i255 (pc' := 12) (st' := []) rfl (by rfl) Kz) ?_
  refine jv_Wp.lift (fun _ Kz => jv_Ev.steps jv_i255 7 (pc' := 21) (l' := [(4, .int (3 : Int32)), (3, .int (0 : Int32)), (0, .ref 198), (1, .int (vl_I a)), (2, .int (4 : Int32))]) (st' := [.int ((vl_I a) + (3 : Int32)), .ref 198, .int ((0 : Int32) <<< ((8 : Int32) &&& 31))]) rfl Kz) ?_
  refine jv_Wp.lift (fun _ Kz => jv_Ev.m jv_i255 (pc' := 22) (st' := [.int (I 198 (a + 3)), .int ((0 : Int32) <<< ((8 : Int32) &&& 31))]) (G' := (jv_H K I L R)) rfl rfl (jv_m_ialdv (jv_rwK hW 198 102 8192 (by decide)) rfl (by rw [show ((vl_I a) + (3 : Int32)) = vl_I (a + 3) from ((congrArg (fun y => y + (3 : Int32)) rfl).trans (vl_I_add a 3))]; exact vl_I_ix (by omega) (by decide)) rfl ((congrArg (I 198) (by rw [show ((vl_I a) + (3 : Int32)) = vl_I (a + 3) from ((congrArg (fun y => y + (3 : Int32)) rfl).trans (vl_I_add a 3))]; exact vl_I_nat (by omega))).trans rfl)) Kz) ?_
  refine jv_Wp.lift (fun _ Kz => jv_Ev.steps jv_i255 5 (pc' := 9) (l' := [(4, .int (2 : Int32)), (3, .int (((0 : Int32) <<< ((8 : Int32) &&& 31)) ||| (I 198 (a + 3)))), (0, .ref 198), (1, .int (vl_I a)), (2, .int (4 : Int32))]) (st' := [.int (2 : Int32)]) rfl Kz) ?_
  refine jv_Wp.lift (fun _ Kz => jv_Ev.br jv_i255 (pc' := 12) (st' := []) rfl (by rfl) Kz) ?_
  refine jv_Wp.lift (fun _ Kz => jv_Ev.steps jv_i255 7 (pc' := 21) (l' := [(4, .int (2 : Int32)), (3, .int (((0 : Int32) <<< ((8 : Int32) &&& 31)) ||| (I 198 (a + 3)))), (0, .ref 198), (1, .int (vl_I a)), (2, .int (4 : Int32))]) (st' := [.int ((vl_I a) + (2 : Int32)), .ref 198, .int ((((0 : Int32) <<< ((8 : Int32) &&& 31)) ||| (I 198 (a + 3))) <<< ((8 : Int32) &&& 31))]) rfl Kz) ?_
  refine jv_Wp.lift (fun _ Kz => jv_Ev.m jv_i255 (pc' := 22) (st' := [.int (I 198 (a + 2)), .int ((((0 : Int32) <<< ((8 : Int32) &&& 31)) ||| (I 198 (a + 3))) <<< ((8 : Int32) &&& 31))]) (G' := (jv_H K I L R)) rfl rfl (jv_m_ialdv (jv_rwK hW 198 102 8192 (by decide)) rfl (by rw [show ((vl_I a) + (2 : Int32)) = vl_I (a + 2) from ((congrArg (fun y => y + (2 : Int32)) rfl).trans (vl_I_add a 2))]; exact vl_I_ix (by omega) (by decide)) rfl ((congrArg (I 198) (by rw [show ((vl_I a) + (2 : Int32)) = vl_I (a + 2) from ((congrArg (fun y => y + (2 : Int32)) rfl).trans (vl_I_add a 2))]; exact vl_I_nat (by omega))).trans rfl)) Kz) ?_
  refine jv_Wp.lift (fun _ Kz => jv_Ev.steps jv_i255 5 (pc' := 9) (l' := [(4, .int (1 : Int32)), (3, .int (((((0 : Int32) <<< ((8 : Int32) &&& 31)) ||| (I 198 (a + 3))) <<< ((8 : Int32) &&& 31)) ||| (I 198 (a + 2)))), (0, .ref 198), (1, .int (vl_I a)), (2, .int (4 : Int32))]) (st' := [.int (1 : Int32)]) rfl Kz) ?_
  refine jv_Wp.lift (fun _ Kz => jv_Ev.br jv_i255 (pc' := 12) (st' := []) rfl (by rfl) Kz) ?_
  refine jv_Wp.lift (fun _ Kz => jv_Ev.steps jv_i255 7 (pc' := 21) (l' := [(4, .int (1 : Int32)), (3, .int (((((0 : Int32) <<< ((8 : Int32) &&& 31)) ||| (I 198 (a + 3))) <<< ((8 : Int32) &&& 31)) ||| (I 198 (a + 2)))), (0, .ref 198), (1, .int (vl_I a)), (2, .int (4 : Int32))]) (st' := [.int ((vl_I a) + (1 : Int32)), .ref 198, .int ((((((0 : Int32) <<< ((8 : Int32) &&& 31)) ||| (I 198 (a + 3))) <<< ((8 : Int32) &&& 31)) ||| (I 198 (a + 2))) <<< ((8 : Int32) &&& 31))]) rfl Kz) ?_
  refine jv_Wp.lift (fun _ Kz => jv_Ev.m jv_i255 (pc' := 22) (st' := [.int (I 198 (a + 1)), .int ((((((0 : Int32) <<< ((8 : Int32) &&& 31)) ||| (I 198 (a + 3))) <<< ((8 : Int32) &&& 31)) ||| (I 198 (a + 2))) <<< ((8 : Int32) &&& 31))]) (G' := (jv_H K I L R)) rfl rfl (jv_m_ialdv (jv_rwK hW 198 102 8192 (by decide)) rfl (by rw [show ((vl_I a) + (1 : Int32)) = vl_I (a + 1) from ((congrArg (fun y => y + (1 : Int32)) rfl).trans (vl_I_add a 1))]; exact vl_I_ix (by omega) (by decide)) rfl ((congrArg (I 198) (by rw [show ((vl_I a) + (1 : Int32)) = vl_I (a + 1) from ((congrArg (fun y => y + (1 : Int32)) rfl).trans (vl_I_add a 1))]; exact vl_I_nat (by omega))).trans rfl)) Kz) ?_
  refine jv_Wp.lift (fun _ Kz => jv_Ev.steps jv_i255 5 (pc' := 9) (l' := [(4, .int (0 : Int32)), (3, .int (((((((0 : Int32) <<< ((8 : Int32) &&& 31)) ||| (I 198 (a + 3))) <<< ((8 : Int32) &&& 31)) ||| (I 198 (a + 2))) <<< ((8 : Int32) &&& 31)) ||| (I 198 (a + 1)))), (0, .ref 198), (1, .int (vl_I a)), (2, .int (4 : Int32))]) (st' := [.int (0 : Int32)]) rfl Kz) ?_
  refine jv_Wp.lift (fun _ Kz => jv_Ev.br jv_i255 (pc' := 12) (st' := []) rfl (by rfl) Kz) ?_
  refine jv_Wp.lift (fun _ Kz => jv_Ev.steps jv_i255 7 (pc' := 21) (l' := [(4, .int (0 : Int32)), (3, .int (((((((0 : Int32) <<< ((8 : Int32) &&& 31)) ||| (I 198 (a + 3))) <<< ((8 : Int32) &&& 31)) ||| (I 198 (a + 2))) <<< ((8 : Int32) &&& 31)) ||| (I 198 (a + 1)))), (0, .ref 198), (1, .int (vl_I a)), (2, .int (4 : Int32))]) (st' := [.int ((vl_I a) + (0 : Int32)), .ref 198, .int ((((((((0 : Int32) <<< ((8 : Int32) &&& 31)) ||| (I 198 (a + 3))) <<< ((8 : Int32) &&& 31)) ||| (I 198 (a + 2))) <<< ((8 : Int32) &&& 31)) ||| (I 198 (a + 1))) <<< ((8 : Int32) &&& 31))]) rfl Kz) ?_
  refine jv_Wp.lift (fun _ Kz => jv_Ev.m jv_i255 (pc' := 22) (st' := [.int (I 198 (a + 0)), .int ((((((((0 : Int32) <<< ((8 : Int32) &&& 31)) ||| (I 198 (a + 3))) <<< ((8 : Int32) &&& 31)) ||| (I 198 (a + 2))) <<< ((8 : Int32) &&& 31)) ||| (I 198 (a + 1))) <<< ((8 : Int32) &&& 31))]) (G' := (jv_H K I L R)) rfl rfl (jv_m_ialdv (jv_rwK hW 198 102 8192 (by decide)) rfl (by rw [show ((vl_I a) + (0 : Int32)) = vl_I (a + 0) from ((congrArg (fun y => y + (0 : Int32)) rfl).trans (vl_I_add a 0))]; exact vl_I_ix (by omega) (by decide)) rfl ((congrArg (I 198) (by rw [show ((vl_I a) + (0 : Int32)) = vl_I (a + 0) from ((congrArg (fun y => y + (0 : Int32)) rfl).trans (vl_I_add a 0))]; exact vl_I_nat (by omega))).trans rfl)) Kz) ?_
  refine jv_Wp.lift (fun _ Kz => jv_Ev.steps jv_i255 5 (pc' := 9) (l' := [(4, .int (-1 : Int32)), (3, .int (((((((((0 : Int32) <<< ((8 : Int32) &&& 31)) ||| (I 198 (a + 3))) <<< ((8 : Int32) &&& 31)) ||| (I 198 (a + 2))) <<< ((8 : Int32) &&& 31)) ||| (I 198 (a + 1))) <<< ((8 : Int32) &&& 31)) ||| (I 198 (a + 0)))), (0, .ref 198), (1, .int (vl_I a)), (2, .int (4 : Int32))]) (st' := [.int (-1 : Int32)]) rfl Kz) ?_
  refine jv_Wp.lift (fun _ Kz => jv_Ev.br jv_i255 (pc' := 30) (st' := []) rfl (by rfl) Kz) ?_
  refine jv_Wp.lift (fun _ Kz => jv_Ev.steps jv_i255 1 (pc' := 31) (l' := [(4, .int (-1 : Int32)), (3, .int (((((((((0 : Int32) <<< ((8 : Int32) &&& 31)) ||| (I 198 (a + 3))) <<< ((8 : Int32) &&& 31)) ||| (I 198 (a + 2))) <<< ((8 : Int32) &&& 31)) ||| (I 198 (a + 1))) <<< ((8 : Int32) &&& 31)) ||| (I 198 (a + 0)))), (0, .ref 198), (1, .int (vl_I a)), (2, .int (4 : Int32))]) (st' := [.int (((((((((0 : Int32) <<< ((8 : Int32) &&& 31)) ||| (I 198 (a + 3))) <<< ((8 : Int32) &&& 31)) ||| (I 198 (a + 2))) <<< ((8 : Int32) &&& 31)) ||| (I 198 (a + 1))) <<< ((8 : Int32) &&& 31)) ||| (I 198 (a + 0)))]) rfl Kz) ?_
  refine jv_Wp.of (jv_Ev.ret jv_i255 rfl rfl) ?_
  rw [hQ]
  have ev : (((((((((0 : Int32) <<< ((8 : Int32) &&& 31)) ||| (I 198 (a + 3))) <<< ((8 : Int32) &&& 31)) ||| (I 198 (a + 2))) <<< ((8 : Int32) &&& 31)) ||| (I 198 (a + 1))) <<< ((8 : Int32) &&& 31)) ||| (I 198 (a + 0))) = (vl_I (vr_n4 B a)) := (by
        have e1 : (((0 : Int32) <<< ((8 : Int32) &&& 31)) ||| (I 198 (a + 3))) = vl_I (B (a + 3)) := by rw [(h (a + 3) (by omega)).1]; exact (vi_sh8 (x := 0) b3 (by omega)).trans (congrArg vl_I (by omega))
        rw [e1, (h (a + 2) (by omega)).1, vi_sh8 b2 (by omega), (h (a + 1) (by omega)).1, vi_sh8 b1 (by omega), show I 198 (a + 0) = vl_I (B a) from (h a (by omega)).1, vi_sh8 b0 (by omega)]
        exact congrArg vl_I (by unfold vr_n4; omega))
  exact ⟨_, _, by rw [ev], rfl, rfl⟩
theorem vq_num4_198 {K : Nat → Option (Nat × Nat)} {I : Nat → Nat → Int32} {L : Nat → Nat → Int64} {R : Nat → Nat → Value} (a len : Nat) (B : Nat → Nat) (hW : jv_rW K R) (h : vr_tp I 198 len B) (hl : len ≤ 8192) (ha : a + 3 < len) {n sl : Nat} : jv_Ms 255 [.ref 198, .int (vl_I a), .int (4 : Int32)] (jv_H K I L R) n sl (some (.int (vl_I (vr_n4 B a))), jv_H K I L R, n, sl) := by
  obtain ⟨I1, L1, H, ei, el⟩ := vq_num4_198_ (n := n) (sl := sl) a len B hW h hl ha
  rw [ei, el] at H
  exact H
theorem jv_i256 : jv_I 256 3 none 1 24 jv_c256 := ⟨rfl, rfl, rfl, rfl, rfl⟩
theorem vq_take197 {K : Nat → Option (Nat × Nat)} {I : Nat → Nat → Int32} {L : Nat → Nat → Int64} {R : Nat → Nat → Value} (p len : Nat) (B : Nat → Nat) (hW : jv_rW K R) (hf : vr_fl I) (h : vr_tp I 197 len B) (hl : len ≤ 8192) (hp : 8 * p + 7 < len) {n sl : Nat} : ∃ I1 L1, jv_Ms 256 [.ref 196, .ref 197, .int (vl_I p)] (jv_H K I L R) n sl (none, jv_H K I1 L1 R, n, sl) ∧ vr_dec I1 (vr_F B p) ∧ vr_fr noP (fun q g => q = 196 ∧ 19 ≤ g) I L I1 L1 := by
  obtain ⟨Q, hQ⟩ : ∃ Q : jv_R → Prop, Q = fun X => ∃ I1 L1, X = (none, jv_H K I1 L1 R, n, sl) ∧ vr_dec I1 (vr_F B p) ∧ vr_fr noP (fun q g => q = 196 ∧ 19 ≤ g) I L I1 L1 := ⟨_, rfl⟩
  suffices h : jv_Wp 256 0 [(0, .ref 196), (1, .ref 197), (2, .int (vl_I p))] [] (jv_H K I L R) n sl Q by
    rw [hQ] at h
    obtain ⟨X, h, I1, L1, e, h'⟩ := h
    subst e
    exact ⟨I1, L1, h, h'⟩
  refine jv_Wp.lift (fun _ Kz => jv_Ev.steps jv_i256 5 (pc' := 6) (l' := [(0, .ref 196), (1, .ref 197), (2, .int (vl_I p))]) (st' := [.int ((8 : Int32) * (vl_I p)), .ref 197, .ref 196]) rfl Kz) ?_
  refine jv_Wp.lift (fun _ Kz => jv_Ev.m jv_i256 (pc' := 7) (st' := [.int (I 197 (8 * p)), .ref 196]) (G' := (jv_H K I L R)) rfl rfl (jv_m_ialdv (jv_rwK hW 197 102 8192 (by decide)) rfl (by rw [show ((8 : Int32) * (vl_I p)) = vl_I (8 * p) from (vi_mul8 p)]; exact vl_I_ix (by omega) (by decide)) rfl ((congrArg (I 197) (by rw [show ((8 : Int32) * (vl_I p)) = vl_I (8 * p) from (vi_mul8 p)]; exact vl_I_nat (by omega))).trans rfl)) Kz) ?_
  refine jv_Wp.lift (fun _ Kz => jv_Ev.m jv_i256 (pc' := 10) (st' := []) (G' := (jv_H K (jv_u I 196 19 (I 197 (8 * p))) L R)) rfl rfl (jv_m_putI (jv_rwK hW 196 12 24 (by decide)) rfl rfl rfl rfl) Kz) ?_
  refine jv_Wp.lift (fun _ Kz => jv_Ev.steps jv_i256 7 (pc' := 18) (l' := [(0, .ref 196), (1, .ref 197), (2, .int (vl_I p))]) (st' := [.int (((8 : Int32) * (vl_I p)) + (1 : Int32)), .ref 197, .ref 196]) rfl Kz) ?_
  refine jv_Wp.lift (fun _ Kz => jv_Ev.m jv_i256 (pc' := 19) (st' := [.int (I 197 (8 * p + 1)), .ref 196]) (G' := (jv_H K (jv_u I 196 19 (I 197 (8 * p))) L R)) rfl rfl (jv_m_ialdv (jv_rwK hW 197 102 8192 (by decide)) rfl (by rw [show (((8 : Int32) * (vl_I p)) + (1 : Int32)) = vl_I (8 * p + 1) from ((congrArg (fun y => y + (1 : Int32)) (vi_mul8 p)).trans (vl_I_add (8 * p) 1))]; exact vl_I_ix (by omega) (by decide)) rfl ((congrArg ((jv_u I 196 19 (I 197 (8 * p))) 197) (by rw [show (((8 : Int32) * (vl_I p)) + (1 : Int32)) = vl_I (8 * p + 1) from ((congrArg (fun y => y + (1 : Int32)) (vi_mul8 p)).trans (vl_I_add (8 * p) 1))]; exact vl_I_nat (by omega))).trans (jv_u_o _ _ _ _ (by decide)))) Kz) ?_
  refine jv_Wp.lift (fun _ Kz => jv_Ev.steps jv_i256 2 (pc' := 22) (l' := [(0, .ref 196), (1, .ref 197), (2, .int (vl_I p))]) (st' := [.int ((I 197 (8 * p + 1)) &&& (15 : Int32)), .ref 196]) rfl Kz) ?_
  refine jv_Wp.lift (fun _ Kz => jv_Ev.m jv_i256 (pc' := 25) (st' := []) (G' := (jv_H K (jv_u (jv_u I 196 19 (I 197 (8 * p))) 196 20 ((I 197 (8 * p + 1)) &&& (15 : Int32))) L R)) rfl rfl (jv_m_putI (jv_rwK hW 196 12 24 (by decide)) rfl rfl rfl rfl) Kz) ?_
  refine jv_Wp.lift (fun _ Kz => jv_Ev.steps jv_i256 7 (pc' := 33) (l' := [(0, .ref 196), (1, .ref 197), (2, .int (vl_I p))]) (st' := [.int (((8 : Int32) * (vl_I p)) + (1 : Int32)), .ref 197, .ref 196]) rfl Kz) ?_
  refine jv_Wp.lift (fun _ Kz => jv_Ev.m jv_i256 (pc' := 34) (st' := [.int (I 197 (8 * p + 1)), .ref 196]) (G' := (jv_H K (jv_u (jv_u I 196 19 (I 197 (8 * p))) 196 20 ((I 197 (8 * p + 1)) &&& (15 : Int32))) L R)) rfl rfl (jv_m_ialdv (jv_rwK hW 197 102 8192 (by decide)) rfl (by rw [show (((8 : Int32) * (vl_I p)) + (1 : Int32)) = vl_I (8 * p + 1) from ((congrArg (fun y => y + (1 : Int32)) (vi_mul8 p)).trans (vl_I_add (8 * p) 1))]; exact vl_I_ix (by omega) (by decide)) rfl ((congrArg ((jv_u (jv_u I 196 19 (I 197 (8 * p))) 196 20 ((I 197 (8 * p + 1)) &&& (15 : Int32))) 197) (by rw [show (((8 : Int32) * (vl_I p)) + (1 : Int32)) = vl_I (8 * p + 1) from ((congrArg (fun y => y + (1 : Int32)) (vi_mul8 p)).trans (vl_I_add (8 * p) 1))]; exact vl_I_nat (by omega))).trans ((jv_u_o _ _ _ _ (by decide)).trans (jv_u_o _ _ _ _ (by decide))))) Kz) ?_
  refine jv_Wp.lift (fun _ Kz => jv_Ev.steps jv_i256 2 (pc' := 36) (l' := [(0, .ref 196), (1, .ref 197), (2, .int (vl_I p))]) (st' := [.int ((I 197 (8 * p + 1)) >>> ((4 : Int32) &&& 31)), .ref 196]) rfl Kz) ?_
  refine jv_Wp.lift (fun _ Kz => jv_Ev.m jv_i256 (pc' := 39) (st' := []) (G' := (jv_H K (jv_u (jv_u (jv_u I 196 19 (I 197 (8 * p))) 196 20 ((I 197 (8 * p + 1)) &&& (15 : Int32))) 196 21 ((I 197 (8 * p + 1)) >>> ((4 : Int32) &&& 31))) L R)) rfl rfl (jv_m_putI (jv_rwK hW 196 12 24 (by decide)) rfl rfl rfl rfl) Kz) ?_
  refine jv_Wp.lift (fun _ Kz => jv_Ev.steps jv_i256 8 (pc' := 48) (l' := [(0, .ref 196), (1, .ref 197), (2, .int (vl_I p))]) (st' := [.int (2 : Int32), .int (((8 : Int32) * (vl_I p)) + (2 : Int32)), .ref 197, .ref 196]) rfl Kz) ?_
  have H1 := vq_num2_197 (I := (jv_u (jv_u (jv_u I 196 19 (I 197 (8 * p))) 196 20 ((I 197 (8 * p + 1)) &&& (15 : Int32))) 196 21 ((I 197 (8 * p + 1)) >>> ((4 : Int32) &&& 31)))) (L := L) (n := n) (sl := sl) (8 * p + 2) len B hW (vr_tp_u (vr_tp_u (vr_tp_u h (by decide)) (by decide)) (by decide)) hl (by omega)
  rw [← show (((8 : Int32) * (vl_I p)) + (2 : Int32)) = vl_I (8 * p + 2) from ((congrArg (fun y => y + (2 : Int32)) (vi_mul8 p)).trans (vl_I_add (8 * p) 2))] at H1
  refine jv_Wp.lift (fun _ Kz => jv_Ev.c jv_i256 (pc' := 51) (S' := [.int (vl_I (vr_n2 B (8 * p + 2))), .ref 196]) jv_i255 [.ref 197, .int (((8 : Int32) * (vl_I p)) + (2 : Int32)), .int (2 : Int32)] rfl rfl rfl rfl rfl rfl H1 rfl rfl Kz) ?_
  refine jv_Wp.lift (fun _ Kz => jv_Ev.steps jv_i256 1 (pc' := 52) (l' := [(0, .ref 196), (1, .ref 197), (2, .int (vl_I p))]) (st' := [.int (vl_I (vr_n2 B (8 * p + 2))).toInt16.toInt32, .ref 196]) rfl Kz) ?_
  refine jv_Wp.lift (fun _ Kz => jv_Ev.m jv_i256 (pc' := 55) (st' := []) (G' := (jv_H K (jv_u (jv_u (jv_u (jv_u I 196 19 (I 197 (8 * p))) 196 20 ((I 197 (8 * p + 1)) &&& (15 : Int32))) 196 21 ((I 197 (8 * p + 1)) >>> ((4 : Int32) &&& 31))) 196 22 (vl_I (vr_n2 B (8 * p + 2))).toInt16.toInt32) L R)) rfl rfl (jv_m_putI (jv_rwK hW 196 12 24 (by decide)) rfl rfl rfl rfl) Kz) ?_
  refine jv_Wp.lift (fun _ Kz => jv_Ev.steps jv_i256 8 (pc' := 64) (l' := [(0, .ref 196), (1, .ref 197), (2, .int (vl_I p))]) (st' := [.int (4 : Int32), .int (((8 : Int32) * (vl_I p)) + (4 : Int32)), .ref 197, .ref 196]) rfl Kz) ?_
  have H2 := vq_num4_197 (I := (jv_u (jv_u (jv_u (jv_u I 196 19 (I 197 (8 * p))) 196 20 ((I 197 (8 * p + 1)) &&& (15 : Int32))) 196 21 ((I 197 (8 * p + 1)) >>> ((4 : Int32) &&& 31))) 196 22 (vl_I (vr_n2 B (8 * p + 2))).toInt16.toInt32)) (L := L) (n := n) (sl := sl) (8 * p + 4) len B hW (vr_tp_u (vr_tp_u (vr_tp_u (vr_tp_u h (by decide)) (by decide)) (by decide)) (by decide)) hl (by omega)
  rw [← show (((8 : Int32) * (vl_I p)) + (4 : Int32)) = vl_I (8 * p + 4) from ((congrArg (fun y => y + (4 : Int32)) (vi_mul8 p)).trans (vl_I_add (8 * p) 4))] at H2
  refine jv_Wp.lift (fun _ Kz => jv_Ev.c jv_i256 (pc' := 67) (S' := [.int (vl_I (vr_n4 B (8 * p + 4))), .ref 196]) jv_i255 [.ref 197, .int (((8 : Int32) * (vl_I p)) + (4 : Int32)), .int (4 : Int32)] rfl rfl rfl rfl rfl rfl H2 rfl rfl Kz) ?_
  refine jv_Wp.lift (fun _ Kz => jv_Ev.m jv_i256 (pc' := 70) (st' := []) (G' := (jv_H K (jv_u (jv_u (jv_u (jv_u (jv_u I 196 19 (I 197 (8 * p))) 196 20 ((I 197 (8 * p + 1)) &&& (15 : Int32))) 196 21 ((I 197 (8 * p + 1)) >>> ((4 : Int32) &&& 31))) 196 22 (vl_I (vr_n2 B (8 * p + 2))).toInt16.toInt32) 196 23 (vl_I (vr_n4 B (8 * p + 4)))) L R)) rfl rfl (jv_m_putI (jv_rwK hW 196 12 24 (by decide)) rfl rfl rfl rfl) Kz) ?_
  refine jv_Wp.of (jv_Ev.ret jv_i256 rfl rfl) ?_
  rw [hQ]
  obtain ⟨J, hJ⟩ : ∃ J, J = (jv_u (jv_u (jv_u (jv_u (jv_u I 196 19 (I 197 (8 * p))) 196 20 ((I 197 (8 * p + 1)) &&& (15 : Int32))) 196 21 ((I 197 (8 * p + 1)) >>> ((4 : Int32) &&& 31))) 196 22 (vl_I (vr_n2 B (8 * p + 2))).toInt16.toInt32) 196 23 (vl_I (vr_n4 B (8 * p + 4)))) := ⟨_, rfl⟩
  rw [← hJ]
  have c19 : J 196 19 = (I 197 (8 * p)) := by rw [hJ]; exact ((jv_u_j _ _ _ _ (by decide)).trans ((jv_u_j _ _ _ _ (by decide)).trans ((jv_u_j _ _ _ _ (by decide)).trans ((jv_u_j _ _ _ _ (by decide)).trans (jv_u_self _ _ _ _)))))
  have c20 : J 196 20 = ((I 197 (8 * p + 1)) &&& (15 : Int32)) := by rw [hJ]; exact ((jv_u_j _ _ _ _ (by decide)).trans ((jv_u_j _ _ _ _ (by decide)).trans ((jv_u_j _ _ _ _ (by decide)).trans (jv_u_self _ _ _ _))))
  have c21 : J 196 21 = ((I 197 (8 * p + 1)) >>> ((4 : Int32) &&& 31)) := by rw [hJ]; exact ((jv_u_j _ _ _ _ (by decide)).trans ((jv_u_j _ _ _ _ (by decide)).trans (jv_u_self _ _ _ _)))
  have c22 : J 196 22 = (vl_I (vr_n2 B (8 * p + 2))).toInt16.toInt32 := by rw [hJ]; exact ((jv_u_j _ _ _ _ (by decide)).trans (jv_u_self _ _ _ _))
  have c23 : J 196 23 = (vl_I (vr_n4 B (8 * p + 4))) := by rw [hJ]; exact (jv_u_self _ _ _ _)
  have b1 := (h (8 * p + 1) (by omega)).2
  have e1 := (h (8 * p + 1) (by omega)).1
  refine ⟨_, _, rfl, ⟨c19.trans (h (8 * p) (by omega)).1, c20.trans (by rw [e1]; exact vi_and15 ⟨_, b1⟩), c21.trans (by rw [e1]; exact vi_shr4 ⟨_, b1⟩), by rw [c22]; exact vi_short (vr_n2_lt h (by omega)), by rw [c23]; exact vi_long (vr_n4_lt h (by omega)), (h (8 * p) (by omega)).2, Nat.mod_lt _ (by decide), by show B (8 * p + 1) / 16 < 16; omega⟩, ⟨fun q hq => by rw [hJ]; exact (jv_u_o _ _ _ _ (by decide)).trans ((jv_u_o _ _ _ _ (by decide)).trans ((jv_u_o _ _ _ _ (by decide)).trans ((jv_u_o _ _ _ _ (by decide)).trans ((jv_u_o _ _ _ _ (by decide)).trans (hf q hq))))), fun q g a b c => ?_, fun _ _ _ => rfl⟩⟩
  rw [hJ]
  have t : ∀ (J2 : Nat → Nat → Int32) (j : Nat) (v : Int32), 19 ≤ j → jv_u J2 196 j v q g = J2 q g := fun J2 j v hj => by
    by_cases e : q = 196
    · rw [e]; exact jv_u_j _ _ _ _ (fun y => c ⟨by omega, e, by omega⟩)
    · exact jv_u_o _ _ _ _ e
  exact (t _ _ _ (by decide)).trans ((t _ _ _ (by decide)).trans ((t _ _ _ (by decide)).trans ((t _ _ _ (by decide)).trans (t _ _ _ (by decide)))))
theorem vq_take198 {K : Nat → Option (Nat × Nat)} {I : Nat → Nat → Int32} {L : Nat → Nat → Int64} {R : Nat → Nat → Value} (p len : Nat) (B : Nat → Nat) (hW : jv_rW K R) (hf : vr_fl I) (h : vr_tp I 198 len B) (hl : len ≤ 8192) (hp : 8 * p + 7 < len) {n sl : Nat} : ∃ I1 L1, jv_Ms 256 [.ref 196, .ref 198, .int (vl_I p)] (jv_H K I L R) n sl (none, jv_H K I1 L1 R, n, sl) ∧ vr_dec I1 (vr_F B p) ∧ vr_fr noP (fun q g => q = 196 ∧ 19 ≤ g) I L I1 L1 := by
  obtain ⟨Q, hQ⟩ : ∃ Q : jv_R → Prop, Q = fun X => ∃ I1 L1, X = (none, jv_H K I1 L1 R, n, sl) ∧ vr_dec I1 (vr_F B p) ∧ vr_fr noP (fun q g => q = 196 ∧ 19 ≤ g) I L I1 L1 := ⟨_, rfl⟩
  suffices h : jv_Wp 256 0 [(0, .ref 196), (1, .ref 198), (2, .int (vl_I p))] [] (jv_H K I L R) n sl Q by
    rw [hQ] at h
    obtain ⟨X, h, I1, L1, e, h'⟩ := h
    subst e
    exact ⟨I1, L1, h, h'⟩
  refine jv_Wp.lift (fun _ Kz => jv_Ev.steps jv_i256 5 (pc' := 6) (l' := [(0, .ref 196), (1, .ref 198), (2, .int (vl_I p))]) (st' := [.int ((8 : Int32) * (vl_I p)), .ref 198, .ref 196]) rfl Kz) ?_
  refine jv_Wp.lift (fun _ Kz => jv_Ev.m jv_i256 (pc' := 7) (st' := [.int (I 198 (8 * p)), .ref 196]) (G' := (jv_H K I L R)) rfl rfl (jv_m_ialdv (jv_rwK hW 198 102 8192 (by decide)) rfl (by rw [show ((8 : Int32) * (vl_I p)) = vl_I (8 * p) from (vi_mul8 p)]; exact vl_I_ix (by omega) (by decide)) rfl ((congrArg (I 198) (by rw [show ((8 : Int32) * (vl_I p)) = vl_I (8 * p) from (vi_mul8 p)]; exact vl_I_nat (by omega))).trans rfl)) Kz) ?_
  refine jv_Wp.lift (fun _ Kz => jv_Ev.m jv_i256 (pc' := 10) (st' := []) (G' := (jv_H K (jv_u I 196 19 (I 198 (8 * p))) L R)) rfl rfl (jv_m_putI (jv_rwK hW 196 12 24 (by decide)) rfl rfl rfl rfl) Kz) ?_
  refine jv_Wp.lift (fun _ Kz => jv_Ev.steps jv_i256 7 (pc' := 18) (l' := [(0, .ref 196), (1, .ref 198), (2, .int (vl_I p))]) (st' := [.int (((8 : Int32) * (vl_I p)) + (1 : Int32)), .ref 198, .ref 196]) rfl Kz) ?_
  refine jv_Wp.lift (fun _ Kz => jv_Ev.m jv_i256 (pc' := 19) (st' := [.int (I 198 (8 * p + 1)), .ref 196]) (G' := (jv_H K (jv_u I 196 19 (I 198 (8 * p))) L R)) rfl rfl (jv_m_ialdv (jv_rwK hW 198 102 8192 (by decide)) rfl (by rw [show (((8 : Int32) * (vl_I p)) + (1 : Int32)) = vl_I (8 * p + 1) from ((congrArg (fun y => y + (1 : Int32)) (vi_mul8 p)).trans (vl_I_add (8 * p) 1))]; exact vl_I_ix (by omega) (by decide)) rfl ((congrArg ((jv_u I 196 19 (I 198 (8 * p))) 198) (by rw [show (((8 : Int32) * (vl_I p)) + (1 : Int32)) = vl_I (8 * p + 1) from ((congrArg (fun y => y + (1 : Int32)) (vi_mul8 p)).trans (vl_I_add (8 * p) 1))]; exact vl_I_nat (by omega))).trans (jv_u_o _ _ _ _ (by decide)))) Kz) ?_
  refine jv_Wp.lift (fun _ Kz => jv_Ev.steps jv_i256 2 (pc' := 22) (l' := [(0, .ref 196), (1, .ref 198), (2, .int (vl_I p))]) (st' := [.int ((I 198 (8 * p + 1)) &&& (15 : Int32)), .ref 196]) rfl Kz) ?_
  refine jv_Wp.lift (fun _ Kz => jv_Ev.m jv_i256 (pc' := 25) (st' := []) (G' := (jv_H K (jv_u (jv_u I 196 19 (I 198 (8 * p))) 196 20 ((I 198 (8 * p + 1)) &&& (15 : Int32))) L R)) rfl rfl (jv_m_putI (jv_rwK hW 196 12 24 (by decide)) rfl rfl rfl rfl) Kz) ?_
  refine jv_Wp.lift (fun _ Kz => jv_Ev.steps jv_i256 7 (pc' := 33) (l' := [(0, .ref 196), (1, .ref 198), (2, .int (vl_I p))]) (st' := [.int (((8 : Int32) * (vl_I p)) + (1 : Int32)), .ref 198, .ref 196]) rfl Kz) ?_
  refine jv_Wp.lift (fun _ Kz => jv_Ev.m jv_i256 (pc' := 34) (st' := [.int (I 198 (8 * p + 1)), .ref 196]) (G' := (jv_H K (jv_u (jv_u I 196 19 (I 198 (8 * p))) 196 20 ((I 198 (8 * p + 1)) &&& (15 : Int32))) L R)) rfl rfl (jv_m_ialdv (jv_rwK hW 198 102 8192 (by decide)) rfl (by rw [show (((8 : Int32) * (vl_I p)) + (1 : Int32)) = vl_I (8 * p + 1) from ((congrArg (fun y => y + (1 : Int32)) (vi_mul8 p)).trans (vl_I_add (8 * p) 1))]; exact vl_I_ix (by omega) (by decide)) rfl ((congrArg ((jv_u (jv_u I 196 19 (I 198 (8 * p))) 196 20 ((I 198 (8 * p + 1)) &&& (15 : Int32))) 198) (by rw [show (((8 : Int32) * (vl_I p)) + (1 : Int32)) = vl_I (8 * p + 1) from ((congrArg (fun y => y + (1 : Int32)) (vi_mul8 p)).trans (vl_I_add (8 * p) 1))]; exact vl_I_nat (by omega))).trans ((jv_u_o _ _ _ _ (by decide)).trans (jv_u_o _ _ _ _ (by decide))))) Kz) ?_
  refine jv_Wp.lift (fun _ Kz => jv_Ev.steps jv_i256 2 (pc' := 36) (l' := [(0, .ref 196), (1, .ref 198), (2, .int (vl_I p))]) (st' := [.int ((I 198 (8 * p + 1)) >>> ((4 : Int32) &&& 31)), .ref 196]) rfl Kz) ?_
  refine jv_Wp.lift (fun _ Kz => jv_Ev.m jv_i256 (pc' := 39) (st' := []) (G' := (jv_H K (jv_u (jv_u (jv_u I 196 19 (I 198 (8 * p))) 196 20 ((I 198 (8 * p + 1)) &&& (15 : Int32))) 196 21 ((I 198 (8 * p + 1)) >>> ((4 : Int32) &&& 31))) L R)) rfl rfl (jv_m_putI (jv_rwK hW 196 12 24 (by decide)) rfl rfl rfl rfl) Kz) ?_
  refine jv_Wp.lift (fun _ Kz => jv_Ev.steps jv_i256 8 (pc' := 48) (l' := [(0, .ref 196), (1, .ref 198), (2, .int (vl_I p))]) (st' := [.int (2 : Int32), .int (((8 : Int32) * (vl_I p)) + (2 : Int32)), .ref 198, .ref 196]) rfl Kz) ?_
  have H3 := vq_num2_198 (I := (jv_u (jv_u (jv_u I 196 19 (I 198 (8 * p))) 196 20 ((I 198 (8 * p + 1)) &&& (15 : Int32))) 196 21 ((I 198 (8 * p + 1)) >>> ((4 : Int32) &&& 31)))) (L := L) (n := n) (sl := sl) (8 * p + 2) len B hW (vr_tp_u (vr_tp_u (vr_tp_u h (by decide)) (by decide)) (by decide)) hl (by omega)
  rw [← show (((8 : Int32) * (vl_I p)) + (2 : Int32)) = vl_I (8 * p + 2) from ((congrArg (fun y => y + (2 : Int32)) (vi_mul8 p)).trans (vl_I_add (8 * p) 2))] at H3
  refine jv_Wp.lift (fun _ Kz => jv_Ev.c jv_i256 (pc' := 51) (S' := [.int (vl_I (vr_n2 B (8 * p + 2))), .ref 196]) jv_i255 [.ref 198, .int (((8 : Int32) * (vl_I p)) + (2 : Int32)), .int (2 : Int32)] rfl rfl rfl rfl rfl rfl H3 rfl rfl Kz) ?_
  refine jv_Wp.lift (fun _ Kz => jv_Ev.steps jv_i256 1 (pc' := 52) (l' := [(0, .ref 196), (1, .ref 198), (2, .int (vl_I p))]) (st' := [.int (vl_I (vr_n2 B (8 * p + 2))).toInt16.toInt32, .ref 196]) rfl Kz) ?_
  refine jv_Wp.lift (fun _ Kz => jv_Ev.m jv_i256 (pc' := 55) (st' := []) (G' := (jv_H K (jv_u (jv_u (jv_u (jv_u I 196 19 (I 198 (8 * p))) 196 20 ((I 198 (8 * p + 1)) &&& (15 : Int32))) 196 21 ((I 198 (8 * p + 1)) >>> ((4 : Int32) &&& 31))) 196 22 (vl_I (vr_n2 B (8 * p + 2))).toInt16.toInt32) L R)) rfl rfl (jv_m_putI (jv_rwK hW 196 12 24 (by decide)) rfl rfl rfl rfl) Kz) ?_
  refine jv_Wp.lift (fun _ Kz => jv_Ev.steps jv_i256 8 (pc' := 64) (l' := [(0, .ref 196), (1, .ref 198), (2, .int (vl_I p))]) (st' := [.int (4 : Int32), .int (((8 : Int32) * (vl_I p)) + (4 : Int32)), .ref 198, .ref 196]) rfl Kz) ?_
  have H4 := vq_num4_198 (I := (jv_u (jv_u (jv_u (jv_u I 196 19 (I 198 (8 * p))) 196 20 ((I 198 (8 * p + 1)) &&& (15 : Int32))) 196 21 ((I 198 (8 * p + 1)) >>> ((4 : Int32) &&& 31))) 196 22 (vl_I (vr_n2 B (8 * p + 2))).toInt16.toInt32)) (L := L) (n := n) (sl := sl) (8 * p + 4) len B hW (vr_tp_u (vr_tp_u (vr_tp_u (vr_tp_u h (by decide)) (by decide)) (by decide)) (by decide)) hl (by omega)
  rw [← show (((8 : Int32) * (vl_I p)) + (4 : Int32)) = vl_I (8 * p + 4) from ((congrArg (fun y => y + (4 : Int32)) (vi_mul8 p)).trans (vl_I_add (8 * p) 4))] at H4
  refine jv_Wp.lift (fun _ Kz => jv_Ev.c jv_i256 (pc' := 67) (S' := [.int (vl_I (vr_n4 B (8 * p + 4))), .ref 196]) jv_i255 [.ref 198, .int (((8 : Int32) * (vl_I p)) + (4 : Int32)), .int (4 : Int32)] rfl rfl rfl rfl rfl rfl H4 rfl rfl Kz) ?_
  refine jv_Wp.lift (fun _ Kz => jv_Ev.m jv_i256 (pc' := 70) (st' := []) (G' := (jv_H K (jv_u (jv_u (jv_u (jv_u (jv_u I 196 19 (I 198 (8 * p))) 196 20 ((I 198 (8 * p + 1)) &&& (15 : Int32))) 196 21 ((I 198 (8 * p + 1)) >>> ((4 : Int32) &&& 31))) 196 22 (vl_I (vr_n2 B (8 * p + 2))).toInt16.toInt32) 196 23 (vl_I (vr_n4 B (8 * p + 4)))) L R)) rfl rfl (jv_m_putI (jv_rwK hW 196 12 24 (by decide)) rfl rfl rfl rfl) Kz) ?_
  refine jv_Wp.of (jv_Ev.ret jv_i256 rfl rfl) ?_
  rw [hQ]
  obtain ⟨J, hJ⟩ : ∃ J, J = (jv_u (jv_u (jv_u (jv_u (jv_u I 196 19 (I 198 (8 * p))) 196 20 ((I 198 (8 * p + 1)) &&& (15 : Int32))) 196 21 ((I 198 (8 * p + 1)) >>> ((4 : Int32) &&& 31))) 196 22 (vl_I (vr_n2 B (8 * p + 2))).toInt16.toInt32) 196 23 (vl_I (vr_n4 B (8 * p + 4)))) := ⟨_, rfl⟩
  rw [← hJ]
  have c19 : J 196 19 = (I 198 (8 * p)) := by rw [hJ]; exact ((jv_u_j _ _ _ _ (by decide)).trans ((jv_u_j _ _ _ _ (by decide)).trans ((jv_u_j _ _ _ _ (by decide)).trans ((jv_u_j _ _ _ _ (by decide)).trans (jv_u_self _ _ _ _)))))
  have c20 : J 196 20 = ((I 198 (8 * p + 1)) &&& (15 : Int32)) := by rw [hJ]; exact ((jv_u_j _ _ _ _ (by decide)).trans ((jv_u_j _ _ _ _ (by decide)).trans ((jv_u_j _ _ _ _ (by decide)).trans (jv_u_self _ _ _ _))))
  have c21 : J 196 21 = ((I 198 (8 * p + 1)) >>> ((4 : Int32) &&& 31)) := by rw [hJ]; exact ((jv_u_j _ _ _ _ (by decide)).trans ((jv_u_j _ _ _ _ (by decide)).trans (jv_u_self _ _ _ _)))
  have c22 : J 196 22 = (vl_I (vr_n2 B (8 * p + 2))).toInt16.toInt32 := by rw [hJ]; exact ((jv_u_j _ _ _ _ (by decide)).trans (jv_u_self _ _ _ _))
  have c23 : J 196 23 = (vl_I (vr_n4 B (8 * p + 4))) := by rw [hJ]; exact (jv_u_self _ _ _ _)
  have b1 := (h (8 * p + 1) (by omega)).2
  have e1 := (h (8 * p + 1) (by omega)).1
  refine ⟨_, _, rfl, ⟨c19.trans (h (8 * p) (by omega)).1, c20.trans (by rw [e1]; exact vi_and15 ⟨_, b1⟩), c21.trans (by rw [e1]; exact vi_shr4 ⟨_, b1⟩), by rw [c22]; exact vi_short (vr_n2_lt h (by omega)), by rw [c23]; exact vi_long (vr_n4_lt h (by omega)), (h (8 * p) (by omega)).2, Nat.mod_lt _ (by decide), by show B (8 * p + 1) / 16 < 16; omega⟩, ⟨fun q hq => by rw [hJ]; exact (jv_u_o _ _ _ _ (by decide)).trans ((jv_u_o _ _ _ _ (by decide)).trans ((jv_u_o _ _ _ _ (by decide)).trans ((jv_u_o _ _ _ _ (by decide)).trans ((jv_u_o _ _ _ _ (by decide)).trans (hf q hq))))), fun q g a b c => ?_, fun _ _ _ => rfl⟩⟩
  rw [hJ]
  have t : ∀ (J2 : Nat → Nat → Int32) (j : Nat) (v : Int32), 19 ≤ j → jv_u J2 196 j v q g = J2 q g := fun J2 j v hj => by
    by_cases e : q = 196
    · rw [e]; exact jv_u_j _ _ _ _ (fun y => c ⟨by omega, e, by omega⟩)
    · exact jv_u_o _ _ _ _ e
  exact (t _ _ _ (by decide)).trans ((t _ _ _ (by decide)).trans ((t _ _ _ (by decide)).trans ((t _ _ _ (by decide)).trans (t _ _ _ (by decide)))))