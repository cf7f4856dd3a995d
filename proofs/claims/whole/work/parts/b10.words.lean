/-! part b10: words (gen/tb10.py) -/
theorem jv_i80 : jv_I 80 2 (some .int) 0 0 jv_c80 := ⟨rfl, rfl, rfl, rfl, rfl⟩
/-- ProgramBox$Program.code(J)I -/
theorem jv_t80 {G : jv_G} (w : Int64)  {n sl : Nat} : jv_Ms 80 [.long w] G n sl (some (.int (w.toInt32 &&& (255 : Int32))), G, n, sl) := by
  show jv_Ev 80 0 [(0, .long w)] [] G n sl _
  refine jv_Ev.steps jv_i80 4 (pc' := 6) (l' := [(0, .long w)]) (st' := [.int (w.toInt32 &&& (255 : Int32))]) rfl ?_
  exact jv_Ev.ret jv_i80 rfl rfl
def jv_wfcode (w : Int64) : Int32 := (w.toInt32 &&& (255 : Int32))
theorem jv_s80 {G : jv_G} (w : Int64) {n sl : Nat} : jv_Ms 80 [.long w] G n sl (some (.int (jv_wfcode w)), G, n, sl) := jv_t80 w 

theorem jv_i81 : jv_I 81 2 (some .int) 0 0 jv_c81 := ⟨rfl, rfl, rfl, rfl, rfl⟩
/-- ProgramBox$Program.kind(J)I -/
theorem jv_t81 {G : jv_G} (w : Int64)  {n sl : Nat} : jv_Ms 81 [.long w] G n sl (some (.int (w.toInt32 &&& (7 : Int32))), G, n, sl) := by
  show jv_Ev 81 0 [(0, .long w)] [] G n sl _
  refine jv_Ev.steps jv_i81 4 (pc' := 5) (l' := [(0, .long w)]) (st' := [.int (w.toInt32 &&& (7 : Int32))]) rfl ?_
  exact jv_Ev.ret jv_i81 rfl rfl
def jv_wfkind (w : Int64) : Int32 := (w.toInt32 &&& (7 : Int32))
theorem jv_s81 {G : jv_G} (w : Int64) {n sl : Nat} : jv_Ms 81 [.long w] G n sl (some (.int (jv_wfkind w)), G, n, sl) := jv_t81 w 

theorem jv_i82 : jv_I 82 2 (some .int) 0 0 jv_c82 := ⟨rfl, rfl, rfl, rfl, rfl⟩
/-- ProgramBox$Program.which(J)I -/
theorem jv_t82 {G : jv_G} (w : Int64)  {n sl : Nat} : jv_Ms 82 [.long w] G n sl (some (.int ((w.toInt32 >>> ((4 : Int32) &&& 31)) &&& (15 : Int32))), G, n, sl) := by
  show jv_Ev 82 0 [(0, .long w)] [] G n sl _
  refine jv_Ev.steps jv_i82 6 (pc' := 7) (l' := [(0, .long w)]) (st' := [.int ((w.toInt32 >>> ((4 : Int32) &&& 31)) &&& (15 : Int32))]) rfl ?_
  exact jv_Ev.ret jv_i82 rfl rfl
def jv_wfwhich (w : Int64) : Int32 := ((w.toInt32 >>> ((4 : Int32) &&& 31)) &&& (15 : Int32))
theorem jv_s82 {G : jv_G} (w : Int64) {n sl : Nat} : jv_Ms 82 [.long w] G n sl (some (.int (jv_wfwhich w)), G, n, sl) := jv_t82 w 

theorem jv_i83 : jv_I 83 2 (some .boolean) 0 0 jv_c83 := ⟨rfl, rfl, rfl, rfl, rfl⟩
/-- ProgramBox$Program.byRegister(J)Z -/
theorem jv_t83 {G : jv_G} (w : Int64)  {n sl : Nat} : jv_Ms 83 [.long w] G n sl (some (.int (if ((w &&& (8 : Int64)) = (0 : Int64)) then (0 : Int32) else (1 : Int32))), G, n, sl) := by
  show jv_Ev 83 0 [(0, .long w)] [] G n sl _
  refine jv_Ev.steps jv_i83 5 (pc' := 7) (l' := [(0, .long w)]) (st' := [.int (lg_cmp (w &&& (8 : Int64)) (0 : Int64))]) rfl ?_
  refine jv_Ev.dia 15 [(0, .long w)] [.int (if ((w &&& (8 : Int64)) = (0 : Int64)) then (0 : Int32) else (1 : Int32))] G (fun Kh1 => ?_) ?_
  · refine jv_Ev.cnd jv_i83 (pt := 14) (pe := 10) (p := ((lg_cmp (w &&& (8 : Int64)) (0 : Int64)) = 0)) (q := ((w &&& (8 : Int64)) = (0 : Int64))) rfl jv_bi_eq rfl rfl (lg_cmp_eq (w &&& (8 : Int64)) (0 : Int64)) (fun h1 => ?_) (fun h1 => ?_)
    · refine jv_Ev.steps jv_i83 1 (pc' := 15) (l' := [(0, .long w)]) (st' := [.int (0 : Int32)]) rfl ?_
      exact jv_Ev.conv rfl (by simp only [if_pos h1]) rfl Kh1
    · refine jv_Ev.steps jv_i83 2 (pc' := 15) (l' := [(0, .long w)]) (st' := [.int (1 : Int32)]) rfl ?_
      exact jv_Ev.conv rfl (by simp only [if_neg h1]) rfl Kh1
  exact jv_Ev.ret jv_i83 rfl (jv_ret_b (jv_bo_ite (Or.inl rfl) (Or.inr rfl)))
def jv_wfbyRegister (w : Int64) : Int32 := (if ((w &&& (8 : Int64)) = (0 : Int64)) then (0 : Int32) else (1 : Int32))
theorem jv_wfbyRegister_b (w : Int64) : jv_wfbyRegister w = 0 ∨ jv_wfbyRegister w = 1 := (jv_bo_ite (Or.inl rfl) (Or.inr rfl))
theorem jv_s83 {G : jv_G} (w : Int64) {n sl : Nat} : jv_Ms 83 [.long w] G n sl (some (.int (jv_wfbyRegister w)), G, n, sl) := jv_t83 w 

theorem jv_i84 : jv_I 84 2 (some .int) 0 0 jv_c84 := ⟨rfl, rfl, rfl, rfl, rfl⟩
/-- ProgramBox$Program.mode(J)I -/
theorem jv_t84 {G : jv_G} (w : Int64)  {n sl : Nat} : jv_Ms 84 [.long w] G n sl (some (.int ((w.toInt32 >>> ((5 : Int32) &&& 31)) &&& (7 : Int32))), G, n, sl) := by
  show jv_Ev 84 0 [(0, .long w)] [] G n sl _
  refine jv_Ev.steps jv_i84 6 (pc' := 7) (l' := [(0, .long w)]) (st' := [.int ((w.toInt32 >>> ((5 : Int32) &&& 31)) &&& (7 : Int32))]) rfl ?_
  exact jv_Ev.ret jv_i84 rfl rfl
def jv_wfmode (w : Int64) : Int32 := ((w.toInt32 >>> ((5 : Int32) &&& 31)) &&& (7 : Int32))
theorem jv_s84 {G : jv_G} (w : Int64) {n sl : Nat} : jv_Ms 84 [.long w] G n sl (some (.int (jv_wfmode w)), G, n, sl) := jv_t84 w 

theorem jv_i85 : jv_I 85 3 (some .int) 0 0 jv_c85 := ⟨rfl, rfl, rfl, rfl, rfl⟩
/-- ProgramBox$Program.bytes(J)I -/
theorem jv_t85 {G : jv_G} (w : Int64)  {n sl : Nat} : jv_Ms 85 [.long w] G n sl (some (.int (if (¬ ((w.toInt32 >>> ((3 : Int32) &&& 31)) &&& (3 : Int32)) = (3 : Int32)) then ((4 : Int32) >>> (((w.toInt32 >>> ((3 : Int32) &&& 31)) &&& (3 : Int32)) &&& 31)) else (8 : Int32))), G, n, sl) := by
  show jv_Ev 85 0 [(0, .long w)] [] G n sl _
  refine jv_Ev.steps jv_i85 9 (pc' := 9) (l' := [(2, .int ((w.toInt32 >>> ((3 : Int32) &&& 31)) &&& (3 : Int32))), (0, .long w)]) (st' := [.int (3 : Int32), .int ((w.toInt32 >>> ((3 : Int32) &&& 31)) &&& (3 : Int32))]) rfl ?_
  refine jv_Ev.dia 20 [(0, .long w), (2, .int ((w.toInt32 >>> ((3 : Int32) &&& 31)) &&& (3 : Int32)))] [.int (if (¬ ((w.toInt32 >>> ((3 : Int32) &&& 31)) &&& (3 : Int32)) = (3 : Int32)) then ((4 : Int32) >>> (((w.toInt32 >>> ((3 : Int32) &&& 31)) &&& (3 : Int32)) &&& 31)) else (8 : Int32))] G (fun Kh1 => ?_) ?_
  · refine jv_Ev.cnd jv_i85 (pt := 17) (pe := 12) (p := (¬ ((w.toInt32 >>> ((3 : Int32) &&& 31)) &&& (3 : Int32)) = (3 : Int32))) (q := (¬ ((w.toInt32 >>> ((3 : Int32) &&& 31)) &&& (3 : Int32)) = (3 : Int32))) rfl jv_bc_ne rfl rfl Iff.rfl (fun h1 => ?_) (fun h1 => ?_)
    · refine jv_Ev.steps jv_i85 3 (pc' := 20) (l' := [(2, .int ((w.toInt32 >>> ((3 : Int32) &&& 31)) &&& (3 : Int32))), (0, .long w)]) (st' := [.int ((4 : Int32) >>> (((w.toInt32 >>> ((3 : Int32) &&& 31)) &&& (3 : Int32)) &&& 31))]) rfl ?_
      refine jv_Ev.loc (l := [(0, .long w), (2, .int ((w.toInt32 >>> ((3 : Int32) &&& 31)) &&& (3 : Int32)))]) ⟨List.forall_mem_cons.mpr ⟨.tail _ (.head _), List.forall_mem_cons.mpr ⟨.head _, fun _ h => absurd h List.not_mem_nil⟩⟩, by show List.Nodup [2, 0]; decide⟩ ?_
      exact jv_Ev.conv rfl (by simp only [if_pos h1]) rfl Kh1
    · refine jv_Ev.steps jv_i85 2 (pc' := 20) (l' := [(2, .int ((w.toInt32 >>> ((3 : Int32) &&& 31)) &&& (3 : Int32))), (0, .long w)]) (st' := [.int (8 : Int32)]) rfl ?_
      refine jv_Ev.loc (l := [(0, .long w), (2, .int ((w.toInt32 >>> ((3 : Int32) &&& 31)) &&& (3 : Int32)))]) ⟨List.forall_mem_cons.mpr ⟨.tail _ (.head _), List.forall_mem_cons.mpr ⟨.head _, fun _ h => absurd h List.not_mem_nil⟩⟩, by show List.Nodup [2, 0]; decide⟩ ?_
      exact jv_Ev.conv rfl (by simp only [if_neg h1]) rfl Kh1
  exact jv_Ev.ret jv_i85 rfl rfl
def jv_wfbytes (w : Int64) : Int32 := (if (¬ ((w.toInt32 >>> ((3 : Int32) &&& 31)) &&& (3 : Int32)) = (3 : Int32)) then ((4 : Int32) >>> (((w.toInt32 >>> ((3 : Int32) &&& 31)) &&& (3 : Int32)) &&& 31)) else (8 : Int32))
theorem jv_s85 {G : jv_G} (w : Int64) {n sl : Nat} : jv_Ms 85 [.long w] G n sl (some (.int (jv_wfbytes w)), G, n, sl) := jv_t85 w 

theorem jv_i86 : jv_I 86 2 (some .int) 0 0 jv_c86 := ⟨rfl, rfl, rfl, rfl, rfl⟩
/-- ProgramBox$Program.d(J)I -/
theorem jv_t86 {G : jv_G} (w : Int64)  {n sl : Nat} : jv_Ms 86 [.long w] G n sl (some (.int ((w.toInt32 >>> ((8 : Int32) &&& 31)) &&& (15 : Int32))), G, n, sl) := by
  show jv_Ev 86 0 [(0, .long w)] [] G n sl _
  refine jv_Ev.steps jv_i86 6 (pc' := 8) (l' := [(0, .long w)]) (st' := [.int ((w.toInt32 >>> ((8 : Int32) &&& 31)) &&& (15 : Int32))]) rfl ?_
  exact jv_Ev.ret jv_i86 rfl rfl
def jv_wfd (w : Int64) : Int32 := ((w.toInt32 >>> ((8 : Int32) &&& 31)) &&& (15 : Int32))
theorem jv_s86 {G : jv_G} (w : Int64) {n sl : Nat} : jv_Ms 86 [.long w] G n sl (some (.int (jv_wfd w)), G, n, sl) := jv_t86 w 

theorem jv_i87 : jv_I 87 2 (some .int) 0 0 jv_c87 := ⟨rfl, rfl, rfl, rfl, rfl⟩
/-- ProgramBox$Program.s(J)I -/
theorem jv_t87 {G : jv_G} (w : Int64)  {n sl : Nat} : jv_Ms 87 [.long w] G n sl (some (.int ((w.toInt32 >>> ((12 : Int32) &&& 31)) &&& (15 : Int32))), G, n, sl) := by
  show jv_Ev 87 0 [(0, .long w)] [] G n sl _
  refine jv_Ev.steps jv_i87 6 (pc' := 8) (l' := [(0, .long w)]) (st' := [.int ((w.toInt32 >>> ((12 : Int32) &&& 31)) &&& (15 : Int32))]) rfl ?_
  exact jv_Ev.ret jv_i87 rfl rfl
def jv_wfs (w : Int64) : Int32 := ((w.toInt32 >>> ((12 : Int32) &&& 31)) &&& (15 : Int32))
theorem jv_s87 {G : jv_G} (w : Int64) {n sl : Nat} : jv_Ms 87 [.long w] G n sl (some (.int (jv_wfs w)), G, n, sl) := jv_t87 w 

theorem jv_i88 : jv_I 88 2 (some .int) 0 0 jv_c88 := ⟨rfl, rfl, rfl, rfl, rfl⟩
/-- ProgramBox$Program.offset(J)I -/
theorem jv_t88 {G : jv_G} (w : Int64)  {n sl : Nat} : jv_Ms 88 [.long w] G n sl (some (.int (w >>> ((16 : Int32).toInt64 &&& 63)).toInt32.toInt16.toInt32), G, n, sl) := by
  show jv_Ev 88 0 [(0, .long w)] [] G n sl _
  refine jv_Ev.steps jv_i88 5 (pc' := 6) (l' := [(0, .long w)]) (st' := [.int (w >>> ((16 : Int32).toInt64 &&& 63)).toInt32.toInt16.toInt32]) rfl ?_
  exact jv_Ev.ret jv_i88 rfl rfl
def jv_wfoffset (w : Int64) : Int32 := (w >>> ((16 : Int32).toInt64 &&& 63)).toInt32.toInt16.toInt32
theorem jv_s88 {G : jv_G} (w : Int64) {n sl : Nat} : jv_Ms 88 [.long w] G n sl (some (.int (jv_wfoffset w)), G, n, sl) := jv_t88 w 

theorem jv_i89 : jv_I 89 2 (some .int) 0 0 jv_c89 := ⟨rfl, rfl, rfl, rfl, rfl⟩
/-- ProgramBox$Program.immediate(J)I -/
theorem jv_t89 {G : jv_G} (w : Int64)  {n sl : Nat} : jv_Ms 89 [.long w] G n sl (some (.int (w >>> ((32 : Int32).toInt64 &&& 63)).toInt32), G, n, sl) := by
  show jv_Ev 89 0 [(0, .long w)] [] G n sl _
  refine jv_Ev.steps jv_i89 4 (pc' := 5) (l' := [(0, .long w)]) (st' := [.int (w >>> ((32 : Int32).toInt64 &&& 63)).toInt32]) rfl ?_
  exact jv_Ev.ret jv_i89 rfl rfl
def jv_wfimmediate (w : Int64) : Int32 := (w >>> ((32 : Int32).toInt64 &&& 63)).toInt32
theorem jv_s89 {G : jv_G} (w : Int64) {n sl : Nat} : jv_Ms 89 [.long w] G n sl (some (.int (jv_wfimmediate w)), G, n, sl) := jv_t89 w 

/-- a word of the class -/
def vc_N (w : Int64) : Nat := w.toBitVec.toNat
def vc_F (w : Int64) : vf_F := (vc_N w % 256, vc_N w / 256 % 16, vc_N w / 4096 % 16, (jv_wfoffset w).toInt, (jv_wfimmediate w).toInt)
theorem vw_sh (x m : BitVec 32) (k : Nat) (hk : k + 8 ≤ 32) (hm : m.toNat < 256) : x.sshiftRight k &&& m = (x >>> k) &&& m := by
  refine BitVec.eq_of_getLsbD_eq (fun i hi => ?_)
  rw [BitVec.getLsbD_and, BitVec.getLsbD_and]
  by_cases h : i < 8
  · rw [BitVec.getLsbD_sshiftRight, BitVec.getLsbD_ushiftRight]
    have e : (decide (32 ≤ i)) = false := decide_eq_false (by omega)
    rw [e, Bool.not_false, Bool.true_and, if_pos (show k + i < 32 by omega)]
  · have e : m.getLsbD i = false := by
      show m.toNat.testBit i = false
      exact Nat.testBit_lt_two_pow (Nat.lt_of_lt_of_le hm (show 2 ^ 8 ≤ 2 ^ i from Nat.pow_le_pow_right (by decide) (by omega)))
    rw [e, Bool.and_false, Bool.and_false]
theorem vw_low (w : Int64) : w.toInt32.toBitVec = w.toBitVec.setWidth 32 := by
  rw [Int64.toBitVec_toInt32, BitVec.signExtend_eq_setWidth_of_le _ (by decide)]
theorem vw_and (w : Int64) (m : Int32) (j : Nat) (hm : m.toBitVec.toNat = 2 ^ j - 1) (hj : j ≤ 8) : (w.toInt32 &&& m).toBitVec.toNat = vc_N w % 2 ^ j := by
  rw [Int32.toBitVec_and, vw_low, BitVec.toNat_and, hm, BitVec.toNat_setWidth, Nat.and_two_pow_sub_one_eq_mod]
  exact Nat.mod_mod_of_dvd _ (Nat.pow_dvd_pow 2 (by omega))
theorem vw_shand (w : Int64) (q m : Int32) (k j : Nat) (hq : q.toBitVec.smod 32 = BitVec.ofNat 32 k) (hm : m.toBitVec.toNat = 2 ^ j - 1) (hj : j ≤ 8) (hk : k + 8 ≤ 32) : ((w.toInt32 >>> q) &&& m).toBitVec.toNat = vc_N w / 2 ^ k % 2 ^ j := by
  have h8 : 2 ^ j ≤ 2 ^ 8 := Nat.pow_le_pow_right (by decide) hj
  have h0 : 0 < 2 ^ j := Nat.two_pow_pos j
  rw [Int32.toBitVec_and, Int32.toBitVec_shiftRight, hq, vw_low]
  show ((w.toBitVec.setWidth 32).sshiftRight (BitVec.ofNat 32 k).toNat &&& m.toBitVec).toNat = _
  rw [BitVec.toNat_ofNat, Nat.mod_eq_of_lt (by omega), vw_sh _ _ _ hk (by rw [hm]; omega), BitVec.toNat_and, hm, BitVec.toNat_ushiftRight, BitVec.toNat_setWidth, Nat.and_two_pow_sub_one_eq_mod, Nat.shiftRight_eq_div_pow]
  show vc_N w % 2 ^ 32 / 2 ^ k % 2 ^ j = _
  have e : (2 : Nat) ^ 32 = 2 ^ k * 2 ^ (32 - k) := by rw [← Nat.pow_add]; congr 1; omega
  rw [e, Nat.mod_mul_right_div_self]
  exact Nat.mod_mod_of_dvd _ (Nat.pow_dvd_pow 2 (by omega))
theorem vw_code (w : Int64) : jv_wfcode w = vl_I (vc_F w).code := vl_I_of (vw_and w 255 8 rfl (by decide))
theorem vw_div (n k j i : Nat) : n % 2 ^ (k + j + i) / 2 ^ k % 2 ^ j = n / 2 ^ k % 2 ^ j := by
  rw [Nat.add_assoc, Nat.pow_add, Nat.mod_mul_right_div_self]
  exact Nat.mod_mod_of_dvd _ (Nat.pow_dvd_pow 2 (by omega))
theorem vw_kind (w : Int64) : jv_wfkind w = vl_I (vc_F w).kind := vl_I_of ((vw_and w 7 3 rfl (by decide)).trans (by
  show vc_N w % 2 ^ 3 = vc_N w % 256 % 8
  omega))
theorem vw_which (w : Int64) : jv_wfwhich w = vl_I (vc_F w).n := vl_I_of ((vw_shand w _ 15 4 4 rfl rfl (by decide) (by decide)).trans (by
  show vc_N w / 2 ^ 4 % 2 ^ 4 = vc_N w % 256 / 16
  omega))
theorem vw_mode (w : Int64) : jv_wfmode w = vl_I (vc_F w).mode := vl_I_of ((vw_shand w _ 7 5 3 rfl rfl (by decide) (by decide)).trans (by
  show vc_N w / 2 ^ 5 % 2 ^ 3 = vc_N w % 256 / 32
  omega))
theorem vw_d (w : Int64) : jv_wfd w = vl_I (vc_F w).d := vl_I_of (vw_shand w _ 15 8 4 rfl rfl (by decide) (by decide))
theorem vw_s (w : Int64) : jv_wfs w = vl_I (vc_F w).s := vl_I_of (vw_shand w _ 15 12 4 rfl rfl (by decide) (by decide))
theorem vw_bytes (w : Int64) : jv_wfbytes w = vl_I (vc_F w).z := by
  have e : ((w.toInt32 >>> ((3 : Int32) &&& 31)) &&& (3 : Int32)) = vl_I (vc_N w / 8 % 4) := vl_I_of (vw_shand w _ 3 3 2 rfl rfl (by decide) (by decide))
  unfold jv_wfbytes
  rw [e]
  have f : (vc_F w).z = if vc_N w / 8 % 4 = 0 then 4 else if vc_N w / 8 % 4 = 1 then 2 else if vc_N w / 8 % 4 = 2 then 1 else 8 := by
    unfold vf_F.z
    have g : (vc_F w).code / 8 % 4 = vc_N w / 8 % 4 := by show vc_N w % 256 / 8 % 4 = _; omega
    rw [g]
  rw [f]
  have h : vc_N w / 8 % 4 < 4 := Nat.mod_lt _ (by decide)
  generalize vc_N w / 8 % 4 = k at h
  match k, h with
  | 0, _ => rfl
  | 1, _ => rfl
  | 2, _ => rfl
  | 3, _ => rfl
theorem vw_byRegister (w : Int64) : jv_wfbyRegister w = vr_b (vc_F w).bit3 := by
  unfold jv_wfbyRegister
  have e : ((w &&& (8 : Int64)) = (0 : Int64)) ↔ vc_N w / 8 % 2 = 0 := by
    rw [← Int64.toBitVec_inj, Int64.toBitVec_and]
    show (w.toBitVec &&& 8#64 = 0#64) ↔ _
    have t : vc_N w / 8 % 2 = (w.toBitVec.getLsbD 3).toNat := by
      show _ = (w.toBitVec.toNat.testBit 3).toNat
      rw [Nat.testBit_eq_decide_div_mod_eq]
      show w.toBitVec.toNat / 8 % 2 = (decide (w.toBitVec.toNat / 8 % 2 = 1)).toNat
      by_cases z : w.toBitVec.toNat / 8 % 2 = 1
      · rw [decide_eq_true z]; exact z
      · rw [decide_eq_false z]; show _ = 0; omega
    rw [t]
    constructor
    · intro z
      have z3 := congrArg (fun b => BitVec.getLsbD b 3) z
      rw [BitVec.getLsbD_and] at z3
      have z4 : (w.toBitVec.getLsbD 3 && true) = false := z3
      rw [Bool.and_true] at z4; rw [z4]; rfl
    · intro z
      refine BitVec.eq_of_getLsbD_eq (fun i hi => ?_)
      rw [BitVec.getLsbD_and]
      by_cases h : i = 3
      · rw [h]
        cases q : w.toBitVec.getLsbD 3
        · rfl
        · rw [q] at z; exact absurd z (by decide)
      · have e8 : (8#64).getLsbD i = false := by
          show (8 : Nat).testBit i = false
          rw [show (8 : Nat) = 2 ^ 3 from rfl, Nat.testBit_two_pow]
          exact decide_eq_false (fun z => h z.symm)
        rw [e8, Bool.and_false]
        show false = (0 : Nat).testBit i
        rw [Nat.zero_testBit]
  have g : (vc_F w).bit3 = decide (vc_N w / 8 % 2 = 1) := by
    unfold vf_F.bit3
    have g : (vc_F w).code / 8 % 2 = vc_N w / 8 % 2 := by show vc_N w % 256 / 8 % 2 = _; omega
    rw [g]
  rw [g]
  by_cases z : vc_N w / 8 % 2 = 0
  · rw [if_pos (e.mpr z), decide_eq_false (by omega)]; rfl
  · rw [if_neg (fun q => z (e.mp q)), decide_eq_true (by omega)]; rfl

theorem vw_m80 {G : jv_G} (w : Int64) {n sl : Nat} : jv_Ms 80 [.long w] G n sl (some (.int (vl_I (vc_F w).code)), G, n, sl) := (vw_code w) ▸ jv_s80 w
theorem vw_m81 {G : jv_G} (w : Int64) {n sl : Nat} : jv_Ms 81 [.long w] G n sl (some (.int (vl_I (vc_F w).kind)), G, n, sl) := (vw_kind w) ▸ jv_s81 w
theorem vw_m82 {G : jv_G} (w : Int64) {n sl : Nat} : jv_Ms 82 [.long w] G n sl (some (.int (vl_I (vc_F w).n)), G, n, sl) := (vw_which w) ▸ jv_s82 w
theorem vw_m84 {G : jv_G} (w : Int64) {n sl : Nat} : jv_Ms 84 [.long w] G n sl (some (.int (vl_I (vc_F w).mode)), G, n, sl) := (vw_mode w) ▸ jv_s84 w
theorem vw_m86 {G : jv_G} (w : Int64) {n sl : Nat} : jv_Ms 86 [.long w] G n sl (some (.int (vl_I (vc_F w).d)), G, n, sl) := (vw_d w) ▸ jv_s86 w
theorem vw_m87 {G : jv_G} (w : Int64) {n sl : Nat} : jv_Ms 87 [.long w] G n sl (some (.int (vl_I (vc_F w).s)), G, n, sl) := (vw_s w) ▸ jv_s87 w
theorem vw_m85 {G : jv_G} (w : Int64) {n sl : Nat} : jv_Ms 85 [.long w] G n sl (some (.int (vl_I (vc_F w).z)), G, n, sl) := (vw_bytes w) ▸ jv_s85 w
theorem vw_m83 {G : jv_G} (w : Int64) {n sl : Nat} : jv_Ms 83 [.long w] G n sl (some (.int (vr_b (vc_F w).bit3)), G, n, sl) := (vw_byRegister w) ▸ jv_s83 w