/-! part f08: reckoning of the class (gen/tf08.py) -/
/-- what operation n makes of two longs -/
def vm_ck (n : Nat) (x y : BitVec 64) (sg : Bool) : BitVec 64 := match n with
  | 0 => x + y
  | 1 => x - y
  | 2 => x * y
  | 3 => if sg = true then x.sdiv y else x / y
  | 4 => x ||| y
  | 5 => x &&& y
  | 6 => x <<< (y.toNat % 64)
  | 7 => x >>> (y.toNat % 64)
  | 8 => -x
  | 9 => if sg = true then x - x.sdiv y * y else (if y = 0 then x else x % y)
  | 10 => x ^^^ y
  | 12 => x.sshiftRight (y.toNat % 64)
  | _ => y
theorem vb_sdiv_m1 (x : BitVec 64) : x.sdiv (-1 : Int64).toBitVec = -x := by
  refine BitVec.eq_of_toInt_eq ?_
  rw [BitVec.toInt_sdiv, BitVec.toInt_neg, show ((-1 : Int64).toBitVec).toInt = -1 from by decide]
  congr 1
  rw [Int.tdiv_neg, Int.tdiv_one]
theorem vi_63 (s : BitVec 32) : (s.signExtend 64) &&& 63#64 = BitVec.ofNat 64 (s.toNat % 64) := by
  have e63 : (63#64 : BitVec 64) = vb_lowest 6 := by decide
  refine BitVec.eq_of_getLsbD_eq (fun i hi => ?_)
  rw [BitVec.getLsbD_and, e63, vb_lowest_bit 6 hi, BitVec.getLsbD_ofNat, decide_eq_true hi, Bool.true_and, show 64 = 2 ^ 6 from rfl, Nat.testBit_mod_two_pow, BitVec.getLsbD_signExtend]
  by_cases c : i < 6
  · rw [decide_eq_true c, if_pos (by omega), Bool.and_true, Bool.true_and, BitVec.testBit_toNat]
    simp; omega
  · rw [decide_eq_false c, Bool.and_false, Bool.false_and]
theorem vi_s63 (s : Int32) : ((s.toInt64 &&& 63).toBitVec.smod 64).toNat = s.toBitVec.toNat % 64 := by
  have e : (s.toInt64 &&& 63).toBitVec = BitVec.ofNat 64 (s.toBitVec.toNat % 64) := by rw [Int64.toBitVec_and, Int32.toBitVec_toInt64]; exact vi_63 _
  rw [e]
  have key : ∀ c : Fin 64, ((BitVec.ofNat 64 c.val).smod 64).toNat = c.val := by decide +kernel
  exact key ⟨_, Nat.mod_lt _ (by decide)⟩
theorem vi_u63 (s : Int32) : (s.toInt64.toUInt64 &&& Int64.toUInt64 63).toBitVec.toNat % 64 = s.toBitVec.toNat % 64 := by
  have e : (s.toInt64.toUInt64 &&& Int64.toUInt64 63).toBitVec = BitVec.ofNat 64 (s.toBitVec.toNat % 64) := by
    rw [UInt64.toBitVec_and]
    show s.toInt64.toBitVec &&& 63#64 = _
    rw [Int32.toBitVec_toInt64]; exact vi_63 _
  rw [e, BitVec.toNat_ofNat]; omega
theorem vm_l32n (y : Int64) : y.toInt32.toBitVec.toNat % 64 = y.toBitVec.toNat % 64 := by rw [vl_i32, BitVec.toNat_setWidth]; omega
theorem vm_shl (x y : Int64) : (x <<< (y.toInt32.toInt64 &&& 63)) = Int64.ofBitVec (x.toBitVec <<< (y.toBitVec.toNat % 64)) := Int64.toBitVec_inj.mp (vl_shl x ((vi_s63 _).trans (vm_l32n y)))
theorem vm_sshr (x y : Int64) : (x >>> (y.toInt32.toInt64 &&& 63)) = Int64.ofBitVec (x.toBitVec.sshiftRight (y.toBitVec.toNat % 64)) := Int64.toBitVec_inj.mp (vl_sshr x ((vi_s63 _).trans (vm_l32n y)))
theorem vm_ushr (x y : Int64) : ((x.toUInt64 >>> (y.toInt32.toInt64.toUInt64 &&& Int64.toUInt64 63)).toInt64) = Int64.ofBitVec (x.toBitVec >>> (y.toBitVec.toNat % 64)) := Int64.toBitVec_inj.mp (vl_ushr x ((vi_u63 _).trans (vm_l32n y)))
theorem vm_rest (x y : Int64) : jv_crest x y = Int64.ofBitVec (if y.toBitVec = 0 then x.toBitVec else x.toBitVec % y.toBitVec) := by
  refine Int64.toBitVec_inj.mp ?_
  unfold jv_crest
  by_cases c : y = (0 : Int64)
  · have e : y.toBitVec = 0 := by rw [c]; rfl
    rw [if_pos e]; simp only [c, not_true_eq_false, if_false]
    rfl
  · have e : ¬ y.toBitVec = 0 := fun z => c (Int64.toBitVec_inj.mp z)
    rw [if_neg e]; simp only [c, not_false_eq_true, if_true]
    rw [Int64.toBitVec_sub, Int64.toBitVec_mul, vl_quotient]
    show x.toBitVec - x.toBitVec / y.toBitVec * y.toBitVec = x.toBitVec % y.toBitVec
    refine BitVec.eq_of_toNat_eq ?_
    have hx := x.toBitVec.isLt; have hy := y.toBitVec.isLt
    have hm : x.toBitVec.toNat / y.toBitVec.toNat * y.toBitVec.toNat ≤ x.toBitVec.toNat := Nat.div_mul_le_self _ _
    have hd := Nat.div_add_mod x.toBitVec.toNat y.toBitVec.toNat
    rw [Nat.mul_comm] at hd
    rw [BitVec.toNat_sub, BitVec.toNat_mul, BitVec.toNat_udiv, BitVec.toNat_umod, Nat.mod_eq_of_lt (show x.toBitVec.toNat / y.toBitVec.toNat * y.toBitVec.toNat < 2 ^ 64 by omega)]
    have hl : x.toBitVec.toNat % y.toBitVec.toNat < 2 ^ 64 := Nat.lt_of_le_of_lt (Nat.mod_le _ _) hx
    omega
theorem jv_i65 : jv_I 65 4 (some .long) 0 0 jv_c65 := ⟨rfl, rfl, rfl, rfl, rfl⟩
theorem vc_sq_0 {G : jv_G} {x y : Int64} {m sl : Nat} {Q : jv_R → Prop} (hQ : Q (some (.long (Int64.ofBitVec (x.toBitVec.sdiv y.toBitVec))), G, m, sl)) : jv_Wp 65 0 [(0, .long x), (2, .long y)] [] G m sl Q := by
  refine jv_Wp.lift (fun _ Kz => jv_Ev.steps jv_i65 3 (pc' := 3) (l' := [(0, .long x), (2, .long y)]) (st' := [.int (lg_cmp y (0 : Int64))]) rfl Kz) ?_
  refine jv_Wp.cnd jv_i65 (pt := 10) (pe := 6) (p := (¬ (lg_cmp y (0 : Int64)) = 0)) (q := (¬ y = (0 : Int64))) rfl jv_bi_ne rfl rfl (not_congr (lg_cmp_eq y (0 : Int64))) (fun h1 => ?_) (fun h1 => ?_)
  · refine jv_Wp.lift (fun _ Kz => jv_Ev.steps jv_i65 3 (pc' := 15) (l' := [(0, .long x), (2, .long y)]) (st' := [.int (lg_cmp y (-1 : Int64))]) rfl Kz) ?_
    refine jv_Wp.cnd jv_i65 (pt := 23) (pe := 18) (p := (¬ (lg_cmp y (-1 : Int64)) = 0)) (q := (¬ y = (-1 : Int64))) rfl jv_bi_ne rfl rfl (not_congr (lg_cmp_eq y (-1 : Int64))) (fun h2 => ?_) (fun h2 => ?_)
    · refine jv_Wp.lift (fun _ Kz => jv_Ev.steps jv_i65 2 (pc' := 25) (l' := [(0, .long x), (2, .long y)]) (st' := [.long y, .long x]) rfl Kz) ?_
      refine jv_Wp.lift (fun _ Kz => jv_Ev.op jv_i65 (pc' := 26) (l' := [(0, .long x), (2, .long y)]) (st' := [.long (x / y)]) rfl (jv_op_ldiv h1) Kz) ?_
      refine jv_Wp.of (jv_Ev.ret jv_i65 rfl rfl) ?_
      rw [show Int64.ofBitVec (x.toBitVec.sdiv y.toBitVec) = x / y from Int64.toBitVec_inj.mp Int64.toBitVec_div.symm] at hQ
      exact hQ
    · refine jv_Wp.lift (fun _ Kz => jv_Ev.steps jv_i65 3 (pc' := 26) (l' := [(0, .long x), (2, .long y)]) (st' := [.long (-x)]) rfl Kz) ?_
      refine jv_Wp.of (jv_Ev.ret jv_i65 rfl rfl) ?_
      rw [show Int64.ofBitVec (x.toBitVec.sdiv y.toBitVec) = -x from by rw [(Classical.not_not.mp h2)]; exact Int64.toBitVec_inj.mp ((vb_sdiv_m1 x.toBitVec).trans (Int64.toBitVec_neg x).symm)] at hQ
      exact hQ
  · refine jv_Wp.lift (fun _ Kz => jv_Ev.steps jv_i65 2 (pc' := 26) (l' := [(0, .long x), (2, .long y)]) (st' := [.long (0 : Int64)]) rfl Kz) ?_
    refine jv_Wp.of (jv_Ev.ret jv_i65 rfl rfl) ?_
    rw [show Int64.ofBitVec (x.toBitVec.sdiv y.toBitVec) = (0 : Int64) from by rw [(Classical.not_not.mp h1)]; exact Int64.toBitVec_inj.mp (BitVec.sdiv_zero)] at hQ
    exact hQ
theorem vc_sq {G : jv_G} {x y : Int64} {m sl : Nat} : jv_Ms 65 [.long x, .long y] G m sl (some (.long (Int64.ofBitVec (x.toBitVec.sdiv y.toBitVec))), G, m, sl) := by
  obtain ⟨X, k, e⟩ := vc_sq_0 (G := G) (m := m) (sl := sl) (Q := fun X => X = (some (.long (Int64.ofBitVec (x.toBitVec.sdiv y.toBitVec))), G, m, sl))  rfl
  subst e
  exact k
theorem jv_i64 : jv_I 64 6 (some .long) 2 48 jv_c64 := ⟨rfl, rfl, rfl, rfl, rfl⟩
theorem vc_reckoned_0 {G : jv_G} {n : Nat} (hn : n ≤ 12) {x y : Int64} {sg : Bool} {m sl : Nat} {Q : jv_R → Prop} (hQ : Q (some (.long (Int64.ofBitVec (vm_ck n x.toBitVec y.toBitVec sg))), G, m, sl)) : jv_Wp 64 0 [(0, .int (vl_I n)), (1, .long x), (3, .long y), (5, .int (vr_b sg))] [] G m sl Q := by
  refine jv_Wp.lift (fun _ Kz => jv_Ev.steps jv_i64 1 (pc' := 1) (l' := [(0, .int (vl_I n)), (1, .long x), (3, .long y), (5, .int (vr_b sg))]) (st' := [.int (vl_I n)]) rfl Kz) ?_
  refine jv_Wp.bys (q := ((vl_I n) = Int32.ofInt 0)) (fun h1 => ?_) (fun h1 => ?_)
  · refine jv_Wp.lift (fun _ Kz => jv_Ev.br jv_i64 (pc' := 68) (st' := []) rfl (by rw [h1]; rfl) Kz) ?_
    refine jv_Wp.lift (fun _ Kz => jv_Ev.steps jv_i64 3 (pc' := 71) (l' := [(0, .int (vl_I n)), (1, .long x), (3, .long y), (5, .int (vr_b sg))]) (st' := [.long (x + y)]) rfl Kz) ?_
    refine jv_Wp.of (jv_Ev.ret jv_i64 rfl rfl) ?_
    have hnk : n = 0 := (vl_I_inj (a := n) (b := 0) (by omega) (by decide)).mp h1
    subst hnk
    rw [show Int64.ofBitVec (vm_ck 0 x.toBitVec y.toBitVec sg) = (x + y) from Int64.toBitVec_inj.mp Int64.toBitVec_add.symm] at hQ
    exact hQ
  · refine jv_Wp.bys (q := ((vl_I n) = Int32.ofInt 1)) (fun h2 => ?_) (fun h2 => ?_)
    · refine jv_Wp.lift (fun _ Kz => jv_Ev.br jv_i64 (pc' := 72) (st' := []) rfl (by rw [h2]; rfl) Kz) ?_
      refine jv_Wp.lift (fun _ Kz => jv_Ev.steps jv_i64 3 (pc' := 75) (l' := [(0, .int (vl_I n)), (1, .long x), (3, .long y), (5, .int (vr_b sg))]) (st' := [.long (x - y)]) rfl Kz) ?_
      refine jv_Wp.of (jv_Ev.ret jv_i64 rfl rfl) ?_
      have hnk : n = 1 := (vl_I_inj (a := n) (b := 1) (by omega) (by decide)).mp h2
      subst hnk
      rw [show Int64.ofBitVec (vm_ck 1 x.toBitVec y.toBitVec sg) = (x - y) from Int64.toBitVec_inj.mp Int64.toBitVec_sub.symm] at hQ
      exact hQ
    · refine jv_Wp.bys (q := ((vl_I n) = Int32.ofInt 2)) (fun h3 => ?_) (fun h3 => ?_)
      · refine jv_Wp.lift (fun _ Kz => jv_Ev.br jv_i64 (pc' := 76) (st' := []) rfl (by rw [h3]; rfl) Kz) ?_
        refine jv_Wp.lift (fun _ Kz => jv_Ev.steps jv_i64 3 (pc' := 79) (l' := [(0, .int (vl_I n)), (1, .long x), (3, .long y), (5, .int (vr_b sg))]) (st' := [.long (x * y)]) rfl Kz) ?_
        refine jv_Wp.of (jv_Ev.ret jv_i64 rfl rfl) ?_
        have hnk : n = 2 := (vl_I_inj (a := n) (b := 2) (by omega) (by decide)).mp h3
        subst hnk
        rw [show Int64.ofBitVec (vm_ck 2 x.toBitVec y.toBitVec sg) = (x * y) from Int64.toBitVec_inj.mp Int64.toBitVec_mul.symm] at hQ
        exact hQ
      · refine jv_Wp.bys (q := ((vl_I n) = Int32.ofInt 3)) (fun h4 => ?_) (fun h4 => ?_)
        · refine jv_Wp.lift (fun _ Kz => jv_Ev.br jv_i64 (pc' := 80) (st' := []) rfl (by rw [h4]; rfl) Kz) ?_
          refine jv_Wp.lift (fun _ Kz => jv_Ev.steps jv_i64 1 (pc' := 82) (l' := [(0, .int (vl_I n)), (1, .long x), (3, .long y), (5, .int (vr_b sg))]) (st' := [.int (vr_b sg)]) rfl Kz) ?_
          refine jv_Wp.cnd jv_i64 (pt := 93) (pe := 85) (p := ((vr_b sg) = 0)) (q := ((vr_b sg) = 0)) rfl jv_bi_eq rfl rfl Iff.rfl (fun h5 => ?_) (fun h5 => ?_)
          · refine jv_Wp.lift (fun _ Kz => jv_Ev.steps jv_i64 2 (pc' := 95) (l' := [(0, .int (vl_I n)), (1, .long x), (3, .long y), (5, .int (vr_b sg))]) (st' := [.long y, .long x]) rfl Kz) ?_
            refine jv_Wp.lift (fun _ Kz => jv_Ev.c jv_i64 (pc' := 98) (S' := [.long (jv_cquotient x y)]) jv_i6 [.long x, .long y] rfl rfl rfl rfl rfl rfl (jv_s6 x y) rfl rfl Kz) ?_
            refine jv_Wp.of (jv_Ev.ret jv_i64 rfl rfl) ?_
            have hnk : n = 3 := (vl_I_inj (a := n) (b := 3) (by omega) (by decide)).mp h4
            subst hnk
            have hs : sg = false := vr_b_f h5
            subst hs
            rw [show Int64.ofBitVec (vm_ck 3 x.toBitVec y.toBitVec false) = (jv_cquotient x y) from Int64.toBitVec_inj.mp (vl_quotient x y).symm] at hQ
            exact hQ
          · refine jv_Wp.lift (fun _ Kz => jv_Ev.steps jv_i64 2 (pc' := 87) (l' := [(0, .int (vl_I n)), (1, .long x), (3, .long y), (5, .int (vr_b sg))]) (st' := [.long y, .long x]) rfl Kz) ?_
            refine jv_Wp.lift (fun _ Kz => jv_Ev.c jv_i64 (pc' := 90) (S' := [.long (Int64.ofBitVec ((x).toBitVec.sdiv (y).toBitVec))]) jv_i65 [.long x, .long y] rfl rfl rfl rfl rfl rfl (vc_sq (x := x) (y := y)) rfl rfl Kz) ?_
            refine jv_Wp.lift (fun _ Kz => jv_Ev.steps jv_i64 1 (pc' := 98) (l' := [(0, .int (vl_I n)), (1, .long x), (3, .long y), (5, .int (vr_b sg))]) (st' := [.long (Int64.ofBitVec ((x).toBitVec.sdiv (y).toBitVec))]) rfl Kz) ?_
            refine jv_Wp.of (jv_Ev.ret jv_i64 rfl rfl) ?_
            have hnk : n = 3 := (vl_I_inj (a := n) (b := 3) (by omega) (by decide)).mp h4
            subst hnk
            have hs : sg = true := vr_b_t h5
            subst hs
            exact hQ
        · refine jv_Wp.bys (q := ((vl_I n) = Int32.ofInt 4)) (fun h6 => ?_) (fun h6 => ?_)
          · refine jv_Wp.lift (fun _ Kz => jv_Ev.br jv_i64 (pc' := 99) (st' := []) rfl (by rw [h6]; rfl) Kz) ?_
            refine jv_Wp.lift (fun _ Kz => jv_Ev.steps jv_i64 3 (pc' := 102) (l' := [(0, .int (vl_I n)), (1, .long x), (3, .long y), (5, .int (vr_b sg))]) (st' := [.long (x ||| y)]) rfl Kz) ?_
            refine jv_Wp.of (jv_Ev.ret jv_i64 rfl rfl) ?_
            have hnk : n = 4 := (vl_I_inj (a := n) (b := 4) (by omega) (by decide)).mp h6
            subst hnk
            rw [show Int64.ofBitVec (vm_ck 4 x.toBitVec y.toBitVec sg) = (x ||| y) from Int64.toBitVec_inj.mp (Int64.toBitVec_or x y).symm] at hQ
            exact hQ
          · refine jv_Wp.bys (q := ((vl_I n) = Int32.ofInt 5)) (fun h7 => ?_) (fun h7 => ?_)
            · refine jv_Wp.lift (fun _ Kz => jv_Ev.br jv_i64 (pc' := 103) (st' := []) rfl (by rw [h7]; rfl) Kz) ?_
              refine jv_Wp.lift (fun _ Kz => jv_Ev.steps jv_i64 3 (pc' := 106) (l' := [(0, .int (vl_I n)), (1, .long x), (3, .long y), (5, .int (vr_b sg))]) (st' := [.long (x &&& y)]) rfl Kz) ?_
              refine jv_Wp.of (jv_Ev.ret jv_i64 rfl rfl) ?_
              have hnk : n = 5 := (vl_I_inj (a := n) (b := 5) (by omega) (by decide)).mp h7
              subst hnk
              rw [show Int64.ofBitVec (vm_ck 5 x.toBitVec y.toBitVec sg) = (x &&& y) from Int64.toBitVec_inj.mp (Int64.toBitVec_and x y).symm] at hQ
              exact hQ
            · refine jv_Wp.bys (q := ((vl_I n) = Int32.ofInt 6)) (fun h8 => ?_) (fun h8 => ?_)
              · refine jv_Wp.lift (fun _ Kz => jv_Ev.br jv_i64 (pc' := 107) (st' := []) rfl (by rw [h8]; rfl) Kz) ?_
                refine jv_Wp.lift (fun _ Kz => jv_Ev.steps jv_i64 4 (pc' := 111) (l' := [(0, .int (vl_I n)), (1, .long x), (3, .long y), (5, .int (vr_b sg))]) (st' := [.long (x <<< (y.toInt32.toInt64 &&& 63))]) rfl Kz) ?_
                refine jv_Wp.of (jv_Ev.ret jv_i64 rfl rfl) ?_
                have hnk : n = 6 := (vl_I_inj (a := n) (b := 6) (by omega) (by decide)).mp h8
                subst hnk
                rw [vm_shl]
                exact hQ
              · refine jv_Wp.bys (q := ((vl_I n) = Int32.ofInt 7)) (fun h9 => ?_) (fun h9 => ?_)
                · refine jv_Wp.lift (fun _ Kz => jv_Ev.br jv_i64 (pc' := 112) (st' := []) rfl (by rw [h9]; rfl) Kz) ?_
                  refine jv_Wp.lift (fun _ Kz => jv_Ev.steps jv_i64 4 (pc' := 116) (l' := [(0, .int (vl_I n)), (1, .long x), (3, .long y), (5, .int (vr_b sg))]) (st' := [.long ((x.toUInt64 >>> (y.toInt32.toInt64.toUInt64 &&& Int64.toUInt64 63)).toInt64)]) rfl Kz) ?_
                  refine jv_Wp.of (jv_Ev.ret jv_i64 rfl rfl) ?_
                  have hnk : n = 7 := (vl_I_inj (a := n) (b := 7) (by omega) (by decide)).mp h9
                  subst hnk
                  rw [vm_ushr]
                  exact hQ
                · refine jv_Wp.bys (q := ((vl_I n) = Int32.ofInt 8)) (fun h10 => ?_) (fun h10 => ?_)
                  · refine jv_Wp.lift (fun _ Kz => jv_Ev.br jv_i64 (pc' := 117) (st' := []) rfl (by rw [h10]; rfl) Kz) ?_
                    refine jv_Wp.lift (fun _ Kz => jv_Ev.steps jv_i64 2 (pc' := 119) (l' := [(0, .int (vl_I n)), (1, .long x), (3, .long y), (5, .int (vr_b sg))]) (st' := [.long (-x)]) rfl Kz) ?_
                    refine jv_Wp.of (jv_Ev.ret jv_i64 rfl rfl) ?_
                    have hnk : n = 8 := (vl_I_inj (a := n) (b := 8) (by omega) (by decide)).mp h10
                    subst hnk
                    rw [show Int64.ofBitVec (vm_ck 8 x.toBitVec y.toBitVec sg) = (-x) from Int64.toBitVec_inj.mp (Int64.toBitVec_neg x).symm] at hQ
                    exact hQ
                  · refine jv_Wp.bys (q := ((vl_I n) = Int32.ofInt 9)) (fun h11 => ?_) (fun h11 => ?_)
                    · refine jv_Wp.lift (fun _ Kz => jv_Ev.br jv_i64 (pc' := 120) (st' := []) rfl (by rw [h11]; rfl) Kz) ?_
                      refine jv_Wp.lift (fun _ Kz => jv_Ev.steps jv_i64 1 (pc' := 122) (l' := [(0, .int (vl_I n)), (1, .long x), (3, .long y), (5, .int (vr_b sg))]) (st' := [.int (vr_b sg)]) rfl Kz) ?_
                      refine jv_Wp.cnd jv_i64 (pt := 137) (pe := 125) (p := ((vr_b sg) = 0)) (q := ((vr_b sg) = 0)) rfl jv_bi_eq rfl rfl Iff.rfl (fun h12 => ?_) (fun h12 => ?_)
                      · refine jv_Wp.lift (fun _ Kz => jv_Ev.steps jv_i64 2 (pc' := 139) (l' := [(0, .int (vl_I n)), (1, .long x), (3, .long y), (5, .int (vr_b sg))]) (st' := [.long y, .long x]) rfl Kz) ?_
                        refine jv_Wp.lift (fun _ Kz => jv_Ev.c jv_i64 (pc' := 142) (S' := [.long (jv_crest x y)]) jv_i7 [.long x, .long y] rfl rfl rfl rfl rfl rfl (jv_s7 x y) rfl rfl Kz) ?_
                        refine jv_Wp.of (jv_Ev.ret jv_i64 rfl rfl) ?_
                        have hnk : n = 9 := (vl_I_inj (a := n) (b := 9) (by omega) (by decide)).mp h11
                        subst hnk
                        have hs : sg = false := vr_b_f h12
                        subst hs
                        rw [show Int64.ofBitVec (vm_ck 9 x.toBitVec y.toBitVec false) = (jv_crest x y) from (vm_rest x y).symm] at hQ
                        exact hQ
                      · refine jv_Wp.lift (fun _ Kz => jv_Ev.steps jv_i64 3 (pc' := 128) (l' := [(0, .int (vl_I n)), (1, .long x), (3, .long y), (5, .int (vr_b sg))]) (st' := [.long y, .long x, .long x]) rfl Kz) ?_
                        refine jv_Wp.lift (fun _ Kz => jv_Ev.c jv_i64 (pc' := 131) (S' := [.long (Int64.ofBitVec ((x).toBitVec.sdiv (y).toBitVec)), .long x]) jv_i65 [.long x, .long y] rfl rfl rfl rfl rfl rfl (vc_sq (x := x) (y := y)) rfl rfl Kz) ?_
                        refine jv_Wp.lift (fun _ Kz => jv_Ev.steps jv_i64 4 (pc' := 142) (l' := [(0, .int (vl_I n)), (1, .long x), (3, .long y), (5, .int (vr_b sg))]) (st' := [.long (x - ((Int64.ofBitVec ((x).toBitVec.sdiv (y).toBitVec)) * y))]) rfl Kz) ?_
                        refine jv_Wp.of (jv_Ev.ret jv_i64 rfl rfl) ?_
                        have hnk : n = 9 := (vl_I_inj (a := n) (b := 9) (by omega) (by decide)).mp h11
                        subst hnk
                        have hs : sg = true := vr_b_t h12
                        subst hs
                        rw [show Int64.ofBitVec (vm_ck 9 x.toBitVec y.toBitVec true) = (x - ((Int64.ofBitVec ((x).toBitVec.sdiv (y).toBitVec)) * y)) from Int64.toBitVec_inj.mp (by rw [Int64.toBitVec_sub, Int64.toBitVec_mul]; rfl)] at hQ
                        exact hQ
                    · refine jv_Wp.bys (q := ((vl_I n) = Int32.ofInt 10)) (fun h13 => ?_) (fun h13 => ?_)
                      · refine jv_Wp.lift (fun _ Kz => jv_Ev.br jv_i64 (pc' := 143) (st' := []) rfl (by rw [h13]; rfl) Kz) ?_
                        refine jv_Wp.lift (fun _ Kz => jv_Ev.steps jv_i64 3 (pc' := 146) (l' := [(0, .int (vl_I n)), (1, .long x), (3, .long y), (5, .int (vr_b sg))]) (st' := [.long (x ^^^ y)]) rfl Kz) ?_
                        refine jv_Wp.of (jv_Ev.ret jv_i64 rfl rfl) ?_
                        have hnk : n = 10 := (vl_I_inj (a := n) (b := 10) (by omega) (by decide)).mp h13
                        subst hnk
                        rw [show Int64.ofBitVec (vm_ck 10 x.toBitVec y.toBitVec sg) = (x ^^^ y) from Int64.toBitVec_inj.mp (Int64.toBitVec_xor x y).symm] at hQ
                        exact hQ
                      · refine jv_Wp.bys (q := ((vl_I n) = Int32.ofInt 12)) (fun h14 => ?_) (fun h14 => ?_)
                        · refine jv_Wp.lift (fun _ Kz => jv_Ev.br jv_i64 (pc' := 147) (st' := []) rfl (by rw [h14]; rfl) Kz) ?_
                          refine jv_Wp.lift (fun _ Kz => jv_Ev.steps jv_i64 4 (pc' := 151) (l' := [(0, .int (vl_I n)), (1, .long x), (3, .long y), (5, .int (vr_b sg))]) (st' := [.long (x >>> (y.toInt32.toInt64 &&& 63))]) rfl Kz) ?_
                          refine jv_Wp.of (jv_Ev.ret jv_i64 rfl rfl) ?_
                          have hnk : n = 12 := (vl_I_inj (a := n) (b := 12) (by omega) (by decide)).mp h14
                          subst hnk
                          rw [vm_sshr]
                          exact hQ
                        · refine jv_Wp.lift (fun _ Kz => jv_Ev.br jv_i64 (pc' := 152) (st' := []) rfl (jv_tsw_def (fun i hi h => by match i, hi, h with 
                                | 0, _, h => exact absurd h (jv_ne_toInt (k := 0) h1) 
                                | 1, _, h => exact absurd h (jv_ne_toInt (k := 1) h2) 
                                | 2, _, h => exact absurd h (jv_ne_toInt (k := 2) h3) 
                                | 3, _, h => exact absurd h (jv_ne_toInt (k := 3) h4) 
                                | 4, _, h => exact absurd h (jv_ne_toInt (k := 4) h6) 
                                | 5, _, h => exact absurd h (jv_ne_toInt (k := 5) h7) 
                                | 6, _, h => exact absurd h (jv_ne_toInt (k := 6) h8) 
                                | 7, _, h => exact absurd h (jv_ne_toInt (k := 7) h9) 
                                | 8, _, h => exact absurd h (jv_ne_toInt (k := 8) h10) 
                                | 9, _, h => exact absurd h (jv_ne_toInt (k := 9) h11) 
                                | 10, _, h => exact absurd h (jv_ne_toInt (k := 10) h13) 
                                | 11, _, _ => rfl 
                                | 12, _, h => exact absurd h (jv_ne_toInt (k := 12) h14) 
                                | i + 13, hi, _ => exact absurd hi (by simp)) rfl) Kz) ?_
                          refine jv_Wp.lift (fun _ Kz => jv_Ev.steps jv_i64 1 (pc' := 153) (l' := [(0, .int (vl_I n)), (1, .long x), (3, .long y), (5, .int (vr_b sg))]) (st' := [.long y]) rfl Kz) ?_
                          refine jv_Wp.of (jv_Ev.ret jv_i64 rfl rfl) ?_
                          have e0 : ¬ n = 0 := (fun z => h1 ((vl_I_inj (a := n) (b := 0) (by omega) (by decide)).mpr z))
                          have e1 : ¬ n = 1 := (fun z => h2 ((vl_I_inj (a := n) (b := 1) (by omega) (by decide)).mpr z))
                          have e2 : ¬ n = 2 := (fun z => h3 ((vl_I_inj (a := n) (b := 2) (by omega) (by decide)).mpr z))
                          have e3 : ¬ n = 3 := (fun z => h4 ((vl_I_inj (a := n) (b := 3) (by omega) (by decide)).mpr z))
                          have e4 : ¬ n = 4 := (fun z => h6 ((vl_I_inj (a := n) (b := 4) (by omega) (by decide)).mpr z))
                          have e5 : ¬ n = 5 := (fun z => h7 ((vl_I_inj (a := n) (b := 5) (by omega) (by decide)).mpr z))
                          have e6 : ¬ n = 6 := (fun z => h8 ((vl_I_inj (a := n) (b := 6) (by omega) (by decide)).mpr z))
                          have e7 : ¬ n = 7 := (fun z => h9 ((vl_I_inj (a := n) (b := 7) (by omega) (by decide)).mpr z))
                          have e8 : ¬ n = 8 := (fun z => h10 ((vl_I_inj (a := n) (b := 8) (by omega) (by decide)).mpr z))
                          have e9 : ¬ n = 9 := (fun z => h11 ((vl_I_inj (a := n) (b := 9) (by omega) (by decide)).mpr z))
                          have e10 : ¬ n = 10 := (fun z => h13 ((vl_I_inj (a := n) (b := 10) (by omega) (by decide)).mpr z))
                          have e12 : ¬ n = 12 := (fun z => h14 ((vl_I_inj (a := n) (b := 12) (by omega) (by decide)).mpr z))
                          have hnk : n = 11 := by omega
                          subst hnk
                          exact hQ
theorem vc_reckoned {G : jv_G} {n : Nat} (hn : n ≤ 12) {x y : Int64} {sg : Bool} {m sl : Nat} : jv_Ms 64 [.int (vl_I n), .long x, .long y, .int (vr_b sg)] G m sl (some (.long (Int64.ofBitVec (vm_ck n x.toBitVec y.toBitVec sg))), G, m, sl) := by
  obtain ⟨X, k, e⟩ := vc_reckoned_0 (G := G) (m := m) (sl := sl) (Q := fun X => X = (some (.long (Int64.ofBitVec (vm_ck n x.toBitVec y.toBitVec sg))), G, m, sl)) hn rfl
  subst e
  exact k