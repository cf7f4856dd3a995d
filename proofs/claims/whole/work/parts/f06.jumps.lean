/-! part f06: jumps of the class (gen/tf06.py) -/
theorem vmb_0 {x y : Int64} : vb_cmp 0 x.toBitVec y.toBitVec ↔ x = y := by unfold vb_cmp; rw [if_pos rfl]; exact Int64.toBitVec_inj
theorem vmb_1 {x y : Int64} : vb_cmp 1 x.toBitVec y.toBitVec ↔ ¬ x = y := by unfold vb_cmp; rw [if_neg (by decide), if_pos rfl]; exact not_congr Int64.toBitVec_inj
theorem vmb_2 {x y : Int64} : vb_cmp 2 x.toBitVec y.toBitVec ↔ x.toBitVec < y.toBitVec := by unfold vb_cmp; rw [if_neg (by decide), if_neg (by decide), if_pos rfl]
theorem vmb_3 {x y : Int64} : vb_cmp 3 x.toBitVec y.toBitVec ↔ x.toBitVec ≤ y.toBitVec := by unfold vb_cmp; rw [if_neg (by decide), if_neg (by decide), if_neg (by decide), if_pos rfl]
theorem vmb_4 {x y : Int64} : vb_cmp 4 x.toBitVec y.toBitVec ↔ y.toBitVec < x.toBitVec := by unfold vb_cmp; rw [if_neg (by decide), if_neg (by decide), if_neg (by decide), if_neg (by decide), if_pos rfl]
theorem vmb_5 {x y : Int64} : vb_cmp 5 x.toBitVec y.toBitVec ↔ y.toBitVec ≤ x.toBitVec := by unfold vb_cmp; rw [if_neg (by decide), if_neg (by decide), if_neg (by decide), if_neg (by decide), if_neg (by decide), if_pos rfl]
theorem vmb_6 {x y : Int64} : vb_cmp 6 x.toBitVec y.toBitVec ↔ ¬ y ≤ x := by unfold vb_cmp; rw [if_neg (by decide), if_neg (by decide), if_neg (by decide), if_neg (by decide), if_neg (by decide), if_neg (by decide), if_pos rfl, Int64.le_iff_toInt_le]; exact Int.not_le.symm
theorem vmb_7 {x y : Int64} : vb_cmp 7 x.toBitVec y.toBitVec ↔ ¬ y < x := by unfold vb_cmp; rw [if_neg (by decide), if_neg (by decide), if_neg (by decide), if_neg (by decide), if_neg (by decide), if_neg (by decide), if_neg (by decide), if_pos rfl, Int64.lt_iff_toInt_lt]; exact Int.not_lt.symm
theorem vmb_8 {x y : Int64} : vb_cmp 8 x.toBitVec y.toBitVec ↔ ¬ x ≤ y := by unfold vb_cmp; rw [if_neg (by decide), if_neg (by decide), if_neg (by decide), if_neg (by decide), if_neg (by decide), if_neg (by decide), if_neg (by decide), if_neg (by decide), if_pos rfl, Int64.le_iff_toInt_le]; exact Int.not_le.symm
theorem vmb_9 {x y : Int64} : vb_cmp 9 x.toBitVec y.toBitVec ↔ ¬ x < y := by unfold vb_cmp; rw [if_neg (by decide), if_neg (by decide), if_neg (by decide), if_neg (by decide), if_neg (by decide), if_neg (by decide), if_neg (by decide), if_neg (by decide), if_neg (by decide), if_pos rfl, Int64.lt_iff_toInt_lt]; exact Int.not_lt.symm
theorem vmb_10 {x y : Int64} : vb_cmp 10 x.toBitVec y.toBitVec ↔ ¬ (x &&& y) = (0 : Int64) := by
  unfold vb_cmp; rw [if_neg (by decide), if_neg (by decide), if_neg (by decide), if_neg (by decide), if_neg (by decide), if_neg (by decide), if_neg (by decide), if_neg (by decide), if_neg (by decide), if_neg (by decide), if_pos rfl]
  exact not_congr ⟨fun z => Int64.toBitVec_inj.mp ((Int64.toBitVec_and x y).trans z), fun z => (Int64.toBitVec_and x y).symm.trans (congrArg Int64.toBitVec z)⟩
theorem vm_bel0 {x y : Int64} : jv_cbelow x y = 0 ↔ y.toBitVec ≤ x.toBitVec := by
  rw [vl_below]
  by_cases c : x.toBitVec < y.toBitVec
  · rw [if_pos c]; exact ⟨fun z => absurd z (by decide), fun z => absurd c (BitVec.not_lt.mpr z)⟩
  · rw [if_neg c]; exact ⟨fun _ => BitVec.not_lt.mp c, fun _ => rfl⟩
theorem vm_bel {x y : Int64} {b : Bool} (h : b = true ↔ x.toBitVec < y.toBitVec) : vr_b b = jv_cbelow x y := by
  rw [vl_below]
  by_cases c : x.toBitVec < y.toBitVec
  · rw [if_pos c, h.mpr c]; rfl
  · rw [if_neg c]
    cases b with
    | true => exact absurd (h.mp rfl) c
    | false => rfl
theorem jv_i68 : jv_I 68 5 (some .boolean) 1 23 jv_c68 := ⟨rfl, rfl, rfl, rfl, rfl⟩
theorem vc_holds_0 {G : jv_G} {n : Nat} (hn : n < 256) {x y : Int64} {b : Bool} (hb : b = true ↔ vb_cmp (vx_cmp n) x.toBitVec y.toBitVec) {m sl : Nat} {Q : jv_R → Prop} (hQ : Q (some (.int (vr_b b)), G, m, sl)) : jv_Wp 68 0 [(0, .int (vl_I n)), (1, .long x), (3, .long y)] [] G m sl Q := by
  refine jv_Wp.lift (fun _ Kz => jv_Ev.steps jv_i68 1 (pc' := 1) (l' := [(0, .int (vl_I n)), (1, .long x), (3, .long y)]) (st' := [.int (vl_I n)]) rfl Kz) ?_
  refine jv_Wp.bys (q := ((vl_I n) = Int32.ofInt 1)) (fun h1 => ?_) (fun h1 => ?_)
  · refine jv_Wp.lift (fun _ Kz => jv_Ev.br jv_i68 (pc' := 64) (st' := []) rfl (by rw [h1]; rfl) Kz) ?_
    refine jv_Wp.lift (fun _ Kz => jv_Ev.steps jv_i68 3 (pc' := 67) (l' := [(0, .int (vl_I n)), (1, .long x), (3, .long y)]) (st' := [.int (lg_cmp x y)]) rfl Kz) ?_
    refine jv_Wp.cnd jv_i68 (pt := 74) (pe := 70) (p := (¬ (lg_cmp x y) = 0)) (q := (¬ x = y)) rfl jv_bi_ne rfl rfl (not_congr (lg_cmp_eq x y)) (fun h2 => ?_) (fun h2 => ?_)
    · refine jv_Wp.lift (fun _ Kz => jv_Ev.steps jv_i68 1 (pc' := 75) (l' := [(0, .int (vl_I n)), (1, .long x), (3, .long y)]) (st' := [.int (0 : Int32)]) rfl Kz) ?_
      refine jv_Wp.of (jv_Ev.ret jv_i68 rfl (jv_ret_b (Or.inl rfl))) ?_
      have hn : n = 1 := (vl_I_inj (a := n) (b := 1) (by omega) (by decide)).mp h1
      subst hn
      have hb : b = true ↔ vb_cmp 0 x.toBitVec y.toBitVec := hb
      have hb := hb.trans vmb_0
      rw [show b = false from by cases b with | false => rfl | true => exact absurd rfl (fun z => h2 (hb.mp z))] at hQ
      exact hQ
    · refine jv_Wp.lift (fun _ Kz => jv_Ev.steps jv_i68 2 (pc' := 75) (l' := [(0, .int (vl_I n)), (1, .long x), (3, .long y)]) (st' := [.int (1 : Int32)]) rfl Kz) ?_
      refine jv_Wp.of (jv_Ev.ret jv_i68 rfl (jv_ret_b (Or.inr rfl))) ?_
      have hn : n = 1 := (vl_I_inj (a := n) (b := 1) (by omega) (by decide)).mp h1
      subst hn
      have hb : b = true ↔ vb_cmp 0 x.toBitVec y.toBitVec := hb
      have hb := hb.trans vmb_0
      rw [show b = true from hb.mpr (Classical.not_not.mp h2)] at hQ
      exact hQ
  · refine jv_Wp.bys (q := ((vl_I n) = Int32.ofInt 2)) (fun h3 => ?_) (fun h3 => ?_)
    · refine jv_Wp.lift (fun _ Kz => jv_Ev.br jv_i68 (pc' := 76) (st' := []) rfl (by rw [h3]; rfl) Kz) ?_
      refine jv_Wp.lift (fun _ Kz => jv_Ev.steps jv_i68 2 (pc' := 78) (l' := [(0, .int (vl_I n)), (1, .long x), (3, .long y)]) (st' := [.long x, .long y]) rfl Kz) ?_
      refine jv_Wp.lift (fun _ Kz => jv_Ev.c jv_i68 (pc' := 81) (S' := [.int (jv_cbelow y x)]) jv_i2 [.long y, .long x] rfl rfl rfl rfl rfl rfl (jv_s2 y x) rfl rfl Kz) ?_
      refine jv_Wp.of (jv_Ev.ret jv_i68 rfl (jv_ret_b (jv_cbelow_b y x))) ?_
      have hn : n = 2 := (vl_I_inj (a := n) (b := 2) (by omega) (by decide)).mp h3
      subst hn
      have hb : b = true ↔ vb_cmp 4 x.toBitVec y.toBitVec := hb
      have hb := hb.trans vmb_4
      rw [vm_bel hb] at hQ
      exact hQ
    · refine jv_Wp.bys (q := ((vl_I n) = Int32.ofInt 3)) (fun h4 => ?_) (fun h4 => ?_)
      · refine jv_Wp.lift (fun _ Kz => jv_Ev.br jv_i68 (pc' := 82) (st' := []) rfl (by rw [h4]; rfl) Kz) ?_
        refine jv_Wp.lift (fun _ Kz => jv_Ev.steps jv_i68 2 (pc' := 84) (l' := [(0, .int (vl_I n)), (1, .long x), (3, .long y)]) (st' := [.long y, .long x]) rfl Kz) ?_
        refine jv_Wp.lift (fun _ Kz => jv_Ev.c jv_i68 (pc' := 87) (S' := [.int (jv_cbelow x y)]) jv_i2 [.long x, .long y] rfl rfl rfl rfl rfl rfl (jv_s2 x y) rfl rfl Kz) ?_
        refine jv_Wp.cnd jv_i68 (pt := 94) (pe := 90) (p := (¬ (jv_cbelow x y) = 0)) (q := (¬ (jv_cbelow x y) = 0)) rfl jv_bi_ne rfl rfl Iff.rfl (fun h5 => ?_) (fun h5 => ?_)
        · refine jv_Wp.lift (fun _ Kz => jv_Ev.steps jv_i68 1 (pc' := 95) (l' := [(0, .int (vl_I n)), (1, .long x), (3, .long y)]) (st' := [.int (0 : Int32)]) rfl Kz) ?_
          refine jv_Wp.of (jv_Ev.ret jv_i68 rfl (jv_ret_b (Or.inl rfl))) ?_
          have hn : n = 3 := (vl_I_inj (a := n) (b := 3) (by omega) (by decide)).mp h4
          subst hn
          have hb : b = true ↔ vb_cmp 5 x.toBitVec y.toBitVec := hb
          have hb := hb.trans (vmb_5.trans vm_bel0.symm)
          rw [show b = false from by cases b with | false => rfl | true => exact absurd rfl (fun z => h5 (hb.mp z))] at hQ
          exact hQ
        · refine jv_Wp.lift (fun _ Kz => jv_Ev.steps jv_i68 2 (pc' := 95) (l' := [(0, .int (vl_I n)), (1, .long x), (3, .long y)]) (st' := [.int (1 : Int32)]) rfl Kz) ?_
          refine jv_Wp.of (jv_Ev.ret jv_i68 rfl (jv_ret_b (Or.inr rfl))) ?_
          have hn : n = 3 := (vl_I_inj (a := n) (b := 3) (by omega) (by decide)).mp h4
          subst hn
          have hb : b = true ↔ vb_cmp 5 x.toBitVec y.toBitVec := hb
          have hb := hb.trans (vmb_5.trans vm_bel0.symm)
          rw [show b = true from hb.mpr (Classical.not_not.mp h5)] at hQ
          exact hQ
      · refine jv_Wp.bys (q := ((vl_I n) = Int32.ofInt 4)) (fun h6 => ?_) (fun h6 => ?_)
        · refine jv_Wp.lift (fun _ Kz => jv_Ev.br jv_i68 (pc' := 96) (st' := []) rfl (by rw [h6]; rfl) Kz) ?_
          refine jv_Wp.lift (fun _ Kz => jv_Ev.steps jv_i68 5 (pc' := 101) (l' := [(0, .int (vl_I n)), (1, .long x), (3, .long y)]) (st' := [.int (lg_cmp (x &&& y) (0 : Int64))]) rfl Kz) ?_
          refine jv_Wp.cnd jv_i68 (pt := 108) (pe := 104) (p := ((lg_cmp (x &&& y) (0 : Int64)) = 0)) (q := ((x &&& y) = (0 : Int64))) rfl jv_bi_eq rfl rfl (lg_cmp_eq (x &&& y) (0 : Int64)) (fun h7 => ?_) (fun h7 => ?_)
          · refine jv_Wp.lift (fun _ Kz => jv_Ev.steps jv_i68 1 (pc' := 109) (l' := [(0, .int (vl_I n)), (1, .long x), (3, .long y)]) (st' := [.int (0 : Int32)]) rfl Kz) ?_
            refine jv_Wp.of (jv_Ev.ret jv_i68 rfl (jv_ret_b (Or.inl rfl))) ?_
            have hn : n = 4 := (vl_I_inj (a := n) (b := 4) (by omega) (by decide)).mp h6
            subst hn
            have hb : b = true ↔ vb_cmp 10 x.toBitVec y.toBitVec := hb
            have hb := hb.trans vmb_10
            rw [show b = false from by cases b with | false => rfl | true => exact absurd rfl (fun z => (hb.mp z) h7)] at hQ
            exact hQ
          · refine jv_Wp.lift (fun _ Kz => jv_Ev.steps jv_i68 2 (pc' := 109) (l' := [(0, .int (vl_I n)), (1, .long x), (3, .long y)]) (st' := [.int (1 : Int32)]) rfl Kz) ?_
            refine jv_Wp.of (jv_Ev.ret jv_i68 rfl (jv_ret_b (Or.inr rfl))) ?_
            have hn : n = 4 := (vl_I_inj (a := n) (b := 4) (by omega) (by decide)).mp h6
            subst hn
            have hb : b = true ↔ vb_cmp 10 x.toBitVec y.toBitVec := hb
            have hb := hb.trans vmb_10
            rw [show b = true from hb.mpr h7] at hQ
            exact hQ
        · refine jv_Wp.bys (q := ((vl_I n) = Int32.ofInt 5)) (fun h8 => ?_) (fun h8 => ?_)
          · refine jv_Wp.lift (fun _ Kz => jv_Ev.br jv_i68 (pc' := 110) (st' := []) rfl (by rw [h8]; rfl) Kz) ?_
            refine jv_Wp.lift (fun _ Kz => jv_Ev.steps jv_i68 3 (pc' := 113) (l' := [(0, .int (vl_I n)), (1, .long x), (3, .long y)]) (st' := [.int (lg_cmp x y)]) rfl Kz) ?_
            refine jv_Wp.cnd jv_i68 (pt := 120) (pe := 116) (p := ((lg_cmp x y) = 0)) (q := (x = y)) rfl jv_bi_eq rfl rfl (lg_cmp_eq x y) (fun h9 => ?_) (fun h9 => ?_)
            · refine jv_Wp.lift (fun _ Kz => jv_Ev.steps jv_i68 1 (pc' := 121) (l' := [(0, .int (vl_I n)), (1, .long x), (3, .long y)]) (st' := [.int (0 : Int32)]) rfl Kz) ?_
              refine jv_Wp.of (jv_Ev.ret jv_i68 rfl (jv_ret_b (Or.inl rfl))) ?_
              have hn : n = 5 := (vl_I_inj (a := n) (b := 5) (by omega) (by decide)).mp h8
              subst hn
              have hb : b = true ↔ vb_cmp 1 x.toBitVec y.toBitVec := hb
              have hb := hb.trans vmb_1
              rw [show b = false from by cases b with | false => rfl | true => exact absurd rfl (fun z => (hb.mp z) h9)] at hQ
              exact hQ
            · refine jv_Wp.lift (fun _ Kz => jv_Ev.steps jv_i68 2 (pc' := 121) (l' := [(0, .int (vl_I n)), (1, .long x), (3, .long y)]) (st' := [.int (1 : Int32)]) rfl Kz) ?_
              refine jv_Wp.of (jv_Ev.ret jv_i68 rfl (jv_ret_b (Or.inr rfl))) ?_
              have hn : n = 5 := (vl_I_inj (a := n) (b := 5) (by omega) (by decide)).mp h8
              subst hn
              have hb : b = true ↔ vb_cmp 1 x.toBitVec y.toBitVec := hb
              have hb := hb.trans vmb_1
              rw [show b = true from hb.mpr h9] at hQ
              exact hQ
          · refine jv_Wp.bys (q := ((vl_I n) = Int32.ofInt 6)) (fun h10 => ?_) (fun h10 => ?_)
            · refine jv_Wp.lift (fun _ Kz => jv_Ev.br jv_i68 (pc' := 122) (st' := []) rfl (by rw [h10]; rfl) Kz) ?_
              refine jv_Wp.lift (fun _ Kz => jv_Ev.steps jv_i68 3 (pc' := 125) (l' := [(0, .int (vl_I n)), (1, .long x), (3, .long y)]) (st' := [.int (lg_cmp x y)]) rfl Kz) ?_
              refine jv_Wp.cnd jv_i68 (pt := 132) (pe := 128) (p := ((lg_cmp x y) ≤ 0)) (q := (x ≤ y)) rfl jv_bi_le rfl rfl (lg_cmp_le x y) (fun h11 => ?_) (fun h11 => ?_)
              · refine jv_Wp.lift (fun _ Kz => jv_Ev.steps jv_i68 1 (pc' := 133) (l' := [(0, .int (vl_I n)), (1, .long x), (3, .long y)]) (st' := [.int (0 : Int32)]) rfl Kz) ?_
                refine jv_Wp.of (jv_Ev.ret jv_i68 rfl (jv_ret_b (Or.inl rfl))) ?_
                have hn : n = 6 := (vl_I_inj (a := n) (b := 6) (by omega) (by decide)).mp h10
                subst hn
                have hb : b = true ↔ vb_cmp 8 x.toBitVec y.toBitVec := hb
                have hb := hb.trans vmb_8
                rw [show b = false from by cases b with | false => rfl | true => exact absurd rfl (fun z => (hb.mp z) h11)] at hQ
                exact hQ
              · refine jv_Wp.lift (fun _ Kz => jv_Ev.steps jv_i68 2 (pc' := 133) (l' := [(0, .int (vl_I n)), (1, .long x), (3, .long y)]) (st' := [.int (1 : Int32)]) rfl Kz) ?_
                refine jv_Wp.of (jv_Ev.ret jv_i68 rfl (jv_ret_b (Or.inr rfl))) ?_
                have hn : n = 6 := (vl_I_inj (a := n) (b := 6) (by omega) (by decide)).mp h10
                subst hn
                have hb : b = true ↔ vb_cmp 8 x.toBitVec y.toBitVec := hb
                have hb := hb.trans vmb_8
                rw [show b = true from hb.mpr h11] at hQ
                exact hQ
            · refine jv_Wp.bys (q := ((vl_I n) = Int32.ofInt 7)) (fun h12 => ?_) (fun h12 => ?_)
              · refine jv_Wp.lift (fun _ Kz => jv_Ev.br jv_i68 (pc' := 134) (st' := []) rfl (by rw [h12]; rfl) Kz) ?_
                refine jv_Wp.lift (fun _ Kz => jv_Ev.steps jv_i68 3 (pc' := 137) (l' := [(0, .int (vl_I n)), (1, .long x), (3, .long y)]) (st' := [.int (lg_cmp x y)]) rfl Kz) ?_
                refine jv_Wp.cnd jv_i68 (pt := 144) (pe := 140) (p := ((lg_cmp x y) < 0)) (q := (x < y)) rfl jv_bi_lt rfl rfl (lg_cmp_lt x y) (fun h13 => ?_) (fun h13 => ?_)
                · refine jv_Wp.lift (fun _ Kz => jv_Ev.steps jv_i68 1 (pc' := 145) (l' := [(0, .int (vl_I n)), (1, .long x), (3, .long y)]) (st' := [.int (0 : Int32)]) rfl Kz) ?_
                  refine jv_Wp.of (jv_Ev.ret jv_i68 rfl (jv_ret_b (Or.inl rfl))) ?_
                  have hn : n = 7 := (vl_I_inj (a := n) (b := 7) (by omega) (by decide)).mp h12
                  subst hn
                  have hb : b = true ↔ vb_cmp 9 x.toBitVec y.toBitVec := hb
                  have hb := hb.trans vmb_9
                  rw [show b = false from by cases b with | false => rfl | true => exact absurd rfl (fun z => (hb.mp z) h13)] at hQ
                  exact hQ
                · refine jv_Wp.lift (fun _ Kz => jv_Ev.steps jv_i68 2 (pc' := 145) (l' := [(0, .int (vl_I n)), (1, .long x), (3, .long y)]) (st' := [.int (1 : Int32)]) rfl Kz) ?_
                  refine jv_Wp.of (jv_Ev.ret jv_i68 rfl (jv_ret_b (Or.inr rfl))) ?_
                  have hn : n = 7 := (vl_I_inj (a := n) (b := 7) (by omega) (by decide)).mp h12
                  subst hn
                  have hb : b = true ↔ vb_cmp 9 x.toBitVec y.toBitVec := hb
                  have hb := hb.trans vmb_9
                  rw [show b = true from hb.mpr h13] at hQ
                  exact hQ
              · refine jv_Wp.bys (q := ((vl_I n) = Int32.ofInt 10)) (fun h14 => ?_) (fun h14 => ?_)
                · refine jv_Wp.lift (fun _ Kz => jv_Ev.br jv_i68 (pc' := 146) (st' := []) rfl (by rw [h14]; rfl) Kz) ?_
                  refine jv_Wp.lift (fun _ Kz => jv_Ev.steps jv_i68 2 (pc' := 148) (l' := [(0, .int (vl_I n)), (1, .long x), (3, .long y)]) (st' := [.long y, .long x]) rfl Kz) ?_
                  refine jv_Wp.lift (fun _ Kz => jv_Ev.c jv_i68 (pc' := 151) (S' := [.int (jv_cbelow x y)]) jv_i2 [.long x, .long y] rfl rfl rfl rfl rfl rfl (jv_s2 x y) rfl rfl Kz) ?_
                  refine jv_Wp.of (jv_Ev.ret jv_i68 rfl (jv_ret_b (jv_cbelow_b x y))) ?_
                  have hn : n = 10 := (vl_I_inj (a := n) (b := 10) (by omega) (by decide)).mp h14
                  subst hn
                  have hb : b = true ↔ vb_cmp 2 x.toBitVec y.toBitVec := hb
                  have hb := hb.trans vmb_2
                  rw [vm_bel hb] at hQ
                  exact hQ
                · refine jv_Wp.bys (q := ((vl_I n) = Int32.ofInt 11)) (fun h15 => ?_) (fun h15 => ?_)
                  · refine jv_Wp.lift (fun _ Kz => jv_Ev.br jv_i68 (pc' := 152) (st' := []) rfl (by rw [h15]; rfl) Kz) ?_
                    refine jv_Wp.lift (fun _ Kz => jv_Ev.steps jv_i68 2 (pc' := 154) (l' := [(0, .int (vl_I n)), (1, .long x), (3, .long y)]) (st' := [.long x, .long y]) rfl Kz) ?_
                    refine jv_Wp.lift (fun _ Kz => jv_Ev.c jv_i68 (pc' := 157) (S' := [.int (jv_cbelow y x)]) jv_i2 [.long y, .long x] rfl rfl rfl rfl rfl rfl (jv_s2 y x) rfl rfl Kz) ?_
                    refine jv_Wp.cnd jv_i68 (pt := 164) (pe := 160) (p := (¬ (jv_cbelow y x) = 0)) (q := (¬ (jv_cbelow y x) = 0)) rfl jv_bi_ne rfl rfl Iff.rfl (fun h16 => ?_) (fun h16 => ?_)
                    · refine jv_Wp.lift (fun _ Kz => jv_Ev.steps jv_i68 1 (pc' := 165) (l' := [(0, .int (vl_I n)), (1, .long x), (3, .long y)]) (st' := [.int (0 : Int32)]) rfl Kz) ?_
                      refine jv_Wp.of (jv_Ev.ret jv_i68 rfl (jv_ret_b (Or.inl rfl))) ?_
                      have hn : n = 11 := (vl_I_inj (a := n) (b := 11) (by omega) (by decide)).mp h15
                      subst hn
                      have hb : b = true ↔ vb_cmp 3 x.toBitVec y.toBitVec := hb
                      have hb := hb.trans (vmb_3.trans vm_bel0.symm)
                      rw [show b = false from by cases b with | false => rfl | true => exact absurd rfl (fun z => h16 (hb.mp z))] at hQ
                      exact hQ
                    · refine jv_Wp.lift (fun _ Kz => jv_Ev.steps jv_i68 2 (pc' := 165) (l' := [(0, .int (vl_I n)), (1, .long x), (3, .long y)]) (st' := [.int (1 : Int32)]) rfl Kz) ?_
                      refine jv_Wp.of (jv_Ev.ret jv_i68 rfl (jv_ret_b (Or.inr rfl))) ?_
                      have hn : n = 11 := (vl_I_inj (a := n) (b := 11) (by omega) (by decide)).mp h15
                      subst hn
                      have hb : b = true ↔ vb_cmp 3 x.toBitVec y.toBitVec := hb
                      have hb := hb.trans (vmb_3.trans vm_bel0.symm)
                      rw [show b = true from hb.mpr (Classical.not_not.mp h16)] at hQ
                      exact hQ
                  · refine jv_Wp.bys (q := ((vl_I n) = Int32.ofInt 12)) (fun h17 => ?_) (fun h17 => ?_)
                    · refine jv_Wp.lift (fun _ Kz => jv_Ev.br jv_i68 (pc' := 166) (st' := []) rfl (by rw [h17]; rfl) Kz) ?_
                      refine jv_Wp.lift (fun _ Kz => jv_Ev.steps jv_i68 3 (pc' := 169) (l' := [(0, .int (vl_I n)), (1, .long x), (3, .long y)]) (st' := [.int (lg_cmp x y)]) rfl Kz) ?_
                      refine jv_Wp.cnd jv_i68 (pt := 176) (pe := 172) (p := (0 ≤ (lg_cmp x y))) (q := (y ≤ x)) rfl jv_bi_ge rfl rfl (lg_cmp_ge x y) (fun h18 => ?_) (fun h18 => ?_)
                      · refine jv_Wp.lift (fun _ Kz => jv_Ev.steps jv_i68 1 (pc' := 177) (l' := [(0, .int (vl_I n)), (1, .long x), (3, .long y)]) (st' := [.int (0 : Int32)]) rfl Kz) ?_
                        refine jv_Wp.of (jv_Ev.ret jv_i68 rfl (jv_ret_b (Or.inl rfl))) ?_
                        have hn : n = 12 := (vl_I_inj (a := n) (b := 12) (by omega) (by decide)).mp h17
                        subst hn
                        have hb : b = true ↔ vb_cmp 6 x.toBitVec y.toBitVec := hb
                        have hb := hb.trans vmb_6
                        rw [show b = false from by cases b with | false => rfl | true => exact absurd rfl (fun z => (hb.mp z) h18)] at hQ
                        exact hQ
                      · refine jv_Wp.lift (fun _ Kz => jv_Ev.steps jv_i68 2 (pc' := 177) (l' := [(0, .int (vl_I n)), (1, .long x), (3, .long y)]) (st' := [.int (1 : Int32)]) rfl Kz) ?_
                        refine jv_Wp.of (jv_Ev.ret jv_i68 rfl (jv_ret_b (Or.inr rfl))) ?_
                        have hn : n = 12 := (vl_I_inj (a := n) (b := 12) (by omega) (by decide)).mp h17
                        subst hn
                        have hb : b = true ↔ vb_cmp 6 x.toBitVec y.toBitVec := hb
                        have hb := hb.trans vmb_6
                        rw [show b = true from hb.mpr h18] at hQ
                        exact hQ
                    · refine jv_Wp.lift (fun _ Kz => jv_Ev.br jv_i68 (pc' := 178) (st' := []) rfl (jv_tsw_def (fun i hi h => by match i, hi, h with 
                            | 0, _, h => exact absurd h (jv_ne_toInt (k := 1) h1) 
                            | 1, _, h => exact absurd h (jv_ne_toInt (k := 2) h3) 
                            | 2, _, h => exact absurd h (jv_ne_toInt (k := 3) h4) 
                            | 3, _, h => exact absurd h (jv_ne_toInt (k := 4) h6) 
                            | 4, _, h => exact absurd h (jv_ne_toInt (k := 5) h8) 
                            | 5, _, h => exact absurd h (jv_ne_toInt (k := 6) h10) 
                            | 6, _, h => exact absurd h (jv_ne_toInt (k := 7) h12) 
                            | 7, _, _ => rfl 
                            | 8, _, _ => rfl 
                            | 9, _, h => exact absurd h (jv_ne_toInt (k := 10) h14) 
                            | 10, _, h => exact absurd h (jv_ne_toInt (k := 11) h15) 
                            | 11, _, h => exact absurd h (jv_ne_toInt (k := 12) h17) 
                            | i + 12, hi, _ => exact absurd hi (by simp)) rfl) Kz) ?_
                      refine jv_Wp.lift (fun _ Kz => jv_Ev.steps jv_i68 3 (pc' := 181) (l' := [(0, .int (vl_I n)), (1, .long x), (3, .long y)]) (st' := [.int (lg_cmp x y)]) rfl Kz) ?_
                      refine jv_Wp.cnd jv_i68 (pt := 188) (pe := 184) (p := (0 < (lg_cmp x y))) (q := (y < x)) rfl jv_bi_gt rfl rfl (lg_cmp_gt x y) (fun h19 => ?_) (fun h19 => ?_)
                      · refine jv_Wp.lift (fun _ Kz => jv_Ev.steps jv_i68 1 (pc' := 189) (l' := [(0, .int (vl_I n)), (1, .long x), (3, .long y)]) (st' := [.int (0 : Int32)]) rfl Kz) ?_
                        refine jv_Wp.of (jv_Ev.ret jv_i68 rfl (jv_ret_b (Or.inl rfl))) ?_
                        rw [vx_cmp_d (fun z => h1 ((vl_I_inj (a := n) (b := 1) (by omega) (by decide)).mpr z)) (fun z => h3 ((vl_I_inj (a := n) (b := 2) (by omega) (by decide)).mpr z)) (fun z => h4 ((vl_I_inj (a := n) (b := 3) (by omega) (by decide)).mpr z)) (fun z => h6 ((vl_I_inj (a := n) (b := 4) (by omega) (by decide)).mpr z)) (fun z => h8 ((vl_I_inj (a := n) (b := 5) (by omega) (by decide)).mpr z)) (fun z => h10 ((vl_I_inj (a := n) (b := 6) (by omega) (by decide)).mpr z)) (fun z => h12 ((vl_I_inj (a := n) (b := 7) (by omega) (by decide)).mpr z)) (fun z => h14 ((vl_I_inj (a := n) (b := 10) (by omega) (by decide)).mpr z)) (fun z => h15 ((vl_I_inj (a := n) (b := 11) (by omega) (by decide)).mpr z)) (fun z => h17 ((vl_I_inj (a := n) (b := 12) (by omega) (by decide)).mpr z))] at hb
                        have hb := hb.trans vmb_7
                        rw [show b = false from by cases b with | false => rfl | true => exact absurd rfl (fun z => (hb.mp z) h19)] at hQ
                        exact hQ
                      · refine jv_Wp.lift (fun _ Kz => jv_Ev.steps jv_i68 2 (pc' := 189) (l' := [(0, .int (vl_I n)), (1, .long x), (3, .long y)]) (st' := [.int (1 : Int32)]) rfl Kz) ?_
                        refine jv_Wp.of (jv_Ev.ret jv_i68 rfl (jv_ret_b (Or.inr rfl))) ?_
                        rw [vx_cmp_d (fun z => h1 ((vl_I_inj (a := n) (b := 1) (by omega) (by decide)).mpr z)) (fun z => h3 ((vl_I_inj (a := n) (b := 2) (by omega) (by decide)).mpr z)) (fun z => h4 ((vl_I_inj (a := n) (b := 3) (by omega) (by decide)).mpr z)) (fun z => h6 ((vl_I_inj (a := n) (b := 4) (by omega) (by decide)).mpr z)) (fun z => h8 ((vl_I_inj (a := n) (b := 5) (by omega) (by decide)).mpr z)) (fun z => h10 ((vl_I_inj (a := n) (b := 6) (by omega) (by decide)).mpr z)) (fun z => h12 ((vl_I_inj (a := n) (b := 7) (by omega) (by decide)).mpr z)) (fun z => h14 ((vl_I_inj (a := n) (b := 10) (by omega) (by decide)).mpr z)) (fun z => h15 ((vl_I_inj (a := n) (b := 11) (by omega) (by decide)).mpr z)) (fun z => h17 ((vl_I_inj (a := n) (b := 12) (by omega) (by decide)).mpr z))] at hb
                        have hb := hb.trans vmb_7
                        rw [show b = true from hb.mpr h19] at hQ
                        exact hQ
theorem vc_holds {G : jv_G} {n : Nat} (hn : n < 256) {x y : Int64} {b : Bool} (hb : b = true ↔ vb_cmp (vx_cmp n) x.toBitVec y.toBitVec) {m sl : Nat} : jv_Ms 68 [.int (vl_I n), .long x, .long y] G m sl (some (.int (vr_b b)), G, m, sl) := by
  obtain ⟨X, k, e⟩ := vc_holds_0 (G := G) (m := m) (sl := sl) (Q := fun X => X = (some (.int (vr_b b)), G, m, sl)) hn hb rfl
  subst e
  exact k