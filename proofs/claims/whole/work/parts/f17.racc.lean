/-! part f17: jumps, loads, stores, atomics of the machine, of the reference (gen/tf17.py) -/
theorem vm_beq {b : Bool} {p : Prop} [Decidable p] (h : b = true ↔ p) : b = decide p := by
  cases b with
  | true => exact (decide_eq_true (h.mp rfl)).symm
  | false => exact (decide_eq_false (fun z => Bool.noConfusion (h.mpr z))).symm
abbrev vr_Ep (q f : Nat) : Prop := vr_Er q f ∨ (q = 178 ∧ f = 30)
theorem vm_r_nx {I : Nat → Nat → Int32} {L : Nat → Nat → Int64} {S : vm_S} {x : Int32} (h : vm_r I L S) : vm_r (jv_u I 178 30 x) L S := by
  have eI : ∀ q f, ¬ (q = 178 ∧ f = 30) → jv_u I 178 30 x q f = I q f := fun q f z => by rw [jv_u_at, if_neg z]
  obtain ⟨g1, g2, g3, g4, g5, g6, g7, g8, g9, g10⟩ := h
  refine ⟨⟨(eI 178 11 (by omega)).trans g1.1, g1.2⟩, fun j hj => ?_, g3, fun k hk => ?_, fun j hj => ?_, fun j h16 hj => ?_, fun j hj => ?_, fun k e hk h2 he => ?_, g9, ?_, fun k hk => ?_⟩
  · rw [eI 221 j (by omega)]; exact g2 j hj
  · rw [eI 223 k (by omega), eI 222 k (by omega)]; exact g4 k hk
  · rw [eI 218 j (by omega)]; exact g5 j hj
  · rw [eI 219 j (by omega)]; exact g6 j h16 hj
  · rw [eI 182 j (by omega)]; exact g7 j hj
  · rw [eI 224 _ (by omega)]; exact g8 k e hk h2 he
  · rw [eI 180 5 (by omega)]; exact g10.1
  · rw [eI 183 _ (by omega), eI 184 _ (by omega), eI 185 _ (by omega), eI 186 _ (by omega), eI 187 _ (by omega), eI 188 _ (by omega), eI 189 _ (by omega)]; exact g10.2 k hk
theorem vr_signed64i {G : jv_G} {v : Int64} {n sl : Nat} : jv_Ms 380 [.long v, .int (64 : Int32)] G n sl (some (.long v), G, n, sl) := vr_signed64 (v := v)
theorem jv_i392 : jv_I 392 5 (some .boolean) 1 23 jv_c392 := ⟨rfl, rfl, rfl, rfl, rfl⟩
theorem vr_isSo_0 {K : Nat → Option (Nat × Nat)} {I : Nat → Nat → Int32} {L : Nat → Nat → Int64} {R : Nat → Nat → Value} (hW : jv_rW K R) {f : vf_F} (D : vm_D I f) {x y : Int64} {b : Bool} (hb : b = true ↔ vb_cmp (vx_cmp f.n) x.toBitVec y.toBitVec) {n sl : Nat} {Q : jv_R → Prop} (hQ : Q (some (.int (vr_b b)), jv_H K I L R, n, sl)) : jv_Wp 392 0 [(0, .ref 178), (1, .long x), (3, .long y)] [] (jv_H K I L R) n sl Q := by
  have hn256 : f.n < 256 := by have : f.n = f.code / 16 := rfl; have := vr_dc D; omega
  refine jv_Wp.lift (fun _ Kz => jv_Ev.steps jv_i392 1 (pc' := 1) (l' := [(0, .ref 178), (1, .long x), (3, .long y)]) (st' := [.ref 178]) rfl Kz) ?_
  refine jv_Wp.lift (fun _ Kz => jv_Ev.c jv_i392 (pc' := 4) (S' := [.int (vl_I f.n)]) jv_i386 [.ref 178] rfl rfl rfl rfl (jv_cal rfl (jv_H_at (jv_rwK hW 178 14 31 (by decide))) rfl rfl) rfl (vr_mn hW D) rfl rfl Kz) ?_
  refine jv_Wp.bys (q := ((vl_I f.n) = Int32.ofInt 1)) (fun h1 => ?_) (fun h1 => ?_)
  · refine jv_Wp.lift (fun _ Kz => jv_Ev.br jv_i392 (pc' := 68) (st' := []) rfl (by rw [h1]; rfl) Kz) ?_
    refine jv_Wp.lift (fun _ Kz => jv_Ev.steps jv_i392 3 (pc' := 71) (l' := [(0, .ref 178), (1, .long x), (3, .long y)]) (st' := [.int (lg_cmp x y)]) rfl Kz) ?_
    refine jv_Wp.cnd jv_i392 (pt := 78) (pe := 74) (p := (¬ (lg_cmp x y) = 0)) (q := (¬ x = y)) rfl jv_bi_ne rfl rfl (not_congr (lg_cmp_eq x y)) (fun h2 => ?_) (fun h2 => ?_)
    · refine jv_Wp.lift (fun _ Kz => jv_Ev.steps jv_i392 1 (pc' := 79) (l' := [(0, .ref 178), (1, .long x), (3, .long y)]) (st' := [.int (0 : Int32)]) rfl Kz) ?_
      refine jv_Wp.of (jv_Ev.ret jv_i392 rfl (jv_ret_b (Or.inl rfl))) ?_
      have hn : f.n = 1 := (vl_I_inj (a := f.n) (b := 1) (by omega) (by decide)).mp h1
      rw [hn] at hb
      have hb : b = true ↔ vb_cmp 0 x.toBitVec y.toBitVec := hb
      have hb := hb.trans vmb_0
      rw [show b = false from by cases b with | false => rfl | true => exact absurd rfl (fun z => h2 (hb.mp z))] at hQ
      exact hQ
    · refine jv_Wp.lift (fun _ Kz => jv_Ev.steps jv_i392 2 (pc' := 79) (l' := [(0, .ref 178), (1, .long x), (3, .long y)]) (st' := [.int (1 : Int32)]) rfl Kz) ?_
      refine jv_Wp.of (jv_Ev.ret jv_i392 rfl (jv_ret_b (Or.inr rfl))) ?_
      have hn : f.n = 1 := (vl_I_inj (a := f.n) (b := 1) (by omega) (by decide)).mp h1
      rw [hn] at hb
      have hb : b = true ↔ vb_cmp 0 x.toBitVec y.toBitVec := hb
      have hb := hb.trans vmb_0
      rw [show b = true from hb.mpr (Classical.not_not.mp h2)] at hQ
      exact hQ
  · refine jv_Wp.bys (q := ((vl_I f.n) = Int32.ofInt 2)) (fun h3 => ?_) (fun h3 => ?_)
    · refine jv_Wp.lift (fun _ Kz => jv_Ev.br jv_i392 (pc' := 80) (st' := []) rfl (by rw [h3]; rfl) Kz) ?_
      refine jv_Wp.lift (fun _ Kz => jv_Ev.steps jv_i392 2 (pc' := 82) (l' := [(0, .ref 178), (1, .long x), (3, .long y)]) (st' := [.long x, .long y]) rfl Kz) ?_
      refine jv_Wp.lift (fun _ Kz => jv_Ev.c jv_i392 (pc' := 85) (S' := [.int (vr_b (decide (y.toBitVec < x.toBitVec)))]) jv_i376 [.long y, .long x] rfl rfl rfl rfl rfl rfl (vr_isLess (a := y) (b := x)) rfl rfl Kz) ?_
      refine jv_Wp.of (jv_Ev.ret jv_i392 rfl (jv_ret_b (vr_b01 _))) ?_
      have hn : f.n = 2 := (vl_I_inj (a := f.n) (b := 2) (by omega) (by decide)).mp h3
      rw [hn] at hb
      have hb : b = true ↔ vb_cmp 4 x.toBitVec y.toBitVec := hb
      have hb := hb.trans vmb_4
      rw [vm_beq hb] at hQ
      exact hQ
    · refine jv_Wp.bys (q := ((vl_I f.n) = Int32.ofInt 3)) (fun h4 => ?_) (fun h4 => ?_)
      · refine jv_Wp.lift (fun _ Kz => jv_Ev.br jv_i392 (pc' := 86) (st' := []) rfl (by rw [h4]; rfl) Kz) ?_
        refine jv_Wp.lift (fun _ Kz => jv_Ev.steps jv_i392 2 (pc' := 88) (l' := [(0, .ref 178), (1, .long x), (3, .long y)]) (st' := [.long y, .long x]) rfl Kz) ?_
        refine jv_Wp.lift (fun _ Kz => jv_Ev.c jv_i392 (pc' := 91) (S' := [.int (vr_b (decide (x.toBitVec < y.toBitVec)))]) jv_i376 [.long x, .long y] rfl rfl rfl rfl rfl rfl (vr_isLess (a := x) (b := y)) rfl rfl Kz) ?_
        refine jv_Wp.cnd jv_i392 (pt := 98) (pe := 94) (p := (¬ (vr_b (decide (x.toBitVec < y.toBitVec))) = 0)) (q := (¬ (vr_b (decide (x.toBitVec < y.toBitVec))) = 0)) rfl jv_bi_ne rfl rfl Iff.rfl (fun h5 => ?_) (fun h5 => ?_)
        · refine jv_Wp.lift (fun _ Kz => jv_Ev.steps jv_i392 1 (pc' := 99) (l' := [(0, .ref 178), (1, .long x), (3, .long y)]) (st' := [.int (0 : Int32)]) rfl Kz) ?_
          refine jv_Wp.of (jv_Ev.ret jv_i392 rfl (jv_ret_b (Or.inl rfl))) ?_
          have hn : f.n = 3 := (vl_I_inj (a := f.n) (b := 3) (by omega) (by decide)).mp h4
          rw [hn] at hb
          have hb : b = true ↔ vb_cmp 5 x.toBitVec y.toBitVec := hb
          have hb := hb.trans vmb_5
          rw [show b = false from by cases b with | false => rfl | true => exact absurd (of_decide_eq_true (vr_b_t h5)) (BitVec.not_lt.mpr (hb.mp rfl))] at hQ
          exact hQ
        · refine jv_Wp.lift (fun _ Kz => jv_Ev.steps jv_i392 2 (pc' := 99) (l' := [(0, .ref 178), (1, .long x), (3, .long y)]) (st' := [.int (1 : Int32)]) rfl Kz) ?_
          refine jv_Wp.of (jv_Ev.ret jv_i392 rfl (jv_ret_b (Or.inr rfl))) ?_
          have hn : f.n = 3 := (vl_I_inj (a := f.n) (b := 3) (by omega) (by decide)).mp h4
          rw [hn] at hb
          have hb : b = true ↔ vb_cmp 5 x.toBitVec y.toBitVec := hb
          have hb := hb.trans vmb_5
          rw [show b = true from hb.mpr (BitVec.not_lt.mp (of_decide_eq_false (vr_b_f (Classical.not_not.mp h5))))] at hQ
          exact hQ
      · refine jv_Wp.bys (q := ((vl_I f.n) = Int32.ofInt 4)) (fun h6 => ?_) (fun h6 => ?_)
        · refine jv_Wp.lift (fun _ Kz => jv_Ev.br jv_i392 (pc' := 100) (st' := []) rfl (by rw [h6]; rfl) Kz) ?_
          refine jv_Wp.lift (fun _ Kz => jv_Ev.steps jv_i392 5 (pc' := 105) (l' := [(0, .ref 178), (1, .long x), (3, .long y)]) (st' := [.int (lg_cmp (x &&& y) (0 : Int64))]) rfl Kz) ?_
          refine jv_Wp.cnd jv_i392 (pt := 112) (pe := 108) (p := ((lg_cmp (x &&& y) (0 : Int64)) = 0)) (q := ((x &&& y) = (0 : Int64))) rfl jv_bi_eq rfl rfl (lg_cmp_eq (x &&& y) (0 : Int64)) (fun h7 => ?_) (fun h7 => ?_)
          · refine jv_Wp.lift (fun _ Kz => jv_Ev.steps jv_i392 1 (pc' := 113) (l' := [(0, .ref 178), (1, .long x), (3, .long y)]) (st' := [.int (0 : Int32)]) rfl Kz) ?_
            refine jv_Wp.of (jv_Ev.ret jv_i392 rfl (jv_ret_b (Or.inl rfl))) ?_
            have hn : f.n = 4 := (vl_I_inj (a := f.n) (b := 4) (by omega) (by decide)).mp h6
            rw [hn] at hb
            have hb : b = true ↔ vb_cmp 10 x.toBitVec y.toBitVec := hb
            have hb := hb.trans vmb_10
            rw [show b = false from by cases b with | false => rfl | true => exact absurd rfl (fun z => (hb.mp z) h7)] at hQ
            exact hQ
          · refine jv_Wp.lift (fun _ Kz => jv_Ev.steps jv_i392 2 (pc' := 113) (l' := [(0, .ref 178), (1, .long x), (3, .long y)]) (st' := [.int (1 : Int32)]) rfl Kz) ?_
            refine jv_Wp.of (jv_Ev.ret jv_i392 rfl (jv_ret_b (Or.inr rfl))) ?_
            have hn : f.n = 4 := (vl_I_inj (a := f.n) (b := 4) (by omega) (by decide)).mp h6
            rw [hn] at hb
            have hb : b = true ↔ vb_cmp 10 x.toBitVec y.toBitVec := hb
            have hb := hb.trans vmb_10
            rw [show b = true from hb.mpr h7] at hQ
            exact hQ
        · refine jv_Wp.bys (q := ((vl_I f.n) = Int32.ofInt 5)) (fun h8 => ?_) (fun h8 => ?_)
          · refine jv_Wp.lift (fun _ Kz => jv_Ev.br jv_i392 (pc' := 114) (st' := []) rfl (by rw [h8]; rfl) Kz) ?_
            refine jv_Wp.lift (fun _ Kz => jv_Ev.steps jv_i392 3 (pc' := 117) (l' := [(0, .ref 178), (1, .long x), (3, .long y)]) (st' := [.int (lg_cmp x y)]) rfl Kz) ?_
            refine jv_Wp.cnd jv_i392 (pt := 124) (pe := 120) (p := ((lg_cmp x y) = 0)) (q := (x = y)) rfl jv_bi_eq rfl rfl (lg_cmp_eq x y) (fun h9 => ?_) (fun h9 => ?_)
            · refine jv_Wp.lift (fun _ Kz => jv_Ev.steps jv_i392 1 (pc' := 125) (l' := [(0, .ref 178), (1, .long x), (3, .long y)]) (st' := [.int (0 : Int32)]) rfl Kz) ?_
              refine jv_Wp.of (jv_Ev.ret jv_i392 rfl (jv_ret_b (Or.inl rfl))) ?_
              have hn : f.n = 5 := (vl_I_inj (a := f.n) (b := 5) (by omega) (by decide)).mp h8
              rw [hn] at hb
              have hb : b = true ↔ vb_cmp 1 x.toBitVec y.toBitVec := hb
              have hb := hb.trans vmb_1
              rw [show b = false from by cases b with | false => rfl | true => exact absurd rfl (fun z => (hb.mp z) h9)] at hQ
              exact hQ
            · refine jv_Wp.lift (fun _ Kz => jv_Ev.steps jv_i392 2 (pc' := 125) (l' := [(0, .ref 178), (1, .long x), (3, .long y)]) (st' := [.int (1 : Int32)]) rfl Kz) ?_
              refine jv_Wp.of (jv_Ev.ret jv_i392 rfl (jv_ret_b (Or.inr rfl))) ?_
              have hn : f.n = 5 := (vl_I_inj (a := f.n) (b := 5) (by omega) (by decide)).mp h8
              rw [hn] at hb
              have hb : b = true ↔ vb_cmp 1 x.toBitVec y.toBitVec := hb
              have hb := hb.trans vmb_1
              rw [show b = true from hb.mpr h9] at hQ
              exact hQ
          · refine jv_Wp.bys (q := ((vl_I f.n) = Int32.ofInt 6)) (fun h10 => ?_) (fun h10 => ?_)
            · refine jv_Wp.lift (fun _ Kz => jv_Ev.br jv_i392 (pc' := 126) (st' := []) rfl (by rw [h10]; rfl) Kz) ?_
              refine jv_Wp.lift (fun _ Kz => jv_Ev.steps jv_i392 3 (pc' := 129) (l' := [(0, .ref 178), (1, .long x), (3, .long y)]) (st' := [.int (lg_cmp x y)]) rfl Kz) ?_
              refine jv_Wp.cnd jv_i392 (pt := 136) (pe := 132) (p := ((lg_cmp x y) ≤ 0)) (q := (x ≤ y)) rfl jv_bi_le rfl rfl (lg_cmp_le x y) (fun h11 => ?_) (fun h11 => ?_)
              · refine jv_Wp.lift (fun _ Kz => jv_Ev.steps jv_i392 1 (pc' := 137) (l' := [(0, .ref 178), (1, .long x), (3, .long y)]) (st' := [.int (0 : Int32)]) rfl Kz) ?_
                refine jv_Wp.of (jv_Ev.ret jv_i392 rfl (jv_ret_b (Or.inl rfl))) ?_
                have hn : f.n = 6 := (vl_I_inj (a := f.n) (b := 6) (by omega) (by decide)).mp h10
                rw [hn] at hb
                have hb : b = true ↔ vb_cmp 8 x.toBitVec y.toBitVec := hb
                have hb := hb.trans vmb_8
                rw [show b = false from by cases b with | false => rfl | true => exact absurd rfl (fun z => (hb.mp z) h11)] at hQ
                exact hQ
              · refine jv_Wp.lift (fun _ Kz => jv_Ev.steps jv_i392 2 (pc' := 137) (l' := [(0, .ref 178), (1, .long x), (3, .long y)]) (st' := [.int (1 : Int32)]) rfl Kz) ?_
                refine jv_Wp.of (jv_Ev.ret jv_i392 rfl (jv_ret_b (Or.inr rfl))) ?_
                have hn : f.n = 6 := (vl_I_inj (a := f.n) (b := 6) (by omega) (by decide)).mp h10
                rw [hn] at hb
                have hb : b = true ↔ vb_cmp 8 x.toBitVec y.toBitVec := hb
                have hb := hb.trans vmb_8
                rw [show b = true from hb.mpr h11] at hQ
                exact hQ
            · refine jv_Wp.bys (q := ((vl_I f.n) = Int32.ofInt 7)) (fun h12 => ?_) (fun h12 => ?_)
              · refine jv_Wp.lift (fun _ Kz => jv_Ev.br jv_i392 (pc' := 138) (st' := []) rfl (by rw [h12]; rfl) Kz) ?_
                refine jv_Wp.lift (fun _ Kz => jv_Ev.steps jv_i392 3 (pc' := 141) (l' := [(0, .ref 178), (1, .long x), (3, .long y)]) (st' := [.int (lg_cmp x y)]) rfl Kz) ?_
                refine jv_Wp.cnd jv_i392 (pt := 148) (pe := 144) (p := ((lg_cmp x y) < 0)) (q := (x < y)) rfl jv_bi_lt rfl rfl (lg_cmp_lt x y) (fun h13 => ?_) (fun h13 => ?_)
                · refine jv_Wp.lift (fun _ Kz => jv_Ev.steps jv_i392 1 (pc' := 149) (l' := [(0, .ref 178), (1, .long x), (3, .long y)]) (st' := [.int (0 : Int32)]) rfl Kz) ?_
                  refine jv_Wp.of (jv_Ev.ret jv_i392 rfl (jv_ret_b (Or.inl rfl))) ?_
                  have hn : f.n = 7 := (vl_I_inj (a := f.n) (b := 7) (by omega) (by decide)).mp h12
                  rw [hn] at hb
                  have hb : b = true ↔ vb_cmp 9 x.toBitVec y.toBitVec := hb
                  have hb := hb.trans vmb_9
                  rw [show b = false from by cases b with | false => rfl | true => exact absurd rfl (fun z => (hb.mp z) h13)] at hQ
                  exact hQ
                · refine jv_Wp.lift (fun _ Kz => jv_Ev.steps jv_i392 2 (pc' := 149) (l' := [(0, .ref 178), (1, .long x), (3, .long y)]) (st' := [.int (1 : Int32)]) rfl Kz) ?_
                  refine jv_Wp.of (jv_Ev.ret jv_i392 rfl (jv_ret_b (Or.inr rfl))) ?_
                  have hn : f.n = 7 := (vl_I_inj (a := f.n) (b := 7) (by omega) (by decide)).mp h12
                  rw [hn] at hb
                  have hb : b = true ↔ vb_cmp 9 x.toBitVec y.toBitVec := hb
                  have hb := hb.trans vmb_9
                  rw [show b = true from hb.mpr h13] at hQ
                  exact hQ
              · refine jv_Wp.bys (q := ((vl_I f.n) = Int32.ofInt 10)) (fun h14 => ?_) (fun h14 => ?_)
                · refine jv_Wp.lift (fun _ Kz => jv_Ev.br jv_i392 (pc' := 150) (st' := []) rfl (by rw [h14]; rfl) Kz) ?_
                  refine jv_Wp.lift (fun _ Kz => jv_Ev.steps jv_i392 2 (pc' := 152) (l' := [(0, .ref 178), (1, .long x), (3, .long y)]) (st' := [.long y, .long x]) rfl Kz) ?_
                  refine jv_Wp.lift (fun _ Kz => jv_Ev.c jv_i392 (pc' := 155) (S' := [.int (vr_b (decide (x.toBitVec < y.toBitVec)))]) jv_i376 [.long x, .long y] rfl rfl rfl rfl rfl rfl (vr_isLess (a := x) (b := y)) rfl rfl Kz) ?_
                  refine jv_Wp.of (jv_Ev.ret jv_i392 rfl (jv_ret_b (vr_b01 _))) ?_
                  have hn : f.n = 10 := (vl_I_inj (a := f.n) (b := 10) (by omega) (by decide)).mp h14
                  rw [hn] at hb
                  have hb : b = true ↔ vb_cmp 2 x.toBitVec y.toBitVec := hb
                  have hb := hb.trans vmb_2
                  rw [vm_beq hb] at hQ
                  exact hQ
                · refine jv_Wp.bys (q := ((vl_I f.n) = Int32.ofInt 11)) (fun h15 => ?_) (fun h15 => ?_)
                  · refine jv_Wp.lift (fun _ Kz => jv_Ev.br jv_i392 (pc' := 156) (st' := []) rfl (by rw [h15]; rfl) Kz) ?_
                    refine jv_Wp.lift (fun _ Kz => jv_Ev.steps jv_i392 2 (pc' := 158) (l' := [(0, .ref 178), (1, .long x), (3, .long y)]) (st' := [.long x, .long y]) rfl Kz) ?_
                    refine jv_Wp.lift (fun _ Kz => jv_Ev.c jv_i392 (pc' := 161) (S' := [.int (vr_b (decide (y.toBitVec < x.toBitVec)))]) jv_i376 [.long y, .long x] rfl rfl rfl rfl rfl rfl (vr_isLess (a := y) (b := x)) rfl rfl Kz) ?_
                    refine jv_Wp.cnd jv_i392 (pt := 168) (pe := 164) (p := (¬ (vr_b (decide (y.toBitVec < x.toBitVec))) = 0)) (q := (¬ (vr_b (decide (y.toBitVec < x.toBitVec))) = 0)) rfl jv_bi_ne rfl rfl Iff.rfl (fun h16 => ?_) (fun h16 => ?_)
                    · refine jv_Wp.lift (fun _ Kz => jv_Ev.steps jv_i392 1 (pc' := 169) (l' := [(0, .ref 178), (1, .long x), (3, .long y)]) (st' := [.int (0 : Int32)]) rfl Kz) ?_
                      refine jv_Wp.of (jv_Ev.ret jv_i392 rfl (jv_ret_b (Or.inl rfl))) ?_
                      have hn : f.n = 11 := (vl_I_inj (a := f.n) (b := 11) (by omega) (by decide)).mp h15
                      rw [hn] at hb
                      have hb : b = true ↔ vb_cmp 3 x.toBitVec y.toBitVec := hb
                      have hb := hb.trans vmb_3
                      rw [show b = false from by cases b with | false => rfl | true => exact absurd (of_decide_eq_true (vr_b_t h16)) (BitVec.not_lt.mpr (hb.mp rfl))] at hQ
                      exact hQ
                    · refine jv_Wp.lift (fun _ Kz => jv_Ev.steps jv_i392 2 (pc' := 169) (l' := [(0, .ref 178), (1, .long x), (3, .long y)]) (st' := [.int (1 : Int32)]) rfl Kz) ?_
                      refine jv_Wp.of (jv_Ev.ret jv_i392 rfl (jv_ret_b (Or.inr rfl))) ?_
                      have hn : f.n = 11 := (vl_I_inj (a := f.n) (b := 11) (by omega) (by decide)).mp h15
                      rw [hn] at hb
                      have hb : b = true ↔ vb_cmp 3 x.toBitVec y.toBitVec := hb
                      have hb := hb.trans vmb_3
                      rw [show b = true from hb.mpr (BitVec.not_lt.mp (of_decide_eq_false (vr_b_f (Classical.not_not.mp h16))))] at hQ
                      exact hQ
                  · refine jv_Wp.bys (q := ((vl_I f.n) = Int32.ofInt 12)) (fun h17 => ?_) (fun h17 => ?_)
                    · refine jv_Wp.lift (fun _ Kz => jv_Ev.br jv_i392 (pc' := 170) (st' := []) rfl (by rw [h17]; rfl) Kz) ?_
                      refine jv_Wp.lift (fun _ Kz => jv_Ev.steps jv_i392 3 (pc' := 173) (l' := [(0, .ref 178), (1, .long x), (3, .long y)]) (st' := [.int (lg_cmp x y)]) rfl Kz) ?_
                      refine jv_Wp.cnd jv_i392 (pt := 180) (pe := 176) (p := (0 ≤ (lg_cmp x y))) (q := (y ≤ x)) rfl jv_bi_ge rfl rfl (lg_cmp_ge x y) (fun h18 => ?_) (fun h18 => ?_)
                      · refine jv_Wp.lift (fun _ Kz => jv_Ev.steps jv_i392 1 (pc' := 181) (l' := [(0, .ref 178), (1, .long x), (3, .long y)]) (st' := [.int (0 : Int32)]) rfl Kz) ?_
                        refine jv_Wp.of (jv_Ev.ret jv_i392 rfl (jv_ret_b (Or.inl rfl))) ?_
                        have hn : f.n = 12 := (vl_I_inj (a := f.n) (b := 12) (by omega) (by decide)).mp h17
                        rw [hn] at hb
                        have hb : b = true ↔ vb_cmp 6 x.toBitVec y.toBitVec := hb
                        have hb := hb.trans vmb_6
                        rw [show b = false from by cases b with | false => rfl | true => exact absurd rfl (fun z => (hb.mp z) h18)] at hQ
                        exact hQ
                      · refine jv_Wp.lift (fun _ Kz => jv_Ev.steps jv_i392 2 (pc' := 181) (l' := [(0, .ref 178), (1, .long x), (3, .long y)]) (st' := [.int (1 : Int32)]) rfl Kz) ?_
                        refine jv_Wp.of (jv_Ev.ret jv_i392 rfl (jv_ret_b (Or.inr rfl))) ?_
                        have hn : f.n = 12 := (vl_I_inj (a := f.n) (b := 12) (by omega) (by decide)).mp h17
                        rw [hn] at hb
                        have hb : b = true ↔ vb_cmp 6 x.toBitVec y.toBitVec := hb
                        have hb := hb.trans vmb_6
                        rw [show b = true from hb.mpr h18] at hQ
                        exact hQ
                    · refine jv_Wp.lift (fun _ Kz => jv_Ev.br jv_i392 (pc' := 182) (st' := []) rfl (jv_tsw_def (fun i hi h => by match i, hi, h with 
                            | 0, _, h => exact absurd h (jv_ne_toInt (k := 1) h1) 
                            | 1, _, h => exact absurd h (jv_ne_toInt (k := 2) h3) 
                            | 2, _, h => exact absurd h (jv_ne_toInt (k := 3) h4) 
                            | 3, _, h => exact absurd h (jv_ne_toInt (k := 4) h6) 
                            | 4, _, h => exact absurd h (jv_ne_toInt (k := 5) h8) 
                            | 5, _, h => exact absurd h (jv_ne_toInt (k := 6) h10) 
                            | 6, _, h => exact absurd h (jv_ne_toInt (k := 7) h12) 
                            | 7, _, _ => rfl 
                            | 8, _, _ => rfl 
                            | 9, _, h => exact absurd h (jv_ne_toInt (k := 10) h14) 
                            | 10, _, h => exact absurd h (jv_ne_toInt (k := 11) h15) 
                            | 11, _, h => exact absurd h (jv_ne_toInt (k := 12) h17) 
                            | i + 12, hi, _ => exact absurd hi (by simp)) rfl) Kz) ?_
                      refine jv_Wp.lift (fun _ Kz => jv_Ev.steps jv_i392 3 (pc' := 185) (l' := [(0, .ref 178), (1, .long x), (3, .long y)]) (st' := [.int (lg_cmp x y)]) rfl Kz) ?_
                      refine jv_Wp.cnd jv_i392 (pt := 192) (pe := 188) (p := (0 < (lg_cmp x y))) (q := (y < x)) rfl jv_bi_gt rfl rfl (lg_cmp_gt x y) (fun h19 => ?_) (fun h19 => ?_)
                      · refine jv_Wp.lift (fun _ Kz => jv_Ev.steps jv_i392 1 (pc' := 193) (l' := [(0, .ref 178), (1, .long x), (3, .long y)]) (st' := [.int (0 : Int32)]) rfl Kz) ?_
                        refine jv_Wp.of (jv_Ev.ret jv_i392 rfl (jv_ret_b (Or.inl rfl))) ?_
                        rw [vx_cmp_d (fun z => h1 ((vl_I_inj (a := f.n) (b := 1) (by omega) (by decide)).mpr z)) (fun z => h3 ((vl_I_inj (a := f.n) (b := 2) (by omega) (by decide)).mpr z)) (fun z => h4 ((vl_I_inj (a := f.n) (b := 3) (by omega) (by decide)).mpr z)) (fun z => h6 ((vl_I_inj (a := f.n) (b := 4) (by omega) (by decide)).mpr z)) (fun z => h8 ((vl_I_inj (a := f.n) (b := 5) (by omega) (by decide)).mpr z)) (fun z => h10 ((vl_I_inj (a := f.n) (b := 6) (by omega) (by decide)).mpr z)) (fun z => h12 ((vl_I_inj (a := f.n) (b := 7) (by omega) (by decide)).mpr z)) (fun z => h14 ((vl_I_inj (a := f.n) (b := 10) (by omega) (by decide)).mpr z)) (fun z => h15 ((vl_I_inj (a := f.n) (b := 11) (by omega) (by decide)).mpr z)) (fun z => h17 ((vl_I_inj (a := f.n) (b := 12) (by omega) (by decide)).mpr z))] at hb
                        have hb := hb.trans vmb_7
                        rw [show b = false from by cases b with | false => rfl | true => exact absurd rfl (fun z => (hb.mp z) h19)] at hQ
                        exact hQ
                      · refine jv_Wp.lift (fun _ Kz => jv_Ev.steps jv_i392 2 (pc' := 193) (l' := [(0, .ref 178), (1, .long x), (3, .long y)]) (st' := [.int (1 : Int32)]) rfl Kz) ?_
                        refine jv_Wp.of (jv_Ev.ret jv_i392 rfl (jv_ret_b (Or.inr rfl))) ?_
                        rw [vx_cmp_d (fun z => h1 ((vl_I_inj (a := f.n) (b := 1) (by omega) (by decide)).mpr z)) (fun z => h3 ((vl_I_inj (a := f.n) (b := 2) (by omega) (by decide)).mpr z)) (fun z => h4 ((vl_I_inj (a := f.n) (b := 3) (by omega) (by decide)).mpr z)) (fun z => h6 ((vl_I_inj (a := f.n) (b := 4) (by omega) (by decide)).mpr z)) (fun z => h8 ((vl_I_inj (a := f.n) (b := 5) (by omega) (by decide)).mpr z)) (fun z => h10 ((vl_I_inj (a := f.n) (b := 6) (by omega) (by decide)).mpr z)) (fun z => h12 ((vl_I_inj (a := f.n) (b := 7) (by omega) (by decide)).mpr z)) (fun z => h14 ((vl_I_inj (a := f.n) (b := 10) (by omega) (by decide)).mpr z)) (fun z => h15 ((vl_I_inj (a := f.n) (b := 11) (by omega) (by decide)).mpr z)) (fun z => h17 ((vl_I_inj (a := f.n) (b := 12) (by omega) (by decide)).mpr z))] at hb
                        have hb := hb.trans vmb_7
                        rw [show b = true from hb.mpr h19] at hQ
                        exact hQ
theorem vr_isSo {K : Nat → Option (Nat × Nat)} {I : Nat → Nat → Int32} {L : Nat → Nat → Int64} {R : Nat → Nat → Value} (hW : jv_rW K R) {f : vf_F} (D : vm_D I f) {x y : Int64} {b : Bool} (hb : b = true ↔ vb_cmp (vx_cmp f.n) x.toBitVec y.toBitVec) {n sl : Nat} : jv_Ms 392 [.ref 178, .long x, .long y] (jv_H K I L R) n sl (some (.int (vr_b b)), jv_H K I L R, n, sl) := by
  obtain ⟨X, k, e⟩ := vr_isSo_0 (n := n) (sl := sl) (I := I) (L := L) (Q := fun X => X = (some (.int (vr_b b)), jv_H K I L R, n, sl)) hW D hb rfl
  subst e
  exact k
theorem jv_i393 : jv_I 393 7 none 2 47 jv_c393 := ⟨rfl, rfl, rfl, rfl, rfl⟩
theorem vr_jump5r {K : Nat → Option (Nat × Nat)} {I : Nat → Nat → Int32} {L : Nat → Nat → Int64} {R : Nat → Nat → Value} (hW : jv_rW K R) {S T : vm_S} (eT : S = T) (h : vm_r I L S) {f : vf_F} (D : vm_D I f) (hd : f.d < 11) (hs : f.s < 11) {p : Nat} (hp : p < 1024) (hnx : I 178 30 = vl_I (p + 1)) {g : Int} (h0 : 0 ≤ g ∧ g ≤ 1024) (hn : f.n ≠ 0) (hk : f.kind = 5) (hb3 : f.bit3 = true) (hl : vm_jump f p S = some g) {n sl : Nat} : ∃ I1 L1, jv_Ms 393 [.ref 178, .int (vl_I p)] (jv_H K I L R) n sl (none, jv_H K I1 L1 R, n, sl) ∧ vm_r I1 L1 T ∧ I1 178 30 = vl_I g.toNat ∧ vc_ff vr_Ep I L I1 L1 := by
  obtain ⟨Q, hQ⟩ : ∃ Q : jv_R → Prop, Q = fun X => ∃ I1 L1, X = (none, jv_H K I1 L1 R, n, sl) ∧ vm_r I1 L1 T ∧ I1 178 30 = vl_I g.toNat ∧ vc_ff vr_Ep I L I1 L1 := ⟨_, rfl⟩
  suffices hE : jv_Wp 393 0 [(0, .ref 178), (1, .int (vl_I p))] [] (jv_H K I L R) n sl Q by
    rw [hQ] at hE
    obtain ⟨X, hE, I1, L1, e, h'⟩ := hE
    subst e
    exact ⟨I1, L1, hE, h'⟩
  subst eT
  obtain ⟨xd, y, hgd, hy, hG⟩ := vm_jump_dec hl
  have hn0 : ¬ (vl_I f.n) = 0 := fun z => hn ((vl_I_inj (a := f.n) (b := 0) (by have : f.n = f.code / 16 := rfl; have := vr_dc D; omega) (by decide)).mp z)
  rw [if_pos hb3] at hy
  obtain ⟨xs, exs⟩ : ∃ xs, xs = y := ⟨y, rfl⟩
  have hgs : vm_rd S f.s = some xs := exs ▸ hy
  have hso : vm_so f xd.toBitVec y.toBitVec = true ↔ vb_cmp (vx_cmp f.n) (xd).toBitVec (xs).toBitVec := by
    rw [vm_so_iff]
    rw [if_pos hk, if_pos hk, exs]
  refine jv_Wp.lift (fun _ Kz => jv_Ev.steps jv_i393 1 (pc' := 1) (l' := [(0, .ref 178), (1, .int (vl_I p))]) (st' := [.ref 178]) rfl Kz) ?_
  refine jv_Wp.lift (fun _ Kz => jv_Ev.c jv_i393 (pc' := 4) (S' := [.int (vl_I f.n)]) jv_i386 [.ref 178] rfl rfl rfl rfl (jv_cal rfl (jv_H_at (jv_rwK hW 178 14 31 (by decide))) rfl rfl) rfl (vr_mn hW D) rfl rfl Kz) ?_
  refine jv_Wp.cnd jv_i393 (pt := 36) (pe := 7) (p := (¬ (vl_I f.n) = 0)) (q := (¬ (vl_I f.n) = 0)) rfl jv_bi_ne rfl rfl Iff.rfl (fun _ => ?_) (fun hz => absurd hn0 hz)
  refine jv_Wp.lift (fun _ Kz => jv_Ev.steps jv_i393 1 (pc' := 37) (l' := [(0, .ref 178), (1, .int (vl_I p))]) (st' := [.ref 178]) rfl Kz) ?_
  refine jv_Wp.lift (fun _ Kz => jv_Ev.c jv_i393 (pc' := 40) (S' := [.int (5 : Int32)]) jv_i385 [.ref 178] rfl rfl rfl rfl (jv_cal rfl (jv_H_at (jv_rwK hW 178 14 31 (by decide))) rfl rfl) rfl (by have z := vr_mkind (L := L) (n := n) (sl := sl) hW D; rw [hk] at z; exact z) rfl rfl Kz) ?_
  refine jv_Wp.lift (fun _ Kz => jv_Ev.steps jv_i393 1 (pc' := 41) (l' := [(0, .ref 178), (1, .int (vl_I p))]) (st' := [.int (5 : Int32), .int (5 : Int32)]) rfl Kz) ?_
  refine jv_Wp.lift (fun _ Kz => jv_Ev.br jv_i393 (pc' := 44) (st' := []) rfl (by rfl) Kz) ?_
  refine jv_Wp.lift (fun _ Kz => jv_Ev.steps jv_i393 5 (pc' := 54) (l' := [(2, .int (64 : Int32)), (0, .ref 178), (1, .int (vl_I p))]) (st' := [.ref 178, .ref 178]) rfl Kz) ?_
  refine jv_Wp.lift (fun _ Kz => jv_Ev.m jv_i393 (pc' := 57) (st' := [.int (vl_I f.d), .ref 178]) (G' := (jv_H K I L R)) rfl rfl (jv_m_getI (jv_rwK hW 178 14 31 (by decide)) rfl rfl (vm_d_d D)) Kz) ?_
  refine jv_Wp.lift (fun _ Kz => jv_Ev.c jv_i393 (pc' := 60) (S' := [.long xd]) jv_i374 [.ref 178, .int (vl_I f.d)] rfl rfl rfl rfl (jv_cal rfl (jv_H_at (jv_rwK hW 178 14 31 (by decide))) rfl rfl) rfl (vr_readR hW h hd hgd) rfl rfl Kz) ?_
  refine jv_Wp.lift (fun _ Kz => jv_Ev.steps jv_i393 1 (pc' := 61) (l' := [(2, .int (64 : Int32)), (0, .ref 178), (1, .int (vl_I p))]) (st' := [.int (64 : Int32), .long xd]) rfl Kz) ?_
  refine jv_Wp.lift (fun _ Kz => jv_Ev.c jv_i393 (pc' := 64) (S' := [.long xd]) jv_i380 [.long xd, .int (64 : Int32)] rfl rfl rfl rfl rfl rfl (vr_signed64i (v := xd)) rfl rfl Kz) ?_
  refine jv_Wp.lift (fun _ Kz => jv_Ev.steps jv_i393 2 (pc' := 66) (l' := [(3, .long xd), (2, .int (64 : Int32)), (0, .ref 178), (1, .int (vl_I p))]) (st' := [.ref 178]) rfl Kz) ?_
  refine jv_Wp.lift (fun _ Kz => jv_Ev.c jv_i393 (pc' := 69) (S' := [.int (1 : Int32)]) jv_i387 [.ref 178] rfl rfl rfl rfl (jv_cal rfl (jv_H_at (jv_rwK hW 178 14 31 (by decide))) rfl rfl) rfl (by have z := vr_mbit3 (L := L) (n := n) (sl := sl) hW D; rw [hb3] at z; exact z) rfl rfl Kz) ?_
  refine jv_Wp.lift (fun _ Kz => jv_Ev.br jv_i393 (pc' := 72) (st' := []) rfl (by rfl) Kz) ?_
  refine jv_Wp.lift (fun _ Kz => jv_Ev.steps jv_i393 2 (pc' := 74) (l' := [(3, .long xd), (2, .int (64 : Int32)), (0, .ref 178), (1, .int (vl_I p))]) (st' := [.ref 178, .ref 178]) rfl Kz) ?_
  refine jv_Wp.lift (fun _ Kz => jv_Ev.m jv_i393 (pc' := 77) (st' := [.int (vl_I f.s), .ref 178]) (G' := (jv_H K I L R)) rfl rfl (jv_m_getI (jv_rwK hW 178 14 31 (by decide)) rfl rfl (vm_d_s D)) Kz) ?_
  refine jv_Wp.lift (fun _ Kz => jv_Ev.c jv_i393 (pc' := 80) (S' := [.long xs]) jv_i374 [.ref 178, .int (vl_I f.s)] rfl rfl rfl rfl (jv_cal rfl (jv_H_at (jv_rwK hW 178 14 31 (by decide))) rfl rfl) rfl (vr_readR hW h hs hgs) rfl rfl Kz) ?_
  refine jv_Wp.lift (fun _ Kz => jv_Ev.steps jv_i393 2 (pc' := 89) (l' := [(3, .long xd), (2, .int (64 : Int32)), (0, .ref 178), (1, .int (vl_I p))]) (st' := [.int (64 : Int32), .long xs]) rfl Kz) ?_
  refine jv_Wp.lift (fun _ Kz => jv_Ev.c jv_i393 (pc' := 92) (S' := [.long xs]) jv_i380 [.long xs, .int (64 : Int32)] rfl rfl rfl rfl rfl rfl (vr_signed64i (v := xs)) rfl rfl Kz) ?_
  refine jv_Wp.lift (fun _ Kz => jv_Ev.steps jv_i393 5 (pc' := 99) (l' := [(5, .long xs), (3, .long xd), (2, .int (64 : Int32)), (0, .ref 178), (1, .int (vl_I p))]) (st' := [.long xs, .long xd, .ref 178, .ref 178]) rfl Kz) ?_
  refine jv_Wp.lift (fun _ Kz => jv_Ev.c jv_i393 (pc' := 102) (S' := [.int (vr_b (vm_so f xd.toBitVec y.toBitVec)), .ref 178]) jv_i392 [.ref 178, .long xd, .long xs] rfl rfl rfl rfl (jv_cal rfl (jv_H_at (jv_rwK hW 178 14 31 (by decide))) rfl rfl) rfl (vr_isSo hW D hso) rfl rfl Kz) ?_
  refine jv_Wp.cnd jv_i393 (pt := 116) (pe := 105) (p := ((vr_b (vm_so f xd.toBitVec y.toBitVec)) = 0)) (q := ((vr_b (vm_so f xd.toBitVec y.toBitVec)) = 0)) rfl jv_bi_eq rfl rfl Iff.rfl (fun h1 => ?_) (fun h1 => ?_)
  · refine jv_Wp.lift (fun _ Kz => jv_Ev.steps jv_i393 1 (pc' := 117) (l' := [(5, .long xs), (3, .long xd), (2, .int (64 : Int32)), (0, .ref 178), (1, .int (vl_I p))]) (st' := [.ref 178, .ref 178]) rfl Kz) ?_
    refine jv_Wp.lift (fun _ Kz => jv_Ev.m jv_i393 (pc' := 120) (st' := [.int (I 178 30), .ref 178]) (G' := (jv_H K I L R)) rfl rfl (jv_m_getI (jv_rwK hW 178 14 31 (by decide)) rfl rfl rfl) Kz) ?_
    refine jv_Wp.lift (fun _ Kz => jv_Ev.m jv_i393 (pc' := 123) (st' := []) (G' := (jv_H K (jv_u I 178 30 (I 178 30)) L R)) rfl rfl (jv_m_putI (jv_rwK hW 178 14 31 (by decide)) rfl rfl rfl rfl) Kz) ?_
    refine jv_Wp.of (jv_Ev.ret jv_i393 rfl rfl) ?_
    have so : vm_so f xd.toBitVec y.toBitVec = false := vr_b_f h1
    rw [if_neg (by rw [so]; decide)] at hG
    rw [hQ]
    refine ⟨_, _, rfl, vm_r_nx h, ?_, vc_ff_u (Or.inr ⟨rfl, rfl⟩)⟩
    rw [jv_u_self, hnx]
    congr 1
    omega
  · refine jv_Wp.lift (fun _ Kz => jv_Ev.steps jv_i393 4 (pc' := 109) (l' := [(5, .long xs), (3, .long xd), (2, .int (64 : Int32)), (0, .ref 178), (1, .int (vl_I p))]) (st' := [.ref 178, .int ((vl_I p) + (1 : Int32)), .ref 178]) rfl Kz) ?_
    refine jv_Wp.lift (fun _ Kz => jv_Ev.m jv_i393 (pc' := 112) (st' := [.int (Int32.ofInt f.o), .int ((vl_I p) + (1 : Int32)), .ref 178]) (G' := (jv_H K I L R)) rfl rfl (jv_m_getI (jv_rwK hW 178 14 31 (by decide)) rfl rfl (vm_d_o D)) Kz) ?_
    refine jv_Wp.lift (fun _ Kz => jv_Ev.steps jv_i393 2 (pc' := 120) (l' := [(5, .long xs), (3, .long xd), (2, .int (64 : Int32)), (0, .ref 178), (1, .int (vl_I p))]) (st' := [.int (((vl_I p) + (1 : Int32)) + (Int32.ofInt f.o)), .ref 178]) rfl Kz) ?_
    refine jv_Wp.lift (fun _ Kz => jv_Ev.m jv_i393 (pc' := 123) (st' := []) (G' := (jv_H K (jv_u I 178 30 (((vl_I p) + (1 : Int32)) + (Int32.ofInt f.o))) L R)) rfl rfl (jv_m_putI (jv_rwK hW 178 14 31 (by decide)) rfl rfl rfl rfl) Kz) ?_
    refine jv_Wp.of (jv_Ev.ret jv_i393 rfl rfl) ?_
    have so : vm_so f xd.toBitVec y.toBitVec = true := vr_b_t h1
    rw [if_pos so] at hG
    rw [hQ]
    refine ⟨_, _, rfl, vm_r_nx h, ?_, vc_ff_u (Or.inr ⟨rfl, rfl⟩)⟩
    rw [jv_u_self, vl_I_p1]
    exact vm_goal (vr_dO D) hG h0 hp
theorem vr_jump5i {K : Nat → Option (Nat × Nat)} {I : Nat → Nat → Int32} {L : Nat → Nat → Int64} {R : Nat → Nat → Value} (hW : jv_rW K R) {S T : vm_S} (eT : S = T) (h : vm_r I L S) {f : vf_F} (D : vm_D I f) (hd : f.d < 11) (hs : f.s < 11) {p : Nat} (hp : p < 1024) (hnx : I 178 30 = vl_I (p + 1)) {g : Int} (h0 : 0 ≤ g ∧ g ≤ 1024) (hn : f.n ≠ 0) (hk : f.kind = 5) (hb3 : f.bit3 = false) (hl : vm_jump f p S = some g) {n sl : Nat} : ∃ I1 L1, jv_Ms 393 [.ref 178, .int (vl_I p)] (jv_H K I L R) n sl (none, jv_H K I1 L1 R, n, sl) ∧ vm_r I1 L1 T ∧ I1 178 30 = vl_I g.toNat ∧ vc_ff vr_Ep I L I1 L1 := by
  obtain ⟨Q, hQ⟩ : ∃ Q : jv_R → Prop, Q = fun X => ∃ I1 L1, X = (none, jv_H K I1 L1 R, n, sl) ∧ vm_r I1 L1 T ∧ I1 178 30 = vl_I g.toNat ∧ vc_ff vr_Ep I L I1 L1 := ⟨_, rfl⟩
  suffices hE : jv_Wp 393 0 [(0, .ref 178), (1, .int (vl_I p))] [] (jv_H K I L R) n sl Q by
    rw [hQ] at hE
    obtain ⟨X, hE, I1, L1, e, h'⟩ := hE
    subst e
    exact ⟨I1, L1, hE, h'⟩
  subst eT
  obtain ⟨xd, y, hgd, hy, hG⟩ := vm_jump_dec hl
  have hn0 : ¬ (vl_I f.n) = 0 := fun z => hn ((vl_I_inj (a := f.n) (b := 0) (by have : f.n = f.code / 16 := rfl; have := vr_dc D; omega) (by decide)).mp z)
  rw [if_neg (by rw [hb3]; decide)] at hy
  have exs : (Int32.ofInt f.i).toInt64 = y := (vm_io (vr_dQ D)).trans (Option.some.inj hy)
  have hso : vm_so f xd.toBitVec y.toBitVec = true ↔ vb_cmp (vx_cmp f.n) (xd).toBitVec ((Int32.ofInt f.i).toInt64).toBitVec := by
    rw [vm_so_iff]
    rw [if_pos hk, if_pos hk, exs]
  refine jv_Wp.lift (fun _ Kz => jv_Ev.steps jv_i393 1 (pc' := 1) (l' := [(0, .ref 178), (1, .int (vl_I p))]) (st' := [.ref 178]) rfl Kz) ?_
  refine jv_Wp.lift (fun _ Kz => jv_Ev.c jv_i393 (pc' := 4) (S' := [.int (vl_I f.n)]) jv_i386 [.ref 178] rfl rfl rfl rfl (jv_cal rfl (jv_H_at (jv_rwK hW 178 14 31 (by decide))) rfl rfl) rfl (vr_mn hW D) rfl rfl Kz) ?_
  refine jv_Wp.cnd jv_i393 (pt := 36) (pe := 7) (p := (¬ (vl_I f.n) = 0)) (q := (¬ (vl_I f.n) = 0)) rfl jv_bi_ne rfl rfl Iff.rfl (fun _ => ?_) (fun hz => absurd hn0 hz)
  refine jv_Wp.lift (fun _ Kz => jv_Ev.steps jv_i393 1 (pc' := 37) (l' := [(0, .ref 178), (1, .int (vl_I p))]) (st' := [.ref 178]) rfl Kz) ?_
  refine jv_Wp.lift (fun _ Kz => jv_Ev.c jv_i393 (pc' := 40) (S' := [.int (5 : Int32)]) jv_i385 [.ref 178] rfl rfl rfl rfl (jv_cal rfl (jv_H_at (jv_rwK hW 178 14 31 (by decide))) rfl rfl) rfl (by have z := vr_mkind (L := L) (n := n) (sl := sl) hW D; rw [hk] at z; exact z) rfl rfl Kz) ?_
  refine jv_Wp.lift (fun _ Kz => jv_Ev.steps jv_i393 1 (pc' := 41) (l' := [(0, .ref 178), (1, .int (vl_I p))]) (st' := [.int (5 : Int32), .int (5 : Int32)]) rfl Kz) ?_
  refine jv_Wp.lift (fun _ Kz => jv_Ev.br jv_i393 (pc' := 44) (st' := []) rfl (by rfl) Kz) ?_
  refine jv_Wp.lift (fun _ Kz => jv_Ev.steps jv_i393 5 (pc' := 54) (l' := [(2, .int (64 : Int32)), (0, .ref 178), (1, .int (vl_I p))]) (st' := [.ref 178, .ref 178]) rfl Kz) ?_
  refine jv_Wp.lift (fun _ Kz => jv_Ev.m jv_i393 (pc' := 57) (st' := [.int (vl_I f.d), .ref 178]) (G' := (jv_H K I L R)) rfl rfl (jv_m_getI (jv_rwK hW 178 14 31 (by decide)) rfl rfl (vm_d_d D)) Kz) ?_
  refine jv_Wp.lift (fun _ Kz => jv_Ev.c jv_i393 (pc' := 60) (S' := [.long xd]) jv_i374 [.ref 178, .int (vl_I f.d)] rfl rfl rfl rfl (jv_cal rfl (jv_H_at (jv_rwK hW 178 14 31 (by decide))) rfl rfl) rfl (vr_readR hW h hd hgd) rfl rfl Kz) ?_
  refine jv_Wp.lift (fun _ Kz => jv_Ev.steps jv_i393 1 (pc' := 61) (l' := [(2, .int (64 : Int32)), (0, .ref 178), (1, .int (vl_I p))]) (st' := [.int (64 : Int32), .long xd]) rfl Kz) ?_
  refine jv_Wp.lift (fun _ Kz => jv_Ev.c jv_i393 (pc' := 64) (S' := [.long xd]) jv_i380 [.long xd, .int (64 : Int32)] rfl rfl rfl rfl rfl rfl (vr_signed64i (v := xd)) rfl rfl Kz) ?_
  refine jv_Wp.lift (fun _ Kz => jv_Ev.steps jv_i393 2 (pc' := 66) (l' := [(3, .long xd), (2, .int (64 : Int32)), (0, .ref 178), (1, .int (vl_I p))]) (st' := [.ref 178]) rfl Kz) ?_
  refine jv_Wp.lift (fun _ Kz => jv_Ev.c jv_i393 (pc' := 69) (S' := [.int (0 : Int32)]) jv_i387 [.ref 178] rfl rfl rfl rfl (jv_cal rfl (jv_H_at (jv_rwK hW 178 14 31 (by decide))) rfl rfl) rfl (by have z := vr_mbit3 (L := L) (n := n) (sl := sl) hW D; rw [hb3] at z; exact z) rfl rfl Kz) ?_
  refine jv_Wp.lift (fun _ Kz => jv_Ev.br jv_i393 (pc' := 83) (st' := []) rfl (by rfl) Kz) ?_
  refine jv_Wp.lift (fun _ Kz => jv_Ev.steps jv_i393 1 (pc' := 84) (l' := [(3, .long xd), (2, .int (64 : Int32)), (0, .ref 178), (1, .int (vl_I p))]) (st' := [.ref 178]) rfl Kz) ?_
  refine jv_Wp.lift (fun _ Kz => jv_Ev.m jv_i393 (pc' := 87) (st' := [.int (Int32.ofInt f.i)]) (G' := (jv_H K I L R)) rfl rfl (jv_m_getI (jv_rwK hW 178 14 31 (by decide)) rfl rfl (vm_d_i D)) Kz) ?_
  refine jv_Wp.lift (fun _ Kz => jv_Ev.steps jv_i393 2 (pc' := 89) (l' := [(3, .long xd), (2, .int (64 : Int32)), (0, .ref 178), (1, .int (vl_I p))]) (st' := [.int (64 : Int32), .long (Int32.ofInt f.i).toInt64]) rfl Kz) ?_
  refine jv_Wp.lift (fun _ Kz => jv_Ev.c jv_i393 (pc' := 92) (S' := [.long (Int32.ofInt f.i).toInt64]) jv_i380 [.long (Int32.ofInt f.i).toInt64, .int (64 : Int32)] rfl rfl rfl rfl rfl rfl (vr_signed64i (v := (Int32.ofInt f.i).toInt64)) rfl rfl Kz) ?_
  refine jv_Wp.lift (fun _ Kz => jv_Ev.steps jv_i393 5 (pc' := 99) (l' := [(5, .long (Int32.ofInt f.i).toInt64), (3, .long xd), (2, .int (64 : Int32)), (0, .ref 178), (1, .int (vl_I p))]) (st' := [.long (Int32.ofInt f.i).toInt64, .long xd, .ref 178, .ref 178]) rfl Kz) ?_
  refine jv_Wp.lift (fun _ Kz => jv_Ev.c jv_i393 (pc' := 102) (S' := [.int (vr_b (vm_so f xd.toBitVec y.toBitVec)), .ref 178]) jv_i392 [.ref 178, .long xd, .long (Int32.ofInt f.i).toInt64] rfl rfl rfl rfl (jv_cal rfl (jv_H_at (jv_rwK hW 178 14 31 (by decide))) rfl rfl) rfl (vr_isSo hW D hso) rfl rfl Kz) ?_
  refine jv_Wp.cnd jv_i393 (pt := 116) (pe := 105) (p := ((vr_b (vm_so f xd.toBitVec y.toBitVec)) = 0)) (q := ((vr_b (vm_so f xd.toBitVec y.toBitVec)) = 0)) rfl jv_bi_eq rfl rfl Iff.rfl (fun h1 => ?_) (fun h1 => ?_)
  · refine jv_Wp.lift (fun _ Kz => jv_Ev.steps jv_i393 1 (pc' := 117) (l' := [(5, .long (Int32.ofInt f.i).toInt64), (3, .long xd), (2, .int (64 : Int32)), (0, .ref 178), (1, .int (vl_I p))]) (st' := [.ref 178, .ref 178]) rfl Kz) ?_
    refine jv_Wp.lift (fun _ Kz => jv_Ev.m jv_i393 (pc' := 120) (st' := [.int (I 178 30), .ref 178]) (G' := (jv_H K I L R)) rfl rfl (jv_m_getI (jv_rwK hW 178 14 31 (by decide)) rfl rfl rfl) Kz) ?_
    refine jv_Wp.lift (fun _ Kz => jv_Ev.m jv_i393 (pc' := 123) (st' := []) (G' := (jv_H K (jv_u I 178 30 (I 178 30)) L R)) rfl rfl (jv_m_putI (jv_rwK hW 178 14 31 (by decide)) rfl rfl rfl rfl) Kz) ?_
    refine jv_Wp.of (jv_Ev.ret jv_i393 rfl rfl) ?_
    have so : vm_so f xd.toBitVec y.toBitVec = false := vr_b_f h1
    rw [if_neg (by rw [so]; decide)] at hG
    rw [hQ]
    refine ⟨_, _, rfl, vm_r_nx h, ?_, vc_ff_u (Or.inr ⟨rfl, rfl⟩)⟩
    rw [jv_u_self, hnx]
    congr 1
    omega
  · refine jv_Wp.lift (fun _ Kz => jv_Ev.steps jv_i393 4 (pc' := 109) (l' := [(5, .long (Int32.ofInt f.i).toInt64), (3, .long xd), (2, .int (64 : Int32)), (0, .ref 178), (1, .int (vl_I p))]) (st' := [.ref 178, .int ((vl_I p) + (1 : Int32)), .ref 178]) rfl Kz) ?_
    refine jv_Wp.lift (fun _ Kz => jv_Ev.m jv_i393 (pc' := 112) (st' := [.int (Int32.ofInt f.o), .int ((vl_I p) + (1 : Int32)), .ref 178]) (G' := (jv_H K I L R)) rfl rfl (jv_m_getI (jv_rwK hW 178 14 31 (by decide)) rfl rfl (vm_d_o D)) Kz) ?_
    refine jv_Wp.lift (fun _ Kz => jv_Ev.steps jv_i393 2 (pc' := 120) (l' := [(5, .long (Int32.ofInt f.i).toInt64), (3, .long xd), (2, .int (64 : Int32)), (0, .ref 178), (1, .int (vl_I p))]) (st' := [.int (((vl_I p) + (1 : Int32)) + (Int32.ofInt f.o)), .ref 178]) rfl Kz) ?_
    refine jv_Wp.lift (fun _ Kz => jv_Ev.m jv_i393 (pc' := 123) (st' := []) (G' := (jv_H K (jv_u I 178 30 (((vl_I p) + (1 : Int32)) + (Int32.ofInt f.o))) L R)) rfl rfl (jv_m_putI (jv_rwK hW 178 14 31 (by decide)) rfl rfl rfl rfl) Kz) ?_
    refine jv_Wp.of (jv_Ev.ret jv_i393 rfl rfl) ?_
    have so : vm_so f xd.toBitVec y.toBitVec = true := vr_b_t h1
    rw [if_pos so] at hG
    rw [hQ]
    refine ⟨_, _, rfl, vm_r_nx h, ?_, vc_ff_u (Or.inr ⟨rfl, rfl⟩)⟩
    rw [jv_u_self, vl_I_p1]
    exact vm_goal (vr_dO D) hG h0 hp
theorem vr_jump6r {K : Nat → Option (Nat × Nat)} {I : Nat → Nat → Int32} {L : Nat → Nat → Int64} {R : Nat → Nat → Value} (hW : jv_rW K R) {S T : vm_S} (eT : S = T) (h : vm_r I L S) {f : vf_F} (D : vm_D I f) (hd : f.d < 11) (hs : f.s < 11) {p : Nat} (hp : p < 1024) (hnx : I 178 30 = vl_I (p + 1)) {g : Int} (h0 : 0 ≤ g ∧ g ≤ 1024) (hn : f.n ≠ 0) (hk : f.kind = 6) (hb3 : f.bit3 = true) (hl : vm_jump f p S = some g) {n sl : Nat} : ∃ I1 L1, jv_Ms 393 [.ref 178, .int (vl_I p)] (jv_H K I L R) n sl (none, jv_H K I1 L1 R, n, sl) ∧ vm_r I1 L1 T ∧ I1 178 30 = vl_I g.toNat ∧ vc_ff vr_Ep I L I1 L1 := by
  obtain ⟨Q, hQ⟩ : ∃ Q : jv_R → Prop, Q = fun X => ∃ I1 L1, X = (none, jv_H K I1 L1 R, n, sl) ∧ vm_r I1 L1 T ∧ I1 178 30 = vl_I g.toNat ∧ vc_ff vr_Ep I L I1 L1 := ⟨_, rfl⟩
  suffices hE : jv_Wp 393 0 [(0, .ref 178), (1, .int (vl_I p))] [] (jv_H K I L R) n sl Q by
    rw [hQ] at hE
    obtain ⟨X, hE, I1, L1, e, h'⟩ := hE
    subst e
    exact ⟨I1, L1, hE, h'⟩
  subst eT
  obtain ⟨xd, y, hgd, hy, hG⟩ := vm_jump_dec hl
  have hn0 : ¬ (vl_I f.n) = 0 := fun z => hn ((vl_I_inj (a := f.n) (b := 0) (by have : f.n = f.code / 16 := rfl; have := vr_dc D; omega) (by decide)).mp z)
  rw [if_pos hb3] at hy
  obtain ⟨xs, exs⟩ : ∃ xs, xs = y := ⟨y, rfl⟩
  have hgs : vm_rd S f.s = some xs := exs ▸ hy
  have hso : vm_so f xd.toBitVec y.toBitVec = true ↔ vb_cmp (vx_cmp f.n) ((Int64.ofBitVec (vm_sx xd.toBitVec 32))).toBitVec ((Int64.ofBitVec (vm_sx (xs).toBitVec 32))).toBitVec := by
    rw [vm_so_iff]
    rw [if_neg (by omega), if_neg (by omega), exs]
    exact Iff.rfl
  refine jv_Wp.lift (fun _ Kz => jv_Ev.steps jv_i393 1 (pc' := 1) (l' := [(0, .ref 178), (1, .int (vl_I p))]) (st' := [.ref 178]) rfl Kz) ?_
  refine jv_Wp.lift (fun _ Kz => jv_Ev.c jv_i393 (pc' := 4) (S' := [.int (vl_I f.n)]) jv_i386 [.ref 178] rfl rfl rfl rfl (jv_cal rfl (jv_H_at (jv_rwK hW 178 14 31 (by decide))) rfl rfl) rfl (vr_mn hW D) rfl rfl Kz) ?_
  refine jv_Wp.cnd jv_i393 (pt := 36) (pe := 7) (p := (¬ (vl_I f.n) = 0)) (q := (¬ (vl_I f.n) = 0)) rfl jv_bi_ne rfl rfl Iff.rfl (fun _ => ?_) (fun hz => absurd hn0 hz)
  refine jv_Wp.lift (fun _ Kz => jv_Ev.steps jv_i393 1 (pc' := 37) (l' := [(0, .ref 178), (1, .int (vl_I p))]) (st' := [.ref 178]) rfl Kz) ?_
  refine jv_Wp.lift (fun _ Kz => jv_Ev.c jv_i393 (pc' := 40) (S' := [.int (6 : Int32)]) jv_i385 [.ref 178] rfl rfl rfl rfl (jv_cal rfl (jv_H_at (jv_rwK hW 178 14 31 (by decide))) rfl rfl) rfl (by have z := vr_mkind (L := L) (n := n) (sl := sl) hW D; rw [hk] at z; exact z) rfl rfl Kz) ?_
  refine jv_Wp.lift (fun _ Kz => jv_Ev.steps jv_i393 1 (pc' := 41) (l' := [(0, .ref 178), (1, .int (vl_I p))]) (st' := [.int (5 : Int32), .int (6 : Int32)]) rfl Kz) ?_
  refine jv_Wp.lift (fun _ Kz => jv_Ev.br jv_i393 (pc' := 49) (st' := []) rfl (by rfl) Kz) ?_
  refine jv_Wp.lift (fun _ Kz => jv_Ev.steps jv_i393 4 (pc' := 54) (l' := [(2, .int (32 : Int32)), (0, .ref 178), (1, .int (vl_I p))]) (st' := [.ref 178, .ref 178]) rfl Kz) ?_
  refine jv_Wp.lift (fun _ Kz => jv_Ev.m jv_i393 (pc' := 57) (st' := [.int (vl_I f.d), .ref 178]) (G' := (jv_H K I L R)) rfl rfl (jv_m_getI (jv_rwK hW 178 14 31 (by decide)) rfl rfl (vm_d_d D)) Kz) ?_
  refine jv_Wp.lift (fun _ Kz => jv_Ev.c jv_i393 (pc' := 60) (S' := [.long xd]) jv_i374 [.ref 178, .int (vl_I f.d)] rfl rfl rfl rfl (jv_cal rfl (jv_H_at (jv_rwK hW 178 14 31 (by decide))) rfl rfl) rfl (vr_readR hW h hd hgd) rfl rfl Kz) ?_
  refine jv_Wp.lift (fun _ Kz => jv_Ev.steps jv_i393 1 (pc' := 61) (l' := [(2, .int (32 : Int32)), (0, .ref 178), (1, .int (vl_I p))]) (st' := [.int (32 : Int32), .long xd]) rfl Kz) ?_
  refine jv_Wp.lift (fun _ Kz => jv_Ev.c jv_i393 (pc' := 64) (S' := [.long (Int64.ofBitVec (vm_sx (xd).toBitVec 32))]) jv_i380 [.long xd, .int (32 : Int32)] rfl rfl rfl rfl rfl rfl (vr_signed32 (v := xd)) rfl rfl Kz) ?_
  refine jv_Wp.lift (fun _ Kz => jv_Ev.steps jv_i393 2 (pc' := 66) (l' := [(3, .long (Int64.ofBitVec (vm_sx (xd).toBitVec 32))), (2, .int (32 : Int32)), (0, .ref 178), (1, .int (vl_I p))]) (st' := [.ref 178]) rfl Kz) ?_
  refine jv_Wp.lift (fun _ Kz => jv_Ev.c jv_i393 (pc' := 69) (S' := [.int (1 : Int32)]) jv_i387 [.ref 178] rfl rfl rfl rfl (jv_cal rfl (jv_H_at (jv_rwK hW 178 14 31 (by decide))) rfl rfl) rfl (by have z := vr_mbit3 (L := L) (n := n) (sl := sl) hW D; rw [hb3] at z; exact z) rfl rfl Kz) ?_
  refine jv_Wp.lift (fun _ Kz => jv_Ev.br jv_i393 (pc' := 72) (st' := []) rfl (by rfl) Kz) ?_
  refine jv_Wp.lift (fun _ Kz => jv_Ev.steps jv_i393 2 (pc' := 74) (l' := [(3, .long (Int64.ofBitVec (vm_sx (xd).toBitVec 32))), (2, .int (32 : Int32)), (0, .ref 178), (1, .int (vl_I p))]) (st' := [.ref 178, .ref 178]) rfl Kz) ?_
  refine jv_Wp.lift (fun _ Kz => jv_Ev.m jv_i393 (pc' := 77) (st' := [.int (vl_I f.s), .ref 178]) (G' := (jv_H K I L R)) rfl rfl (jv_m_getI (jv_rwK hW 178 14 31 (by decide)) rfl rfl (vm_d_s D)) Kz) ?_
  refine jv_Wp.lift (fun _ Kz => jv_Ev.c jv_i393 (pc' := 80) (S' := [.long xs]) jv_i374 [.ref 178, .int (vl_I f.s)] rfl rfl rfl rfl (jv_cal rfl (jv_H_at (jv_rwK hW 178 14 31 (by decide))) rfl rfl) rfl (vr_readR hW h hs hgs) rfl rfl Kz) ?_
  refine jv_Wp.lift (fun _ Kz => jv_Ev.steps jv_i393 2 (pc' := 89) (l' := [(3, .long (Int64.ofBitVec (vm_sx (xd).toBitVec 32))), (2, .int (32 : Int32)), (0, .ref 178), (1, .int (vl_I p))]) (st' := [.int (32 : Int32), .long xs]) rfl Kz) ?_
  refine jv_Wp.lift (fun _ Kz => jv_Ev.c jv_i393 (pc' := 92) (S' := [.long (Int64.ofBitVec (vm_sx (xs).toBitVec 32))]) jv_i380 [.long xs, .int (32 : Int32)] rfl rfl rfl rfl rfl rfl (vr_signed32 (v := xs)) rfl rfl Kz) ?_
  refine jv_Wp.lift (fun _ Kz => jv_Ev.steps jv_i393 5 (pc' := 99) (l' := [(5, .long (Int64.ofBitVec (vm_sx (xs).toBitVec 32))), (3, .long (Int64.ofBitVec (vm_sx (xd).toBitVec 32))), (2, .int (32 : Int32)), (0, .ref 178), (1, .int (vl_I p))]) (st' := [.long (Int64.ofBitVec (vm_sx (xs).toBitVec 32)), .long (Int64.ofBitVec (vm_sx (xd).toBitVec 32)), .ref 178, .ref 178]) rfl Kz) ?_
  refine jv_Wp.lift (fun _ Kz => jv_Ev.c jv_i393 (pc' := 102) (S' := [.int (vr_b (vm_so f xd.toBitVec y.toBitVec)), .ref 178]) jv_i392 [.ref 178, .long (Int64.ofBitVec (vm_sx (xd).toBitVec 32)), .long (Int64.ofBitVec (vm_sx (xs).toBitVec 32))] rfl rfl rfl rfl (jv_cal rfl (jv_H_at (jv_rwK hW 178 14 31 (by decide))) rfl rfl) rfl (vr_isSo hW D hso) rfl rfl Kz) ?_
  refine jv_Wp.cnd jv_i393 (pt := 116) (pe := 105) (p := ((vr_b (vm_so f xd.toBitVec y.toBitVec)) = 0)) (q := ((vr_b (vm_so f xd.toBitVec y.toBitVec)) = 0)) rfl jv_bi_eq rfl rfl Iff.rfl (fun h1 => ?_) (fun h1 => ?_)
  · refine jv_Wp.lift (fun _ Kz => jv_Ev.steps jv_i393 1 (pc' := 117) (l' := [(5, .long (Int64.ofBitVec (vm_sx (xs).toBitVec 32))), (3, .long (Int64.ofBitVec (vm_sx (xd).toBitVec 32))), (2, .int (32 : Int32)), (0, .ref 178), (1, .int (vl_I p))]) (st' := [.ref 178, .ref 178]) rfl Kz) ?_
    refine jv_Wp.lift (fun _ Kz => jv_Ev.m jv_i393 (pc' := 120) (st' := [.int (I 178 30), .ref 178]) (G' := (jv_H K I L R)) rfl rfl (jv_m_getI (jv_rwK hW 178 14 31 (by decide)) rfl rfl rfl) Kz) ?_
    refine jv_Wp.lift (fun _ Kz => jv_Ev.m jv_i393 (pc' := 123) (st' := []) (G' := (jv_H K (jv_u I 178 30 (I 178 30)) L R)) rfl rfl (jv_m_putI (jv_rwK hW 178 14 31 (by decide)) rfl rfl rfl rfl) Kz) ?_
    refine jv_Wp.of (jv_Ev.ret jv_i393 rfl rfl) ?_
    have so : vm_so f xd.toBitVec y.toBitVec = false := vr_b_f h1
    rw [if_neg (by rw [so]; decide)] at hG
    rw [hQ]
    refine ⟨_, _, rfl, vm_r_nx h, ?_, vc_ff_u (Or.inr ⟨rfl, rfl⟩)⟩
    rw [jv_u_self, hnx]
    congr 1
    omega
  · refine jv_Wp.lift (fun _ Kz => jv_Ev.steps jv_i393 4 (pc' := 109) (l' := [(5, .long (Int64.ofBitVec (vm_sx (xs).toBitVec 32))), (3, .long (Int64.ofBitVec (vm_sx (xd).toBitVec 32))), (2, .int (32 : Int32)), (0, .ref 178), (1, .int (vl_I p))]) (st' := [.ref 178, .int ((vl_I p) + (1 : Int32)), .ref 178]) rfl Kz) ?_
    refine jv_Wp.lift (fun _ Kz => jv_Ev.m jv_i393 (pc' := 112) (st' := [.int (Int32.ofInt f.o), .int ((vl_I p) + (1 : Int32)), .ref 178]) (G' := (jv_H K I L R)) rfl rfl (jv_m_getI (jv_rwK hW 178 14 31 (by decide)) rfl rfl (vm_d_o D)) Kz) ?_
    refine jv_Wp.lift (fun _ Kz => jv_Ev.steps jv_i393 2 (pc' := 120) (l' := [(5, .long (Int64.ofBitVec (vm_sx (xs).toBitVec 32))), (3, .long (Int64.ofBitVec (vm_sx (xd).toBitVec 32))), (2, .int (32 : Int32)), (0, .ref 178), (1, .int (vl_I p))]) (st' := [.int (((vl_I p) + (1 : Int32)) + (Int32.ofInt f.o)), .ref 178]) rfl Kz) ?_
    refine jv_Wp.lift (fun _ Kz => jv_Ev.m jv_i393 (pc' := 123) (st' := []) (G' := (jv_H K (jv_u I 178 30 (((vl_I p) + (1 : Int32)) + (Int32.ofInt f.o))) L R)) rfl rfl (jv_m_putI (jv_rwK hW 178 14 31 (by decide)) rfl rfl rfl rfl) Kz) ?_
    refine jv_Wp.of (jv_Ev.ret jv_i393 rfl rfl) ?_
    have so : vm_so f xd.toBitVec y.toBitVec = true := vr_b_t h1
    rw [if_pos so] at hG
    rw [hQ]
    refine ⟨_, _, rfl, vm_r_nx h, ?_, vc_ff_u (Or.inr ⟨rfl, rfl⟩)⟩
    rw [jv_u_self, vl_I_p1]
    exact vm_goal (vr_dO D) hG h0 hp
theorem vr_jump6i {K : Nat → Option (Nat × Nat)} {I : Nat → Nat → Int32} {L : Nat → Nat → Int64} {R : Nat → Nat → Value} (hW : jv_rW K R) {S T : vm_S} (eT : S = T) (h : vm_r I L S) {f : vf_F} (D : vm_D I f) (hd : f.d < 11) (hs : f.s < 11) {p : Nat} (hp : p < 1024) (hnx : I 178 30 = vl_I (p + 1)) {g : Int} (h0 : 0 ≤ g ∧ g ≤ 1024) (hn : f.n ≠ 0) (hk : f.kind = 6) (hb3 : f.bit3 = false) (hl : vm_jump f p S = some g) {n sl : Nat} : ∃ I1 L1, jv_Ms 393 [.ref 178, .int (vl_I p)] (jv_H K I L R) n sl (none, jv_H K I1 L1 R, n, sl) ∧ vm_r I1 L1 T ∧ I1 178 30 = vl_I g.toNat ∧ vc_ff vr_Ep I L I1 L1 := by
  obtain ⟨Q, hQ⟩ : ∃ Q : jv_R → Prop, Q = fun X => ∃ I1 L1, X = (none, jv_H K I1 L1 R, n, sl) ∧ vm_r I1 L1 T ∧ I1 178 30 = vl_I g.toNat ∧ vc_ff vr_Ep I L I1 L1 := ⟨_, rfl⟩
  suffices hE : jv_Wp 393 0 [(0, .ref 178), (1, .int (vl_I p))] [] (jv_H K I L R) n sl Q by
    rw [hQ] at hE
    obtain ⟨X, hE, I1, L1, e, h'⟩ := hE
    subst e
    exact ⟨I1, L1, hE, h'⟩
  subst eT
  obtain ⟨xd, y, hgd, hy, hG⟩ := vm_jump_dec hl
  have hn0 : ¬ (vl_I f.n) = 0 := fun z => hn ((vl_I_inj (a := f.n) (b := 0) (by have : f.n = f.code / 16 := rfl; have := vr_dc D; omega) (by decide)).mp z)
  rw [if_neg (by rw [hb3]; decide)] at hy
  have exs : (Int32.ofInt f.i).toInt64 = y := (vm_io (vr_dQ D)).trans (Option.some.inj hy)
  have hso : vm_so f xd.toBitVec y.toBitVec = true ↔ vb_cmp (vx_cmp f.n) ((Int64.ofBitVec (vm_sx xd.toBitVec 32))).toBitVec ((Int64.ofBitVec (vm_sx ((Int32.ofInt f.i).toInt64).toBitVec 32))).toBitVec := by
    rw [vm_so_iff]
    rw [if_neg (by omega), if_neg (by omega), exs]
    exact Iff.rfl
  refine jv_Wp.lift (fun _ Kz => jv_Ev.steps jv_i393 1 (pc' := 1) (l' := [(0, .ref 178), (1, .int (vl_I p))]) (st' := [.ref 178]) rfl Kz) ?_
  refine jv_Wp.lift (fun _ Kz => jv_Ev.c jv_i393 (pc' := 4) (S' := [.int (vl_I f.n)]) jv_i386 [.ref 178] rfl rfl rfl rfl (jv_cal rfl (jv_H_at (jv_rwK hW 178 14 31 (by decide))) rfl rfl) rfl (vr_mn hW D) rfl rfl Kz) ?_
  refine jv_Wp.cnd jv_i393 (pt := 36) (pe := 7) (p := (¬ (vl_I f.n) = 0)) (q := (¬ (vl_I f.n) = 0)) rfl jv_bi_ne rfl rfl Iff.rfl (fun _ => ?_) (fun hz => absurd hn0 hz)
  refine jv_Wp.lift (fun _ Kz => jv_Ev.steps jv_i393 1 (pc' := 37) (l' := [(0, .ref 178), (1, .int (vl_I p))]) (st' := [.ref 178]) rfl Kz) ?_
  refine jv_Wp.lift (fun _ Kz => jv_Ev.c jv_i393 (pc' := 40) (S' := [.int (6 : Int32)]) jv_i385 [.ref 178] rfl rfl rfl rfl (jv_cal rfl (jv_H_at (jv_rwK hW 178 14 31 (by decide))) rfl rfl) rfl (by have z := vr_mkind (L := L) (n := n) (sl := sl) hW D; rw [hk] at z; exact z) rfl rfl Kz) ?_
  refine jv_Wp.lift (fun _ Kz => jv_Ev.steps jv_i393 1 (pc' := 41) (l' := [(0, .ref 178), (1, .int (vl_I p))]) (st' := [.int (5 : Int32), .int (6 : Int32)]) rfl Kz) ?_
  refine jv_Wp.lift (fun _ Kz => jv_Ev.br jv_i393 (pc' := 49) (st' := []) rfl (by rfl) Kz) ?_
  refine jv_Wp.lift (fun _ Kz => jv_Ev.steps jv_i393 4 (pc' := 54) (l' := [(2, .int (32 : Int32)), (0, .ref 178), (1, .int (vl_I p))]) (st' := [.ref 178, .ref 178]) rfl Kz) ?_
  refine jv_Wp.lift (fun _ Kz => jv_Ev.m jv_i393 (pc' := 57) (st' := [.int (vl_I f.d), .ref 178]) (G' := (jv_H K I L R)) rfl rfl (jv_m_getI (jv_rwK hW 178 14 31 (by decide)) rfl rfl (vm_d_d D)) Kz) ?_
  refine jv_Wp.lift (fun _ Kz => jv_Ev.c jv_i393 (pc' := 60) (S' := [.long xd]) jv_i374 [.ref 178, .int (vl_I f.d)] rfl rfl rfl rfl (jv_cal rfl (jv_H_at (jv_rwK hW 178 14 31 (by decide))) rfl rfl) rfl (vr_readR hW h hd hgd) rfl rfl Kz) ?_
  refine jv_Wp.lift (fun _ Kz => jv_Ev.steps jv_i393 1 (pc' := 61) (l' := [(2, .int (32 : Int32)), (0, .ref 178), (1, .int (vl_I p))]) (st' := [.int (32 : Int32), .long xd]) rfl Kz) ?_
  refine jv_Wp.lift (fun _ Kz => jv_Ev.c jv_i393 (pc' := 64) (S' := [.long (Int64.ofBitVec (vm_sx (xd).toBitVec 32))]) jv_i380 [.long xd, .int (32 : Int32)] rfl rfl rfl rfl rfl rfl (vr_signed32 (v := xd)) rfl rfl Kz) ?_
  refine jv_Wp.lift (fun _ Kz => jv_Ev.steps jv_i393 2 (pc' := 66) (l' := [(3, .long (Int64.ofBitVec (vm_sx (xd).toBitVec 32))), (2, .int (32 : Int32)), (0, .ref 178), (1, .int (vl_I p))]) (st' := [.ref 178]) rfl Kz) ?_
  refine jv_Wp.lift (fun _ Kz => jv_Ev.c jv_i393 (pc' := 69) (S' := [.int (0 : Int32)]) jv_i387 [.ref 178] rfl rfl rfl rfl (jv_cal rfl (jv_H_at (jv_rwK hW 178 14 31 (by decide))) rfl rfl) rfl (by have z := vr_mbit3 (L := L) (n := n) (sl := sl) hW D; rw [hb3] at z; exact z) rfl rfl Kz) ?_
  refine jv_Wp.lift (fun _ Kz => jv_Ev.br jv_i393 (pc' := 83) (st' := []) rfl (by rfl) Kz) ?_
  refine jv_Wp.lift (fun _ Kz => jv_Ev.steps jv_i393 1 (pc' := 84) (l' := [(3, .long (Int64.ofBitVec (vm_sx (xd).toBitVec 32))), (2, .int (32 : Int32)), (0, .ref 178), (1, .int (vl_I p))]) (st' := [.ref 178]) rfl Kz) ?_
  refine jv_Wp.lift (fun _ Kz => jv_Ev.m jv_i393 (pc' := 87) (st' := [.int (Int32.ofInt f.i)]) (G' := (jv_H K I L R)) rfl rfl (jv_m_getI (jv_rwK hW 178 14 31 (by decide)) rfl rfl (vm_d_i D)) Kz) ?_
  refine jv_Wp.lift (fun _ Kz => jv_Ev.steps jv_i393 2 (pc' := 89) (l' := [(3, .long (Int64.ofBitVec (vm_sx (xd).toBitVec 32))), (2, .int (32 : Int32)), (0, .ref 178), (1, .int (vl_I p))]) (st' := [.int (32 : Int32), .long (Int32.ofInt f.i).toInt64]) rfl Kz) ?_
  refine jv_Wp.lift (fun _ Kz => jv_Ev.c jv_i393 (pc' := 92) (S' := [.long (Int64.ofBitVec (vm_sx ((Int32.ofInt f.i).toInt64).toBitVec 32))]) jv_i380 [.long (Int32.ofInt f.i).toInt64, .int (32 : Int32)] rfl rfl rfl rfl rfl rfl (vr_signed32 (v := (Int32.ofInt f.i).toInt64)) rfl rfl Kz) ?_
  refine jv_Wp.lift (fun _ Kz => jv_Ev.steps jv_i393 5 (pc' := 99) (l' := [(5, .long (Int64.ofBitVec (vm_sx ((Int32.ofInt f.i).toInt64).toBitVec 32))), (3, .long (Int64.ofBitVec (vm_sx (xd).toBitVec 32))), (2, .int (32 : Int32)), (0, .ref 178), (1, .int (vl_I p))]) (st' := [.long (Int64.ofBitVec (vm_sx ((Int32.ofInt f.i).toInt64).toBitVec 32)), .long (Int64.ofBitVec (vm_sx (xd).toBitVec 32)), .ref 178, .ref 178]) rfl Kz) ?_
  refine jv_Wp.lift (fun _ Kz => jv_Ev.c jv_i393 (pc' := 102) (S' := [.int (vr_b (vm_so f xd.toBitVec y.toBitVec)), .ref 178]) jv_i392 [.ref 178, .long (Int64.ofBitVec (vm_sx (xd).toBitVec 32)), .long (Int64.ofBitVec (vm_sx ((Int32.ofInt f.i).toInt64).toBitVec 32))] rfl rfl rfl rfl (jv_cal rfl (jv_H_at (jv_rwK hW 178 14 31 (by decide))) rfl rfl) rfl (vr_isSo hW D hso) rfl rfl Kz) ?_
  refine jv_Wp.cnd jv_i393 (pt := 116) (pe := 105) (p := ((vr_b (vm_so f xd.toBitVec y.toBitVec)) = 0)) (q := ((vr_b (vm_so f xd.toBitVec y.toBitVec)) = 0)) rfl jv_bi_eq rfl rfl Iff.rfl (fun h1 => ?_) (fun h1 => ?_)
  · refine jv_Wp.lift (fun _ Kz => jv_Ev.steps jv_i393 1 (pc' := 117) (l' := [(5, .long (Int64.ofBitVec (vm_sx ((Int32.ofInt f.i).toInt64).toBitVec 32))), (3, .long (Int64.ofBitVec (vm_sx (xd).toBitVec 32))), (2, .int (32 : Int32)), (0, .ref 178), (1, .int (vl_I p))]) (st' := [.ref 178, .ref 178]) rfl Kz) ?_
    refine jv_Wp.lift (fun _ Kz => jv_Ev.m jv_i393 (pc' := 120) (st' := [.int (I 178 30), .ref 178]) (G' := (jv_H K I L R)) rfl rfl (jv_m_getI (jv_rwK hW 178 14 31 (by decide)) rfl rfl rfl) Kz) ?_
    refine jv_Wp.lift (fun _ Kz => jv_Ev.m jv_i393 (pc' := 123) (st' := []) (G' := (jv_H K (jv_u I 178 30 (I 178 30)) L R)) rfl rfl (jv_m_putI (jv_rwK hW 178 14 31 (by decide)) rfl rfl rfl rfl) Kz) ?_
    refine jv_Wp.of (jv_Ev.ret jv_i393 rfl rfl) ?_
    have so : vm_so f xd.toBitVec y.toBitVec = false := vr_b_f h1
    rw [if_neg (by rw [so]; decide)] at hG
    rw [hQ]
    refine ⟨_, _, rfl, vm_r_nx h, ?_, vc_ff_u (Or.inr ⟨rfl, rfl⟩)⟩
    rw [jv_u_self, hnx]
    congr 1
    omega
  · refine jv_Wp.lift (fun _ Kz => jv_Ev.steps jv_i393 4 (pc' := 109) (l' := [(5, .long (Int64.ofBitVec (vm_sx ((Int32.ofInt f.i).toInt64).toBitVec 32))), (3, .long (Int64.ofBitVec (vm_sx (xd).toBitVec 32))), (2, .int (32 : Int32)), (0, .ref 178), (1, .int (vl_I p))]) (st' := [.ref 178, .int ((vl_I p) + (1 : Int32)), .ref 178]) rfl Kz) ?_
    refine jv_Wp.lift (fun _ Kz => jv_Ev.m jv_i393 (pc' := 112) (st' := [.int (Int32.ofInt f.o), .int ((vl_I p) + (1 : Int32)), .ref 178]) (G' := (jv_H K I L R)) rfl rfl (jv_m_getI (jv_rwK hW 178 14 31 (by decide)) rfl rfl (vm_d_o D)) Kz) ?_
    refine jv_Wp.lift (fun _ Kz => jv_Ev.steps jv_i393 2 (pc' := 120) (l' := [(5, .long (Int64.ofBitVec (vm_sx ((Int32.ofInt f.i).toInt64).toBitVec 32))), (3, .long (Int64.ofBitVec (vm_sx (xd).toBitVec 32))), (2, .int (32 : Int32)), (0, .ref 178), (1, .int (vl_I p))]) (st' := [.int (((vl_I p) + (1 : Int32)) + (Int32.ofInt f.o)), .ref 178]) rfl Kz) ?_
    refine jv_Wp.lift (fun _ Kz => jv_Ev.m jv_i393 (pc' := 123) (st' := []) (G' := (jv_H K (jv_u I 178 30 (((vl_I p) + (1 : Int32)) + (Int32.ofInt f.o))) L R)) rfl rfl (jv_m_putI (jv_rwK hW 178 14 31 (by decide)) rfl rfl rfl rfl) Kz) ?_
    refine jv_Wp.of (jv_Ev.ret jv_i393 rfl rfl) ?_
    have so : vm_so f xd.toBitVec y.toBitVec = true := vr_b_t h1
    rw [if_pos so] at hG
    rw [hQ]
    refine ⟨_, _, rfl, vm_r_nx h, ?_, vc_ff_u (Or.inr ⟨rfl, rfl⟩)⟩
    rw [jv_u_self, vl_I_p1]
    exact vm_goal (vr_dO D) hG h0 hp
theorem vr_jump50 {K : Nat → Option (Nat × Nat)} {I : Nat → Nat → Int32} {L : Nat → Nat → Int64} {R : Nat → Nat → Value} (hW : jv_rW K R) {S T : vm_S} (eT : S = T) (h : vm_r I L S) {f : vf_F} (D : vm_D I f) (hd : f.d < 11) (hs : f.s < 11) {p : Nat} (hp : p < 1024) (hnx : I 178 30 = vl_I (p + 1)) {g : Int} (h0 : 0 ≤ g ∧ g ≤ 1024) (hn : f.n = 0) (hk : f.kind = 5) (hG : g = (p : Int) + 1 + f.o) {n sl : Nat} : ∃ I1 L1, jv_Ms 393 [.ref 178, .int (vl_I p)] (jv_H K I L R) n sl (none, jv_H K I1 L1 R, n, sl) ∧ vm_r I1 L1 T ∧ I1 178 30 = vl_I g.toNat ∧ vc_ff vr_Ep I L I1 L1 := by
  obtain ⟨Q, hQ⟩ : ∃ Q : jv_R → Prop, Q = fun X => ∃ I1 L1, X = (none, jv_H K I1 L1 R, n, sl) ∧ vm_r I1 L1 T ∧ I1 178 30 = vl_I g.toNat ∧ vc_ff vr_Ep I L I1 L1 := ⟨_, rfl⟩
  suffices hE : jv_Wp 393 0 [(0, .ref 178), (1, .int (vl_I p))] [] (jv_H K I L R) n sl Q by
    rw [hQ] at hE
    obtain ⟨X, hE, I1, L1, e, h'⟩ := hE
    subst e
    exact ⟨I1, L1, hE, h'⟩
  subst eT
  refine jv_Wp.lift (fun _ Kz => jv_Ev.steps jv_i393 1 (pc' := 1) (l' := [(0, .ref 178), (1, .int (vl_I p))]) (st' := [.ref 178]) rfl Kz) ?_
  refine jv_Wp.lift (fun _ Kz => jv_Ev.c jv_i393 (pc' := 4) (S' := [.int (0 : Int32)]) jv_i386 [.ref 178] rfl rfl rfl rfl (jv_cal rfl (jv_H_at (jv_rwK hW 178 14 31 (by decide))) rfl rfl) rfl (by have z := vr_mn (L := L) (n := n) (sl := sl) hW D; rw [hn] at z; exact z) rfl rfl Kz) ?_
  refine jv_Wp.lift (fun _ Kz => jv_Ev.br jv_i393 (pc' := 7) (st' := []) rfl (by rfl) Kz) ?_
  refine jv_Wp.lift (fun _ Kz => jv_Ev.steps jv_i393 5 (pc' := 12) (l' := [(0, .ref 178), (1, .int (vl_I p))]) (st' := [.ref 178, .int ((vl_I p) + (1 : Int32)), .ref 178]) rfl Kz) ?_
  refine jv_Wp.lift (fun _ Kz => jv_Ev.c jv_i393 (pc' := 15) (S' := [.int (5 : Int32), .int ((vl_I p) + (1 : Int32)), .ref 178]) jv_i385 [.ref 178] rfl rfl rfl rfl (jv_cal rfl (jv_H_at (jv_rwK hW 178 14 31 (by decide))) rfl rfl) rfl (by have z := vr_mkind (L := L) (n := n) (sl := sl) hW D; rw [hk] at z; exact z) rfl rfl Kz) ?_
  refine jv_Wp.lift (fun _ Kz => jv_Ev.steps jv_i393 1 (pc' := 17) (l' := [(0, .ref 178), (1, .int (vl_I p))]) (st' := [.int (6 : Int32), .int (5 : Int32), .int ((vl_I p) + (1 : Int32)), .ref 178]) rfl Kz) ?_
  refine jv_Wp.lift (fun _ Kz => jv_Ev.br jv_i393 (pc' := 27) (st' := [.int ((vl_I p) + (1 : Int32)), .ref 178]) rfl (by rfl) Kz) ?_
  refine jv_Wp.lift (fun _ Kz => jv_Ev.steps jv_i393 1 (pc' := 28) (l' := [(0, .ref 178), (1, .int (vl_I p))]) (st' := [.ref 178, .int ((vl_I p) + (1 : Int32)), .ref 178]) rfl Kz) ?_
  refine jv_Wp.lift (fun _ Kz => jv_Ev.m jv_i393 (pc' := 31) (st' := [.int (Int32.ofInt f.o), .int ((vl_I p) + (1 : Int32)), .ref 178]) (G' := (jv_H K I L R)) rfl rfl (jv_m_getI (jv_rwK hW 178 14 31 (by decide)) rfl rfl (vm_d_o D)) Kz) ?_
  refine jv_Wp.lift (fun _ Kz => jv_Ev.steps jv_i393 1 (pc' := 32) (l' := [(0, .ref 178), (1, .int (vl_I p))]) (st' := [.int (((vl_I p) + (1 : Int32)) + (Int32.ofInt f.o)), .ref 178]) rfl Kz) ?_
  refine jv_Wp.lift (fun _ Kz => jv_Ev.m jv_i393 (pc' := 35) (st' := []) (G' := (jv_H K (jv_u I 178 30 (((vl_I p) + (1 : Int32)) + (Int32.ofInt f.o))) L R)) rfl rfl (jv_m_putI (jv_rwK hW 178 14 31 (by decide)) rfl rfl rfl rfl) Kz) ?_
  refine jv_Wp.of (jv_Ev.ret jv_i393 rfl rfl) ?_
  rw [hQ]
  refine ⟨_, _, rfl, vm_r_nx h, ?_, vc_ff_u (Or.inr ⟨rfl, rfl⟩)⟩
  rw [jv_u_self, vl_I_p1]
  exact vm_goal (vr_dO D) hG h0 hp
theorem vr_jump60 {K : Nat → Option (Nat × Nat)} {I : Nat → Nat → Int32} {L : Nat → Nat → Int64} {R : Nat → Nat → Value} (hW : jv_rW K R) {S T : vm_S} (eT : S = T) (h : vm_r I L S) {f : vf_F} (D : vm_D I f) (hd : f.d < 11) (hs : f.s < 11) {p : Nat} (hp : p < 1024) (hnx : I 178 30 = vl_I (p + 1)) {g : Int} (h0 : 0 ≤ g ∧ g ≤ 1024) (hn : f.n = 0) (hk : f.kind = 6) (hG : g = (p : Int) + 1 + f.i) {n sl : Nat} : ∃ I1 L1, jv_Ms 393 [.ref 178, .int (vl_I p)] (jv_H K I L R) n sl (none, jv_H K I1 L1 R, n, sl) ∧ vm_r I1 L1 T ∧ I1 178 30 = vl_I g.toNat ∧ vc_ff vr_Ep I L I1 L1 := by
  obtain ⟨Q, hQ⟩ : ∃ Q : jv_R → Prop, Q = fun X => ∃ I1 L1, X = (none, jv_H K I1 L1 R, n, sl) ∧ vm_r I1 L1 T ∧ I1 178 30 = vl_I g.toNat ∧ vc_ff vr_Ep I L I1 L1 := ⟨_, rfl⟩
  suffices hE : jv_Wp 393 0 [(0, .ref 178), (1, .int (vl_I p))] [] (jv_H K I L R) n sl Q by
    rw [hQ] at hE
    obtain ⟨X, hE, I1, L1, e, h'⟩ := hE
    subst e
    exact ⟨I1, L1, hE, h'⟩
  subst eT
  refine jv_Wp.lift (fun _ Kz => jv_Ev.steps jv_i393 1 (pc' := 1) (l' := [(0, .ref 178), (1, .int (vl_I p))]) (st' := [.ref 178]) rfl Kz) ?_
  refine jv_Wp.lift (fun _ Kz => jv_Ev.c jv_i393 (pc' := 4) (S' := [.int (0 : Int32)]) jv_i386 [.ref 178] rfl rfl rfl rfl (jv_cal rfl (jv_H_at (jv_rwK hW 178 14 31 (by decide))) rfl rfl) rfl (by have z := vr_mn (L := L) (n := n) (sl := sl) hW D; rw [hn] at z; exact z) rfl rfl Kz) ?_
  refine jv_Wp.lift (fun _ Kz => jv_Ev.br jv_i393 (pc' := 7) (st' := []) rfl (by rfl) Kz) ?_
  refine jv_Wp.lift (fun _ Kz => jv_Ev.steps jv_i393 5 (pc' := 12) (l' := [(0, .ref 178), (1, .int (vl_I p))]) (st' := [.ref 178, .int ((vl_I p) + (1 : Int32)), .ref 178]) rfl Kz) ?_
  refine jv_Wp.lift (fun _ Kz => jv_Ev.c jv_i393 (pc' := 15) (S' := [.int (6 : Int32), .int ((vl_I p) + (1 : Int32)), .ref 178]) jv_i385 [.ref 178] rfl rfl rfl rfl (jv_cal rfl (jv_H_at (jv_rwK hW 178 14 31 (by decide))) rfl rfl) rfl (by have z := vr_mkind (L := L) (n := n) (sl := sl) hW D; rw [hk] at z; exact z) rfl rfl Kz) ?_
  refine jv_Wp.lift (fun _ Kz => jv_Ev.steps jv_i393 1 (pc' := 17) (l' := [(0, .ref 178), (1, .int (vl_I p))]) (st' := [.int (6 : Int32), .int (6 : Int32), .int ((vl_I p) + (1 : Int32)), .ref 178]) rfl Kz) ?_
  refine jv_Wp.lift (fun _ Kz => jv_Ev.br jv_i393 (pc' := 20) (st' := [.int ((vl_I p) + (1 : Int32)), .ref 178]) rfl (by rfl) Kz) ?_
  refine jv_Wp.lift (fun _ Kz => jv_Ev.steps jv_i393 1 (pc' := 21) (l' := [(0, .ref 178), (1, .int (vl_I p))]) (st' := [.ref 178, .int ((vl_I p) + (1 : Int32)), .ref 178]) rfl Kz) ?_
  refine jv_Wp.lift (fun _ Kz => jv_Ev.m jv_i393 (pc' := 24) (st' := [.int (Int32.ofInt f.i), .int ((vl_I p) + (1 : Int32)), .ref 178]) (G' := (jv_H K I L R)) rfl rfl (jv_m_getI (jv_rwK hW 178 14 31 (by decide)) rfl rfl (vm_d_i D)) Kz) ?_
  refine jv_Wp.lift (fun _ Kz => jv_Ev.steps jv_i393 2 (pc' := 32) (l' := [(0, .ref 178), (1, .int (vl_I p))]) (st' := [.int (((vl_I p) + (1 : Int32)) + (Int32.ofInt f.i)), .ref 178]) rfl Kz) ?_
  refine jv_Wp.lift (fun _ Kz => jv_Ev.m jv_i393 (pc' := 35) (st' := []) (G' := (jv_H K (jv_u I 178 30 (((vl_I p) + (1 : Int32)) + (Int32.ofInt f.i))) L R)) rfl rfl (jv_m_putI (jv_rwK hW 178 14 31 (by decide)) rfl rfl rfl rfl) Kz) ?_
  refine jv_Wp.of (jv_Ev.ret jv_i393 rfl rfl) ?_
  rw [hQ]
  refine ⟨_, _, rfl, vm_r_nx h, ?_, vc_ff_u (Or.inr ⟨rfl, rfl⟩)⟩
  rw [jv_u_self, vl_I_p1]
  exact vm_goal (vr_dQ D) hG h0 hp
theorem jv_i395 : jv_I 395 6 none 6 149 jv_c395 := ⟨rfl, rfl, rfl, rfl, rfl⟩
theorem vr_access1 {K : Nat → Option (Nat × Nat)} {I : Nat → Nat → Int32} {L : Nat → Nat → Int64} {R : Nat → Nat → Value} (hW : jv_rW K R) {S T : vm_S} (hsh : vm_sh S) (h : vm_r I L S) {f : vf_F} (D : vm_D I f) (hd : f.d < 11) (hs : f.s < 11) (hk : f.kind = 1) (hz : f.mode = 4 → f.z = 1 ∨ f.z = 2 ∨ f.z = 4) (hl : vm_load 1073750016 1073758208 f S = some T) {n sl : Nat} : ∃ I1 L1, jv_Ms 395 [.ref 178] (jv_H K I L R) n sl (none, jv_H K I1 L1 R, n, sl) ∧ vm_r I1 L1 T ∧ vc_ff vr_Er I L I1 L1 := by
  obtain ⟨Q, hQ⟩ : ∃ Q : jv_R → Prop, Q = fun X => ∃ I1 L1, X = (none, jv_H K I1 L1 R, n, sl) ∧ vm_r I1 L1 T ∧ vc_ff vr_Er I L I1 L1 := ⟨_, rfl⟩
  suffices hE : jv_Wp 395 0 [(0, .ref 178)] [] (jv_H K I L R) n sl Q by
    rw [hQ] at hE
    obtain ⟨X, hE, I1, L1, e, h'⟩ := hE
    subst e
    exact ⟨I1, L1, hE, h'⟩
  obtain ⟨xs, v, hgs, hev, hnum, hT⟩ := vm_load_dec hl
  have z4 := vf_z_cases f
  have hE := vr_evenM (K := K) (I := I) (L := L) (R := R) (n := n) (sl := sl) hW z4 hev
  have hN := vr_number (n := n) (sl := sl) hW hsh h (by omega) hnum
  rw [← vm_io (vr_dO D)] at hE hN
  have hS : f.mode = 4 → jv_Ms 380 [.long (vm_J v), .int ((8 : Int32) * (vl_I f.z))] (jv_H K I L R) n sl (some (.long (Int64.ofBitVec (vm_sx (vm_J v).toBitVec (8 * f.z)))), jv_H K I L R, n, sl) := fun m4 => by
    rcases hz m4 with e | e | e <;> rw [e]
    · exact vr_signed8
    · exact vr_signed16
    · exact vr_signed32
  refine jv_Wp.lift (fun _ Kz => jv_Ev.steps jv_i395 1 (pc' := 1) (l' := [(0, .ref 178)]) (st' := [.ref 178]) rfl Kz) ?_
  refine jv_Wp.lift (fun _ Kz => jv_Ev.c jv_i395 (pc' := 4) (S' := [.int (vl_I f.z)]) jv_i388 [.ref 178] rfl rfl rfl rfl (jv_cal rfl (jv_H_at (jv_rwK hW 178 14 31 (by decide))) rfl rfl) rfl (vr_mbytes hW D) rfl rfl Kz) ?_
  refine jv_Wp.lift (fun _ Kz => jv_Ev.steps jv_i395 3 (pc' := 7) (l' := [(1, .int (vl_I f.z)), (0, .ref 178)]) (st' := [.ref 178, .ref 178]) rfl Kz) ?_
  refine jv_Wp.lift (fun _ Kz => jv_Ev.c jv_i395 (pc' := 10) (S' := [.int (1 : Int32), .ref 178]) jv_i385 [.ref 178] rfl rfl rfl rfl (jv_cal rfl (jv_H_at (jv_rwK hW 178 14 31 (by decide))) rfl rfl) rfl (by have z := vr_mkind (L := L) (n := n) (sl := sl) hW D; rw [hk] at z; exact z) rfl rfl Kz) ?_
  refine jv_Wp.lift (fun _ Kz => jv_Ev.steps jv_i395 1 (pc' := 11) (l' := [(1, .int (vl_I f.z)), (0, .ref 178)]) (st' := [.int (1 : Int32), .int (1 : Int32), .ref 178]) rfl Kz) ?_
  refine jv_Wp.lift (fun _ Kz => jv_Ev.br jv_i395 (pc' := 14) (st' := [.ref 178]) rfl (by rfl) Kz) ?_
  refine jv_Wp.lift (fun _ Kz => jv_Ev.steps jv_i395 1 (pc' := 15) (l' := [(1, .int (vl_I f.z)), (0, .ref 178)]) (st' := [.ref 178, .ref 178]) rfl Kz) ?_
  refine jv_Wp.lift (fun _ Kz => jv_Ev.m jv_i395 (pc' := 18) (st' := [.int (vl_I f.s), .ref 178]) (G' := (jv_H K I L R)) rfl rfl (jv_m_getI (jv_rwK hW 178 14 31 (by decide)) rfl rfl (vm_d_s D)) Kz) ?_
  refine jv_Wp.lift (fun _ Kz => jv_Ev.steps jv_i395 1 (pc' := 25) (l' := [(1, .int (vl_I f.z)), (0, .ref 178)]) (st' := [.int (vl_I f.s), .ref 178]) rfl Kz) ?_
  refine jv_Wp.lift (fun _ Kz => jv_Ev.c jv_i395 (pc' := 28) (S' := [.long xs]) jv_i374 [.ref 178, .int (vl_I f.s)] rfl rfl rfl rfl (jv_cal rfl (jv_H_at (jv_rwK hW 178 14 31 (by decide))) rfl rfl) rfl (vr_readR hW h hs hgs) rfl rfl Kz) ?_
  refine jv_Wp.lift (fun _ Kz => jv_Ev.steps jv_i395 1 (pc' := 29) (l' := [(1, .int (vl_I f.z)), (0, .ref 178)]) (st' := [.ref 178, .long xs]) rfl Kz) ?_
  refine jv_Wp.lift (fun _ Kz => jv_Ev.m jv_i395 (pc' := 32) (st' := [.int (Int32.ofInt f.o), .long xs]) (G' := (jv_H K I L R)) rfl rfl (jv_m_getI (jv_rwK hW 178 14 31 (by decide)) rfl rfl (vm_d_o D)) Kz) ?_
  refine jv_Wp.lift (fun _ Kz => jv_Ev.steps jv_i395 4 (pc' := 36) (l' := [(2, .long (xs + (Int32.ofInt f.o).toInt64)), (1, .int (vl_I f.z)), (0, .ref 178)]) (st' := [.ref 178]) rfl Kz) ?_
  refine jv_Wp.lift (fun _ Kz => jv_Ev.c jv_i395 (pc' := 39) (S' := [.int (1 : Int32)]) jv_i385 [.ref 178] rfl rfl rfl rfl (jv_cal rfl (jv_H_at (jv_rwK hW 178 14 31 (by decide))) rfl rfl) rfl (by have z := vr_mkind (L := L) (n := n) (sl := sl) hW D; rw [hk] at z; exact z) rfl rfl Kz) ?_
  refine jv_Wp.lift (fun _ Kz => jv_Ev.steps jv_i395 1 (pc' := 40) (l' := [(2, .long (xs + (Int32.ofInt f.o).toInt64)), (1, .int (vl_I f.z)), (0, .ref 178)]) (st' := [.int (3 : Int32), .int (1 : Int32)]) rfl Kz) ?_
  refine jv_Wp.lift (fun _ Kz => jv_Ev.br jv_i395 (pc' := 59) (st' := []) rfl (by rfl) Kz) ?_
  refine jv_Wp.lift (fun _ Kz => jv_Ev.steps jv_i395 3 (pc' := 62) (l' := [(2, .long (xs + (Int32.ofInt f.o).toInt64)), (1, .int (vl_I f.z)), (0, .ref 178)]) (st' := [.int (vl_I f.z), .long (xs + (Int32.ofInt f.o).toInt64), .ref 178]) rfl Kz) ?_
  refine jv_Wp.lift (fun _ Kz => jv_Ev.c jv_i395 (pc' := 65) (S' := []) jv_i373 [.ref 178, .long (xs + (Int32.ofInt f.o).toInt64), .int (vl_I f.z)] rfl rfl rfl rfl (jv_cal rfl (jv_H_at (jv_rwK hW 178 14 31 (by decide))) rfl rfl) rfl hE rfl rfl Kz) ?_
  refine jv_Wp.lift (fun _ Kz => jv_Ev.steps jv_i395 1 (pc' := 66) (l' := [(2, .long (xs + (Int32.ofInt f.o).toInt64)), (1, .int (vl_I f.z)), (0, .ref 178)]) (st' := [.ref 178]) rfl Kz) ?_
  refine jv_Wp.lift (fun _ Kz => jv_Ev.c jv_i395 (pc' := 69) (S' := [.int (1 : Int32)]) jv_i385 [.ref 178] rfl rfl rfl rfl (jv_cal rfl (jv_H_at (jv_rwK hW 178 14 31 (by decide))) rfl rfl) rfl (by have z := vr_mkind (L := L) (n := n) (sl := sl) hW D; rw [hk] at z; exact z) rfl rfl Kz) ?_
  refine jv_Wp.lift (fun _ Kz => jv_Ev.steps jv_i395 1 (pc' := 70) (l' := [(2, .long (xs + (Int32.ofInt f.o).toInt64)), (1, .int (vl_I f.z)), (0, .ref 178)]) (st' := [.int (1 : Int32), .int (1 : Int32)]) rfl Kz) ?_
  refine jv_Wp.lift (fun _ Kz => jv_Ev.br jv_i395 (pc' := 73) (st' := []) rfl (by rfl) Kz) ?_
  refine jv_Wp.lift (fun _ Kz => jv_Ev.steps jv_i395 3 (pc' := 76) (l' := [(2, .long (xs + (Int32.ofInt f.o).toInt64)), (1, .int (vl_I f.z)), (0, .ref 178)]) (st' := [.int (vl_I f.z), .long (xs + (Int32.ofInt f.o).toInt64), .ref 178]) rfl Kz) ?_
  refine jv_Wp.lift (fun _ Kz => jv_Ev.c jv_i395 (pc' := 79) (S' := [.long (vm_J v)]) jv_i371 [.ref 178, .long (xs + (Int32.ofInt f.o).toInt64), .int (vl_I f.z)] rfl rfl rfl rfl (jv_cal rfl (jv_H_at (jv_rwK hW 178 14 31 (by decide))) rfl rfl) rfl hN rfl rfl Kz) ?_
  refine jv_Wp.lift (fun _ Kz => jv_Ev.steps jv_i395 3 (pc' := 83) (l' := [(4, .long (vm_J v)), (2, .long (xs + (Int32.ofInt f.o).toInt64)), (1, .int (vl_I f.z)), (0, .ref 178)]) (st' := [.ref 178, .ref 178]) rfl Kz) ?_
  refine jv_Wp.lift (fun _ Kz => jv_Ev.m jv_i395 (pc' := 86) (st' := [.int (vl_I f.d), .ref 178]) (G' := (jv_H K I L R)) rfl rfl (jv_m_getI (jv_rwK hW 178 14 31 (by decide)) rfl rfl (vm_d_d D)) Kz) ?_
  refine jv_Wp.lift (fun _ Kz => jv_Ev.steps jv_i395 1 (pc' := 87) (l' := [(4, .long (vm_J v)), (2, .long (xs + (Int32.ofInt f.o).toInt64)), (1, .int (vl_I f.z)), (0, .ref 178)]) (st' := [.ref 178, .int (vl_I f.d), .ref 178]) rfl Kz) ?_
  refine jv_Wp.lift (fun _ Kz => jv_Ev.c jv_i395 (pc' := 90) (S' := [.int (vl_I f.mode), .int (vl_I f.d), .ref 178]) jv_i389 [.ref 178] rfl rfl rfl rfl (jv_cal rfl (jv_H_at (jv_rwK hW 178 14 31 (by decide))) rfl rfl) rfl (vr_mmode hW D) rfl rfl Kz) ?_
  refine jv_Wp.lift (fun _ Kz => jv_Ev.steps jv_i395 1 (pc' := 91) (l' := [(4, .long (vm_J v)), (2, .long (xs + (Int32.ofInt f.o).toInt64)), (1, .int (vl_I f.z)), (0, .ref 178)]) (st' := [.int (4 : Int32), .int (vl_I f.mode), .int (vl_I f.d), .ref 178]) rfl Kz) ?_
  refine jv_Wp.cnd jv_i395 (pt := 106) (pe := 94) (p := (¬ (vl_I f.mode) = (4 : Int32))) (q := (¬ (vl_I f.mode) = (4 : Int32))) rfl jv_bc_ne rfl rfl Iff.rfl (fun h1 => ?_) (fun h1 => ?_)
  · refine jv_Wp.lift (fun _ Kz => jv_Ev.steps jv_i395 1 (pc' := 108) (l' := [(4, .long (vm_J v)), (2, .long (xs + (Int32.ofInt f.o).toInt64)), (1, .int (vl_I f.z)), (0, .ref 178)]) (st' := [.long (vm_J v), .int (vl_I f.d), .ref 178]) rfl Kz) ?_
    refine jv_Wp.lift (fun _ Kz => jv_Ev.c jv_i395 (pc' := 111) (S' := []) (G1 := (jv_H K (jv_u I 221 f.d 1) (jv_u L 220 f.d (vm_J v)) R)) jv_i375 [.ref 178, .int (vl_I f.d), .long (vm_J v)] rfl rfl rfl rfl (jv_cal rfl (jv_H_at (jv_rwK hW 178 14 31 (by decide))) rfl rfl) rfl (vr_give (I := I) (L := L) (n := n) (sl := sl) (r := f.d) hW (by omega)) rfl rfl Kz) ?_
    refine jv_Wp.lift (fun _ Kz => jv_Ev.steps jv_i395 1 (pc' := 144) (l' := [(4, .long (vm_J v)), (2, .long (xs + (Int32.ofInt f.o).toInt64)), (1, .int (vl_I f.z)), (0, .ref 178)]) (st' := []) rfl Kz) ?_
    refine jv_Wp.of (jv_Ev.ret jv_i395 rfl rfl) ?_
    rw [hQ]
    rw [if_neg (show ¬ f.mode = 4 from fun z => h1 ((vl_I_inj (a := f.mode) (b := 4) (by have : f.mode = f.code / 32 := rfl; have := vr_dc D; omega) (by decide)).mpr z))] at hT
    subst hT
    exact ⟨_, _, rfl, vm_r_gv h, vr_gv_ff (vc_ff_refl _ I L)⟩
  · refine jv_Wp.lift (fun _ Kz => jv_Ev.steps jv_i395 4 (pc' := 100) (l' := [(4, .long (vm_J v)), (2, .long (xs + (Int32.ofInt f.o).toInt64)), (1, .int (vl_I f.z)), (0, .ref 178)]) (st' := [.int ((8 : Int32) * (vl_I f.z)), .long (vm_J v), .int (vl_I f.d), .ref 178]) rfl Kz) ?_
    refine jv_Wp.lift (fun _ Kz => jv_Ev.c jv_i395 (pc' := 103) (S' := [.long (Int64.ofBitVec (vm_sx (vm_J v).toBitVec (8 * f.z))), .int (vl_I f.d), .ref 178]) jv_i380 [.long (vm_J v), .int ((8 : Int32) * (vl_I f.z))] rfl rfl rfl rfl rfl rfl (hS ((vl_I_inj (a := f.mode) (b := 4) (by have : f.mode = f.code / 32 := rfl; have := vr_dc D; omega) (by decide)).mp (by first | assumption | exact Classical.not_not.mp (by assumption)))) rfl rfl Kz) ?_
    refine jv_Wp.lift (fun _ Kz => jv_Ev.steps jv_i395 1 (pc' := 108) (l' := [(4, .long (vm_J v)), (2, .long (xs + (Int32.ofInt f.o).toInt64)), (1, .int (vl_I f.z)), (0, .ref 178)]) (st' := [.long (Int64.ofBitVec (vm_sx (vm_J v).toBitVec (8 * f.z))), .int (vl_I f.d), .ref 178]) rfl Kz) ?_
    refine jv_Wp.lift (fun _ Kz => jv_Ev.c jv_i395 (pc' := 111) (S' := []) (G1 := (jv_H K (jv_u I 221 f.d 1) (jv_u L 220 f.d (Int64.ofBitVec (vm_sx (vm_J v).toBitVec (8 * f.z)))) R)) jv_i375 [.ref 178, .int (vl_I f.d), .long (Int64.ofBitVec (vm_sx (vm_J v).toBitVec (8 * f.z)))] rfl rfl rfl rfl (jv_cal rfl (jv_H_at (jv_rwK hW 178 14 31 (by decide))) rfl rfl) rfl (vr_give (I := I) (L := L) (n := n) (sl := sl) (r := f.d) hW (by omega)) rfl rfl Kz) ?_
    refine jv_Wp.lift (fun _ Kz => jv_Ev.steps jv_i395 1 (pc' := 144) (l' := [(4, .long (vm_J v)), (2, .long (xs + (Int32.ofInt f.o).toInt64)), (1, .int (vl_I f.z)), (0, .ref 178)]) (st' := []) rfl Kz) ?_
    refine jv_Wp.of (jv_Ev.ret jv_i395 rfl rfl) ?_
    rw [hQ]
    have m4 : f.mode = 4 := (vl_I_inj (a := f.mode) (b := 4) (by have : f.mode = f.code / 32 := rfl; have := vr_dc D; omega) (by decide)).mp (Classical.not_not.mp h1)
    rw [if_pos m4] at hT
    subst hT
    exact ⟨_, _, rfl, vm_r_gv h, vr_gv_ff (vc_ff_refl _ I L)⟩
theorem vr_access2 {K : Nat → Option (Nat × Nat)} {I : Nat → Nat → Int32} {L : Nat → Nat → Int64} {R : Nat → Nat → Value} (hW : jv_rW K R) {S T : vm_S} (hsh : vm_sh S) (h : vm_r I L S) {f : vf_F} (D : vm_D I f) (hd : f.d < 11) (hs : f.s < 11) (hk : f.kind = 2) (hl : vm_store 1073750016 1073758208 f S = some T) {n sl : Nat} : ∃ I1 L1, jv_Ms 395 [.ref 178] (jv_H K I L R) n sl (none, jv_H K I1 L1 R, n, sl) ∧ vm_r I1 L1 T ∧ vc_ff vr_Er I L I1 L1 := by
  obtain ⟨Q, hQ⟩ : ∃ Q : jv_R → Prop, Q = fun X => ∃ I1 L1, X = (none, jv_H K I1 L1 R, n, sl) ∧ vm_r I1 L1 T ∧ vc_ff vr_Er I L I1 L1 := ⟨_, rfl⟩
  suffices hE : jv_Wp 395 0 [(0, .ref 178)] [] (jv_H K I L R) n sl Q by
    rw [hQ] at hE
    obtain ⟨X, hE, I1, L1, e, h'⟩ := hE
    subst e
    exact ⟨I1, L1, hE, h'⟩
  obtain ⟨xd, v, hgd, hv, hev, hT⟩ := vm_store_dec hl
  have z4 := vf_z_cases f
  have z8 : f.z ≤ 8 := by omega
  rw [if_pos hk] at hv
  have hv := Option.some.inj hv
  subst hv
  have hE := vr_evenM (K := K) (I := I) (L := L) (R := R) (n := n) (sl := sl) hW z4 hev
  obtain ⟨I2, hKp, hm, hf⟩ := vr_keepM (n := n) (sl := sl) (R := R) hW z8 hsh h hT
  rw [← vm_io (vr_dO D)] at hE hKp
  rw [← vm_io (vr_dQ D)] at hKp
  refine jv_Wp.lift (fun _ Kz => jv_Ev.steps jv_i395 1 (pc' := 1) (l' := [(0, .ref 178)]) (st' := [.ref 178]) rfl Kz) ?_
  refine jv_Wp.lift (fun _ Kz => jv_Ev.c jv_i395 (pc' := 4) (S' := [.int (vl_I f.z)]) jv_i388 [.ref 178] rfl rfl rfl rfl (jv_cal rfl (jv_H_at (jv_rwK hW 178 14 31 (by decide))) rfl rfl) rfl (vr_mbytes hW D) rfl rfl Kz) ?_
  refine jv_Wp.lift (fun _ Kz => jv_Ev.steps jv_i395 3 (pc' := 7) (l' := [(1, .int (vl_I f.z)), (0, .ref 178)]) (st' := [.ref 178, .ref 178]) rfl Kz) ?_
  refine jv_Wp.lift (fun _ Kz => jv_Ev.c jv_i395 (pc' := 10) (S' := [.int (2 : Int32), .ref 178]) jv_i385 [.ref 178] rfl rfl rfl rfl (jv_cal rfl (jv_H_at (jv_rwK hW 178 14 31 (by decide))) rfl rfl) rfl (by have z := vr_mkind (L := L) (n := n) (sl := sl) hW D; rw [hk] at z; exact z) rfl rfl Kz) ?_
  refine jv_Wp.lift (fun _ Kz => jv_Ev.steps jv_i395 1 (pc' := 11) (l' := [(1, .int (vl_I f.z)), (0, .ref 178)]) (st' := [.int (1 : Int32), .int (2 : Int32), .ref 178]) rfl Kz) ?_
  refine jv_Wp.lift (fun _ Kz => jv_Ev.br jv_i395 (pc' := 21) (st' := [.ref 178]) rfl (by rfl) Kz) ?_
  refine jv_Wp.lift (fun _ Kz => jv_Ev.steps jv_i395 1 (pc' := 22) (l' := [(1, .int (vl_I f.z)), (0, .ref 178)]) (st' := [.ref 178, .ref 178]) rfl Kz) ?_
  refine jv_Wp.lift (fun _ Kz => jv_Ev.m jv_i395 (pc' := 25) (st' := [.int (vl_I f.d), .ref 178]) (G' := (jv_H K I L R)) rfl rfl (jv_m_getI (jv_rwK hW 178 14 31 (by decide)) rfl rfl (vm_d_d D)) Kz) ?_
  refine jv_Wp.lift (fun _ Kz => jv_Ev.c jv_i395 (pc' := 28) (S' := [.long xd]) jv_i374 [.ref 178, .int (vl_I f.d)] rfl rfl rfl rfl (jv_cal rfl (jv_H_at (jv_rwK hW 178 14 31 (by decide))) rfl rfl) rfl (vr_readR hW h hd hgd) rfl rfl Kz) ?_
  refine jv_Wp.lift (fun _ Kz => jv_Ev.steps jv_i395 1 (pc' := 29) (l' := [(1, .int (vl_I f.z)), (0, .ref 178)]) (st' := [.ref 178, .long xd]) rfl Kz) ?_
  refine jv_Wp.lift (fun _ Kz => jv_Ev.m jv_i395 (pc' := 32) (st' := [.int (Int32.ofInt f.o), .long xd]) (G' := (jv_H K I L R)) rfl rfl (jv_m_getI (jv_rwK hW 178 14 31 (by decide)) rfl rfl (vm_d_o D)) Kz) ?_
  refine jv_Wp.lift (fun _ Kz => jv_Ev.steps jv_i395 4 (pc' := 36) (l' := [(2, .long (xd + (Int32.ofInt f.o).toInt64)), (1, .int (vl_I f.z)), (0, .ref 178)]) (st' := [.ref 178]) rfl Kz) ?_
  refine jv_Wp.lift (fun _ Kz => jv_Ev.c jv_i395 (pc' := 39) (S' := [.int (2 : Int32)]) jv_i385 [.ref 178] rfl rfl rfl rfl (jv_cal rfl (jv_H_at (jv_rwK hW 178 14 31 (by decide))) rfl rfl) rfl (by have z := vr_mkind (L := L) (n := n) (sl := sl) hW D; rw [hk] at z; exact z) rfl rfl Kz) ?_
  refine jv_Wp.lift (fun _ Kz => jv_Ev.steps jv_i395 1 (pc' := 40) (l' := [(2, .long (xd + (Int32.ofInt f.o).toInt64)), (1, .int (vl_I f.z)), (0, .ref 178)]) (st' := [.int (3 : Int32), .int (2 : Int32)]) rfl Kz) ?_
  refine jv_Wp.lift (fun _ Kz => jv_Ev.br jv_i395 (pc' := 59) (st' := []) rfl (by rfl) Kz) ?_
  refine jv_Wp.lift (fun _ Kz => jv_Ev.steps jv_i395 3 (pc' := 62) (l' := [(2, .long (xd + (Int32.ofInt f.o).toInt64)), (1, .int (vl_I f.z)), (0, .ref 178)]) (st' := [.int (vl_I f.z), .long (xd + (Int32.ofInt f.o).toInt64), .ref 178]) rfl Kz) ?_
  refine jv_Wp.lift (fun _ Kz => jv_Ev.c jv_i395 (pc' := 65) (S' := []) jv_i373 [.ref 178, .long (xd + (Int32.ofInt f.o).toInt64), .int (vl_I f.z)] rfl rfl rfl rfl (jv_cal rfl (jv_H_at (jv_rwK hW 178 14 31 (by decide))) rfl rfl) rfl hE rfl rfl Kz) ?_
  refine jv_Wp.lift (fun _ Kz => jv_Ev.steps jv_i395 1 (pc' := 66) (l' := [(2, .long (xd + (Int32.ofInt f.o).toInt64)), (1, .int (vl_I f.z)), (0, .ref 178)]) (st' := [.ref 178]) rfl Kz) ?_
  refine jv_Wp.lift (fun _ Kz => jv_Ev.c jv_i395 (pc' := 69) (S' := [.int (2 : Int32)]) jv_i385 [.ref 178] rfl rfl rfl rfl (jv_cal rfl (jv_H_at (jv_rwK hW 178 14 31 (by decide))) rfl rfl) rfl (by have z := vr_mkind (L := L) (n := n) (sl := sl) hW D; rw [hk] at z; exact z) rfl rfl Kz) ?_
  refine jv_Wp.lift (fun _ Kz => jv_Ev.steps jv_i395 1 (pc' := 70) (l' := [(2, .long (xd + (Int32.ofInt f.o).toInt64)), (1, .int (vl_I f.z)), (0, .ref 178)]) (st' := [.int (1 : Int32), .int (2 : Int32)]) rfl Kz) ?_
  refine jv_Wp.lift (fun _ Kz => jv_Ev.br jv_i395 (pc' := 114) (st' := []) rfl (by rfl) Kz) ?_
  refine jv_Wp.lift (fun _ Kz => jv_Ev.steps jv_i395 4 (pc' := 118) (l' := [(2, .long (xd + (Int32.ofInt f.o).toInt64)), (1, .int (vl_I f.z)), (0, .ref 178)]) (st' := [.ref 178, .int (vl_I f.z), .long (xd + (Int32.ofInt f.o).toInt64), .ref 178]) rfl Kz) ?_
  refine jv_Wp.lift (fun _ Kz => jv_Ev.c jv_i395 (pc' := 121) (S' := [.int (2 : Int32), .int (vl_I f.z), .long (xd + (Int32.ofInt f.o).toInt64), .ref 178]) jv_i385 [.ref 178] rfl rfl rfl rfl (jv_cal rfl (jv_H_at (jv_rwK hW 178 14 31 (by decide))) rfl rfl) rfl (by have z := vr_mkind (L := L) (n := n) (sl := sl) hW D; rw [hk] at z; exact z) rfl rfl Kz) ?_
  refine jv_Wp.lift (fun _ Kz => jv_Ev.steps jv_i395 1 (pc' := 122) (l' := [(2, .long (xd + (Int32.ofInt f.o).toInt64)), (1, .int (vl_I f.z)), (0, .ref 178)]) (st' := [.int (2 : Int32), .int (2 : Int32), .int (vl_I f.z), .long (xd + (Int32.ofInt f.o).toInt64), .ref 178]) rfl Kz) ?_
  refine jv_Wp.lift (fun _ Kz => jv_Ev.br jv_i395 (pc' := 125) (st' := [.int (vl_I f.z), .long (xd + (Int32.ofInt f.o).toInt64), .ref 178]) rfl (by rfl) Kz) ?_
  refine jv_Wp.lift (fun _ Kz => jv_Ev.steps jv_i395 1 (pc' := 126) (l' := [(2, .long (xd + (Int32.ofInt f.o).toInt64)), (1, .int (vl_I f.z)), (0, .ref 178)]) (st' := [.ref 178, .int (vl_I f.z), .long (xd + (Int32.ofInt f.o).toInt64), .ref 178]) rfl Kz) ?_
  refine jv_Wp.lift (fun _ Kz => jv_Ev.m jv_i395 (pc' := 129) (st' := [.int (Int32.ofInt f.i), .int (vl_I f.z), .long (xd + (Int32.ofInt f.o).toInt64), .ref 178]) (G' := (jv_H K I L R)) rfl rfl (jv_m_getI (jv_rwK hW 178 14 31 (by decide)) rfl rfl (vm_d_i D)) Kz) ?_
  refine jv_Wp.lift (fun _ Kz => jv_Ev.steps jv_i395 2 (pc' := 141) (l' := [(2, .long (xd + (Int32.ofInt f.o).toInt64)), (1, .int (vl_I f.z)), (0, .ref 178)]) (st' := [.long (Int32.ofInt f.i).toInt64, .int (vl_I f.z), .long (xd + (Int32.ofInt f.o).toInt64), .ref 178]) rfl Kz) ?_
  refine jv_Wp.lift (fun _ Kz => jv_Ev.c jv_i395 (pc' := 144) (S' := []) (G1 := (jv_H K I2 L R)) jv_i372 [.ref 178, .long (xd + (Int32.ofInt f.o).toInt64), .int (vl_I f.z), .long (Int32.ofInt f.i).toInt64] rfl rfl rfl rfl (jv_cal rfl (jv_H_at (jv_rwK hW 178 14 31 (by decide))) rfl rfl) rfl hKp rfl rfl Kz) ?_
  refine jv_Wp.of (jv_Ev.ret jv_i395 rfl rfl) ?_
  rw [hQ]
  exact ⟨_, _, rfl, hm, vc_ff_le (fun _ _ z => Or.inl z) hf⟩
theorem vr_access3 {K : Nat → Option (Nat × Nat)} {I : Nat → Nat → Int32} {L : Nat → Nat → Int64} {R : Nat → Nat → Value} (hW : jv_rW K R) {S T : vm_S} (hsh : vm_sh S) (h : vm_r I L S) {f : vf_F} (D : vm_D I f) (hd : f.d < 11) (hs : f.s < 11) (hk : f.kind = 3) (hmo : ¬ f.mode = 6) (hl : vm_store 1073750016 1073758208 f S = some T) {n sl : Nat} : ∃ I1 L1, jv_Ms 395 [.ref 178] (jv_H K I L R) n sl (none, jv_H K I1 L1 R, n, sl) ∧ vm_r I1 L1 T ∧ vc_ff vr_Er I L I1 L1 := by
  obtain ⟨Q, hQ⟩ : ∃ Q : jv_R → Prop, Q = fun X => ∃ I1 L1, X = (none, jv_H K I1 L1 R, n, sl) ∧ vm_r I1 L1 T ∧ vc_ff vr_Er I L I1 L1 := ⟨_, rfl⟩
  suffices hE : jv_Wp 395 0 [(0, .ref 178)] [] (jv_H K I L R) n sl Q by
    rw [hQ] at hE
    obtain ⟨X, hE, I1, L1, e, h'⟩ := hE
    subst e
    exact ⟨I1, L1, hE, h'⟩
  obtain ⟨xd, v, hgd, hv, hev, hT⟩ := vm_store_dec hl
  have z4 := vf_z_cases f
  have z8 : f.z ≤ 8 := by omega
  rw [if_neg (by omega)] at hv
  obtain ⟨xs, exs⟩ : ∃ xs, xs = v := ⟨v, rfl⟩
  subst exs
  have hgs := hv
  have hE := vr_evenM (K := K) (I := I) (L := L) (R := R) (n := n) (sl := sl) hW z4 hev
  obtain ⟨I2, hKp, hm, hf⟩ := vr_keepM (n := n) (sl := sl) (R := R) hW z8 hsh h hT
  rw [← vm_io (vr_dO D)] at hE hKp
  refine jv_Wp.lift (fun _ Kz => jv_Ev.steps jv_i395 1 (pc' := 1) (l' := [(0, .ref 178)]) (st' := [.ref 178]) rfl Kz) ?_
  refine jv_Wp.lift (fun _ Kz => jv_Ev.c jv_i395 (pc' := 4) (S' := [.int (vl_I f.z)]) jv_i388 [.ref 178] rfl rfl rfl rfl (jv_cal rfl (jv_H_at (jv_rwK hW 178 14 31 (by decide))) rfl rfl) rfl (vr_mbytes hW D) rfl rfl Kz) ?_
  refine jv_Wp.lift (fun _ Kz => jv_Ev.steps jv_i395 3 (pc' := 7) (l' := [(1, .int (vl_I f.z)), (0, .ref 178)]) (st' := [.ref 178, .ref 178]) rfl Kz) ?_
  refine jv_Wp.lift (fun _ Kz => jv_Ev.c jv_i395 (pc' := 10) (S' := [.int (3 : Int32), .ref 178]) jv_i385 [.ref 178] rfl rfl rfl rfl (jv_cal rfl (jv_H_at (jv_rwK hW 178 14 31 (by decide))) rfl rfl) rfl (by have z := vr_mkind (L := L) (n := n) (sl := sl) hW D; rw [hk] at z; exact z) rfl rfl Kz) ?_
  refine jv_Wp.lift (fun _ Kz => jv_Ev.steps jv_i395 1 (pc' := 11) (l' := [(1, .int (vl_I f.z)), (0, .ref 178)]) (st' := [.int (1 : Int32), .int (3 : Int32), .ref 178]) rfl Kz) ?_
  refine jv_Wp.lift (fun _ Kz => jv_Ev.br jv_i395 (pc' := 21) (st' := [.ref 178]) rfl (by rfl) Kz) ?_
  refine jv_Wp.lift (fun _ Kz => jv_Ev.steps jv_i395 1 (pc' := 22) (l' := [(1, .int (vl_I f.z)), (0, .ref 178)]) (st' := [.ref 178, .ref 178]) rfl Kz) ?_
  refine jv_Wp.lift (fun _ Kz => jv_Ev.m jv_i395 (pc' := 25) (st' := [.int (vl_I f.d), .ref 178]) (G' := (jv_H K I L R)) rfl rfl (jv_m_getI (jv_rwK hW 178 14 31 (by decide)) rfl rfl (vm_d_d D)) Kz) ?_
  refine jv_Wp.lift (fun _ Kz => jv_Ev.c jv_i395 (pc' := 28) (S' := [.long xd]) jv_i374 [.ref 178, .int (vl_I f.d)] rfl rfl rfl rfl (jv_cal rfl (jv_H_at (jv_rwK hW 178 14 31 (by decide))) rfl rfl) rfl (vr_readR hW h hd hgd) rfl rfl Kz) ?_
  refine jv_Wp.lift (fun _ Kz => jv_Ev.steps jv_i395 1 (pc' := 29) (l' := [(1, .int (vl_I f.z)), (0, .ref 178)]) (st' := [.ref 178, .long xd]) rfl Kz) ?_
  refine jv_Wp.lift (fun _ Kz => jv_Ev.m jv_i395 (pc' := 32) (st' := [.int (Int32.ofInt f.o), .long xd]) (G' := (jv_H K I L R)) rfl rfl (jv_m_getI (jv_rwK hW 178 14 31 (by decide)) rfl rfl (vm_d_o D)) Kz) ?_
  refine jv_Wp.lift (fun _ Kz => jv_Ev.steps jv_i395 4 (pc' := 36) (l' := [(2, .long (xd + (Int32.ofInt f.o).toInt64)), (1, .int (vl_I f.z)), (0, .ref 178)]) (st' := [.ref 178]) rfl Kz) ?_
  refine jv_Wp.lift (fun _ Kz => jv_Ev.c jv_i395 (pc' := 39) (S' := [.int (3 : Int32)]) jv_i385 [.ref 178] rfl rfl rfl rfl (jv_cal rfl (jv_H_at (jv_rwK hW 178 14 31 (by decide))) rfl rfl) rfl (by have z := vr_mkind (L := L) (n := n) (sl := sl) hW D; rw [hk] at z; exact z) rfl rfl Kz) ?_
  refine jv_Wp.lift (fun _ Kz => jv_Ev.steps jv_i395 1 (pc' := 40) (l' := [(2, .long (xd + (Int32.ofInt f.o).toInt64)), (1, .int (vl_I f.z)), (0, .ref 178)]) (st' := [.int (3 : Int32), .int (3 : Int32)]) rfl Kz) ?_
  refine jv_Wp.lift (fun _ Kz => jv_Ev.br jv_i395 (pc' := 43) (st' := []) rfl (by rfl) Kz) ?_
  refine jv_Wp.lift (fun _ Kz => jv_Ev.steps jv_i395 1 (pc' := 44) (l' := [(2, .long (xd + (Int32.ofInt f.o).toInt64)), (1, .int (vl_I f.z)), (0, .ref 178)]) (st' := [.ref 178]) rfl Kz) ?_
  refine jv_Wp.lift (fun _ Kz => jv_Ev.c jv_i395 (pc' := 47) (S' := [.int (vl_I f.mode)]) jv_i389 [.ref 178] rfl rfl rfl rfl (jv_cal rfl (jv_H_at (jv_rwK hW 178 14 31 (by decide))) rfl rfl) rfl (vr_mmode hW D) rfl rfl Kz) ?_
  refine jv_Wp.lift (fun _ Kz => jv_Ev.steps jv_i395 1 (pc' := 49) (l' := [(2, .long (xd + (Int32.ofInt f.o).toInt64)), (1, .int (vl_I f.z)), (0, .ref 178)]) (st' := [.int (6 : Int32), .int (vl_I f.mode)]) rfl Kz) ?_
  refine jv_Wp.cnd jv_i395 (pt := 59) (pe := 52) (p := (¬ (vl_I f.mode) = (6 : Int32))) (q := (¬ (vl_I f.mode) = (6 : Int32))) rfl jv_bc_ne rfl rfl Iff.rfl (fun _ => ?_) (fun hz => absurd (fun z => hmo ((vl_I_inj (a := f.mode) (b := 6) (by have : f.mode = f.code / 32 := rfl; have := vr_dc D; omega) (by decide)).mp z)) hz)
  refine jv_Wp.lift (fun _ Kz => jv_Ev.steps jv_i395 3 (pc' := 62) (l' := [(2, .long (xd + (Int32.ofInt f.o).toInt64)), (1, .int (vl_I f.z)), (0, .ref 178)]) (st' := [.int (vl_I f.z), .long (xd + (Int32.ofInt f.o).toInt64), .ref 178]) rfl Kz) ?_
  refine jv_Wp.lift (fun _ Kz => jv_Ev.c jv_i395 (pc' := 65) (S' := []) jv_i373 [.ref 178, .long (xd + (Int32.ofInt f.o).toInt64), .int (vl_I f.z)] rfl rfl rfl rfl (jv_cal rfl (jv_H_at (jv_rwK hW 178 14 31 (by decide))) rfl rfl) rfl hE rfl rfl Kz) ?_
  refine jv_Wp.lift (fun _ Kz => jv_Ev.steps jv_i395 1 (pc' := 66) (l' := [(2, .long (xd + (Int32.ofInt f.o).toInt64)), (1, .int (vl_I f.z)), (0, .ref 178)]) (st' := [.ref 178]) rfl Kz) ?_
  refine jv_Wp.lift (fun _ Kz => jv_Ev.c jv_i395 (pc' := 69) (S' := [.int (3 : Int32)]) jv_i385 [.ref 178] rfl rfl rfl rfl (jv_cal rfl (jv_H_at (jv_rwK hW 178 14 31 (by decide))) rfl rfl) rfl (by have z := vr_mkind (L := L) (n := n) (sl := sl) hW D; rw [hk] at z; exact z) rfl rfl Kz) ?_
  refine jv_Wp.lift (fun _ Kz => jv_Ev.steps jv_i395 1 (pc' := 70) (l' := [(2, .long (xd + (Int32.ofInt f.o).toInt64)), (1, .int (vl_I f.z)), (0, .ref 178)]) (st' := [.int (1 : Int32), .int (3 : Int32)]) rfl Kz) ?_
  refine jv_Wp.lift (fun _ Kz => jv_Ev.br jv_i395 (pc' := 114) (st' := []) rfl (by rfl) Kz) ?_
  refine jv_Wp.lift (fun _ Kz => jv_Ev.steps jv_i395 4 (pc' := 118) (l' := [(2, .long (xd + (Int32.ofInt f.o).toInt64)), (1, .int (vl_I f.z)), (0, .ref 178)]) (st' := [.ref 178, .int (vl_I f.z), .long (xd + (Int32.ofInt f.o).toInt64), .ref 178]) rfl Kz) ?_
  refine jv_Wp.lift (fun _ Kz => jv_Ev.c jv_i395 (pc' := 121) (S' := [.int (3 : Int32), .int (vl_I f.z), .long (xd + (Int32.ofInt f.o).toInt64), .ref 178]) jv_i385 [.ref 178] rfl rfl rfl rfl (jv_cal rfl (jv_H_at (jv_rwK hW 178 14 31 (by decide))) rfl rfl) rfl (by have z := vr_mkind (L := L) (n := n) (sl := sl) hW D; rw [hk] at z; exact z) rfl rfl Kz) ?_
  refine jv_Wp.lift (fun _ Kz => jv_Ev.steps jv_i395 1 (pc' := 122) (l' := [(2, .long (xd + (Int32.ofInt f.o).toInt64)), (1, .int (vl_I f.z)), (0, .ref 178)]) (st' := [.int (2 : Int32), .int (3 : Int32), .int (vl_I f.z), .long (xd + (Int32.ofInt f.o).toInt64), .ref 178]) rfl Kz) ?_
  refine jv_Wp.lift (fun _ Kz => jv_Ev.br jv_i395 (pc' := 133) (st' := [.int (vl_I f.z), .long (xd + (Int32.ofInt f.o).toInt64), .ref 178]) rfl (by rfl) Kz) ?_
  refine jv_Wp.lift (fun _ Kz => jv_Ev.steps jv_i395 2 (pc' := 135) (l' := [(2, .long (xd + (Int32.ofInt f.o).toInt64)), (1, .int (vl_I f.z)), (0, .ref 178)]) (st' := [.ref 178, .ref 178, .int (vl_I f.z), .long (xd + (Int32.ofInt f.o).toInt64), .ref 178]) rfl Kz) ?_
  refine jv_Wp.lift (fun _ Kz => jv_Ev.m jv_i395 (pc' := 138) (st' := [.int (vl_I f.s), .ref 178, .int (vl_I f.z), .long (xd + (Int32.ofInt f.o).toInt64), .ref 178]) (G' := (jv_H K I L R)) rfl rfl (jv_m_getI (jv_rwK hW 178 14 31 (by decide)) rfl rfl (vm_d_s D)) Kz) ?_
  refine jv_Wp.lift (fun _ Kz => jv_Ev.c jv_i395 (pc' := 141) (S' := [.long xs, .int (vl_I f.z), .long (xd + (Int32.ofInt f.o).toInt64), .ref 178]) jv_i374 [.ref 178, .int (vl_I f.s)] rfl rfl rfl rfl (jv_cal rfl (jv_H_at (jv_rwK hW 178 14 31 (by decide))) rfl rfl) rfl (vr_readR hW h hs hgs) rfl rfl Kz) ?_
  refine jv_Wp.lift (fun _ Kz => jv_Ev.c jv_i395 (pc' := 144) (S' := []) (G1 := (jv_H K I2 L R)) jv_i372 [.ref 178, .long (xd + (Int32.ofInt f.o).toInt64), .int (vl_I f.z), .long xs] rfl rfl rfl rfl (jv_cal rfl (jv_H_at (jv_rwK hW 178 14 31 (by decide))) rfl rfl) rfl hKp rfl rfl Kz) ?_
  refine jv_Wp.of (jv_Ev.ret jv_i395 rfl rfl) ?_
  rw [hQ]
  exact ⟨_, _, rfl, hm, vc_ff_le (fun _ _ z => Or.inl z) hf⟩
theorem jv_i394 : jv_I 394 13 none 5 117 jv_c394 := ⟨rfl, rfl, rfl, rfl, rfl⟩
theorem vr_atomic0 {K : Nat → Option (Nat × Nat)} {I : Nat → Nat → Int32} {L : Nat → Nat → Int64} {R : Nat → Nat → Value} (hW : jv_rW K R) {S T : vm_S} (hsh : vm_sh S) (h : vm_r I L S) {f : vf_F} (D : vm_D I f) (hd : f.d < 11) (hs : f.s < 11) {a y q : Int64} {old : Nat} {U : vm_S} (hi : f.i = 0) (hgs : vm_rd S f.s = some y) (hq : (if f.i = 241 then vm_rd S 0 else some 0) = some q) (hal0 : a.toInt % (f.z : Int) = 0) (hnum : vm_num 1073750016 1073758208 S a f.z = some old) (hU : vm_keep 1073750016 1073758208 S a (vm_bt (Int64.ofBitVec (vm_new f (BitVec.ofNat 64 old) y.toBitVec q.toBitVec))) f.z = some U) (hT : T = (if f.i = 241 then vm_gv U 0 (vm_J old) else if f.i % 2 = 1 then vm_gv U f.s (vm_J old) else U)) {n sl : Nat} : ∃ I1 L1, jv_Ms 394 [.ref 178, .long a, .int (vl_I f.z)] (jv_H K I L R) n sl (none, jv_H K I1 L1 R, n, sl) ∧ vm_r I1 L1 T ∧ vc_ff vr_Er I L I1 L1 := by
  obtain ⟨Q, hQ⟩ : ∃ Q : jv_R → Prop, Q = fun X => ∃ I1 L1, X = (none, jv_H K I1 L1 R, n, sl) ∧ vm_r I1 L1 T ∧ vc_ff vr_Er I L I1 L1 := ⟨_, rfl⟩
  suffices hE : jv_Wp 394 0 [(0, .ref 178), (1, .long a), (3, .int (vl_I f.z))] [] (jv_H K I L R) n sl Q by
    rw [hQ] at hE
    obtain ⟨X, hE, I1, L1, e, h'⟩ := hE
    subst e
    exact ⟨I1, L1, hE, h'⟩
  have z4 := vf_z_cases f
  have z8 : f.z ≤ 8 := by omega
  have hiI : I 178 29 = (0 : Int32) := (vm_d_i D).trans (Int32.toInt_inj.mp (by rw [vr_dQ D, hi]; decide))
  have hz0 : ¬ (vl_I f.z).toInt64 = (0 : Int64) := by rcases z4 with e | e | e | e <;> rw [e] <;> decide
  have hr0 : (a - a / (vl_I f.z).toInt64 * (vl_I f.z).toInt64) = (0 : Int64) := vm_rem0 z4 hal0
  obtain ⟨xs, exs⟩ : ∃ xs, xs = y := ⟨y, rfl⟩
  have hgs : vm_rd S f.s = some xs := exs ▸ hgs
  have hN := vr_number (n := n) (sl := sl) hW hsh h (by omega) hnum
  obtain ⟨I2, hKp, hm, hf⟩ := vr_keepM (n := n) (sl := sl) (R := R) hW z8 hsh h hU
  have e178 : I2 178 29 = I 178 29 := hf.1 178 29 (by omega)
  have s178 : I2 178 27 = I 178 27 := hf.1 178 27 (by omega)
  rw [if_neg (show ¬ f.i = 241 by omega), if_neg (show ¬ f.i % 2 = 1 by omega)] at hT
  subst hT
  refine jv_Wp.lift (fun _ Kz => jv_Ev.steps jv_i394 4 (pc' := 4) (l' := [(0, .ref 178), (1, .long a), (3, .int (vl_I f.z))]) (st' := [.long (vl_I f.z).toInt64, .long a, .ref 178]) rfl Kz) ?_
  refine jv_Wp.lift (fun _ Kz => jv_Ev.op jv_i394 (pc' := 5) (l' := [(0, .ref 178), (1, .long a), (3, .int (vl_I f.z))]) (st' := [.long (a - a / (vl_I f.z).toInt64 * (vl_I f.z).toInt64), .ref 178]) rfl (jv_op_lrem hz0) Kz) ?_
  refine jv_Wp.lift (fun _ Kz => jv_Ev.steps jv_i394 2 (pc' := 7) (l' := [(0, .ref 178), (1, .long a), (3, .int (vl_I f.z))]) (st' := [.int (lg_cmp (a - a / (vl_I f.z).toInt64 * (vl_I f.z).toInt64) (0 : Int64)), .ref 178]) rfl Kz) ?_
  refine jv_Wp.cnd jv_i394 (pt := 14) (pe := 10) (p := ((lg_cmp (a - a / (vl_I f.z).toInt64 * (vl_I f.z).toInt64) (0 : Int64)) = 0)) (q := ((a - a / (vl_I f.z).toInt64 * (vl_I f.z).toInt64) = (0 : Int64))) rfl jv_bi_eq rfl rfl (lg_cmp_eq (a - a / (vl_I f.z).toInt64 * (vl_I f.z).toInt64) (0 : Int64)) (fun _ => ?_) (fun hz => absurd hr0 hz)
  refine jv_Wp.lift (fun _ Kz => jv_Ev.steps jv_i394 1 (pc' := 15) (l' := [(0, .ref 178), (1, .long a), (3, .int (vl_I f.z))]) (st' := [.int (0 : Int32), .ref 178]) rfl Kz) ?_
  refine jv_Wp.lift (fun _ Kz => jv_Ev.c jv_i394 (pc' := 18) (S' := []) jv_i365 [.ref 178, .int (0 : Int32)] rfl rfl rfl rfl (jv_cal rfl (jv_H_at (jv_rwK hW 178 14 31 (by decide))) rfl rfl) rfl (vr_count0 (n := n) (sl := sl) hW) rfl rfl Kz) ?_
  refine jv_Wp.lift (fun _ Kz => jv_Ev.steps jv_i394 2 (pc' := 20) (l' := [(0, .ref 178), (1, .long a), (3, .int (vl_I f.z))]) (st' := [.ref 178, .ref 178]) rfl Kz) ?_
  refine jv_Wp.lift (fun _ Kz => jv_Ev.m jv_i394 (pc' := 23) (st' := [.int (vl_I f.s), .ref 178]) (G' := (jv_H K I L R)) rfl rfl (jv_m_getI (jv_rwK hW 178 14 31 (by decide)) rfl rfl (vm_d_s D)) Kz) ?_
  refine jv_Wp.lift (fun _ Kz => jv_Ev.c jv_i394 (pc' := 26) (S' := [.long xs]) jv_i374 [.ref 178, .int (vl_I f.s)] rfl rfl rfl rfl (jv_cal rfl (jv_H_at (jv_rwK hW 178 14 31 (by decide))) rfl rfl) rfl (vr_readR hW h hs hgs) rfl rfl Kz) ?_
  refine jv_Wp.lift (fun _ Kz => jv_Ev.steps jv_i394 2 (pc' := 29) (l' := [(4, .long xs), (0, .ref 178), (1, .long a), (3, .int (vl_I f.z))]) (st' := [.ref 178]) rfl Kz) ?_
  refine jv_Wp.lift (fun _ Kz => jv_Ev.m jv_i394 (pc' := 32) (st' := [.int (0 : Int32)]) (G' := (jv_H K I L R)) rfl rfl (jv_m_getI (jv_rwK hW 178 14 31 (by decide)) rfl rfl hiI) Kz) ?_
  refine jv_Wp.lift (fun _ Kz => jv_Ev.steps jv_i394 1 (pc' := 35) (l' := [(4, .long xs), (0, .ref 178), (1, .long a), (3, .int (vl_I f.z))]) (st' := [.int (241 : Int32), .int (0 : Int32)]) rfl Kz) ?_
  refine jv_Wp.lift (fun _ Kz => jv_Ev.br jv_i394 (pc' := 46) (st' := []) rfl (by rfl) Kz) ?_
  refine jv_Wp.lift (fun _ Kz => jv_Ev.steps jv_i394 5 (pc' := 52) (l' := [(6, .long (0 : Int64)), (4, .long xs), (0, .ref 178), (1, .long a), (3, .int (vl_I f.z))]) (st' := [.int (vl_I f.z), .long a, .ref 178]) rfl Kz) ?_
  refine jv_Wp.lift (fun _ Kz => jv_Ev.c jv_i394 (pc' := 55) (S' := [.long (vm_J old)]) jv_i371 [.ref 178, .long a, .int (vl_I f.z)] rfl rfl rfl rfl (jv_cal rfl (jv_H_at (jv_rwK hW 178 14 31 (by decide))) rfl rfl) rfl hN rfl rfl Kz) ?_
  refine jv_Wp.lift (fun _ Kz => jv_Ev.steps jv_i394 2 (pc' := 58) (l' := [(8, .long (vm_J old)), (6, .long (0 : Int64)), (4, .long xs), (0, .ref 178), (1, .long a), (3, .int (vl_I f.z))]) (st' := [.ref 178]) rfl Kz) ?_
  refine jv_Wp.lift (fun _ Kz => jv_Ev.m jv_i394 (pc' := 61) (st' := [.int (0 : Int32)]) (G' := (jv_H K I L R)) rfl rfl (jv_m_getI (jv_rwK hW 178 14 31 (by decide)) rfl rfl hiI) Kz) ?_
  refine jv_Wp.lift (fun _ Kz => jv_Ev.steps jv_i394 4 (pc' := 67) (l' := [(10, .int (0 : Int32)), (8, .long (vm_J old)), (6, .long (0 : Int64)), (4, .long xs), (0, .ref 178), (1, .long a), (3, .int (vl_I f.z))]) (st' := [.ref 178]) rfl Kz) ?_
  refine jv_Wp.lift (fun _ Kz => jv_Ev.m jv_i394 (pc' := 70) (st' := [.int (0 : Int32)]) (G' := (jv_H K I L R)) rfl rfl (jv_m_getI (jv_rwK hW 178 14 31 (by decide)) rfl rfl hiI) Kz) ?_
  refine jv_Wp.lift (fun _ Kz => jv_Ev.steps jv_i394 1 (pc' := 73) (l' := [(10, .int (0 : Int32)), (8, .long (vm_J old)), (6, .long (0 : Int64)), (4, .long xs), (0, .ref 178), (1, .long a), (3, .int (vl_I f.z))]) (st' := [.int (225 : Int32), .int (0 : Int32)]) rfl Kz) ?_
  refine jv_Wp.lift (fun _ Kz => jv_Ev.br jv_i394 (pc' := 81) (st' := []) rfl (by rfl) Kz) ?_
  refine jv_Wp.lift (fun _ Kz => jv_Ev.steps jv_i394 1 (pc' := 82) (l' := [(10, .int (0 : Int32)), (8, .long (vm_J old)), (6, .long (0 : Int64)), (4, .long xs), (0, .ref 178), (1, .long a), (3, .int (vl_I f.z))]) (st' := [.ref 178]) rfl Kz) ?_
  refine jv_Wp.lift (fun _ Kz => jv_Ev.m jv_i394 (pc' := 85) (st' := [.int (0 : Int32)]) (G' := (jv_H K I L R)) rfl rfl (jv_m_getI (jv_rwK hW 178 14 31 (by decide)) rfl rfl hiI) Kz) ?_
  refine jv_Wp.lift (fun _ Kz => jv_Ev.steps jv_i394 1 (pc' := 88) (l' := [(10, .int (0 : Int32)), (8, .long (vm_J old)), (6, .long (0 : Int64)), (4, .long xs), (0, .ref 178), (1, .long a), (3, .int (vl_I f.z))]) (st' := [.int (241 : Int32), .int (0 : Int32)]) rfl Kz) ?_
  refine jv_Wp.lift (fun _ Kz => jv_Ev.br jv_i394 (pc' := 116) (st' := []) rfl (by rfl) Kz) ?_
  refine jv_Wp.lift (fun _ Kz => jv_Ev.steps jv_i394 1 (pc' := 118) (l' := [(10, .int (0 : Int32)), (8, .long (vm_J old)), (6, .long (0 : Int64)), (4, .long xs), (0, .ref 178), (1, .long a), (3, .int (vl_I f.z))]) (st' := [.int (0 : Int32)]) rfl Kz) ?_
  refine jv_Wp.lift (fun _ Kz => jv_Ev.br jv_i394 (pc' := 121) (st' := []) rfl (by rfl) Kz) ?_
  refine jv_Wp.lift (fun _ Kz => jv_Ev.steps jv_i394 9 (pc' := 171) (l' := [(11, .long ((vm_J old) + xs)), (10, .int (0 : Int32)), (8, .long (vm_J old)), (6, .long (0 : Int64)), (4, .long xs), (0, .ref 178), (1, .long a), (3, .int (vl_I f.z))]) (st' := [.long ((vm_J old) + xs), .int (vl_I f.z), .long a, .ref 178]) rfl Kz) ?_
  have ev : ((vm_J old) + xs) = Int64.ofBitVec (vm_new f (BitVec.ofNat 64 old) y.toBitVec q.toBitVec) := Int64.toBitVec_inj.mp (by rw [Int64.toBitVec_add, exs]; show _ = vm_new f (BitVec.ofNat 64 old) y.toBitVec q.toBitVec; unfold vm_new; rw [if_pos (show f.i = 0 ∨ f.i = 1 by omega)]; rfl)
  refine jv_Wp.lift (fun _ Kz => jv_Ev.c jv_i394 (pc' := 174) (S' := []) (G1 := (jv_H K I2 L R)) jv_i372 [.ref 178, .long a, .int (vl_I f.z), .long ((vm_J old) + xs)] rfl rfl rfl rfl (jv_cal rfl (jv_H_at (jv_rwK hW 178 14 31 (by decide))) rfl rfl) rfl (show jv_Ms 372 [.ref 178, .long a, .int (vl_I f.z), .long ((vm_J old) + xs)] _ _ _ _ from by rw [ev]; exact hKp) rfl rfl Kz) ?_
  refine jv_Wp.lift (fun _ Kz => jv_Ev.steps jv_i394 1 (pc' := 175) (l' := [(11, .long ((vm_J old) + xs)), (10, .int (0 : Int32)), (8, .long (vm_J old)), (6, .long (0 : Int64)), (4, .long xs), (0, .ref 178), (1, .long a), (3, .int (vl_I f.z))]) (st' := [.ref 178]) rfl Kz) ?_
  refine jv_Wp.lift (fun _ Kz => jv_Ev.m jv_i394 (pc' := 178) (st' := [.int (0 : Int32)]) (G' := (jv_H K I2 L R)) rfl rfl (jv_m_getI (jv_rwK hW 178 14 31 (by decide)) rfl rfl (e178.trans hiI)) Kz) ?_
  refine jv_Wp.lift (fun _ Kz => jv_Ev.steps jv_i394 1 (pc' := 181) (l' := [(11, .long ((vm_J old) + xs)), (10, .int (0 : Int32)), (8, .long (vm_J old)), (6, .long (0 : Int64)), (4, .long xs), (0, .ref 178), (1, .long a), (3, .int (vl_I f.z))]) (st' := [.int (241 : Int32), .int (0 : Int32)]) rfl Kz) ?_
  refine jv_Wp.lift (fun _ Kz => jv_Ev.br jv_i394 (pc' := 194) (st' := []) rfl (by rfl) Kz) ?_
  refine jv_Wp.lift (fun _ Kz => jv_Ev.steps jv_i394 1 (pc' := 195) (l' := [(11, .long ((vm_J old) + xs)), (10, .int (0 : Int32)), (8, .long (vm_J old)), (6, .long (0 : Int64)), (4, .long xs), (0, .ref 178), (1, .long a), (3, .int (vl_I f.z))]) (st' := [.ref 178]) rfl Kz) ?_
  refine jv_Wp.lift (fun _ Kz => jv_Ev.m jv_i394 (pc' := 198) (st' := [.int (0 : Int32)]) (G' := (jv_H K I2 L R)) rfl rfl (jv_m_getI (jv_rwK hW 178 14 31 (by decide)) rfl rfl (e178.trans hiI)) Kz) ?_
  refine jv_Wp.lift (fun _ Kz => jv_Ev.steps jv_i394 1 (pc' := 199) (l' := [(11, .long ((vm_J old) + xs)), (10, .int (0 : Int32)), (8, .long (vm_J old)), (6, .long (0 : Int64)), (4, .long xs), (0, .ref 178), (1, .long a), (3, .int (vl_I f.z))]) (st' := [.int (2 : Int32), .int (0 : Int32)]) rfl Kz) ?_
  refine jv_Wp.lift (fun _ Kz => jv_Ev.op jv_i394 (pc' := 200) (l' := [(11, .long ((vm_J old) + xs)), (10, .int (0 : Int32)), (8, .long (vm_J old)), (6, .long (0 : Int64)), (4, .long xs), (0, .ref 178), (1, .long a), (3, .int (vl_I f.z))]) (st' := [.int ((0 : Int32) - (0 : Int32) / (2 : Int32) * (2 : Int32))]) rfl (jv_op_irem (by decide)) Kz) ?_
  refine jv_Wp.lift (fun _ Kz => jv_Ev.steps jv_i394 1 (pc' := 201) (l' := [(11, .long ((vm_J old) + xs)), (10, .int (0 : Int32)), (8, .long (vm_J old)), (6, .long (0 : Int64)), (4, .long xs), (0, .ref 178), (1, .long a), (3, .int (vl_I f.z))]) (st' := [.int (1 : Int32), .int ((0 : Int32) - (0 : Int32) / (2 : Int32) * (2 : Int32))]) rfl Kz) ?_
  refine jv_Wp.cnd jv_i394 (pt := 214) (pe := 204) (p := (¬ ((0 : Int32) - (0 : Int32) / (2 : Int32) * (2 : Int32)) = (1 : Int32))) (q := (¬ ((0 : Int32) - (0 : Int32) / (2 : Int32) * (2 : Int32)) = (1 : Int32))) rfl jv_bc_ne rfl rfl Iff.rfl (fun _ => ?_) (fun hz => absurd (by decide) hz)
  refine jv_Wp.of (jv_Ev.ret jv_i394 rfl rfl) ?_
  rw [hQ]
  exact ⟨_, _, rfl, hm, vc_ff_le (fun _ _ z => Or.inl z) hf⟩
theorem vr_atomic1 {K : Nat → Option (Nat × Nat)} {I : Nat → Nat → Int32} {L : Nat → Nat → Int64} {R : Nat → Nat → Value} (hW : jv_rW K R) {S T : vm_S} (hsh : vm_sh S) (h : vm_r I L S) {f : vf_F} (D : vm_D I f) (hd : f.d < 11) (hs : f.s < 11) {a y q : Int64} {old : Nat} {U : vm_S} (hi : f.i = 1) (hgs : vm_rd S f.s = some y) (hq : (if f.i = 241 then vm_rd S 0 else some 0) = some q) (hal0 : a.toInt % (f.z : Int) = 0) (hnum : vm_num 1073750016 1073758208 S a f.z = some old) (hU : vm_keep 1073750016 1073758208 S a (vm_bt (Int64.ofBitVec (vm_new f (BitVec.ofNat 64 old) y.toBitVec q.toBitVec))) f.z = some U) (hT : T = (if f.i = 241 then vm_gv U 0 (vm_J old) else if f.i % 2 = 1 then vm_gv U f.s (vm_J old) else U)) {n sl : Nat} : ∃ I1 L1, jv_Ms 394 [.ref 178, .long a, .int (vl_I f.z)] (jv_H K I L R) n sl (none, jv_H K I1 L1 R, n, sl) ∧ vm_r I1 L1 T ∧ vc_ff vr_Er I L I1 L1 := by
  obtain ⟨Q, hQ⟩ : ∃ Q : jv_R → Prop, Q = fun X => ∃ I1 L1, X = (none, jv_H K I1 L1 R, n, sl) ∧ vm_r I1 L1 T ∧ vc_ff vr_Er I L I1 L1 := ⟨_, rfl⟩
  suffices hE : jv_Wp 394 0 [(0, .ref 178), (1, .long a), (3, .int (vl_I f.z))] [] (jv_H K I L R) n sl Q by
    rw [hQ] at hE
    obtain ⟨X, hE, I1, L1, e, h'⟩ := hE
    subst e
    exact ⟨I1, L1, hE, h'⟩
  have z4 := vf_z_cases f
  have z8 : f.z ≤ 8 := by omega
  have hiI : I 178 29 = (1 : Int32) := (vm_d_i D).trans (Int32.toInt_inj.mp (by rw [vr_dQ D, hi]; decide))
  have hz0 : ¬ (vl_I f.z).toInt64 = (0 : Int64) := by rcases z4 with e | e | e | e <;> rw [e] <;> decide
  have hr0 : (a - a / (vl_I f.z).toInt64 * (vl_I f.z).toInt64) = (0 : Int64) := vm_rem0 z4 hal0
  obtain ⟨xs, exs⟩ : ∃ xs, xs = y := ⟨y, rfl⟩
  have hgs : vm_rd S f.s = some xs := exs ▸ hgs
  have hN := vr_number (n := n) (sl := sl) hW hsh h (by omega) hnum
  obtain ⟨I2, hKp, hm, hf⟩ := vr_keepM (n := n) (sl := sl) (R := R) hW z8 hsh h hU
  have e178 : I2 178 29 = I 178 29 := hf.1 178 29 (by omega)
  have s178 : I2 178 27 = I 178 27 := hf.1 178 27 (by omega)
  rw [if_neg (show ¬ f.i = 241 by omega), if_pos (show f.i % 2 = 1 by omega)] at hT
  subst hT
  refine jv_Wp.lift (fun _ Kz => jv_Ev.steps jv_i394 4 (pc' := 4) (l' := [(0, .ref 178), (1, .long a), (3, .int (vl_I f.z))]) (st' := [.long (vl_I f.z).toInt64, .long a, .ref 178]) rfl Kz) ?_
  refine jv_Wp.lift (fun _ Kz => jv_Ev.op jv_i394 (pc' := 5) (l' := [(0, .ref 178), (1, .long a), (3, .int (vl_I f.z))]) (st' := [.long (a - a / (vl_I f.z).toInt64 * (vl_I f.z).toInt64), .ref 178]) rfl (jv_op_lrem hz0) Kz) ?_
  refine jv_Wp.lift (fun _ Kz => jv_Ev.steps jv_i394 2 (pc' := 7) (l' := [(0, .ref 178), (1, .long a), (3, .int (vl_I f.z))]) (st' := [.int (lg_cmp (a - a / (vl_I f.z).toInt64 * (vl_I f.z).toInt64) (0 : Int64)), .ref 178]) rfl Kz) ?_
  refine jv_Wp.cnd jv_i394 (pt := 14) (pe := 10) (p := ((lg_cmp (a - a / (vl_I f.z).toInt64 * (vl_I f.z).toInt64) (0 : Int64)) = 0)) (q := ((a - a / (vl_I f.z).toInt64 * (vl_I f.z).toInt64) = (0 : Int64))) rfl jv_bi_eq rfl rfl (lg_cmp_eq (a - a / (vl_I f.z).toInt64 * (vl_I f.z).toInt64) (0 : Int64)) (fun _ => ?_) (fun hz => absurd hr0 hz)
  refine jv_Wp.lift (fun _ Kz => jv_Ev.steps jv_i394 1 (pc' := 15) (l' := [(0, .ref 178), (1, .long a), (3, .int (vl_I f.z))]) (st' := [.int (0 : Int32), .ref 178]) rfl Kz) ?_
  refine jv_Wp.lift (fun _ Kz => jv_Ev.c jv_i394 (pc' := 18) (S' := []) jv_i365 [.ref 178, .int (0 : Int32)] rfl rfl rfl rfl (jv_cal rfl (jv_H_at (jv_rwK hW 178 14 31 (by decide))) rfl rfl) rfl (vr_count0 (n := n) (sl := sl) hW) rfl rfl Kz) ?_
  refine jv_Wp.lift (fun _ Kz => jv_Ev.steps jv_i394 2 (pc' := 20) (l' := [(0, .ref 178), (1, .long a), (3, .int (vl_I f.z))]) (st' := [.ref 178, .ref 178]) rfl Kz) ?_
  refine jv_Wp.lift (fun _ Kz => jv_Ev.m jv_i394 (pc' := 23) (st' := [.int (vl_I f.s), .ref 178]) (G' := (jv_H K I L R)) rfl rfl (jv_m_getI (jv_rwK hW 178 14 31 (by decide)) rfl rfl (vm_d_s D)) Kz) ?_
  refine jv_Wp.lift (fun _ Kz => jv_Ev.c jv_i394 (pc' := 26) (S' := [.long xs]) jv_i374 [.ref 178, .int (vl_I f.s)] rfl rfl rfl rfl (jv_cal rfl (jv_H_at (jv_rwK hW 178 14 31 (by decide))) rfl rfl) rfl (vr_readR hW h hs hgs) rfl rfl Kz) ?_
  refine jv_Wp.lift (fun _ Kz => jv_Ev.steps jv_i394 2 (pc' := 29) (l' := [(4, .long xs), (0, .ref 178), (1, .long a), (3, .int (vl_I f.z))]) (st' := [.ref 178]) rfl Kz) ?_
  refine jv_Wp.lift (fun _ Kz => jv_Ev.m jv_i394 (pc' := 32) (st' := [.int (1 : Int32)]) (G' := (jv_H K I L R)) rfl rfl (jv_m_getI (jv_rwK hW 178 14 31 (by decide)) rfl rfl hiI) Kz) ?_
  refine jv_Wp.lift (fun _ Kz => jv_Ev.steps jv_i394 1 (pc' := 35) (l' := [(4, .long xs), (0, .ref 178), (1, .long a), (3, .int (vl_I f.z))]) (st' := [.int (241 : Int32), .int (1 : Int32)]) rfl Kz) ?_
  refine jv_Wp.lift (fun _ Kz => jv_Ev.br jv_i394 (pc' := 46) (st' := []) rfl (by rfl) Kz) ?_
  refine jv_Wp.lift (fun _ Kz => jv_Ev.steps jv_i394 5 (pc' := 52) (l' := [(6, .long (0 : Int64)), (4, .long xs), (0, .ref 178), (1, .long a), (3, .int (vl_I f.z))]) (st' := [.int (vl_I f.z), .long a, .ref 178]) rfl Kz) ?_
  refine jv_Wp.lift (fun _ Kz => jv_Ev.c jv_i394 (pc' := 55) (S' := [.long (vm_J old)]) jv_i371 [.ref 178, .long a, .int (vl_I f.z)] rfl rfl rfl rfl (jv_cal rfl (jv_H_at (jv_rwK hW 178 14 31 (by decide))) rfl rfl) rfl hN rfl rfl Kz) ?_
  refine jv_Wp.lift (fun _ Kz => jv_Ev.steps jv_i394 2 (pc' := 58) (l' := [(8, .long (vm_J old)), (6, .long (0 : Int64)), (4, .long xs), (0, .ref 178), (1, .long a), (3, .int (vl_I f.z))]) (st' := [.ref 178]) rfl Kz) ?_
  refine jv_Wp.lift (fun _ Kz => jv_Ev.m jv_i394 (pc' := 61) (st' := [.int (1 : Int32)]) (G' := (jv_H K I L R)) rfl rfl (jv_m_getI (jv_rwK hW 178 14 31 (by decide)) rfl rfl hiI) Kz) ?_
  refine jv_Wp.lift (fun _ Kz => jv_Ev.steps jv_i394 4 (pc' := 67) (l' := [(10, .int (0 : Int32)), (8, .long (vm_J old)), (6, .long (0 : Int64)), (4, .long xs), (0, .ref 178), (1, .long a), (3, .int (vl_I f.z))]) (st' := [.ref 178]) rfl Kz) ?_
  refine jv_Wp.lift (fun _ Kz => jv_Ev.m jv_i394 (pc' := 70) (st' := [.int (1 : Int32)]) (G' := (jv_H K I L R)) rfl rfl (jv_m_getI (jv_rwK hW 178 14 31 (by decide)) rfl rfl hiI) Kz) ?_
  refine jv_Wp.lift (fun _ Kz => jv_Ev.steps jv_i394 1 (pc' := 73) (l' := [(10, .int (0 : Int32)), (8, .long (vm_J old)), (6, .long (0 : Int64)), (4, .long xs), (0, .ref 178), (1, .long a), (3, .int (vl_I f.z))]) (st' := [.int (225 : Int32), .int (1 : Int32)]) rfl Kz) ?_
  refine jv_Wp.lift (fun _ Kz => jv_Ev.br jv_i394 (pc' := 81) (st' := []) rfl (by rfl) Kz) ?_
  refine jv_Wp.lift (fun _ Kz => jv_Ev.steps jv_i394 1 (pc' := 82) (l' := [(10, .int (0 : Int32)), (8, .long (vm_J old)), (6, .long (0 : Int64)), (4, .long xs), (0, .ref 178), (1, .long a), (3, .int (vl_I f.z))]) (st' := [.ref 178]) rfl Kz) ?_
  refine jv_Wp.lift (fun _ Kz => jv_Ev.m jv_i394 (pc' := 85) (st' := [.int (1 : Int32)]) (G' := (jv_H K I L R)) rfl rfl (jv_m_getI (jv_rwK hW 178 14 31 (by decide)) rfl rfl hiI) Kz) ?_
  refine jv_Wp.lift (fun _ Kz => jv_Ev.steps jv_i394 1 (pc' := 88) (l' := [(10, .int (0 : Int32)), (8, .long (vm_J old)), (6, .long (0 : Int64)), (4, .long xs), (0, .ref 178), (1, .long a), (3, .int (vl_I f.z))]) (st' := [.int (241 : Int32), .int (1 : Int32)]) rfl Kz) ?_
  refine jv_Wp.lift (fun _ Kz => jv_Ev.br jv_i394 (pc' := 116) (st' := []) rfl (by rfl) Kz) ?_
  refine jv_Wp.lift (fun _ Kz => jv_Ev.steps jv_i394 1 (pc' := 118) (l' := [(10, .int (0 : Int32)), (8, .long (vm_J old)), (6, .long (0 : Int64)), (4, .long xs), (0, .ref 178), (1, .long a), (3, .int (vl_I f.z))]) (st' := [.int (0 : Int32)]) rfl Kz) ?_
  refine jv_Wp.lift (fun _ Kz => jv_Ev.br jv_i394 (pc' := 121) (st' := []) rfl (by rfl) Kz) ?_
  refine jv_Wp.lift (fun _ Kz => jv_Ev.steps jv_i394 9 (pc' := 171) (l' := [(11, .long ((vm_J old) + xs)), (10, .int (0 : Int32)), (8, .long (vm_J old)), (6, .long (0 : Int64)), (4, .long xs), (0, .ref 178), (1, .long a), (3, .int (vl_I f.z))]) (st' := [.long ((vm_J old) + xs), .int (vl_I f.z), .long a, .ref 178]) rfl Kz) ?_
  have ev : ((vm_J old) + xs) = Int64.ofBitVec (vm_new f (BitVec.ofNat 64 old) y.toBitVec q.toBitVec) := Int64.toBitVec_inj.mp (by rw [Int64.toBitVec_add, exs]; show _ = vm_new f (BitVec.ofNat 64 old) y.toBitVec q.toBitVec; unfold vm_new; rw [if_pos (show f.i = 0 ∨ f.i = 1 by omega)]; rfl)
  refine jv_Wp.lift (fun _ Kz => jv_Ev.c jv_i394 (pc' := 174) (S' := []) (G1 := (jv_H K I2 L R)) jv_i372 [.ref 178, .long a, .int (vl_I f.z), .long ((vm_J old) + xs)] rfl rfl rfl rfl (jv_cal rfl (jv_H_at (jv_rwK hW 178 14 31 (by decide))) rfl rfl) rfl (show jv_Ms 372 [.ref 178, .long a, .int (vl_I f.z), .long ((vm_J old) + xs)] _ _ _ _ from by rw [ev]; exact hKp) rfl rfl Kz) ?_
  refine jv_Wp.lift (fun _ Kz => jv_Ev.steps jv_i394 1 (pc' := 175) (l' := [(11, .long ((vm_J old) + xs)), (10, .int (0 : Int32)), (8, .long (vm_J old)), (6, .long (0 : Int64)), (4, .long xs), (0, .ref 178), (1, .long a), (3, .int (vl_I f.z))]) (st' := [.ref 178]) rfl Kz) ?_
  refine jv_Wp.lift (fun _ Kz => jv_Ev.m jv_i394 (pc' := 178) (st' := [.int (1 : Int32)]) (G' := (jv_H K I2 L R)) rfl rfl (jv_m_getI (jv_rwK hW 178 14 31 (by decide)) rfl rfl (e178.trans hiI)) Kz) ?_
  refine jv_Wp.lift (fun _ Kz => jv_Ev.steps jv_i394 1 (pc' := 181) (l' := [(11, .long ((vm_J old) + xs)), (10, .int (0 : Int32)), (8, .long (vm_J old)), (6, .long (0 : Int64)), (4, .long xs), (0, .ref 178), (1, .long a), (3, .int (vl_I f.z))]) (st' := [.int (241 : Int32), .int (1 : Int32)]) rfl Kz) ?_
  refine jv_Wp.lift (fun _ Kz => jv_Ev.br jv_i394 (pc' := 194) (st' := []) rfl (by rfl) Kz) ?_
  refine jv_Wp.lift (fun _ Kz => jv_Ev.steps jv_i394 1 (pc' := 195) (l' := [(11, .long ((vm_J old) + xs)), (10, .int (0 : Int32)), (8, .long (vm_J old)), (6, .long (0 : Int64)), (4, .long xs), (0, .ref 178), (1, .long a), (3, .int (vl_I f.z))]) (st' := [.ref 178]) rfl Kz) ?_
  refine jv_Wp.lift (fun _ Kz => jv_Ev.m jv_i394 (pc' := 198) (st' := [.int (1 : Int32)]) (G' := (jv_H K I2 L R)) rfl rfl (jv_m_getI (jv_rwK hW 178 14 31 (by decide)) rfl rfl (e178.trans hiI)) Kz) ?_
  refine jv_Wp.lift (fun _ Kz => jv_Ev.steps jv_i394 1 (pc' := 199) (l' := [(11, .long ((vm_J old) + xs)), (10, .int (0 : Int32)), (8, .long (vm_J old)), (6, .long (0 : Int64)), (4, .long xs), (0, .ref 178), (1, .long a), (3, .int (vl_I f.z))]) (st' := [.int (2 : Int32), .int (1 : Int32)]) rfl Kz) ?_
  refine jv_Wp.lift (fun _ Kz => jv_Ev.op jv_i394 (pc' := 200) (l' := [(11, .long ((vm_J old) + xs)), (10, .int (0 : Int32)), (8, .long (vm_J old)), (6, .long (0 : Int64)), (4, .long xs), (0, .ref 178), (1, .long a), (3, .int (vl_I f.z))]) (st' := [.int ((1 : Int32) - (1 : Int32) / (2 : Int32) * (2 : Int32))]) rfl (jv_op_irem (by decide)) Kz) ?_
  refine jv_Wp.lift (fun _ Kz => jv_Ev.steps jv_i394 1 (pc' := 201) (l' := [(11, .long ((vm_J old) + xs)), (10, .int (0 : Int32)), (8, .long (vm_J old)), (6, .long (0 : Int64)), (4, .long xs), (0, .ref 178), (1, .long a), (3, .int (vl_I f.z))]) (st' := [.int (1 : Int32), .int ((1 : Int32) - (1 : Int32) / (2 : Int32) * (2 : Int32))]) rfl Kz) ?_
  refine jv_Wp.cnd jv_i394 (pt := 214) (pe := 204) (p := (¬ ((1 : Int32) - (1 : Int32) / (2 : Int32) * (2 : Int32)) = (1 : Int32))) (q := (¬ ((1 : Int32) - (1 : Int32) / (2 : Int32) * (2 : Int32)) = (1 : Int32))) rfl jv_bc_ne rfl rfl Iff.rfl (fun hz => absurd hz (by decide)) (fun _ => ?_)
  refine jv_Wp.lift (fun _ Kz => jv_Ev.steps jv_i394 2 (pc' := 206) (l' := [(11, .long ((vm_J old) + xs)), (10, .int (0 : Int32)), (8, .long (vm_J old)), (6, .long (0 : Int64)), (4, .long xs), (0, .ref 178), (1, .long a), (3, .int (vl_I f.z))]) (st' := [.ref 178, .ref 178]) rfl Kz) ?_
  refine jv_Wp.lift (fun _ Kz => jv_Ev.m jv_i394 (pc' := 209) (st' := [.int (vl_I f.s), .ref 178]) (G' := (jv_H K I2 L R)) rfl rfl (jv_m_getI (jv_rwK hW 178 14 31 (by decide)) rfl rfl (s178.trans (vm_d_s D))) Kz) ?_
  refine jv_Wp.lift (fun _ Kz => jv_Ev.steps jv_i394 1 (pc' := 211) (l' := [(11, .long ((vm_J old) + xs)), (10, .int (0 : Int32)), (8, .long (vm_J old)), (6, .long (0 : Int64)), (4, .long xs), (0, .ref 178), (1, .long a), (3, .int (vl_I f.z))]) (st' := [.long (vm_J old), .int (vl_I f.s), .ref 178]) rfl Kz) ?_
  refine jv_Wp.lift (fun _ Kz => jv_Ev.c jv_i394 (pc' := 214) (S' := []) (G1 := (jv_H K (jv_u I2 221 f.s 1) (jv_u L 220 f.s (vm_J old)) R)) jv_i375 [.ref 178, .int (vl_I f.s), .long (vm_J old)] rfl rfl rfl rfl (jv_cal rfl (jv_H_at (jv_rwK hW 178 14 31 (by decide))) rfl rfl) rfl (vr_give (I := I2) (L := L) (n := n) (sl := sl) (r := f.s) hW (by omega)) rfl rfl Kz) ?_
  refine jv_Wp.of (jv_Ev.ret jv_i394 rfl rfl) ?_
  rw [hQ]
  exact ⟨_, _, rfl, vm_r_gv (r := f.s) hm, vr_gv_ff (vc_ff_le (fun _ _ z => Or.inl z) hf)⟩
theorem vr_atomic64 {K : Nat → Option (Nat × Nat)} {I : Nat → Nat → Int32} {L : Nat → Nat → Int64} {R : Nat → Nat → Value} (hW : jv_rW K R) {S T : vm_S} (hsh : vm_sh S) (h : vm_r I L S) {f : vf_F} (D : vm_D I f) (hd : f.d < 11) (hs : f.s < 11) {a y q : Int64} {old : Nat} {U : vm_S} (hi : f.i = 64) (hgs : vm_rd S f.s = some y) (hq : (if f.i = 241 then vm_rd S 0 else some 0) = some q) (hal0 : a.toInt % (f.z : Int) = 0) (hnum : vm_num 1073750016 1073758208 S a f.z = some old) (hU : vm_keep 1073750016 1073758208 S a (vm_bt (Int64.ofBitVec (vm_new f (BitVec.ofNat 64 old) y.toBitVec q.toBitVec))) f.z = some U) (hT : T = (if f.i = 241 then vm_gv U 0 (vm_J old) else if f.i % 2 = 1 then vm_gv U f.s (vm_J old) else U)) {n sl : Nat} : ∃ I1 L1, jv_Ms 394 [.ref 178, .long a, .int (vl_I f.z)] (jv_H K I L R) n sl (none, jv_H K I1 L1 R, n, sl) ∧ vm_r I1 L1 T ∧ vc_ff vr_Er I L I1 L1 := by
  obtain ⟨Q, hQ⟩ : ∃ Q : jv_R → Prop, Q = fun X => ∃ I1 L1, X = (none, jv_H K I1 L1 R, n, sl) ∧ vm_r I1 L1 T ∧ vc_ff vr_Er I L I1 L1 := ⟨_, rfl⟩
  suffices hE : jv_Wp 394 0 [(0, .ref 178), (1, .long a), (3, .int (vl_I f.z))] [] (jv_H K I L R) n sl Q by
    rw [hQ] at hE
    obtain ⟨X, hE, I1, L1, e, h'⟩ := hE
    subst e
    exact ⟨I1, L1, hE, h'⟩
  have z4 := vf_z_cases f
  have z8 : f.z ≤ 8 := by omega
  have hiI : I 178 29 = (64 : Int32) := (vm_d_i D).trans (Int32.toInt_inj.mp (by rw [vr_dQ D, hi]; decide))
  have hz0 : ¬ (vl_I f.z).toInt64 = (0 : Int64) := by rcases z4 with e | e | e | e <;> rw [e] <;> decide
  have hr0 : (a - a / (vl_I f.z).toInt64 * (vl_I f.z).toInt64) = (0 : Int64) := vm_rem0 z4 hal0
  obtain ⟨xs, exs⟩ : ∃ xs, xs = y := ⟨y, rfl⟩
  have hgs : vm_rd S f.s = some xs := exs ▸ hgs
  have hN := vr_number (n := n) (sl := sl) hW hsh h (by omega) hnum
  obtain ⟨I2, hKp, hm, hf⟩ := vr_keepM (n := n) (sl := sl) (R := R) hW z8 hsh h hU
  have e178 : I2 178 29 = I 178 29 := hf.1 178 29 (by omega)
  have s178 : I2 178 27 = I 178 27 := hf.1 178 27 (by omega)
  rw [if_neg (show ¬ f.i = 241 by omega), if_neg (show ¬ f.i % 2 = 1 by omega)] at hT
  subst hT
  refine jv_Wp.lift (fun _ Kz => jv_Ev.steps jv_i394 4 (pc' := 4) (l' := [(0, .ref 178), (1, .long a), (3, .int (vl_I f.z))]) (st' := [.long (vl_I f.z).toInt64, .long a, .ref 178]) rfl Kz) ?_
  refine jv_Wp.lift (fun _ Kz => jv_Ev.op jv_i394 (pc' := 5) (l' := [(0, .ref 178), (1, .long a), (3, .int (vl_I f.z))]) (st' := [.long (a - a / (vl_I f.z).toInt64 * (vl_I f.z).toInt64), .ref 178]) rfl (jv_op_lrem hz0) Kz) ?_
  refine jv_Wp.lift (fun _ Kz => jv_Ev.steps jv_i394 2 (pc' := 7) (l' := [(0, .ref 178), (1, .long a), (3, .int (vl_I f.z))]) (st' := [.int (lg_cmp (a - a / (vl_I f.z).toInt64 * (vl_I f.z).toInt64) (0 : Int64)), .ref 178]) rfl Kz) ?_
  refine jv_Wp.cnd jv_i394 (pt := 14) (pe := 10) (p := ((lg_cmp (a - a / (vl_I f.z).toInt64 * (vl_I f.z).toInt64) (0 : Int64)) = 0)) (q := ((a - a / (vl_I f.z).toInt64 * (vl_I f.z).toInt64) = (0 : Int64))) rfl jv_bi_eq rfl rfl (lg_cmp_eq (a - a / (vl_I f.z).toInt64 * (vl_I f.z).toInt64) (0 : Int64)) (fun _ => ?_) (fun hz => absurd hr0 hz)
  refine jv_Wp.lift (fun _ Kz => jv_Ev.steps jv_i394 1 (pc' := 15) (l' := [(0, .ref 178), (1, .long a), (3, .int (vl_I f.z))]) (st' := [.int (0 : Int32), .ref 178]) rfl Kz) ?_
  refine jv_Wp.lift (fun _ Kz => jv_Ev.c jv_i394 (pc' := 18) (S' := []) jv_i365 [.ref 178, .int (0 : Int32)] rfl rfl rfl rfl (jv_cal rfl (jv_H_at (jv_rwK hW 178 14 31 (by decide))) rfl rfl) rfl (vr_count0 (n := n) (sl := sl) hW) rfl rfl Kz) ?_
  refine jv_Wp.lift (fun _ Kz => jv_Ev.steps jv_i394 2 (pc' := 20) (l' := [(0, .ref 178), (1, .long a), (3, .int (vl_I f.z))]) (st' := [.ref 178, .ref 178]) rfl Kz) ?_
  refine jv_Wp.lift (fun _ Kz => jv_Ev.m jv_i394 (pc' := 23) (st' := [.int (vl_I f.s), .ref 178]) (G' := (jv_H K I L R)) rfl rfl (jv_m_getI (jv_rwK hW 178 14 31 (by decide)) rfl rfl (vm_d_s D)) Kz) ?_
  refine jv_Wp.lift (fun _ Kz => jv_Ev.c jv_i394 (pc' := 26) (S' := [.long xs]) jv_i374 [.ref 178, .int (vl_I f.s)] rfl rfl rfl rfl (jv_cal rfl (jv_H_at (jv_rwK hW 178 14 31 (by decide))) rfl rfl) rfl (vr_readR hW h hs hgs) rfl rfl Kz) ?_
  refine jv_Wp.lift (fun _ Kz => jv_Ev.steps jv_i394 2 (pc' := 29) (l' := [(4, .long xs), (0, .ref 178), (1, .long a), (3, .int (vl_I f.z))]) (st' := [.ref 178]) rfl Kz) ?_
  refine jv_Wp.lift (fun _ Kz => jv_Ev.m jv_i394 (pc' := 32) (st' := [.int (64 : Int32)]) (G' := (jv_H K I L R)) rfl rfl (jv_m_getI (jv_rwK hW 178 14 31 (by decide)) rfl rfl hiI) Kz) ?_
  refine jv_Wp.lift (fun _ Kz => jv_Ev.steps jv_i394 1 (pc' := 35) (l' := [(4, .long xs), (0, .ref 178), (1, .long a), (3, .int (vl_I f.z))]) (st' := [.int (241 : Int32), .int (64 : Int32)]) rfl Kz) ?_
  refine jv_Wp.lift (fun _ Kz => jv_Ev.br jv_i394 (pc' := 46) (st' := []) rfl (by rfl) Kz) ?_
  refine jv_Wp.lift (fun _ Kz => jv_Ev.steps jv_i394 5 (pc' := 52) (l' := [(6, .long (0 : Int64)), (4, .long xs), (0, .ref 178), (1, .long a), (3, .int (vl_I f.z))]) (st' := [.int (vl_I f.z), .long a, .ref 178]) rfl Kz) ?_
  refine jv_Wp.lift (fun _ Kz => jv_Ev.c jv_i394 (pc' := 55) (S' := [.long (vm_J old)]) jv_i371 [.ref 178, .long a, .int (vl_I f.z)] rfl rfl rfl rfl (jv_cal rfl (jv_H_at (jv_rwK hW 178 14 31 (by decide))) rfl rfl) rfl hN rfl rfl Kz) ?_
  refine jv_Wp.lift (fun _ Kz => jv_Ev.steps jv_i394 2 (pc' := 58) (l' := [(8, .long (vm_J old)), (6, .long (0 : Int64)), (4, .long xs), (0, .ref 178), (1, .long a), (3, .int (vl_I f.z))]) (st' := [.ref 178]) rfl Kz) ?_
  refine jv_Wp.lift (fun _ Kz => jv_Ev.m jv_i394 (pc' := 61) (st' := [.int (64 : Int32)]) (G' := (jv_H K I L R)) rfl rfl (jv_m_getI (jv_rwK hW 178 14 31 (by decide)) rfl rfl hiI) Kz) ?_
  refine jv_Wp.lift (fun _ Kz => jv_Ev.steps jv_i394 4 (pc' := 67) (l' := [(10, .int (64 : Int32)), (8, .long (vm_J old)), (6, .long (0 : Int64)), (4, .long xs), (0, .ref 178), (1, .long a), (3, .int (vl_I f.z))]) (st' := [.ref 178]) rfl Kz) ?_
  refine jv_Wp.lift (fun _ Kz => jv_Ev.m jv_i394 (pc' := 70) (st' := [.int (64 : Int32)]) (G' := (jv_H K I L R)) rfl rfl (jv_m_getI (jv_rwK hW 178 14 31 (by decide)) rfl rfl hiI) Kz) ?_
  refine jv_Wp.lift (fun _ Kz => jv_Ev.steps jv_i394 1 (pc' := 73) (l' := [(10, .int (64 : Int32)), (8, .long (vm_J old)), (6, .long (0 : Int64)), (4, .long xs), (0, .ref 178), (1, .long a), (3, .int (vl_I f.z))]) (st' := [.int (225 : Int32), .int (64 : Int32)]) rfl Kz) ?_
  refine jv_Wp.lift (fun _ Kz => jv_Ev.br jv_i394 (pc' := 81) (st' := []) rfl (by rfl) Kz) ?_
  refine jv_Wp.lift (fun _ Kz => jv_Ev.steps jv_i394 1 (pc' := 82) (l' := [(10, .int (64 : Int32)), (8, .long (vm_J old)), (6, .long (0 : Int64)), (4, .long xs), (0, .ref 178), (1, .long a), (3, .int (vl_I f.z))]) (st' := [.ref 178]) rfl Kz) ?_
  refine jv_Wp.lift (fun _ Kz => jv_Ev.m jv_i394 (pc' := 85) (st' := [.int (64 : Int32)]) (G' := (jv_H K I L R)) rfl rfl (jv_m_getI (jv_rwK hW 178 14 31 (by decide)) rfl rfl hiI) Kz) ?_
  refine jv_Wp.lift (fun _ Kz => jv_Ev.steps jv_i394 1 (pc' := 88) (l' := [(10, .int (64 : Int32)), (8, .long (vm_J old)), (6, .long (0 : Int64)), (4, .long xs), (0, .ref 178), (1, .long a), (3, .int (vl_I f.z))]) (st' := [.int (241 : Int32), .int (64 : Int32)]) rfl Kz) ?_
  refine jv_Wp.lift (fun _ Kz => jv_Ev.br jv_i394 (pc' := 116) (st' := []) rfl (by rfl) Kz) ?_
  refine jv_Wp.lift (fun _ Kz => jv_Ev.steps jv_i394 1 (pc' := 118) (l' := [(10, .int (64 : Int32)), (8, .long (vm_J old)), (6, .long (0 : Int64)), (4, .long xs), (0, .ref 178), (1, .long a), (3, .int (vl_I f.z))]) (st' := [.int (64 : Int32)]) rfl Kz) ?_
  refine jv_Wp.lift (fun _ Kz => jv_Ev.br jv_i394 (pc' := 129) (st' := []) rfl (by rfl) Kz) ?_
  refine jv_Wp.lift (fun _ Kz => jv_Ev.steps jv_i394 2 (pc' := 133) (l' := [(10, .int (64 : Int32)), (8, .long (vm_J old)), (6, .long (0 : Int64)), (4, .long xs), (0, .ref 178), (1, .long a), (3, .int (vl_I f.z))]) (st' := [.int (64 : Int32), .int (64 : Int32)]) rfl Kz) ?_
  refine jv_Wp.lift (fun _ Kz => jv_Ev.br jv_i394 (pc' := 136) (st' := []) rfl (by rfl) Kz) ?_
  refine jv_Wp.lift (fun _ Kz => jv_Ev.steps jv_i394 9 (pc' := 171) (l' := [(11, .long ((vm_J old) ||| xs)), (10, .int (64 : Int32)), (8, .long (vm_J old)), (6, .long (0 : Int64)), (4, .long xs), (0, .ref 178), (1, .long a), (3, .int (vl_I f.z))]) (st' := [.long ((vm_J old) ||| xs), .int (vl_I f.z), .long a, .ref 178]) rfl Kz) ?_
  have ev : ((vm_J old) ||| xs) = Int64.ofBitVec (vm_new f (BitVec.ofNat 64 old) y.toBitVec q.toBitVec) := Int64.toBitVec_inj.mp (by rw [Int64.toBitVec_or, exs]; show _ = vm_new f (BitVec.ofNat 64 old) y.toBitVec q.toBitVec; unfold vm_new; rw [if_neg (show ¬ (f.i = 0 ∨ f.i = 1) by omega), if_pos (show f.i = 64 ∨ f.i = 65 by omega)]; rfl)
  refine jv_Wp.lift (fun _ Kz => jv_Ev.c jv_i394 (pc' := 174) (S' := []) (G1 := (jv_H K I2 L R)) jv_i372 [.ref 178, .long a, .int (vl_I f.z), .long ((vm_J old) ||| xs)] rfl rfl rfl rfl (jv_cal rfl (jv_H_at (jv_rwK hW 178 14 31 (by decide))) rfl rfl) rfl (show jv_Ms 372 [.ref 178, .long a, .int (vl_I f.z), .long ((vm_J old) ||| xs)] _ _ _ _ from by rw [ev]; exact hKp) rfl rfl Kz) ?_
  refine jv_Wp.lift (fun _ Kz => jv_Ev.steps jv_i394 1 (pc' := 175) (l' := [(11, .long ((vm_J old) ||| xs)), (10, .int (64 : Int32)), (8, .long (vm_J old)), (6, .long (0 : Int64)), (4, .long xs), (0, .ref 178), (1, .long a), (3, .int (vl_I f.z))]) (st' := [.ref 178]) rfl Kz) ?_
  refine jv_Wp.lift (fun _ Kz => jv_Ev.m jv_i394 (pc' := 178) (st' := [.int (64 : Int32)]) (G' := (jv_H K I2 L R)) rfl rfl (jv_m_getI (jv_rwK hW 178 14 31 (by decide)) rfl rfl (e178.trans hiI)) Kz) ?_
  refine jv_Wp.lift (fun _ Kz => jv_Ev.steps jv_i394 1 (pc' := 181) (l' := [(11, .long ((vm_J old) ||| xs)), (10, .int (64 : Int32)), (8, .long (vm_J old)), (6, .long (0 : Int64)), (4, .long xs), (0, .ref 178), (1, .long a), (3, .int (vl_I f.z))]) (st' := [.int (241 : Int32), .int (64 : Int32)]) rfl Kz) ?_
  refine jv_Wp.lift (fun _ Kz => jv_Ev.br jv_i394 (pc' := 194) (st' := []) rfl (by rfl) Kz) ?_
  refine jv_Wp.lift (fun _ Kz => jv_Ev.steps jv_i394 1 (pc' := 195) (l' := [(11, .long ((vm_J old) ||| xs)), (10, .int (64 : Int32)), (8, .long (vm_J old)), (6, .long (0 : Int64)), (4, .long xs), (0, .ref 178), (1, .long a), (3, .int (vl_I f.z))]) (st' := [.ref 178]) rfl Kz) ?_
  refine jv_Wp.lift (fun _ Kz => jv_Ev.m jv_i394 (pc' := 198) (st' := [.int (64 : Int32)]) (G' := (jv_H K I2 L R)) rfl rfl (jv_m_getI (jv_rwK hW 178 14 31 (by decide)) rfl rfl (e178.trans hiI)) Kz) ?_
  refine jv_Wp.lift (fun _ Kz => jv_Ev.steps jv_i394 1 (pc' := 199) (l' := [(11, .long ((vm_J old) ||| xs)), (10, .int (64 : Int32)), (8, .long (vm_J old)), (6, .long (0 : Int64)), (4, .long xs), (0, .ref 178), (1, .long a), (3, .int (vl_I f.z))]) (st' := [.int (2 : Int32), .int (64 : Int32)]) rfl Kz) ?_
  refine jv_Wp.lift (fun _ Kz => jv_Ev.op jv_i394 (pc' := 200) (l' := [(11, .long ((vm_J old) ||| xs)), (10, .int (64 : Int32)), (8, .long (vm_J old)), (6, .long (0 : Int64)), (4, .long xs), (0, .ref 178), (1, .long a), (3, .int (vl_I f.z))]) (st' := [.int ((64 : Int32) - (64 : Int32) / (2 : Int32) * (2 : Int32))]) rfl (jv_op_irem (by decide)) Kz) ?_
  refine jv_Wp.lift (fun _ Kz => jv_Ev.steps jv_i394 1 (pc' := 201) (l' := [(11, .long ((vm_J old) ||| xs)), (10, .int (64 : Int32)), (8, .long (vm_J old)), (6, .long (0 : Int64)), (4, .long xs), (0, .ref 178), (1, .long a), (3, .int (vl_I f.z))]) (st' := [.int (1 : Int32), .int ((64 : Int32) - (64 : Int32) / (2 : Int32) * (2 : Int32))]) rfl Kz) ?_
  refine jv_Wp.cnd jv_i394 (pt := 214) (pe := 204) (p := (¬ ((64 : Int32) - (64 : Int32) / (2 : Int32) * (2 : Int32)) = (1 : Int32))) (q := (¬ ((64 : Int32) - (64 : Int32) / (2 : Int32) * (2 : Int32)) = (1 : Int32))) rfl jv_bc_ne rfl rfl Iff.rfl (fun _ => ?_) (fun hz => absurd (by decide) hz)
  refine jv_Wp.of (jv_Ev.ret jv_i394 rfl rfl) ?_
  rw [hQ]
  exact ⟨_, _, rfl, hm, vc_ff_le (fun _ _ z => Or.inl z) hf⟩
theorem vr_atomic65 {K : Nat → Option (Nat × Nat)} {I : Nat → Nat → Int32} {L : Nat → Nat → Int64} {R : Nat → Nat → Value} (hW : jv_rW K R) {S T : vm_S} (hsh : vm_sh S) (h : vm_r I L S) {f : vf_F} (D : vm_D I f) (hd : f.d < 11) (hs : f.s < 11) {a y q : Int64} {old : Nat} {U : vm_S} (hi : f.i = 65) (hgs : vm_rd S f.s = some y) (hq : (if f.i = 241 then vm_rd S 0 else some 0) = some q) (hal0 : a.toInt % (f.z : Int) = 0) (hnum : vm_num 1073750016 1073758208 S a f.z = some old) (hU : vm_keep 1073750016 1073758208 S a (vm_bt (Int64.ofBitVec (vm_new f (BitVec.ofNat 64 old) y.toBitVec q.toBitVec))) f.z = some U) (hT : T = (if f.i = 241 then vm_gv U 0 (vm_J old) else if f.i % 2 = 1 then vm_gv U f.s (vm_J old) else U)) {n sl : Nat} : ∃ I1 L1, jv_Ms 394 [.ref 178, .long a, .int (vl_I f.z)] (jv_H K I L R) n sl (none, jv_H K I1 L1 R, n, sl) ∧ vm_r I1 L1 T ∧ vc_ff vr_Er I L I1 L1 := by
  obtain ⟨Q, hQ⟩ : ∃ Q : jv_R → Prop, Q = fun X => ∃ I1 L1, X = (none, jv_H K I1 L1 R, n, sl) ∧ vm_r I1 L1 T ∧ vc_ff vr_Er I L I1 L1 := ⟨_, rfl⟩
  suffices hE : jv_Wp 394 0 [(0, .ref 178), (1, .long a), (3, .int (vl_I f.z))] [] (jv_H K I L R) n sl Q by
    rw [hQ] at hE
    obtain ⟨X, hE, I1, L1, e, h'⟩ := hE
    subst e
    exact ⟨I1, L1, hE, h'⟩
  have z4 := vf_z_cases f
  have z8 : f.z ≤ 8 := by omega
  have hiI : I 178 29 = (65 : Int32) := (vm_d_i D).trans (Int32.toInt_inj.mp (by rw [vr_dQ D, hi]; decide))
  have hz0 : ¬ (vl_I f.z).toInt64 = (0 : Int64) := by rcases z4 with e | e | e | e <;> rw [e] <;> decide
  have hr0 : (a - a / (vl_I f.z).toInt64 * (vl_I f.z).toInt64) = (0 : Int64) := vm_rem0 z4 hal0
  obtain ⟨xs, exs⟩ : ∃ xs, xs = y := ⟨y, rfl⟩
  have hgs : vm_rd S f.s = some xs := exs ▸ hgs
  have hN := vr_number (n := n) (sl := sl) hW hsh h (by omega) hnum
  obtain ⟨I2, hKp, hm, hf⟩ := vr_keepM (n := n) (sl := sl) (R := R) hW z8 hsh h hU
  have e178 : I2 178 29 = I 178 29 := hf.1 178 29 (by omega)
  have s178 : I2 178 27 = I 178 27 := hf.1 178 27 (by omega)
  rw [if_neg (show ¬ f.i = 241 by omega), if_pos (show f.i % 2 = 1 by omega)] at hT
  subst hT
  refine jv_Wp.lift (fun _ Kz => jv_Ev.steps jv_i394 4 (pc' := 4) (l' := [(0, .ref 178), (1, .long a), (3, .int (vl_I f.z))]) (st' := [.long (vl_I f.z).toInt64, .long a, .ref 178]) rfl Kz) ?_
  refine jv_Wp.lift (fun _ Kz => jv_Ev.op jv_i394 (pc' := 5) (l' := [(0, .ref 178), (1, .long a), (3, .int (vl_I f.z))]) (st' := [.long (a - a / (vl_I f.z).toInt64 * (vl_I f.z).toInt64), .ref 178]) rfl (jv_op_lrem hz0) Kz) ?_
  refine jv_Wp.lift (fun _ Kz => jv_Ev.steps jv_i394 2 (pc' := 7) (l' := [(0, .ref 178), (1, .long a), (3, .int (vl_I f.z))]) (st' := [.int (lg_cmp (a - a / (vl_I f.z).toInt64 * (vl_I f.z).toInt64) (0 : Int64)), .ref 178]) rfl Kz) ?_
  refine jv_Wp.cnd jv_i394 (pt := 14) (pe := 10) (p := ((lg_cmp (a - a / (vl_I f.z).toInt64 * (vl_I f.z).toInt64) (0 : Int64)) = 0)) (q := ((a - a / (vl_I f.z).toInt64 * (vl_I f.z).toInt64) = (0 : Int64))) rfl jv_bi_eq rfl rfl (lg_cmp_eq (a - a / (vl_I f.z).toInt64 * (vl_I f.z).toInt64) (0 : Int64)) (fun _ => ?_) (fun hz => absurd hr0 hz)
  refine jv_Wp.lift (fun _ Kz => jv_Ev.steps jv_i394 1 (pc' := 15) (l' := [(0, .ref 178), (1, .long a), (3, .int (vl_I f.z))]) (st' := [.int (0 : Int32), .ref 178]) rfl Kz) ?_
  refine jv_Wp.lift (fun _ Kz => jv_Ev.c jv_i394 (pc' := 18) (S' := []) jv_i365 [.ref 178, .int (0 : Int32)] rfl rfl rfl rfl (jv_cal rfl (jv_H_at (jv_rwK hW 178 14 31 (by decide))) rfl rfl) rfl (vr_count0 (n := n) (sl := sl) hW) rfl rfl Kz) ?_
  refine jv_Wp.lift (fun _ Kz => jv_Ev.steps jv_i394 2 (pc' := 20) (l' := [(0, .ref 178), (1, .long a), (3, .int (vl_I f.z))]) (st' := [.ref 178, .ref 178]) rfl Kz) ?_
  refine jv_Wp.lift (fun _ Kz => jv_Ev.m jv_i394 (pc' := 23) (st' := [.int (vl_I f.s), .ref 178]) (G' := (jv_H K I L R)) rfl rfl (jv_m_getI (jv_rwK hW 178 14 31 (by decide)) rfl rfl (vm_d_s D)) Kz) ?_
  refine jv_Wp.lift (fun _ Kz => jv_Ev.c jv_i394 (pc' := 26) (S' := [.long xs]) jv_i374 [.ref 178, .int (vl_I f.s)] rfl rfl rfl rfl (jv_cal rfl (jv_H_at (jv_rwK hW 178 14 31 (by decide))) rfl rfl) rfl (vr_readR hW h hs hgs) rfl rfl Kz) ?_
  refine jv_Wp.lift (fun _ Kz => jv_Ev.steps jv_i394 2 (pc' := 29) (l' := [(4, .long xs), (0, .ref 178), (1, .long a), (3, .int (vl_I f.z))]) (st' := [.ref 178]) rfl Kz) ?_
  refine jv_Wp.lift (fun _ Kz => jv_Ev.m jv_i394 (pc' := 32) (st' := [.int (65 : Int32)]) (G' := (jv_H K I L R)) rfl rfl (jv_m_getI (jv_rwK hW 178 14 31 (by decide)) rfl rfl hiI) Kz) ?_
  refine jv_Wp.lift (fun _ Kz => jv_Ev.steps jv_i394 1 (pc' := 35) (l' := [(4, .long xs), (0, .ref 178), (1, .long a), (3, .int (vl_I f.z))]) (st' := [.int (241 : Int32), .int (65 : Int32)]) rfl Kz) ?_
  refine jv_Wp.lift (fun _ Kz => jv_Ev.br jv_i394 (pc' := 46) (st' := []) rfl (by rfl) Kz) ?_
  refine jv_Wp.lift (fun _ Kz => jv_Ev.steps jv_i394 5 (pc' := 52) (l' := [(6, .long (0 : Int64)), (4, .long xs), (0, .ref 178), (1, .long a), (3, .int (vl_I f.z))]) (st' := [.int (vl_I f.z), .long a, .ref 178]) rfl Kz) ?_
  refine jv_Wp.lift (fun _ Kz => jv_Ev.c jv_i394 (pc' := 55) (S' := [.long (vm_J old)]) jv_i371 [.ref 178, .long a, .int (vl_I f.z)] rfl rfl rfl rfl (jv_cal rfl (jv_H_at (jv_rwK hW 178 14 31 (by decide))) rfl rfl) rfl hN rfl rfl Kz) ?_
  refine jv_Wp.lift (fun _ Kz => jv_Ev.steps jv_i394 2 (pc' := 58) (l' := [(8, .long (vm_J old)), (6, .long (0 : Int64)), (4, .long xs), (0, .ref 178), (1, .long a), (3, .int (vl_I f.z))]) (st' := [.ref 178]) rfl Kz) ?_
  refine jv_Wp.lift (fun _ Kz => jv_Ev.m jv_i394 (pc' := 61) (st' := [.int (65 : Int32)]) (G' := (jv_H K I L R)) rfl rfl (jv_m_getI (jv_rwK hW 178 14 31 (by decide)) rfl rfl hiI) Kz) ?_
  refine jv_Wp.lift (fun _ Kz => jv_Ev.steps jv_i394 4 (pc' := 67) (l' := [(10, .int (64 : Int32)), (8, .long (vm_J old)), (6, .long (0 : Int64)), (4, .long xs), (0, .ref 178), (1, .long a), (3, .int (vl_I f.z))]) (st' := [.ref 178]) rfl Kz) ?_
  refine jv_Wp.lift (fun _ Kz => jv_Ev.m jv_i394 (pc' := 70) (st' := [.int (65 : Int32)]) (G' := (jv_H K I L R)) rfl rfl (jv_m_getI (jv_rwK hW 178 14 31 (by decide)) rfl rfl hiI) Kz) ?_
  refine jv_Wp.lift (fun _ Kz => jv_Ev.steps jv_i394 1 (pc' := 73) (l' := [(10, .int (64 : Int32)), (8, .long (vm_J old)), (6, .long (0 : Int64)), (4, .long xs), (0, .ref 178), (1, .long a), (3, .int (vl_I f.z))]) (st' := [.int (225 : Int32), .int (65 : Int32)]) rfl Kz) ?_
  refine jv_Wp.lift (fun _ Kz => jv_Ev.br jv_i394 (pc' := 81) (st' := []) rfl (by rfl) Kz) ?_
  refine jv_Wp.lift (fun _ Kz => jv_Ev.steps jv_i394 1 (pc' := 82) (l' := [(10, .int (64 : Int32)), (8, .long (vm_J old)), (6, .long (0 : Int64)), (4, .long xs), (0, .ref 178), (1, .long a), (3, .int (vl_I f.z))]) (st' := [.ref 178]) rfl Kz) ?_
  refine jv_Wp.lift (fun _ Kz => jv_Ev.m jv_i394 (pc' := 85) (st' := [.int (65 : Int32)]) (G' := (jv_H K I L R)) rfl rfl (jv_m_getI (jv_rwK hW 178 14 31 (by decide)) rfl rfl hiI) Kz) ?_
  refine jv_Wp.lift (fun _ Kz => jv_Ev.steps jv_i394 1 (pc' := 88) (l' := [(10, .int (64 : Int32)), (8, .long (vm_J old)), (6, .long (0 : Int64)), (4, .long xs), (0, .ref 178), (1, .long a), (3, .int (vl_I f.z))]) (st' := [.int (241 : Int32), .int (65 : Int32)]) rfl Kz) ?_
  refine jv_Wp.lift (fun _ Kz => jv_Ev.br jv_i394 (pc' := 116) (st' := []) rfl (by rfl) Kz) ?_
  refine jv_Wp.lift (fun _ Kz => jv_Ev.steps jv_i394 1 (pc' := 118) (l' := [(10, .int (64 : Int32)), (8, .long (vm_J old)), (6, .long (0 : Int64)), (4, .long xs), (0, .ref 178), (1, .long a), (3, .int (vl_I f.z))]) (st' := [.int (64 : Int32)]) rfl Kz) ?_
  refine jv_Wp.lift (fun _ Kz => jv_Ev.br jv_i394 (pc' := 129) (st' := []) rfl (by rfl) Kz) ?_
  refine jv_Wp.lift (fun _ Kz => jv_Ev.steps jv_i394 2 (pc' := 133) (l' := [(10, .int (64 : Int32)), (8, .long (vm_J old)), (6, .long (0 : Int64)), (4, .long xs), (0, .ref 178), (1, .long a), (3, .int (vl_I f.z))]) (st' := [.int (64 : Int32), .int (64 : Int32)]) rfl Kz) ?_
  refine jv_Wp.lift (fun _ Kz => jv_Ev.br jv_i394 (pc' := 136) (st' := []) rfl (by rfl) Kz) ?_
  refine jv_Wp.lift (fun _ Kz => jv_Ev.steps jv_i394 9 (pc' := 171) (l' := [(11, .long ((vm_J old) ||| xs)), (10, .int (64 : Int32)), (8, .long (vm_J old)), (6, .long (0 : Int64)), (4, .long xs), (0, .ref 178), (1, .long a), (3, .int (vl_I f.z))]) (st' := [.long ((vm_J old) ||| xs), .int (vl_I f.z), .long a, .ref 178]) rfl Kz) ?_
  have ev : ((vm_J old) ||| xs) = Int64.ofBitVec (vm_new f (BitVec.ofNat 64 old) y.toBitVec q.toBitVec) := Int64.toBitVec_inj.mp (by rw [Int64.toBitVec_or, exs]; show _ = vm_new f (BitVec.ofNat 64 old) y.toBitVec q.toBitVec; unfold vm_new; rw [if_neg (show ¬ (f.i = 0 ∨ f.i = 1) by omega), if_pos (show f.i = 64 ∨ f.i = 65 by omega)]; rfl)
  refine jv_Wp.lift (fun _ Kz => jv_Ev.c jv_i394 (pc' := 174) (S' := []) (G1 := (jv_H K I2 L R)) jv_i372 [.ref 178, .long a, .int (vl_I f.z), .long ((vm_J old) ||| xs)] rfl rfl rfl rfl (jv_cal rfl (jv_H_at (jv_rwK hW 178 14 31 (by decide))) rfl rfl) rfl (show jv_Ms 372 [.ref 178, .long a, .int (vl_I f.z), .long ((vm_J old) ||| xs)] _ _ _ _ from by rw [ev]; exact hKp) rfl rfl Kz) ?_
  refine jv_Wp.lift (fun _ Kz => jv_Ev.steps jv_i394 1 (pc' := 175) (l' := [(11, .long ((vm_J old) ||| xs)), (10, .int (64 : Int32)), (8, .long (vm_J old)), (6, .long (0 : Int64)), (4, .long xs), (0, .ref 178), (1, .long a), (3, .int (vl_I f.z))]) (st' := [.ref 178]) rfl Kz) ?_
  refine jv_Wp.lift (fun _ Kz => jv_Ev.m jv_i394 (pc' := 178) (st' := [.int (65 : Int32)]) (G' := (jv_H K I2 L R)) rfl rfl (jv_m_getI (jv_rwK hW 178 14 31 (by decide)) rfl rfl (e178.trans hiI)) Kz) ?_
  refine jv_Wp.lift (fun _ Kz => jv_Ev.steps jv_i394 1 (pc' := 181) (l' := [(11, .long ((vm_J old) ||| xs)), (10, .int (64 : Int32)), (8, .long (vm_J old)), (6, .long (0 : Int64)), (4, .long xs), (0, .ref 178), (1, .long a), (3, .int (vl_I f.z))]) (st' := [.int (241 : Int32), .int (65 : Int32)]) rfl Kz) ?_
  refine jv_Wp.lift (fun _ Kz => jv_Ev.br jv_i394 (pc' := 194) (st' := []) rfl (by rfl) Kz) ?_
  refine jv_Wp.lift (fun _ Kz => jv_Ev.steps jv_i394 1 (pc' := 195) (l' := [(11, .long ((vm_J old) ||| xs)), (10, .int (64 : Int32)), (8, .long (vm_J old)), (6, .long (0 : Int64)), (4, .long xs), (0, .ref 178), (1, .long a), (3, .int (vl_I f.z))]) (st' := [.ref 178]) rfl Kz) ?_
  refine jv_Wp.lift (fun _ Kz => jv_Ev.m jv_i394 (pc' := 198) (st' := [.int (65 : Int32)]) (G' := (jv_H K I2 L R)) rfl rfl (jv_m_getI (jv_rwK hW 178 14 31 (by decide)) rfl rfl (e178.trans hiI)) Kz) ?_
  refine jv_Wp.lift (fun _ Kz => jv_Ev.steps jv_i394 1 (pc' := 199) (l' := [(11, .long ((vm_J old) ||| xs)), (10, .int (64 : Int32)), (8, .long (vm_J old)), (6, .long (0 : Int64)), (4, .long xs), (0, .ref 178), (1, .long a), (3, .int (vl_I f.z))]) (st' := [.int (2 : Int32), .int (65 : Int32)]) rfl Kz) ?_
  refine jv_Wp.lift (fun _ Kz => jv_Ev.op jv_i394 (pc' := 200) (l' := [(11, .long ((vm_J old) ||| xs)), (10, .int (64 : Int32)), (8, .long (vm_J old)), (6, .long (0 : Int64)), (4, .long xs), (0, .ref 178), (1, .long a), (3, .int (vl_I f.z))]) (st' := [.int ((65 : Int32) - (65 : Int32) / (2 : Int32) * (2 : Int32))]) rfl (jv_op_irem (by decide)) Kz) ?_
  refine jv_Wp.lift (fun _ Kz => jv_Ev.steps jv_i394 1 (pc' := 201) (l' := [(11, .long ((vm_J old) ||| xs)), (10, .int (64 : Int32)), (8, .long (vm_J old)), (6, .long (0 : Int64)), (4, .long xs), (0, .ref 178), (1, .long a), (3, .int (vl_I f.z))]) (st' := [.int (1 : Int32), .int ((65 : Int32) - (65 : Int32) / (2 : Int32) * (2 : Int32))]) rfl Kz) ?_
  refine jv_Wp.cnd jv_i394 (pt := 214) (pe := 204) (p := (¬ ((65 : Int32) - (65 : Int32) / (2 : Int32) * (2 : Int32)) = (1 : Int32))) (q := (¬ ((65 : Int32) - (65 : Int32) / (2 : Int32) * (2 : Int32)) = (1 : Int32))) rfl jv_bc_ne rfl rfl Iff.rfl (fun hz => absurd hz (by decide)) (fun _ => ?_)
  refine jv_Wp.lift (fun _ Kz => jv_Ev.steps jv_i394 2 (pc' := 206) (l' := [(11, .long ((vm_J old) ||| xs)), (10, .int (64 : Int32)), (8, .long (vm_J old)), (6, .long (0 : Int64)), (4, .long xs), (0, .ref 178), (1, .long a), (3, .int (vl_I f.z))]) (st' := [.ref 178, .ref 178]) rfl Kz) ?_
  refine jv_Wp.lift (fun _ Kz => jv_Ev.m jv_i394 (pc' := 209) (st' := [.int (vl_I f.s), .ref 178]) (G' := (jv_H K I2 L R)) rfl rfl (jv_m_getI (jv_rwK hW 178 14 31 (by decide)) rfl rfl (s178.trans (vm_d_s D))) Kz) ?_
  refine jv_Wp.lift (fun _ Kz => jv_Ev.steps jv_i394 1 (pc' := 211) (l' := [(11, .long ((vm_J old) ||| xs)), (10, .int (64 : Int32)), (8, .long (vm_J old)), (6, .long (0 : Int64)), (4, .long xs), (0, .ref 178), (1, .long a), (3, .int (vl_I f.z))]) (st' := [.long (vm_J old), .int (vl_I f.s), .ref 178]) rfl Kz) ?_
  refine jv_Wp.lift (fun _ Kz => jv_Ev.c jv_i394 (pc' := 214) (S' := []) (G1 := (jv_H K (jv_u I2 221 f.s 1) (jv_u L 220 f.s (vm_J old)) R)) jv_i375 [.ref 178, .int (vl_I f.s), .long (vm_J old)] rfl rfl rfl rfl (jv_cal rfl (jv_H_at (jv_rwK hW 178 14 31 (by decide))) rfl rfl) rfl (vr_give (I := I2) (L := L) (n := n) (sl := sl) (r := f.s) hW (by omega)) rfl rfl Kz) ?_
  refine jv_Wp.of (jv_Ev.ret jv_i394 rfl rfl) ?_
  rw [hQ]
  exact ⟨_, _, rfl, vm_r_gv (r := f.s) hm, vr_gv_ff (vc_ff_le (fun _ _ z => Or.inl z) hf)⟩
theorem vr_atomic80 {K : Nat → Option (Nat × Nat)} {I : Nat → Nat → Int32} {L : Nat → Nat → Int64} {R : Nat → Nat → Value} (hW : jv_rW K R) {S T : vm_S} (hsh : vm_sh S) (h : vm_r I L S) {f : vf_F} (D : vm_D I f) (hd : f.d < 11) (hs : f.s < 11) {a y q : Int64} {old : Nat} {U : vm_S} (hi : f.i = 80) (hgs : vm_rd S f.s = some y) (hq : (if f.i = 241 then vm_rd S 0 else some 0) = some q) (hal0 : a.toInt % (f.z : Int) = 0) (hnum : vm_num 1073750016 1073758208 S a f.z = some old) (hU : vm_keep 1073750016 1073758208 S a (vm_bt (Int64.ofBitVec (vm_new f (BitVec.ofNat 64 old) y.toBitVec q.toBitVec))) f.z = some U) (hT : T = (if f.i = 241 then vm_gv U 0 (vm_J old) else if f.i % 2 = 1 then vm_gv U f.s (vm_J old) else U)) {n sl : Nat} : ∃ I1 L1, jv_Ms 394 [.ref 178, .long a, .int (vl_I f.z)] (jv_H K I L R) n sl (none, jv_H K I1 L1 R, n, sl) ∧ vm_r I1 L1 T ∧ vc_ff vr_Er I L I1 L1 := by
  obtain ⟨Q, hQ⟩ : ∃ Q : jv_R → Prop, Q = fun X => ∃ I1 L1, X = (none, jv_H K I1 L1 R, n, sl) ∧ vm_r I1 L1 T ∧ vc_ff vr_Er I L I1 L1 := ⟨_, rfl⟩
  suffices hE : jv_Wp 394 0 [(0, .ref 178), (1, .long a), (3, .int (vl_I f.z))] [] (jv_H K I L R) n sl Q by
    rw [hQ] at hE
    obtain ⟨X, hE, I1, L1, e, h'⟩ := hE
    subst e
    exact ⟨I1, L1, hE, h'⟩
  have z4 := vf_z_cases f
  have z8 : f.z ≤ 8 := by omega
  have hiI : I 178 29 = (80 : Int32) := (vm_d_i D).trans (Int32.toInt_inj.mp (by rw [vr_dQ D, hi]; decide))
  have hz0 : ¬ (vl_I f.z).toInt64 = (0 : Int64) := by rcases z4 with e | e | e | e <;> rw [e] <;> decide
  have hr0 : (a - a / (vl_I f.z).toInt64 * (vl_I f.z).toInt64) = (0 : Int64) := vm_rem0 z4 hal0
  obtain ⟨xs, exs⟩ : ∃ xs, xs = y := ⟨y, rfl⟩
  have hgs : vm_rd S f.s = some xs := exs ▸ hgs
  have hN := vr_number (n := n) (sl := sl) hW hsh h (by omega) hnum
  obtain ⟨I2, hKp, hm, hf⟩ := vr_keepM (n := n) (sl := sl) (R := R) hW z8 hsh h hU
  have e178 : I2 178 29 = I 178 29 := hf.1 178 29 (by omega)
  have s178 : I2 178 27 = I 178 27 := hf.1 178 27 (by omega)
  rw [if_neg (show ¬ f.i = 241 by omega), if_neg (show ¬ f.i % 2 = 1 by omega)] at hT
  subst hT
  refine jv_Wp.lift (fun _ Kz => jv_Ev.steps jv_i394 4 (pc' := 4) (l' := [(0, .ref 178), (1, .long a), (3, .int (vl_I f.z))]) (st' := [.long (vl_I f.z).toInt64, .long a, .ref 178]) rfl Kz) ?_
  refine jv_Wp.lift (fun _ Kz => jv_Ev.op jv_i394 (pc' := 5) (l' := [(0, .ref 178), (1, .long a), (3, .int (vl_I f.z))]) (st' := [.long (a - a / (vl_I f.z).toInt64 * (vl_I f.z).toInt64), .ref 178]) rfl (jv_op_lrem hz0) Kz) ?_
  refine jv_Wp.lift (fun _ Kz => jv_Ev.steps jv_i394 2 (pc' := 7) (l' := [(0, .ref 178), (1, .long a), (3, .int (vl_I f.z))]) (st' := [.int (lg_cmp (a - a / (vl_I f.z).toInt64 * (vl_I f.z).toInt64) (0 : Int64)), .ref 178]) rfl Kz) ?_
  refine jv_Wp.cnd jv_i394 (pt := 14) (pe := 10) (p := ((lg_cmp (a - a / (vl_I f.z).toInt64 * (vl_I f.z).toInt64) (0 : Int64)) = 0)) (q := ((a - a / (vl_I f.z).toInt64 * (vl_I f.z).toInt64) = (0 : Int64))) rfl jv_bi_eq rfl rfl (lg_cmp_eq (a - a / (vl_I f.z).toInt64 * (vl_I f.z).toInt64) (0 : Int64)) (fun _ => ?_) (fun hz => absurd hr0 hz)
  refine jv_Wp.lift (fun _ Kz => jv_Ev.steps jv_i394 1 (pc' := 15) (l' := [(0, .ref 178), (1, .long a), (3, .int (vl_I f.z))]) (st' := [.int (0 : Int32), .ref 178]) rfl Kz) ?_
  refine jv_Wp.lift (fun _ Kz => jv_Ev.c jv_i394 (pc' := 18) (S' := []) jv_i365 [.ref 178, .int (0 : Int32)] rfl rfl rfl rfl (jv_cal rfl (jv_H_at (jv_rwK hW 178 14 31 (by decide))) rfl rfl) rfl (vr_count0 (n := n) (sl := sl) hW) rfl rfl Kz) ?_
  refine jv_Wp.lift (fun _ Kz => jv_Ev.steps jv_i394 2 (pc' := 20) (l' := [(0, .ref 178), (1, .long a), (3, .int (vl_I f.z))]) (st' := [.ref 178, .ref 178]) rfl Kz) ?_
  refine jv_Wp.lift (fun _ Kz => jv_Ev.m jv_i394 (pc' := 23) (st' := [.int (vl_I f.s), .ref 178]) (G' := (jv_H K I L R)) rfl rfl (jv_m_getI (jv_rwK hW 178 14 31 (by decide)) rfl rfl (vm_d_s D)) Kz) ?_
  refine jv_Wp.lift (fun _ Kz => jv_Ev.c jv_i394 (pc' := 26) (S' := [.long xs]) jv_i374 [.ref 178, .int (vl_I f.s)] rfl rfl rfl rfl (jv_cal rfl (jv_H_at (jv_rwK hW 178 14 31 (by decide))) rfl rfl) rfl (vr_readR hW h hs hgs) rfl rfl Kz) ?_
  refine jv_Wp.lift (fun _ Kz => jv_Ev.steps jv_i394 2 (pc' := 29) (l' := [(4, .long xs), (0, .ref 178), (1, .long a), (3, .int (vl_I f.z))]) (st' := [.ref 178]) rfl Kz) ?_
  refine jv_Wp.lift (fun _ Kz => jv_Ev.m jv_i394 (pc' := 32) (st' := [.int (80 : Int32)]) (G' := (jv_H K I L R)) rfl rfl (jv_m_getI (jv_rwK hW 178 14 31 (by decide)) rfl rfl hiI) Kz) ?_
  refine jv_Wp.lift (fun _ Kz => jv_Ev.steps jv_i394 1 (pc' := 35) (l' := [(4, .long xs), (0, .ref 178), (1, .long a), (3, .int (vl_I f.z))]) (st' := [.int (241 : Int32), .int (80 : Int32)]) rfl Kz) ?_
  refine jv_Wp.lift (fun _ Kz => jv_Ev.br jv_i394 (pc' := 46) (st' := []) rfl (by rfl) Kz) ?_
  refine jv_Wp.lift (fun _ Kz => jv_Ev.steps jv_i394 5 (pc' := 52) (l' := [(6, .long (0 : Int64)), (4, .long xs), (0, .ref 178), (1, .long a), (3, .int (vl_I f.z))]) (st' := [.int (vl_I f.z), .long a, .ref 178]) rfl Kz) ?_
  refine jv_Wp.lift (fun _ Kz => jv_Ev.c jv_i394 (pc' := 55) (S' := [.long (vm_J old)]) jv_i371 [.ref 178, .long a, .int (vl_I f.z)] rfl rfl rfl rfl (jv_cal rfl (jv_H_at (jv_rwK hW 178 14 31 (by decide))) rfl rfl) rfl hN rfl rfl Kz) ?_
  refine jv_Wp.lift (fun _ Kz => jv_Ev.steps jv_i394 2 (pc' := 58) (l' := [(8, .long (vm_J old)), (6, .long (0 : Int64)), (4, .long xs), (0, .ref 178), (1, .long a), (3, .int (vl_I f.z))]) (st' := [.ref 178]) rfl Kz) ?_
  refine jv_Wp.lift (fun _ Kz => jv_Ev.m jv_i394 (pc' := 61) (st' := [.int (80 : Int32)]) (G' := (jv_H K I L R)) rfl rfl (jv_m_getI (jv_rwK hW 178 14 31 (by decide)) rfl rfl hiI) Kz) ?_
  refine jv_Wp.lift (fun _ Kz => jv_Ev.steps jv_i394 4 (pc' := 67) (l' := [(10, .int (80 : Int32)), (8, .long (vm_J old)), (6, .long (0 : Int64)), (4, .long xs), (0, .ref 178), (1, .long a), (3, .int (vl_I f.z))]) (st' := [.ref 178]) rfl Kz) ?_
  refine jv_Wp.lift (fun _ Kz => jv_Ev.m jv_i394 (pc' := 70) (st' := [.int (80 : Int32)]) (G' := (jv_H K I L R)) rfl rfl (jv_m_getI (jv_rwK hW 178 14 31 (by decide)) rfl rfl hiI) Kz) ?_
  refine jv_Wp.lift (fun _ Kz => jv_Ev.steps jv_i394 1 (pc' := 73) (l' := [(10, .int (80 : Int32)), (8, .long (vm_J old)), (6, .long (0 : Int64)), (4, .long xs), (0, .ref 178), (1, .long a), (3, .int (vl_I f.z))]) (st' := [.int (225 : Int32), .int (80 : Int32)]) rfl Kz) ?_
  refine jv_Wp.lift (fun _ Kz => jv_Ev.br jv_i394 (pc' := 81) (st' := []) rfl (by rfl) Kz) ?_
  refine jv_Wp.lift (fun _ Kz => jv_Ev.steps jv_i394 1 (pc' := 82) (l' := [(10, .int (80 : Int32)), (8, .long (vm_J old)), (6, .long (0 : Int64)), (4, .long xs), (0, .ref 178), (1, .long a), (3, .int (vl_I f.z))]) (st' := [.ref 178]) rfl Kz) ?_
  refine jv_Wp.lift (fun _ Kz => jv_Ev.m jv_i394 (pc' := 85) (st' := [.int (80 : Int32)]) (G' := (jv_H K I L R)) rfl rfl (jv_m_getI (jv_rwK hW 178 14 31 (by decide)) rfl rfl hiI) Kz) ?_
  refine jv_Wp.lift (fun _ Kz => jv_Ev.steps jv_i394 1 (pc' := 88) (l' := [(10, .int (80 : Int32)), (8, .long (vm_J old)), (6, .long (0 : Int64)), (4, .long xs), (0, .ref 178), (1, .long a), (3, .int (vl_I f.z))]) (st' := [.int (241 : Int32), .int (80 : Int32)]) rfl Kz) ?_
  refine jv_Wp.lift (fun _ Kz => jv_Ev.br jv_i394 (pc' := 116) (st' := []) rfl (by rfl) Kz) ?_
  refine jv_Wp.lift (fun _ Kz => jv_Ev.steps jv_i394 1 (pc' := 118) (l' := [(10, .int (80 : Int32)), (8, .long (vm_J old)), (6, .long (0 : Int64)), (4, .long xs), (0, .ref 178), (1, .long a), (3, .int (vl_I f.z))]) (st' := [.int (80 : Int32)]) rfl Kz) ?_
  refine jv_Wp.lift (fun _ Kz => jv_Ev.br jv_i394 (pc' := 129) (st' := []) rfl (by rfl) Kz) ?_
  refine jv_Wp.lift (fun _ Kz => jv_Ev.steps jv_i394 2 (pc' := 133) (l' := [(10, .int (80 : Int32)), (8, .long (vm_J old)), (6, .long (0 : Int64)), (4, .long xs), (0, .ref 178), (1, .long a), (3, .int (vl_I f.z))]) (st' := [.int (64 : Int32), .int (80 : Int32)]) rfl Kz) ?_
  refine jv_Wp.lift (fun _ Kz => jv_Ev.br jv_i394 (pc' := 144) (st' := []) rfl (by rfl) Kz) ?_
  refine jv_Wp.lift (fun _ Kz => jv_Ev.steps jv_i394 2 (pc' := 148) (l' := [(10, .int (80 : Int32)), (8, .long (vm_J old)), (6, .long (0 : Int64)), (4, .long xs), (0, .ref 178), (1, .long a), (3, .int (vl_I f.z))]) (st' := [.int (80 : Int32), .int (80 : Int32)]) rfl Kz) ?_
  refine jv_Wp.lift (fun _ Kz => jv_Ev.br jv_i394 (pc' := 151) (st' := []) rfl (by rfl) Kz) ?_
  refine jv_Wp.lift (fun _ Kz => jv_Ev.steps jv_i394 9 (pc' := 171) (l' := [(11, .long ((vm_J old) &&& xs)), (10, .int (80 : Int32)), (8, .long (vm_J old)), (6, .long (0 : Int64)), (4, .long xs), (0, .ref 178), (1, .long a), (3, .int (vl_I f.z))]) (st' := [.long ((vm_J old) &&& xs), .int (vl_I f.z), .long a, .ref 178]) rfl Kz) ?_
  have ev : ((vm_J old) &&& xs) = Int64.ofBitVec (vm_new f (BitVec.ofNat 64 old) y.toBitVec q.toBitVec) := Int64.toBitVec_inj.mp (by rw [Int64.toBitVec_and, exs]; show _ = vm_new f (BitVec.ofNat 64 old) y.toBitVec q.toBitVec; unfold vm_new; rw [if_neg (show ¬ (f.i = 0 ∨ f.i = 1) by omega), if_neg (show ¬ (f.i = 64 ∨ f.i = 65) by omega), if_pos (show f.i = 80 ∨ f.i = 81 by omega)]; rfl)
  refine jv_Wp.lift (fun _ Kz => jv_Ev.c jv_i394 (pc' := 174) (S' := []) (G1 := (jv_H K I2 L R)) jv_i372 [.ref 178, .long a, .int (vl_I f.z), .long ((vm_J old) &&& xs)] rfl rfl rfl rfl (jv_cal rfl (jv_H_at (jv_rwK hW 178 14 31 (by decide))) rfl rfl) rfl (show jv_Ms 372 [.ref 178, .long a, .int (vl_I f.z), .long ((vm_J old) &&& xs)] _ _ _ _ from by rw [ev]; exact hKp) rfl rfl Kz) ?_
  refine jv_Wp.lift (fun _ Kz => jv_Ev.steps jv_i394 1 (pc' := 175) (l' := [(11, .long ((vm_J old) &&& xs)), (10, .int (80 : Int32)), (8, .long (vm_J old)), (6, .long (0 : Int64)), (4, .long xs), (0, .ref 178), (1, .long a), (3, .int (vl_I f.z))]) (st' := [.ref 178]) rfl Kz) ?_
  refine jv_Wp.lift (fun _ Kz => jv_Ev.m jv_i394 (pc' := 178) (st' := [.int (80 : Int32)]) (G' := (jv_H K I2 L R)) rfl rfl (jv_m_getI (jv_rwK hW 178 14 31 (by decide)) rfl rfl (e178.trans hiI)) Kz) ?_
  refine jv_Wp.lift (fun _ Kz => jv_Ev.steps jv_i394 1 (pc' := 181) (l' := [(11, .long ((vm_J old) &&& xs)), (10, .int (80 : Int32)), (8, .long (vm_J old)), (6, .long (0 : Int64)), (4, .long xs), (0, .ref 178), (1, .long a), (3, .int (vl_I f.z))]) (st' := [.int (241 : Int32), .int (80 : Int32)]) rfl Kz) ?_
  refine jv_Wp.lift (fun _ Kz => jv_Ev.br jv_i394 (pc' := 194) (st' := []) rfl (by rfl) Kz) ?_
  refine jv_Wp.lift (fun _ Kz => jv_Ev.steps jv_i394 1 (pc' := 195) (l' := [(11, .long ((vm_J old) &&& xs)), (10, .int (80 : Int32)), (8, .long (vm_J old)), (6, .long (0 : Int64)), (4, .long xs), (0, .ref 178), (1, .long a), (3, .int (vl_I f.z))]) (st' := [.ref 178]) rfl Kz) ?_
  refine jv_Wp.lift (fun _ Kz => jv_Ev.m jv_i394 (pc' := 198) (st' := [.int (80 : Int32)]) (G' := (jv_H K I2 L R)) rfl rfl (jv_m_getI (jv_rwK hW 178 14 31 (by decide)) rfl rfl (e178.trans hiI)) Kz) ?_
  refine jv_Wp.lift (fun _ Kz => jv_Ev.steps jv_i394 1 (pc' := 199) (l' := [(11, .long ((vm_J old) &&& xs)), (10, .int (80 : Int32)), (8, .long (vm_J old)), (6, .long (0 : Int64)), (4, .long xs), (0, .ref 178), (1, .long a), (3, .int (vl_I f.z))]) (st' := [.int (2 : Int32), .int (80 : Int32)]) rfl Kz) ?_
  refine jv_Wp.lift (fun _ Kz => jv_Ev.op jv_i394 (pc' := 200) (l' := [(11, .long ((vm_J old) &&& xs)), (10, .int (80 : Int32)), (8, .long (vm_J old)), (6, .long (0 : Int64)), (4, .long xs), (0, .ref 178), (1, .long a), (3, .int (vl_I f.z))]) (st' := [.int ((80 : Int32) - (80 : Int32) / (2 : Int32) * (2 : Int32))]) rfl (jv_op_irem (by decide)) Kz) ?_
  refine jv_Wp.lift (fun _ Kz => jv_Ev.steps jv_i394 1 (pc' := 201) (l' := [(11, .long ((vm_J old) &&& xs)), (10, .int (80 : Int32)), (8, .long (vm_J old)), (6, .long (0 : Int64)), (4, .long xs), (0, .ref 178), (1, .long a), (3, .int (vl_I f.z))]) (st' := [.int (1 : Int32), .int ((80 : Int32) - (80 : Int32) / (2 : Int32) * (2 : Int32))]) rfl Kz) ?_
  refine jv_Wp.cnd jv_i394 (pt := 214) (pe := 204) (p := (¬ ((80 : Int32) - (80 : Int32) / (2 : Int32) * (2 : Int32)) = (1 : Int32))) (q := (¬ ((80 : Int32) - (80 : Int32) / (2 : Int32) * (2 : Int32)) = (1 : Int32))) rfl jv_bc_ne rfl rfl Iff.rfl (fun _ => ?_) (fun hz => absurd (by decide) hz)
  refine jv_Wp.of (jv_Ev.ret jv_i394 rfl rfl) ?_
  rw [hQ]
  exact ⟨_, _, rfl, hm, vc_ff_le (fun _ _ z => Or.inl z) hf⟩
theorem vr_atomic81 {K : Nat → Option (Nat × Nat)} {I : Nat → Nat → Int32} {L : Nat → Nat → Int64} {R : Nat → Nat → Value} (hW : jv_rW K R) {S T : vm_S} (hsh : vm_sh S) (h : vm_r I L S) {f : vf_F} (D : vm_D I f) (hd : f.d < 11) (hs : f.s < 11) {a y q : Int64} {old : Nat} {U : vm_S} (hi : f.i = 81) (hgs : vm_rd S f.s = some y) (hq : (if f.i = 241 then vm_rd S 0 else some 0) = some q) (hal0 : a.toInt % (f.z : Int) = 0) (hnum : vm_num 1073750016 1073758208 S a f.z = some old) (hU : vm_keep 1073750016 1073758208 S a (vm_bt (Int64.ofBitVec (vm_new f (BitVec.ofNat 64 old) y.toBitVec q.toBitVec))) f.z = some U) (hT : T = (if f.i = 241 then vm_gv U 0 (vm_J old) else if f.i % 2 = 1 then vm_gv U f.s (vm_J old) else U)) {n sl : Nat} : ∃ I1 L1, jv_Ms 394 [.ref 178, .long a, .int (vl_I f.z)] (jv_H K I L R) n sl (none, jv_H K I1 L1 R, n, sl) ∧ vm_r I1 L1 T ∧ vc_ff vr_Er I L I1 L1 := by
  obtain ⟨Q, hQ⟩ : ∃ Q : jv_R → Prop, Q = fun X => ∃ I1 L1, X = (none, jv_H K I1 L1 R, n, sl) ∧ vm_r I1 L1 T ∧ vc_ff vr_Er I L I1 L1 := ⟨_, rfl⟩
  suffices hE : jv_Wp 394 0 [(0, .ref 178), (1, .long a), (3, .int (vl_I f.z))] [] (jv_H K I L R) n sl Q by
    rw [hQ] at hE
    obtain ⟨X, hE, I1, L1, e, h'⟩ := hE
    subst e
    exact ⟨I1, L1, hE, h'⟩
  have z4 := vf_z_cases f
  have z8 : f.z ≤ 8 := by omega
  have hiI : I 178 29 = (81 : Int32) := (vm_d_i D).trans (Int32.toInt_inj.mp (by rw [vr_dQ D, hi]; decide))
  have hz0 : ¬ (vl_I f.z).toInt64 = (0 : Int64) := by rcases z4 with e | e | e | e <;> rw [e] <;> decide
  have hr0 : (a - a / (vl_I f.z).toInt64 * (vl_I f.z).toInt64) = (0 : Int64) := vm_rem0 z4 hal0
  obtain ⟨xs, exs⟩ : ∃ xs, xs = y := ⟨y, rfl⟩
  have hgs : vm_rd S f.s = some xs := exs ▸ hgs
  have hN := vr_number (n := n) (sl := sl) hW hsh h (by omega) hnum
  obtain ⟨I2, hKp, hm, hf⟩ := vr_keepM (n := n) (sl := sl) (R := R) hW z8 hsh h hU
  have e178 : I2 178 29 = I 178 29 := hf.1 178 29 (by omega)
  have s178 : I2 178 27 = I 178 27 := hf.1 178 27 (by omega)
  rw [if_neg (show ¬ f.i = 241 by omega), if_pos (show f.i % 2 = 1 by omega)] at hT
  subst hT
  refine jv_Wp.lift (fun _ Kz => jv_Ev.steps jv_i394 4 (pc' := 4) (l' := [(0, .ref 178), (1, .long a), (3, .int (vl_I f.z))]) (st' := [.long (vl_I f.z).toInt64, .long a, .ref 178]) rfl Kz) ?_
  refine jv_Wp.lift (fun _ Kz => jv_Ev.op jv_i394 (pc' := 5) (l' := [(0, .ref 178), (1, .long a), (3, .int (vl_I f.z))]) (st' := [.long (a - a / (vl_I f.z).toInt64 * (vl_I f.z).toInt64), .ref 178]) rfl (jv_op_lrem hz0) Kz) ?_
  refine jv_Wp.lift (fun _ Kz => jv_Ev.steps jv_i394 2 (pc' := 7) (l' := [(0, .ref 178), (1, .long a), (3, .int (vl_I f.z))]) (st' := [.int (lg_cmp (a - a / (vl_I f.z).toInt64 * (vl_I f.z).toInt64) (0 : Int64)), .ref 178]) rfl Kz) ?_
  refine jv_Wp.cnd jv_i394 (pt := 14) (pe := 10) (p := ((lg_cmp (a - a / (vl_I f.z).toInt64 * (vl_I f.z).toInt64) (0 : Int64)) = 0)) (q := ((a - a / (vl_I f.z).toInt64 * (vl_I f.z).toInt64) = (0 : Int64))) rfl jv_bi_eq rfl rfl (lg_cmp_eq (a - a / (vl_I f.z).toInt64 * (vl_I f.z).toInt64) (0 : Int64)) (fun _ => ?_) (fun hz => absurd hr0 hz)
  refine jv_Wp.lift (fun _ Kz => jv_Ev.steps jv_i394 1 (pc' := 15) (l' := [(0, .ref 178), (1, .long a), (3, .int (vl_I f.z))]) (st' := [.int (0 : Int32), .ref 178]) rfl Kz) ?_
  refine jv_Wp.lift (fun _ Kz => jv_Ev.c jv_i394 (pc' := 18) (S' := []) jv_i365 [.ref 178, .int (0 : Int32)] rfl rfl rfl rfl (jv_cal rfl (jv_H_at (jv_rwK hW 178 14 31 (by decide))) rfl rfl) rfl (vr_count0 (n := n) (sl := sl) hW) rfl rfl Kz) ?_
  refine jv_Wp.lift (fun _ Kz => jv_Ev.steps jv_i394 2 (pc' := 20) (l' := [(0, .ref 178), (1, .long a), (3, .int (vl_I f.z))]) (st' := [.ref 178, .ref 178]) rfl Kz) ?_
  refine jv_Wp.lift (fun _ Kz => jv_Ev.m jv_i394 (pc' := 23) (st' := [.int (vl_I f.s), .ref 178]) (G' := (jv_H K I L R)) rfl rfl (jv_m_getI (jv_rwK hW 178 14 31 (by decide)) rfl rfl (vm_d_s D)) Kz) ?_
  refine jv_Wp.lift (fun _ Kz => jv_Ev.c jv_i394 (pc' := 26) (S' := [.long xs]) jv_i374 [.ref 178, .int (vl_I f.s)] rfl rfl rfl rfl (jv_cal rfl (jv_H_at (jv_rwK hW 178 14 31 (by decide))) rfl rfl) rfl (vr_readR hW h hs hgs) rfl rfl Kz) ?_
  refine jv_Wp.lift (fun _ Kz => jv_Ev.steps jv_i394 2 (pc' := 29) (l' := [(4, .long xs), (0, .ref 178), (1, .long a), (3, .int (vl_I f.z))]) (st' := [.ref 178]) rfl Kz) ?_
  refine jv_Wp.lift (fun _ Kz => jv_Ev.m jv_i394 (pc' := 32) (st' := [.int (81 : Int32)]) (G' := (jv_H K I L R)) rfl rfl (jv_m_getI (jv_rwK hW 178 14 31 (by decide)) rfl rfl hiI) Kz) ?_
  refine jv_Wp.lift (fun _ Kz => jv_Ev.steps jv_i394 1 (pc' := 35) (l' := [(4, .long xs), (0, .ref 178), (1, .long a), (3, .int (vl_I f.z))]) (st' := [.int (241 : Int32), .int (81 : Int32)]) rfl Kz) ?_
  refine jv_Wp.lift (fun _ Kz => jv_Ev.br jv_i394 (pc' := 46) (st' := []) rfl (by rfl) Kz) ?_
  refine jv_Wp.lift (fun _ Kz => jv_Ev.steps jv_i394 5 (pc' := 52) (l' := [(6, .long (0 : Int64)), (4, .long xs), (0, .ref 178), (1, .long a), (3, .int (vl_I f.z))]) (st' := [.int (vl_I f.z), .long a, .ref 178]) rfl Kz) ?_
  refine jv_Wp.lift (fun _ Kz => jv_Ev.c jv_i394 (pc' := 55) (S' := [.long (vm_J old)]) jv_i371 [.ref 178, .long a, .int (vl_I f.z)] rfl rfl rfl rfl (jv_cal rfl (jv_H_at (jv_rwK hW 178 14 31 (by decide))) rfl rfl) rfl hN rfl rfl Kz) ?_
  refine jv_Wp.lift (fun _ Kz => jv_Ev.steps jv_i394 2 (pc' := 58) (l' := [(8, .long (vm_J old)), (6, .long (0 : Int64)), (4, .long xs), (0, .ref 178), (1, .long a), (3, .int (vl_I f.z))]) (st' := [.ref 178]) rfl Kz) ?_
  refine jv_Wp.lift (fun _ Kz => jv_Ev.m jv_i394 (pc' := 61) (st' := [.int (81 : Int32)]) (G' := (jv_H K I L R)) rfl rfl (jv_m_getI (jv_rwK hW 178 14 31 (by decide)) rfl rfl hiI) Kz) ?_
  refine jv_Wp.lift (fun _ Kz => jv_Ev.steps jv_i394 4 (pc' := 67) (l' := [(10, .int (80 : Int32)), (8, .long (vm_J old)), (6, .long (0 : Int64)), (4, .long xs), (0, .ref 178), (1, .long a), (3, .int (vl_I f.z))]) (st' := [.ref 178]) rfl Kz) ?_
  refine jv_Wp.lift (fun _ Kz => jv_Ev.m jv_i394 (pc' := 70) (st' := [.int (81 : Int32)]) (G' := (jv_H K I L R)) rfl rfl (jv_m_getI (jv_rwK hW 178 14 31 (by decide)) rfl rfl hiI) Kz) ?_
  refine jv_Wp.lift (fun _ Kz => jv_Ev.steps jv_i394 1 (pc' := 73) (l' := [(10, .int (80 : Int32)), (8, .long (vm_J old)), (6, .long (0 : Int64)), (4, .long xs), (0, .ref 178), (1, .long a), (3, .int (vl_I f.z))]) (st' := [.int (225 : Int32), .int (81 : Int32)]) rfl Kz) ?_
  refine jv_Wp.lift (fun _ Kz => jv_Ev.br jv_i394 (pc' := 81) (st' := []) rfl (by rfl) Kz) ?_
  refine jv_Wp.lift (fun _ Kz => jv_Ev.steps jv_i394 1 (pc' := 82) (l' := [(10, .int (80 : Int32)), (8, .long (vm_J old)), (6, .long (0 : Int64)), (4, .long xs), (0, .ref 178), (1, .long a), (3, .int (vl_I f.z))]) (st' := [.ref 178]) rfl Kz) ?_
  refine jv_Wp.lift (fun _ Kz => jv_Ev.m jv_i394 (pc' := 85) (st' := [.int (81 : Int32)]) (G' := (jv_H K I L R)) rfl rfl (jv_m_getI (jv_rwK hW 178 14 31 (by decide)) rfl rfl hiI) Kz) ?_
  refine jv_Wp.lift (fun _ Kz => jv_Ev.steps jv_i394 1 (pc' := 88) (l' := [(10, .int (80 : Int32)), (8, .long (vm_J old)), (6, .long (0 : Int64)), (4, .long xs), (0, .ref 178), (1, .long a), (3, .int (vl_I f.z))]) (st' := [.int (241 : Int32), .int (81 : Int32)]) rfl Kz) ?_
  refine jv_Wp.lift (fun _ Kz => jv_Ev.br jv_i394 (pc' := 116) (st' := []) rfl (by rfl) Kz) ?_
  refine jv_Wp.lift (fun _ Kz => jv_Ev.steps jv_i394 1 (pc' := 118) (l' := [(10, .int (80 : Int32)), (8, .long (vm_J old)), (6, .long (0 : Int64)), (4, .long xs), (0, .ref 178), (1, .long a), (3, .int (vl_I f.z))]) (st' := [.int (80 : Int32)]) rfl Kz) ?_
  refine jv_Wp.lift (fun _ Kz => jv_Ev.br jv_i394 (pc' := 129) (st' := []) rfl (by rfl) Kz) ?_
  refine jv_Wp.lift (fun _ Kz => jv_Ev.steps jv_i394 2 (pc' := 133) (l' := [(10, .int (80 : Int32)), (8, .long (vm_J old)), (6, .long (0 : Int64)), (4, .long xs), (0, .ref 178), (1, .long a), (3, .int (vl_I f.z))]) (st' := [.int (64 : Int32), .int (80 : Int32)]) rfl Kz) ?_
  refine jv_Wp.lift (fun _ Kz => jv_Ev.br jv_i394 (pc' := 144) (st' := []) rfl (by rfl) Kz) ?_
  refine jv_Wp.lift (fun _ Kz => jv_Ev.steps jv_i394 2 (pc' := 148) (l' := [(10, .int (80 : Int32)), (8, .long (vm_J old)), (6, .long (0 : Int64)), (4, .long xs), (0, .ref 178), (1, .long a), (3, .int (vl_I f.z))]) (st' := [.int (80 : Int32), .int (80 : Int32)]) rfl Kz) ?_
  refine jv_Wp.lift (fun _ Kz => jv_Ev.br jv_i394 (pc' := 151) (st' := []) rfl (by rfl) Kz) ?_
  refine jv_Wp.lift (fun _ Kz => jv_Ev.steps jv_i394 9 (pc' := 171) (l' := [(11, .long ((vm_J old) &&& xs)), (10, .int (80 : Int32)), (8, .long (vm_J old)), (6, .long (0 : Int64)), (4, .long xs), (0, .ref 178), (1, .long a), (3, .int (vl_I f.z))]) (st' := [.long ((vm_J old) &&& xs), .int (vl_I f.z), .long a, .ref 178]) rfl Kz) ?_
  have ev : ((vm_J old) &&& xs) = Int64.ofBitVec (vm_new f (BitVec.ofNat 64 old) y.toBitVec q.toBitVec) := Int64.toBitVec_inj.mp (by rw [Int64.toBitVec_and, exs]; show _ = vm_new f (BitVec.ofNat 64 old) y.toBitVec q.toBitVec; unfold vm_new; rw [if_neg (show ¬ (f.i = 0 ∨ f.i = 1) by omega), if_neg (show ¬ (f.i = 64 ∨ f.i = 65) by omega), if_pos (show f.i = 80 ∨ f.i = 81 by omega)]; rfl)
  refine jv_Wp.lift (fun _ Kz => jv_Ev.c jv_i394 (pc' := 174) (S' := []) (G1 := (jv_H K I2 L R)) jv_i372 [.ref 178, .long a, .int (vl_I f.z), .long ((vm_J old) &&& xs)] rfl rfl rfl rfl (jv_cal rfl (jv_H_at (jv_rwK hW 178 14 31 (by decide))) rfl rfl) rfl (show jv_Ms 372 [.ref 178, .long a, .int (vl_I f.z), .long ((vm_J old) &&& xs)] _ _ _ _ from by rw [ev]; exact hKp) rfl rfl Kz) ?_
  refine jv_Wp.lift (fun _ Kz => jv_Ev.steps jv_i394 1 (pc' := 175) (l' := [(11, .long ((vm_J old) &&& xs)), (10, .int (80 : Int32)), (8, .long (vm_J old)), (6, .long (0 : Int64)), (4, .long xs), (0, .ref 178), (1, .long a), (3, .int (vl_I f.z))]) (st' := [.ref 178]) rfl Kz) ?_
  refine jv_Wp.lift (fun _ Kz => jv_Ev.m jv_i394 (pc' := 178) (st' := [.int (81 : Int32)]) (G' := (jv_H K I2 L R)) rfl rfl (jv_m_getI (jv_rwK hW 178 14 31 (by decide)) rfl rfl (e178.trans hiI)) Kz) ?_
  refine jv_Wp.lift (fun _ Kz => jv_Ev.steps jv_i394 1 (pc' := 181) (l' := [(11, .long ((vm_J old) &&& xs)), (10, .int (80 : Int32)), (8, .long (vm_J old)), (6, .long (0 : Int64)), (4, .long xs), (0, .ref 178), (1, .long a), (3, .int (vl_I f.z))]) (st' := [.int (241 : Int32), .int (81 : Int32)]) rfl Kz) ?_
  refine jv_Wp.lift (fun _ Kz => jv_Ev.br jv_i394 (pc' := 194) (st' := []) rfl (by rfl) Kz) ?_
  refine jv_Wp.lift (fun _ Kz => jv_Ev.steps jv_i394 1 (pc' := 195) (l' := [(11, .long ((vm_J old) &&& xs)), (10, .int (80 : Int32)), (8, .long (vm_J old)), (6, .long (0 : Int64)), (4, .long xs), (0, .ref 178), (1, .long a), (3, .int (vl_I f.z))]) (st' := [.ref 178]) rfl Kz) ?_
  refine jv_Wp.lift (fun _ Kz => jv_Ev.m jv_i394 (pc' := 198) (st' := [.int (81 : Int32)]) (G' := (jv_H K I2 L R)) rfl rfl (jv_m_getI (jv_rwK hW 178 14 31 (by decide)) rfl rfl (e178.trans hiI)) Kz) ?_
  refine jv_Wp.lift (fun _ Kz => jv_Ev.steps jv_i394 1 (pc' := 199) (l' := [(11, .long ((vm_J old) &&& xs)), (10, .int (80 : Int32)), (8, .long (vm_J old)), (6, .long (0 : Int64)), (4, .long xs), (0, .ref 178), (1, .long a), (3, .int (vl_I f.z))]) (st' := [.int (2 : Int32), .int (81 : Int32)]) rfl Kz) ?_
  refine jv_Wp.lift (fun _ Kz => jv_Ev.op jv_i394 (pc' := 200) (l' := [(11, .long ((vm_J old) &&& xs)), (10, .int (80 : Int32)), (8, .long (vm_J old)), (6, .long (0 : Int64)), (4, .long xs), (0, .ref 178), (1, .long a), (3, .int (vl_I f.z))]) (st' := [.int ((81 : Int32) - (81 : Int32) / (2 : Int32) * (2 : Int32))]) rfl (jv_op_irem (by decide)) Kz) ?_
  refine jv_Wp.lift (fun _ Kz => jv_Ev.steps jv_i394 1 (pc' := 201) (l' := [(11, .long ((vm_J old) &&& xs)), (10, .int (80 : Int32)), (8, .long (vm_J old)), (6, .long (0 : Int64)), (4, .long xs), (0, .ref 178), (1, .long a), (3, .int (vl_I f.z))]) (st' := [.int (1 : Int32), .int ((81 : Int32) - (81 : Int32) / (2 : Int32) * (2 : Int32))]) rfl Kz) ?_
  refine jv_Wp.cnd jv_i394 (pt := 214) (pe := 204) (p := (¬ ((81 : Int32) - (81 : Int32) / (2 : Int32) * (2 : Int32)) = (1 : Int32))) (q := (¬ ((81 : Int32) - (81 : Int32) / (2 : Int32) * (2 : Int32)) = (1 : Int32))) rfl jv_bc_ne rfl rfl Iff.rfl (fun hz => absurd hz (by decide)) (fun _ => ?_)
  refine jv_Wp.lift (fun _ Kz => jv_Ev.steps jv_i394 2 (pc' := 206) (l' := [(11, .long ((vm_J old) &&& xs)), (10, .int (80 : Int32)), (8, .long (vm_J old)), (6, .long (0 : Int64)), (4, .long xs), (0, .ref 178), (1, .long a), (3, .int (vl_I f.z))]) (st' := [.ref 178, .ref 178]) rfl Kz) ?_
  refine jv_Wp.lift (fun _ Kz => jv_Ev.m jv_i394 (pc' := 209) (st' := [.int (vl_I f.s), .ref 178]) (G' := (jv_H K I2 L R)) rfl rfl (jv_m_getI (jv_rwK hW 178 14 31 (by decide)) rfl rfl (s178.trans (vm_d_s D))) Kz) ?_
  refine jv_Wp.lift (fun _ Kz => jv_Ev.steps jv_i394 1 (pc' := 211) (l' := [(11, .long ((vm_J old) &&& xs)), (10, .int (80 : Int32)), (8, .long (vm_J old)), (6, .long (0 : Int64)), (4, .long xs), (0, .ref 178), (1, .long a), (3, .int (vl_I f.z))]) (st' := [.long (vm_J old), .int (vl_I f.s), .ref 178]) rfl Kz) ?_
  refine jv_Wp.lift (fun _ Kz => jv_Ev.c jv_i394 (pc' := 214) (S' := []) (G1 := (jv_H K (jv_u I2 221 f.s 1) (jv_u L 220 f.s (vm_J old)) R)) jv_i375 [.ref 178, .int (vl_I f.s), .long (vm_J old)] rfl rfl rfl rfl (jv_cal rfl (jv_H_at (jv_rwK hW 178 14 31 (by decide))) rfl rfl) rfl (vr_give (I := I2) (L := L) (n := n) (sl := sl) (r := f.s) hW (by omega)) rfl rfl Kz) ?_
  refine jv_Wp.of (jv_Ev.ret jv_i394 rfl rfl) ?_
  rw [hQ]
  exact ⟨_, _, rfl, vm_r_gv (r := f.s) hm, vr_gv_ff (vc_ff_le (fun _ _ z => Or.inl z) hf)⟩
theorem vr_atomic160 {K : Nat → Option (Nat × Nat)} {I : Nat → Nat → Int32} {L : Nat → Nat → Int64} {R : Nat → Nat → Value} (hW : jv_rW K R) {S T : vm_S} (hsh : vm_sh S) (h : vm_r I L S) {f : vf_F} (D : vm_D I f) (hd : f.d < 11) (hs : f.s < 11) {a y q : Int64} {old : Nat} {U : vm_S} (hi : f.i = 160) (hgs : vm_rd S f.s = some y) (hq : (if f.i = 241 then vm_rd S 0 else some 0) = some q) (hal0 : a.toInt % (f.z : Int) = 0) (hnum : vm_num 1073750016 1073758208 S a f.z = some old) (hU : vm_keep 1073750016 1073758208 S a (vm_bt (Int64.ofBitVec (vm_new f (BitVec.ofNat 64 old) y.toBitVec q.toBitVec))) f.z = some U) (hT : T = (if f.i = 241 then vm_gv U 0 (vm_J old) else if f.i % 2 = 1 then vm_gv U f.s (vm_J old) else U)) {n sl : Nat} : ∃ I1 L1, jv_Ms 394 [.ref 178, .long a, .int (vl_I f.z)] (jv_H K I L R) n sl (none, jv_H K I1 L1 R, n, sl) ∧ vm_r I1 L1 T ∧ vc_ff vr_Er I L I1 L1 := by
  obtain ⟨Q, hQ⟩ : ∃ Q : jv_R → Prop, Q = fun X => ∃ I1 L1, X = (none, jv_H K I1 L1 R, n, sl) ∧ vm_r I1 L1 T ∧ vc_ff vr_Er I L I1 L1 := ⟨_, rfl⟩
  suffices hE : jv_Wp 394 0 [(0, .ref 178), (1, .long a), (3, .int (vl_I f.z))] [] (jv_H K I L R) n sl Q by
    rw [hQ] at hE
    obtain ⟨X, hE, I1, L1, e, h'⟩ := hE
    subst e
    exact ⟨I1, L1, hE, h'⟩
  have z4 := vf_z_cases f
  have z8 : f.z ≤ 8 := by omega
  have hiI : I 178 29 = (160 : Int32) := (vm_d_i D).trans (Int32.toInt_inj.mp (by rw [vr_dQ D, hi]; decide))
  have hz0 : ¬ (vl_I f.z).toInt64 = (0 : Int64) := by rcases z4 with e | e | e | e <;> rw [e] <;> decide
  have hr0 : (a - a / (vl_I f.z).toInt64 * (vl_I f.z).toInt64) = (0 : Int64) := vm_rem0 z4 hal0
  obtain ⟨xs, exs⟩ : ∃ xs, xs = y := ⟨y, rfl⟩
  have hgs : vm_rd S f.s = some xs := exs ▸ hgs
  have hN := vr_number (n := n) (sl := sl) hW hsh h (by omega) hnum
  obtain ⟨I2, hKp, hm, hf⟩ := vr_keepM (n := n) (sl := sl) (R := R) hW z8 hsh h hU
  have e178 : I2 178 29 = I 178 29 := hf.1 178 29 (by omega)
  have s178 : I2 178 27 = I 178 27 := hf.1 178 27 (by omega)
  rw [if_neg (show ¬ f.i = 241 by omega), if_neg (show ¬ f.i % 2 = 1 by omega)] at hT
  subst hT
  refine jv_Wp.lift (fun _ Kz => jv_Ev.steps jv_i394 4 (pc' := 4) (l' := [(0, .ref 178), (1, .long a), (3, .int (vl_I f.z))]) (st' := [.long (vl_I f.z).toInt64, .long a, .ref 178]) rfl Kz) ?_
  refine jv_Wp.lift (fun _ Kz => jv_Ev.op jv_i394 (pc' := 5) (l' := [(0, .ref 178), (1, .long a), (3, .int (vl_I f.z))]) (st' := [.long (a - a / (vl_I f.z).toInt64 * (vl_I f.z).toInt64), .ref 178]) rfl (jv_op_lrem hz0) Kz) ?_
  refine jv_Wp.lift (fun _ Kz => jv_Ev.steps jv_i394 2 (pc' := 7) (l' := [(0, .ref 178), (1, .long a), (3, .int (vl_I f.z))]) (st' := [.int (lg_cmp (a - a / (vl_I f.z).toInt64 * (vl_I f.z).toInt64) (0 : Int64)), .ref 178]) rfl Kz) ?_
  refine jv_Wp.cnd jv_i394 (pt := 14) (pe := 10) (p := ((lg_cmp (a - a / (vl_I f.z).toInt64 * (vl_I f.z).toInt64) (0 : Int64)) = 0)) (q := ((a - a / (vl_I f.z).toInt64 * (vl_I f.z).toInt64) = (0 : Int64))) rfl jv_bi_eq rfl rfl (lg_cmp_eq (a - a / (vl_I f.z).toInt64 * (vl_I f.z).toInt64) (0 : Int64)) (fun _ => ?_) (fun hz => absurd hr0 hz)
  refine jv_Wp.lift (fun _ Kz => jv_Ev.steps jv_i394 1 (pc' := 15) (l' := [(0, .ref 178), (1, .long a), (3, .int (vl_I f.z))]) (st' := [.int (0 : Int32), .ref 178]) rfl Kz) ?_
  refine jv_Wp.lift (fun _ Kz => jv_Ev.c jv_i394 (pc' := 18) (S' := []) jv_i365 [.ref 178, .int (0 : Int32)] rfl rfl rfl rfl (jv_cal rfl (jv_H_at (jv_rwK hW 178 14 31 (by decide))) rfl rfl) rfl (vr_count0 (n := n) (sl := sl) hW) rfl rfl Kz) ?_
  refine jv_Wp.lift (fun _ Kz => jv_Ev.steps jv_i394 2 (pc' := 20) (l' := [(0, .ref 178), (1, .long a), (3, .int (vl_I f.z))]) (st' := [.ref 178, .ref 178]) rfl Kz) ?_
  refine jv_Wp.lift (fun _ Kz => jv_Ev.m jv_i394 (pc' := 23) (st' := [.int (vl_I f.s), .ref 178]) (G' := (jv_H K I L R)) rfl rfl (jv_m_getI (jv_rwK hW 178 14 31 (by decide)) rfl rfl (vm_d_s D)) Kz) ?_
  refine jv_Wp.lift (fun _ Kz => jv_Ev.c jv_i394 (pc' := 26) (S' := [.long xs]) jv_i374 [.ref 178, .int (vl_I f.s)] rfl rfl rfl rfl (jv_cal rfl (jv_H_at (jv_rwK hW 178 14 31 (by decide))) rfl rfl) rfl (vr_readR hW h hs hgs) rfl rfl Kz) ?_
  refine jv_Wp.lift (fun _ Kz => jv_Ev.steps jv_i394 2 (pc' := 29) (l' := [(4, .long xs), (0, .ref 178), (1, .long a), (3, .int (vl_I f.z))]) (st' := [.ref 178]) rfl Kz) ?_
  refine jv_Wp.lift (fun _ Kz => jv_Ev.m jv_i394 (pc' := 32) (st' := [.int (160 : Int32)]) (G' := (jv_H K I L R)) rfl rfl (jv_m_getI (jv_rwK hW 178 14 31 (by decide)) rfl rfl hiI) Kz) ?_
  refine jv_Wp.lift (fun _ Kz => jv_Ev.steps jv_i394 1 (pc' := 35) (l' := [(4, .long xs), (0, .ref 178), (1, .long a), (3, .int (vl_I f.z))]) (st' := [.int (241 : Int32), .int (160 : Int32)]) rfl Kz) ?_
  refine jv_Wp.lift (fun _ Kz => jv_Ev.br jv_i394 (pc' := 46) (st' := []) rfl (by rfl) Kz) ?_
  refine jv_Wp.lift (fun _ Kz => jv_Ev.steps jv_i394 5 (pc' := 52) (l' := [(6, .long (0 : Int64)), (4, .long xs), (0, .ref 178), (1, .long a), (3, .int (vl_I f.z))]) (st' := [.int (vl_I f.z), .long a, .ref 178]) rfl Kz) ?_
  refine jv_Wp.lift (fun _ Kz => jv_Ev.c jv_i394 (pc' := 55) (S' := [.long (vm_J old)]) jv_i371 [.ref 178, .long a, .int (vl_I f.z)] rfl rfl rfl rfl (jv_cal rfl (jv_H_at (jv_rwK hW 178 14 31 (by decide))) rfl rfl) rfl hN rfl rfl Kz) ?_
  refine jv_Wp.lift (fun _ Kz => jv_Ev.steps jv_i394 2 (pc' := 58) (l' := [(8, .long (vm_J old)), (6, .long (0 : Int64)), (4, .long xs), (0, .ref 178), (1, .long a), (3, .int (vl_I f.z))]) (st' := [.ref 178]) rfl Kz) ?_
  refine jv_Wp.lift (fun _ Kz => jv_Ev.m jv_i394 (pc' := 61) (st' := [.int (160 : Int32)]) (G' := (jv_H K I L R)) rfl rfl (jv_m_getI (jv_rwK hW 178 14 31 (by decide)) rfl rfl hiI) Kz) ?_
  refine jv_Wp.lift (fun _ Kz => jv_Ev.steps jv_i394 4 (pc' := 67) (l' := [(10, .int (160 : Int32)), (8, .long (vm_J old)), (6, .long (0 : Int64)), (4, .long xs), (0, .ref 178), (1, .long a), (3, .int (vl_I f.z))]) (st' := [.ref 178]) rfl Kz) ?_
  refine jv_Wp.lift (fun _ Kz => jv_Ev.m jv_i394 (pc' := 70) (st' := [.int (160 : Int32)]) (G' := (jv_H K I L R)) rfl rfl (jv_m_getI (jv_rwK hW 178 14 31 (by decide)) rfl rfl hiI) Kz) ?_
  refine jv_Wp.lift (fun _ Kz => jv_Ev.steps jv_i394 1 (pc' := 73) (l' := [(10, .int (160 : Int32)), (8, .long (vm_J old)), (6, .long (0 : Int64)), (4, .long xs), (0, .ref 178), (1, .long a), (3, .int (vl_I f.z))]) (st' := [.int (225 : Int32), .int (160 : Int32)]) rfl Kz) ?_
  refine jv_Wp.lift (fun _ Kz => jv_Ev.br jv_i394 (pc' := 81) (st' := []) rfl (by rfl) Kz) ?_
  refine jv_Wp.lift (fun _ Kz => jv_Ev.steps jv_i394 1 (pc' := 82) (l' := [(10, .int (160 : Int32)), (8, .long (vm_J old)), (6, .long (0 : Int64)), (4, .long xs), (0, .ref 178), (1, .long a), (3, .int (vl_I f.z))]) (st' := [.ref 178]) rfl Kz) ?_
  refine jv_Wp.lift (fun _ Kz => jv_Ev.m jv_i394 (pc' := 85) (st' := [.int (160 : Int32)]) (G' := (jv_H K I L R)) rfl rfl (jv_m_getI (jv_rwK hW 178 14 31 (by decide)) rfl rfl hiI) Kz) ?_
  refine jv_Wp.lift (fun _ Kz => jv_Ev.steps jv_i394 1 (pc' := 88) (l' := [(10, .int (160 : Int32)), (8, .long (vm_J old)), (6, .long (0 : Int64)), (4, .long xs), (0, .ref 178), (1, .long a), (3, .int (vl_I f.z))]) (st' := [.int (241 : Int32), .int (160 : Int32)]) rfl Kz) ?_
  refine jv_Wp.lift (fun _ Kz => jv_Ev.br jv_i394 (pc' := 116) (st' := []) rfl (by rfl) Kz) ?_
  refine jv_Wp.lift (fun _ Kz => jv_Ev.steps jv_i394 1 (pc' := 118) (l' := [(10, .int (160 : Int32)), (8, .long (vm_J old)), (6, .long (0 : Int64)), (4, .long xs), (0, .ref 178), (1, .long a), (3, .int (vl_I f.z))]) (st' := [.int (160 : Int32)]) rfl Kz) ?_
  refine jv_Wp.lift (fun _ Kz => jv_Ev.br jv_i394 (pc' := 129) (st' := []) rfl (by rfl) Kz) ?_
  refine jv_Wp.lift (fun _ Kz => jv_Ev.steps jv_i394 2 (pc' := 133) (l' := [(10, .int (160 : Int32)), (8, .long (vm_J old)), (6, .long (0 : Int64)), (4, .long xs), (0, .ref 178), (1, .long a), (3, .int (vl_I f.z))]) (st' := [.int (64 : Int32), .int (160 : Int32)]) rfl Kz) ?_
  refine jv_Wp.lift (fun _ Kz => jv_Ev.br jv_i394 (pc' := 144) (st' := []) rfl (by rfl) Kz) ?_
  refine jv_Wp.lift (fun _ Kz => jv_Ev.steps jv_i394 2 (pc' := 148) (l' := [(10, .int (160 : Int32)), (8, .long (vm_J old)), (6, .long (0 : Int64)), (4, .long xs), (0, .ref 178), (1, .long a), (3, .int (vl_I f.z))]) (st' := [.int (80 : Int32), .int (160 : Int32)]) rfl Kz) ?_
  refine jv_Wp.lift (fun _ Kz => jv_Ev.br jv_i394 (pc' := 159) (st' := []) rfl (by rfl) Kz) ?_
  refine jv_Wp.lift (fun _ Kz => jv_Ev.steps jv_i394 8 (pc' := 171) (l' := [(11, .long ((vm_J old) ^^^ xs)), (10, .int (160 : Int32)), (8, .long (vm_J old)), (6, .long (0 : Int64)), (4, .long xs), (0, .ref 178), (1, .long a), (3, .int (vl_I f.z))]) (st' := [.long ((vm_J old) ^^^ xs), .int (vl_I f.z), .long a, .ref 178]) rfl Kz) ?_
  have ev : ((vm_J old) ^^^ xs) = Int64.ofBitVec (vm_new f (BitVec.ofNat 64 old) y.toBitVec q.toBitVec) := Int64.toBitVec_inj.mp (by rw [Int64.toBitVec_xor, exs]; show _ = vm_new f (BitVec.ofNat 64 old) y.toBitVec q.toBitVec; unfold vm_new; rw [if_neg (show ¬ (f.i = 0 ∨ f.i = 1) by omega), if_neg (show ¬ (f.i = 64 ∨ f.i = 65) by omega), if_neg (show ¬ (f.i = 80 ∨ f.i = 81) by omega), if_pos (show f.i = 160 ∨ f.i = 161 by omega)]; rfl)
  refine jv_Wp.lift (fun _ Kz => jv_Ev.c jv_i394 (pc' := 174) (S' := []) (G1 := (jv_H K I2 L R)) jv_i372 [.ref 178, .long a, .int (vl_I f.z), .long ((vm_J old) ^^^ xs)] rfl rfl rfl rfl (jv_cal rfl (jv_H_at (jv_rwK hW 178 14 31 (by decide))) rfl rfl) rfl (show jv_Ms 372 [.ref 178, .long a, .int (vl_I f.z), .long ((vm_J old) ^^^ xs)] _ _ _ _ from by rw [ev]; exact hKp) rfl rfl Kz) ?_
  refine jv_Wp.lift (fun _ Kz => jv_Ev.steps jv_i394 1 (pc' := 175) (l' := [(11, .long ((vm_J old) ^^^ xs)), (10, .int (160 : Int32)), (8, .long (vm_J old)), (6, .long (0 : Int64)), (4, .long xs), (0, .ref 178), (1, .long a), (3, .int (vl_I f.z))]) (st' := [.ref 178]) rfl Kz) ?_
  refine jv_Wp.lift (fun _ Kz => jv_Ev.m jv_i394 (pc' := 178) (st' := [.int (160 : Int32)]) (G' := (jv_H K I2 L R)) rfl rfl (jv_m_getI (jv_rwK hW 178 14 31 (by decide)) rfl rfl (e178.trans hiI)) Kz) ?_
  refine jv_Wp.lift (fun _ Kz => jv_Ev.steps jv_i394 1 (pc' := 181) (l' := [(11, .long ((vm_J old) ^^^ xs)), (10, .int (160 : Int32)), (8, .long (vm_J old)), (6, .long (0 : Int64)), (4, .long xs), (0, .ref 178), (1, .long a), (3, .int (vl_I f.z))]) (st' := [.int (241 : Int32), .int (160 : Int32)]) rfl Kz) ?_
  refine jv_Wp.lift (fun _ Kz => jv_Ev.br jv_i394 (pc' := 194) (st' := []) rfl (by rfl) Kz) ?_
  refine jv_Wp.lift (fun _ Kz => jv_Ev.steps jv_i394 1 (pc' := 195) (l' := [(11, .long ((vm_J old) ^^^ xs)), (10, .int (160 : Int32)), (8, .long (vm_J old)), (6, .long (0 : Int64)), (4, .long xs), (0, .ref 178), (1, .long a), (3, .int (vl_I f.z))]) (st' := [.ref 178]) rfl Kz) ?_
  refine jv_Wp.lift (fun _ Kz => jv_Ev.m jv_i394 (pc' := 198) (st' := [.int (160 : Int32)]) (G' := (jv_H K I2 L R)) rfl rfl (jv_m_getI (jv_rwK hW 178 14 31 (by decide)) rfl rfl (e178.trans hiI)) Kz) ?_
  refine jv_Wp.lift (fun _ Kz => jv_Ev.steps jv_i394 1 (pc' := 199) (l' := [(11, .long ((vm_J old) ^^^ xs)), (10, .int (160 : Int32)), (8, .long (vm_J old)), (6, .long (0 : Int64)), (4, .long xs), (0, .ref 178), (1, .long a), (3, .int (vl_I f.z))]) (st' := [.int (2 : Int32), .int (160 : Int32)]) rfl Kz) ?_
  refine jv_Wp.lift (fun _ Kz => jv_Ev.op jv_i394 (pc' := 200) (l' := [(11, .long ((vm_J old) ^^^ xs)), (10, .int (160 : Int32)), (8, .long (vm_J old)), (6, .long (0 : Int64)), (4, .long xs), (0, .ref 178), (1, .long a), (3, .int (vl_I f.z))]) (st' := [.int ((160 : Int32) - (160 : Int32) / (2 : Int32) * (2 : Int32))]) rfl (jv_op_irem (by decide)) Kz) ?_
  refine jv_Wp.lift (fun _ Kz => jv_Ev.steps jv_i394 1 (pc' := 201) (l' := [(11, .long ((vm_J old) ^^^ xs)), (10, .int (160 : Int32)), (8, .long (vm_J old)), (6, .long (0 : Int64)), (4, .long xs), (0, .ref 178), (1, .long a), (3, .int (vl_I f.z))]) (st' := [.int (1 : Int32), .int ((160 : Int32) - (160 : Int32) / (2 : Int32) * (2 : Int32))]) rfl Kz) ?_
  refine jv_Wp.cnd jv_i394 (pt := 214) (pe := 204) (p := (¬ ((160 : Int32) - (160 : Int32) / (2 : Int32) * (2 : Int32)) = (1 : Int32))) (q := (¬ ((160 : Int32) - (160 : Int32) / (2 : Int32) * (2 : Int32)) = (1 : Int32))) rfl jv_bc_ne rfl rfl Iff.rfl (fun _ => ?_) (fun hz => absurd (by decide) hz)
  refine jv_Wp.of (jv_Ev.ret jv_i394 rfl rfl) ?_
  rw [hQ]
  exact ⟨_, _, rfl, hm, vc_ff_le (fun _ _ z => Or.inl z) hf⟩
theorem vr_atomic161 {K : Nat → Option (Nat × Nat)} {I : Nat → Nat → Int32} {L : Nat → Nat → Int64} {R : Nat → Nat → Value} (hW : jv_rW K R) {S T : vm_S} (hsh : vm_sh S) (h : vm_r I L S) {f : vf_F} (D : vm_D I f) (hd : f.d < 11) (hs : f.s < 11) {a y q : Int64} {old : Nat} {U : vm_S} (hi : f.i = 161) (hgs : vm_rd S f.s = some y) (hq : (if f.i = 241 then vm_rd S 0 else some 0) = some q) (hal0 : a.toInt % (f.z : Int) = 0) (hnum : vm_num 1073750016 1073758208 S a f.z = some old) (hU : vm_keep 1073750016 1073758208 S a (vm_bt (Int64.ofBitVec (vm_new f (BitVec.ofNat 64 old) y.toBitVec q.toBitVec))) f.z = some U) (hT : T = (if f.i = 241 then vm_gv U 0 (vm_J old) else if f.i % 2 = 1 then vm_gv U f.s (vm_J old) else U)) {n sl : Nat} : ∃ I1 L1, jv_Ms 394 [.ref 178, .long a, .int (vl_I f.z)] (jv_H K I L R) n sl (none, jv_H K I1 L1 R, n, sl) ∧ vm_r I1 L1 T ∧ vc_ff vr_Er I L I1 L1 := by
  obtain ⟨Q, hQ⟩ : ∃ Q : jv_R → Prop, Q = fun X => ∃ I1 L1, X = (none, jv_H K I1 L1 R, n, sl) ∧ vm_r I1 L1 T ∧ vc_ff vr_Er I L I1 L1 := ⟨_, rfl⟩
  suffices hE : jv_Wp 394 0 [(0, .ref 178), (1, .long a), (3, .int (vl_I f.z))] [] (jv_H K I L R) n sl Q by
    rw [hQ] at hE
    obtain ⟨X, hE, I1, L1, e, h'⟩ := hE
    subst e
    exact ⟨I1, L1, hE, h'⟩
  have z4 := vf_z_cases f
  have z8 : f.z ≤ 8 := by omega
  have hiI : I 178 29 = (161 : Int32) := (vm_d_i D).trans (Int32.toInt_inj.mp (by rw [vr_dQ D, hi]; decide))
  have hz0 : ¬ (vl_I f.z).toInt64 = (0 : Int64) := by rcases z4 with e | e | e | e <;> rw [e] <;> decide
  have hr0 : (a - a / (vl_I f.z).toInt64 * (vl_I f.z).toInt64) = (0 : Int64) := vm_rem0 z4 hal0
  obtain ⟨xs, exs⟩ : ∃ xs, xs = y := ⟨y, rfl⟩
  have hgs : vm_rd S f.s = some xs := exs ▸ hgs
  have hN := vr_number (n := n) (sl := sl) hW hsh h (by omega) hnum
  obtain ⟨I2, hKp, hm, hf⟩ := vr_keepM (n := n) (sl := sl) (R := R) hW z8 hsh h hU
  have e178 : I2 178 29 = I 178 29 := hf.1 178 29 (by omega)
  have s178 : I2 178 27 = I 178 27 := hf.1 178 27 (by omega)
  rw [if_neg (show ¬ f.i = 241 by omega), if_pos (show f.i % 2 = 1 by omega)] at hT
  subst hT
  refine jv_Wp.lift (fun _ Kz => jv_Ev.steps jv_i394 4 (pc' := 4) (l' := [(0, .ref 178), (1, .long a), (3, .int (vl_I f.z))]) (st' := [.long (vl_I f.z).toInt64, .long a, .ref 178]) rfl Kz) ?_
  refine jv_Wp.lift (fun _ Kz => jv_Ev.op jv_i394 (pc' := 5) (l' := [(0, .ref 178), (1, .long a), (3, .int (vl_I f.z))]) (st' := [.long (a - a / (vl_I f.z).toInt64 * (vl_I f.z).toInt64), .ref 178]) rfl (jv_op_lrem hz0) Kz) ?_
  refine jv_Wp.lift (fun _ Kz => jv_Ev.steps jv_i394 2 (pc' := 7) (l' := [(0, .ref 178), (1, .long a), (3, .int (vl_I f.z))]) (st' := [.int (lg_cmp (a - a / (vl_I f.z).toInt64 * (vl_I f.z).toInt64) (0 : Int64)), .ref 178]) rfl Kz) ?_
  refine jv_Wp.cnd jv_i394 (pt := 14) (pe := 10) (p := ((lg_cmp (a - a / (vl_I f.z).toInt64 * (vl_I f.z).toInt64) (0 : Int64)) = 0)) (q := ((a - a / (vl_I f.z).toInt64 * (vl_I f.z).toInt64) = (0 : Int64))) rfl jv_bi_eq rfl rfl (lg_cmp_eq (a - a / (vl_I f.z).toInt64 * (vl_I f.z).toInt64) (0 : Int64)) (fun _ => ?_) (fun hz => absurd hr0 hz)
  refine jv_Wp.lift (fun _ Kz => jv_Ev.steps jv_i394 1 (pc' := 15) (l' := [(0, .ref 178), (1, .long a), (3, .int (vl_I f.z))]) (st' := [.int (0 : Int32), .ref 178]) rfl Kz) ?_
  refine jv_Wp.lift (fun _ Kz => jv_Ev.c jv_i394 (pc' := 18) (S' := []) jv_i365 [.ref 178, .int (0 : Int32)] rfl rfl rfl rfl (jv_cal rfl (jv_H_at (jv_rwK hW 178 14 31 (by decide))) rfl rfl) rfl (vr_count0 (n := n) (sl := sl) hW) rfl rfl Kz) ?_
  refine jv_Wp.lift (fun _ Kz => jv_Ev.steps jv_i394 2 (pc' := 20) (l' := [(0, .ref 178), (1, .long a), (3, .int (vl_I f.z))]) (st' := [.ref 178, .ref 178]) rfl Kz) ?_
  refine jv_Wp.lift (fun _ Kz => jv_Ev.m jv_i394 (pc' := 23) (st' := [.int (vl_I f.s), .ref 178]) (G' := (jv_H K I L R)) rfl rfl (jv_m_getI (jv_rwK hW 178 14 31 (by decide)) rfl rfl (vm_d_s D)) Kz) ?_
  refine jv_Wp.lift (fun _ Kz => jv_Ev.c jv_i394 (pc' := 26) (S' := [.long xs]) jv_i374 [.ref 178, .int (vl_I f.s)] rfl rfl rfl rfl (jv_cal rfl (jv_H_at (jv_rwK hW 178 14 31 (by decide))) rfl rfl) rfl (vr_readR hW h hs hgs) rfl rfl Kz) ?_
  refine jv_Wp.lift (fun _ Kz => jv_Ev.steps jv_i394 2 (pc' := 29) (l' := [(4, .long xs), (0, .ref 178), (1, .long a), (3, .int (vl_I f.z))]) (st' := [.ref 178]) rfl Kz) ?_
  refine jv_Wp.lift (fun _ Kz => jv_Ev.m jv_i394 (pc' := 32) (st' := [.int (161 : Int32)]) (G' := (jv_H K I L R)) rfl rfl (jv_m_getI (jv_rwK hW 178 14 31 (by decide)) rfl rfl hiI) Kz) ?_
  refine jv_Wp.lift (fun _ Kz => jv_Ev.steps jv_i394 1 (pc' := 35) (l' := [(4, .long xs), (0, .ref 178), (1, .long a), (3, .int (vl_I f.z))]) (st' := [.int (241 : Int32), .int (161 : Int32)]) rfl Kz) ?_
  refine jv_Wp.lift (fun _ Kz => jv_Ev.br jv_i394 (pc' := 46) (st' := []) rfl (by rfl) Kz) ?_
  refine jv_Wp.lift (fun _ Kz => jv_Ev.steps jv_i394 5 (pc' := 52) (l' := [(6, .long (0 : Int64)), (4, .long xs), (0, .ref 178), (1, .long a), (3, .int (vl_I f.z))]) (st' := [.int (vl_I f.z), .long a, .ref 178]) rfl Kz) ?_
  refine jv_Wp.lift (fun _ Kz => jv_Ev.c jv_i394 (pc' := 55) (S' := [.long (vm_J old)]) jv_i371 [.ref 178, .long a, .int (vl_I f.z)] rfl rfl rfl rfl (jv_cal rfl (jv_H_at (jv_rwK hW 178 14 31 (by decide))) rfl rfl) rfl hN rfl rfl Kz) ?_
  refine jv_Wp.lift (fun _ Kz => jv_Ev.steps jv_i394 2 (pc' := 58) (l' := [(8, .long (vm_J old)), (6, .long (0 : Int64)), (4, .long xs), (0, .ref 178), (1, .long a), (3, .int (vl_I f.z))]) (st' := [.ref 178]) rfl Kz) ?_
  refine jv_Wp.lift (fun _ Kz => jv_Ev.m jv_i394 (pc' := 61) (st' := [.int (161 : Int32)]) (G' := (jv_H K I L R)) rfl rfl (jv_m_getI (jv_rwK hW 178 14 31 (by decide)) rfl rfl hiI) Kz) ?_
  refine jv_Wp.lift (fun _ Kz => jv_Ev.steps jv_i394 4 (pc' := 67) (l' := [(10, .int (160 : Int32)), (8, .long (vm_J old)), (6, .long (0 : Int64)), (4, .long xs), (0, .ref 178), (1, .long a), (3, .int (vl_I f.z))]) (st' := [.ref 178]) rfl Kz) ?_
  refine jv_Wp.lift (fun _ Kz => jv_Ev.m jv_i394 (pc' := 70) (st' := [.int (161 : Int32)]) (G' := (jv_H K I L R)) rfl rfl (jv_m_getI (jv_rwK hW 178 14 31 (by decide)) rfl rfl hiI) Kz) ?_
  refine jv_Wp.lift (fun _ Kz => jv_Ev.steps jv_i394 1 (pc' := 73) (l' := [(10, .int (160 : Int32)), (8, .long (vm_J old)), (6, .long (0 : Int64)), (4, .long xs), (0, .ref 178), (1, .long a), (3, .int (vl_I f.z))]) (st' := [.int (225 : Int32), .int (161 : Int32)]) rfl Kz) ?_
  refine jv_Wp.lift (fun _ Kz => jv_Ev.br jv_i394 (pc' := 81) (st' := []) rfl (by rfl) Kz) ?_
  refine jv_Wp.lift (fun _ Kz => jv_Ev.steps jv_i394 1 (pc' := 82) (l' := [(10, .int (160 : Int32)), (8, .long (vm_J old)), (6, .long (0 : Int64)), (4, .long xs), (0, .ref 178), (1, .long a), (3, .int (vl_I f.z))]) (st' := [.ref 178]) rfl Kz) ?_
  refine jv_Wp.lift (fun _ Kz => jv_Ev.m jv_i394 (pc' := 85) (st' := [.int (161 : Int32)]) (G' := (jv_H K I L R)) rfl rfl (jv_m_getI (jv_rwK hW 178 14 31 (by decide)) rfl rfl hiI) Kz) ?_
  refine jv_Wp.lift (fun _ Kz => jv_Ev.steps jv_i394 1 (pc' := 88) (l' := [(10, .int (160 : Int32)), (8, .long (vm_J old)), (6, .long (0 : Int64)), (4, .long xs), (0, .ref 178), (1, .long a), (3, .int (vl_I f.z))]) (st' := [.int (241 : Int32), .int (161 : Int32)]) rfl Kz) ?_
  refine jv_Wp.lift (fun _ Kz => jv_Ev.br jv_i394 (pc' := 116) (st' := []) rfl (by rfl) Kz) ?_
  refine jv_Wp.lift (fun _ Kz => jv_Ev.steps jv_i394 1 (pc' := 118) (l' := [(10, .int (160 : Int32)), (8, .long (vm_J old)), (6, .long (0 : Int64)), (4, .long xs), (0, .ref 178), (1, .long a), (3, .int (vl_I f.z))]) (st' := [.int (160 : Int32)]) rfl Kz) ?_
  refine jv_Wp.lift (fun _ Kz => jv_Ev.br jv_i394 (pc' := 129) (st' := []) rfl (by rfl) Kz) ?_
  refine jv_Wp.lift (fun _ Kz => jv_Ev.steps jv_i394 2 (pc' := 133) (l' := [(10, .int (160 : Int32)), (8, .long (vm_J old)), (6, .long (0 : Int64)), (4, .long xs), (0, .ref 178), (1, .long a), (3, .int (vl_I f.z))]) (st' := [.int (64 : Int32), .int (160 : Int32)]) rfl Kz) ?_
  refine jv_Wp.lift (fun _ Kz => jv_Ev.br jv_i394 (pc' := 144) (st' := []) rfl (by rfl) Kz) ?_
  refine jv_Wp.lift (fun _ Kz => jv_Ev.steps jv_i394 2 (pc' := 148) (l' := [(10, .int (160 : Int32)), (8, .long (vm_J old)), (6, .long (0 : Int64)), (4, .long xs), (0, .ref 178), (1, .long a), (3, .int (vl_I f.z))]) (st' := [.int (80 : Int32), .int (160 : Int32)]) rfl Kz) ?_
  refine jv_Wp.lift (fun _ Kz => jv_Ev.br jv_i394 (pc' := 159) (st' := []) rfl (by rfl) Kz) ?_
  refine jv_Wp.lift (fun _ Kz => jv_Ev.steps jv_i394 8 (pc' := 171) (l' := [(11, .long ((vm_J old) ^^^ xs)), (10, .int (160 : Int32)), (8, .long (vm_J old)), (6, .long (0 : Int64)), (4, .long xs), (0, .ref 178), (1, .long a), (3, .int (vl_I f.z))]) (st' := [.long ((vm_J old) ^^^ xs), .int (vl_I f.z), .long a, .ref 178]) rfl Kz) ?_
  have ev : ((vm_J old) ^^^ xs) = Int64.ofBitVec (vm_new f (BitVec.ofNat 64 old) y.toBitVec q.toBitVec) := Int64.toBitVec_inj.mp (by rw [Int64.toBitVec_xor, exs]; show _ = vm_new f (BitVec.ofNat 64 old) y.toBitVec q.toBitVec; unfold vm_new; rw [if_neg (show ¬ (f.i = 0 ∨ f.i = 1) by omega), if_neg (show ¬ (f.i = 64 ∨ f.i = 65) by omega), if_neg (show ¬ (f.i = 80 ∨ f.i = 81) by omega), if_pos (show f.i = 160 ∨ f.i = 161 by omega)]; rfl)
  refine jv_Wp.lift (fun _ Kz => jv_Ev.c jv_i394 (pc' := 174) (S' := []) (G1 := (jv_H K I2 L R)) jv_i372 [.ref 178, .long a, .int (vl_I f.z), .long ((vm_J old) ^^^ xs)] rfl rfl rfl rfl (jv_cal rfl (jv_H_at (jv_rwK hW 178 14 31 (by decide))) rfl rfl) rfl (show jv_Ms 372 [.ref 178, .long a, .int (vl_I f.z), .long ((vm_J old) ^^^ xs)] _ _ _ _ from by rw [ev]; exact hKp) rfl rfl Kz) ?_
  refine jv_Wp.lift (fun _ Kz => jv_Ev.steps jv_i394 1 (pc' := 175) (l' := [(11, .long ((vm_J old) ^^^ xs)), (10, .int (160 : Int32)), (8, .long (vm_J old)), (6, .long (0 : Int64)), (4, .long xs), (0, .ref 178), (1, .long a), (3, .int (vl_I f.z))]) (st' := [.ref 178]) rfl Kz) ?_
  refine jv_Wp.lift (fun _ Kz => jv_Ev.m jv_i394 (pc' := 178) (st' := [.int (161 : Int32)]) (G' := (jv_H K I2 L R)) rfl rfl (jv_m_getI (jv_rwK hW 178 14 31 (by decide)) rfl rfl (e178.trans hiI)) Kz) ?_
  refine jv_Wp.lift (fun _ Kz => jv_Ev.steps jv_i394 1 (pc' := 181) (l' := [(11, .long ((vm_J old) ^^^ xs)), (10, .int (160 : Int32)), (8, .long (vm_J old)), (6, .long (0 : Int64)), (4, .long xs), (0, .ref 178), (1, .long a), (3, .int (vl_I f.z))]) (st' := [.int (241 : Int32), .int (161 : Int32)]) rfl Kz) ?_
  refine jv_Wp.lift (fun _ Kz => jv_Ev.br jv_i394 (pc' := 194) (st' := []) rfl (by rfl) Kz) ?_
  refine jv_Wp.lift (fun _ Kz => jv_Ev.steps jv_i394 1 (pc' := 195) (l' := [(11, .long ((vm_J old) ^^^ xs)), (10, .int (160 : Int32)), (8, .long (vm_J old)), (6, .long (0 : Int64)), (4, .long xs), (0, .ref 178), (1, .long a), (3, .int (vl_I f.z))]) (st' := [.ref 178]) rfl Kz) ?_
  refine jv_Wp.lift (fun _ Kz => jv_Ev.m jv_i394 (pc' := 198) (st' := [.int (161 : Int32)]) (G' := (jv_H K I2 L R)) rfl rfl (jv_m_getI (jv_rwK hW 178 14 31 (by decide)) rfl rfl (e178.trans hiI)) Kz) ?_
  refine jv_Wp.lift (fun _ Kz => jv_Ev.steps jv_i394 1 (pc' := 199) (l' := [(11, .long ((vm_J old) ^^^ xs)), (10, .int (160 : Int32)), (8, .long (vm_J old)), (6, .long (0 : Int64)), (4, .long xs), (0, .ref 178), (1, .long a), (3, .int (vl_I f.z))]) (st' := [.int (2 : Int32), .int (161 : Int32)]) rfl Kz) ?_
  refine jv_Wp.lift (fun _ Kz => jv_Ev.op jv_i394 (pc' := 200) (l' := [(11, .long ((vm_J old) ^^^ xs)), (10, .int (160 : Int32)), (8, .long (vm_J old)), (6, .long (0 : Int64)), (4, .long xs), (0, .ref 178), (1, .long a), (3, .int (vl_I f.z))]) (st' := [.int ((161 : Int32) - (161 : Int32) / (2 : Int32) * (2 : Int32))]) rfl (jv_op_irem (by decide)) Kz) ?_
  refine jv_Wp.lift (fun _ Kz => jv_Ev.steps jv_i394 1 (pc' := 201) (l' := [(11, .long ((vm_J old) ^^^ xs)), (10, .int (160 : Int32)), (8, .long (vm_J old)), (6, .long (0 : Int64)), (4, .long xs), (0, .ref 178), (1, .long a), (3, .int (vl_I f.z))]) (st' := [.int (1 : Int32), .int ((161 : Int32) - (161 : Int32) / (2 : Int32) * (2 : Int32))]) rfl Kz) ?_
  refine jv_Wp.cnd jv_i394 (pt := 214) (pe := 204) (p := (¬ ((161 : Int32) - (161 : Int32) / (2 : Int32) * (2 : Int32)) = (1 : Int32))) (q := (¬ ((161 : Int32) - (161 : Int32) / (2 : Int32) * (2 : Int32)) = (1 : Int32))) rfl jv_bc_ne rfl rfl Iff.rfl (fun hz => absurd hz (by decide)) (fun _ => ?_)
  refine jv_Wp.lift (fun _ Kz => jv_Ev.steps jv_i394 2 (pc' := 206) (l' := [(11, .long ((vm_J old) ^^^ xs)), (10, .int (160 : Int32)), (8, .long (vm_J old)), (6, .long (0 : Int64)), (4, .long xs), (0, .ref 178), (1, .long a), (3, .int (vl_I f.z))]) (st' := [.ref 178, .ref 178]) rfl Kz) ?_
  refine jv_Wp.lift (fun _ Kz => jv_Ev.m jv_i394 (pc' := 209) (st' := [.int (vl_I f.s), .ref 178]) (G' := (jv_H K I2 L R)) rfl rfl (jv_m_getI (jv_rwK hW 178 14 31 (by decide)) rfl rfl (s178.trans (vm_d_s D))) Kz) ?_
  refine jv_Wp.lift (fun _ Kz => jv_Ev.steps jv_i394 1 (pc' := 211) (l' := [(11, .long ((vm_J old) ^^^ xs)), (10, .int (160 : Int32)), (8, .long (vm_J old)), (6, .long (0 : Int64)), (4, .long xs), (0, .ref 178), (1, .long a), (3, .int (vl_I f.z))]) (st' := [.long (vm_J old), .int (vl_I f.s), .ref 178]) rfl Kz) ?_
  refine jv_Wp.lift (fun _ Kz => jv_Ev.c jv_i394 (pc' := 214) (S' := []) (G1 := (jv_H K (jv_u I2 221 f.s 1) (jv_u L 220 f.s (vm_J old)) R)) jv_i375 [.ref 178, .int (vl_I f.s), .long (vm_J old)] rfl rfl rfl rfl (jv_cal rfl (jv_H_at (jv_rwK hW 178 14 31 (by decide))) rfl rfl) rfl (vr_give (I := I2) (L := L) (n := n) (sl := sl) (r := f.s) hW (by omega)) rfl rfl Kz) ?_
  refine jv_Wp.of (jv_Ev.ret jv_i394 rfl rfl) ?_
  rw [hQ]
  exact ⟨_, _, rfl, vm_r_gv (r := f.s) hm, vr_gv_ff (vc_ff_le (fun _ _ z => Or.inl z) hf)⟩
theorem vr_atomic225 {K : Nat → Option (Nat × Nat)} {I : Nat → Nat → Int32} {L : Nat → Nat → Int64} {R : Nat → Nat → Value} (hW : jv_rW K R) {S T : vm_S} (hsh : vm_sh S) (h : vm_r I L S) {f : vf_F} (D : vm_D I f) (hd : f.d < 11) (hs : f.s < 11) {a y q : Int64} {old : Nat} {U : vm_S} (hi : f.i = 225) (hgs : vm_rd S f.s = some y) (hq : (if f.i = 241 then vm_rd S 0 else some 0) = some q) (hal0 : a.toInt % (f.z : Int) = 0) (hnum : vm_num 1073750016 1073758208 S a f.z = some old) (hU : vm_keep 1073750016 1073758208 S a (vm_bt (Int64.ofBitVec (vm_new f (BitVec.ofNat 64 old) y.toBitVec q.toBitVec))) f.z = some U) (hT : T = (if f.i = 241 then vm_gv U 0 (vm_J old) else if f.i % 2 = 1 then vm_gv U f.s (vm_J old) else U)) {n sl : Nat} : ∃ I1 L1, jv_Ms 394 [.ref 178, .long a, .int (vl_I f.z)] (jv_H K I L R) n sl (none, jv_H K I1 L1 R, n, sl) ∧ vm_r I1 L1 T ∧ vc_ff vr_Er I L I1 L1 := by
  obtain ⟨Q, hQ⟩ : ∃ Q : jv_R → Prop, Q = fun X => ∃ I1 L1, X = (none, jv_H K I1 L1 R, n, sl) ∧ vm_r I1 L1 T ∧ vc_ff vr_Er I L I1 L1 := ⟨_, rfl⟩
  suffices hE : jv_Wp 394 0 [(0, .ref 178), (1, .long a), (3, .int (vl_I f.z))] [] (jv_H K I L R) n sl Q by
    rw [hQ] at hE
    obtain ⟨X, hE, I1, L1, e, h'⟩ := hE
    subst e
    exact ⟨I1, L1, hE, h'⟩
  have z4 := vf_z_cases f
  have z8 : f.z ≤ 8 := by omega
  have hiI : I 178 29 = (225 : Int32) := (vm_d_i D).trans (Int32.toInt_inj.mp (by rw [vr_dQ D, hi]; decide))
  have hz0 : ¬ (vl_I f.z).toInt64 = (0 : Int64) := by rcases z4 with e | e | e | e <;> rw [e] <;> decide
  have hr0 : (a - a / (vl_I f.z).toInt64 * (vl_I f.z).toInt64) = (0 : Int64) := vm_rem0 z4 hal0
  obtain ⟨xs, exs⟩ : ∃ xs, xs = y := ⟨y, rfl⟩
  have hgs : vm_rd S f.s = some xs := exs ▸ hgs
  have hN := vr_number (n := n) (sl := sl) hW hsh h (by omega) hnum
  obtain ⟨I2, hKp, hm, hf⟩ := vr_keepM (n := n) (sl := sl) (R := R) hW z8 hsh h hU
  have e178 : I2 178 29 = I 178 29 := hf.1 178 29 (by omega)
  have s178 : I2 178 27 = I 178 27 := hf.1 178 27 (by omega)
  rw [if_neg (show ¬ f.i = 241 by omega), if_pos (show f.i % 2 = 1 by omega)] at hT
  subst hT
  refine jv_Wp.lift (fun _ Kz => jv_Ev.steps jv_i394 4 (pc' := 4) (l' := [(0, .ref 178), (1, .long a), (3, .int (vl_I f.z))]) (st' := [.long (vl_I f.z).toInt64, .long a, .ref 178]) rfl Kz) ?_
  refine jv_Wp.lift (fun _ Kz => jv_Ev.op jv_i394 (pc' := 5) (l' := [(0, .ref 178), (1, .long a), (3, .int (vl_I f.z))]) (st' := [.long (a - a / (vl_I f.z).toInt64 * (vl_I f.z).toInt64), .ref 178]) rfl (jv_op_lrem hz0) Kz) ?_
  refine jv_Wp.lift (fun _ Kz => jv_Ev.steps jv_i394 2 (pc' := 7) (l' := [(0, .ref 178), (1, .long a), (3, .int (vl_I f.z))]) (st' := [.int (lg_cmp (a - a / (vl_I f.z).toInt64 * (vl_I f.z).toInt64) (0 : Int64)), .ref 178]) rfl Kz) ?_
  refine jv_Wp.cnd jv_i394 (pt := 14) (pe := 10) (p := ((lg_cmp (a - a / (vl_I f.z).toInt64 * (vl_I f.z).toInt64) (0 : Int64)) = 0)) (q := ((a - a / (vl_I f.z).toInt64 * (vl_I f.z).toInt64) = (0 : Int64))) rfl jv_bi_eq rfl rfl (lg_cmp_eq (a - a / (vl_I f.z).toInt64 * (vl_I f.z).toInt64) (0 : Int64)) (fun _ => ?_) (fun hz => absurd hr0 hz)
  refine jv_Wp.lift (fun _ Kz => jv_Ev.steps jv_i394 1 (pc' := 15) (l' := [(0, .ref 178), (1, .long a), (3, .int (vl_I f.z))]) (st' := [.int (0 : Int32), .ref 178]) rfl Kz) ?_
  refine jv_Wp.lift (fun _ Kz => jv_Ev.c jv_i394 (pc' := 18) (S' := []) jv_i365 [.ref 178, .int (0 : Int32)] rfl rfl rfl rfl (jv_cal rfl (jv_H_at (jv_rwK hW 178 14 31 (by decide))) rfl rfl) rfl (vr_count0 (n := n) (sl := sl) hW) rfl rfl Kz) ?_
  refine jv_Wp.lift (fun _ Kz => jv_Ev.steps jv_i394 2 (pc' := 20) (l' := [(0, .ref 178), (1, .long a), (3, .int (vl_I f.z))]) (st' := [.ref 178, .ref 178]) rfl Kz) ?_
  refine jv_Wp.lift (fun _ Kz => jv_Ev.m jv_i394 (pc' := 23) (st' := [.int (vl_I f.s), .ref 178]) (G' := (jv_H K I L R)) rfl rfl (jv_m_getI (jv_rwK hW 178 14 31 (by decide)) rfl rfl (vm_d_s D)) Kz) ?_
  refine jv_Wp.lift (fun _ Kz => jv_Ev.c jv_i394 (pc' := 26) (S' := [.long xs]) jv_i374 [.ref 178, .int (vl_I f.s)] rfl rfl rfl rfl (jv_cal rfl (jv_H_at (jv_rwK hW 178 14 31 (by decide))) rfl rfl) rfl (vr_readR hW h hs hgs) rfl rfl Kz) ?_
  refine jv_Wp.lift (fun _ Kz => jv_Ev.steps jv_i394 2 (pc' := 29) (l' := [(4, .long xs), (0, .ref 178), (1, .long a), (3, .int (vl_I f.z))]) (st' := [.ref 178]) rfl Kz) ?_
  refine jv_Wp.lift (fun _ Kz => jv_Ev.m jv_i394 (pc' := 32) (st' := [.int (225 : Int32)]) (G' := (jv_H K I L R)) rfl rfl (jv_m_getI (jv_rwK hW 178 14 31 (by decide)) rfl rfl hiI) Kz) ?_
  refine jv_Wp.lift (fun _ Kz => jv_Ev.steps jv_i394 1 (pc' := 35) (l' := [(4, .long xs), (0, .ref 178), (1, .long a), (3, .int (vl_I f.z))]) (st' := [.int (241 : Int32), .int (225 : Int32)]) rfl Kz) ?_
  refine jv_Wp.lift (fun _ Kz => jv_Ev.br jv_i394 (pc' := 46) (st' := []) rfl (by rfl) Kz) ?_
  refine jv_Wp.lift (fun _ Kz => jv_Ev.steps jv_i394 5 (pc' := 52) (l' := [(6, .long (0 : Int64)), (4, .long xs), (0, .ref 178), (1, .long a), (3, .int (vl_I f.z))]) (st' := [.int (vl_I f.z), .long a, .ref 178]) rfl Kz) ?_
  refine jv_Wp.lift (fun _ Kz => jv_Ev.c jv_i394 (pc' := 55) (S' := [.long (vm_J old)]) jv_i371 [.ref 178, .long a, .int (vl_I f.z)] rfl rfl rfl rfl (jv_cal rfl (jv_H_at (jv_rwK hW 178 14 31 (by decide))) rfl rfl) rfl hN rfl rfl Kz) ?_
  refine jv_Wp.lift (fun _ Kz => jv_Ev.steps jv_i394 2 (pc' := 58) (l' := [(8, .long (vm_J old)), (6, .long (0 : Int64)), (4, .long xs), (0, .ref 178), (1, .long a), (3, .int (vl_I f.z))]) (st' := [.ref 178]) rfl Kz) ?_
  refine jv_Wp.lift (fun _ Kz => jv_Ev.m jv_i394 (pc' := 61) (st' := [.int (225 : Int32)]) (G' := (jv_H K I L R)) rfl rfl (jv_m_getI (jv_rwK hW 178 14 31 (by decide)) rfl rfl hiI) Kz) ?_
  refine jv_Wp.lift (fun _ Kz => jv_Ev.steps jv_i394 4 (pc' := 67) (l' := [(10, .int (224 : Int32)), (8, .long (vm_J old)), (6, .long (0 : Int64)), (4, .long xs), (0, .ref 178), (1, .long a), (3, .int (vl_I f.z))]) (st' := [.ref 178]) rfl Kz) ?_
  refine jv_Wp.lift (fun _ Kz => jv_Ev.m jv_i394 (pc' := 70) (st' := [.int (225 : Int32)]) (G' := (jv_H K I L R)) rfl rfl (jv_m_getI (jv_rwK hW 178 14 31 (by decide)) rfl rfl hiI) Kz) ?_
  refine jv_Wp.lift (fun _ Kz => jv_Ev.steps jv_i394 1 (pc' := 73) (l' := [(10, .int (224 : Int32)), (8, .long (vm_J old)), (6, .long (0 : Int64)), (4, .long xs), (0, .ref 178), (1, .long a), (3, .int (vl_I f.z))]) (st' := [.int (225 : Int32), .int (225 : Int32)]) rfl Kz) ?_
  refine jv_Wp.lift (fun _ Kz => jv_Ev.br jv_i394 (pc' := 76) (st' := []) rfl (by rfl) Kz) ?_
  refine jv_Wp.lift (fun _ Kz => jv_Ev.steps jv_i394 7 (pc' := 171) (l' := [(11, .long xs), (10, .int (224 : Int32)), (8, .long (vm_J old)), (6, .long (0 : Int64)), (4, .long xs), (0, .ref 178), (1, .long a), (3, .int (vl_I f.z))]) (st' := [.long xs, .int (vl_I f.z), .long a, .ref 178]) rfl Kz) ?_
  have ev : xs = Int64.ofBitVec (vm_new f (BitVec.ofNat 64 old) y.toBitVec q.toBitVec) := Int64.toBitVec_inj.mp (by rw [exs]; show _ = vm_new f (BitVec.ofNat 64 old) y.toBitVec q.toBitVec; unfold vm_new; rw [if_neg (show ¬ (f.i = 0 ∨ f.i = 1) by omega), if_neg (show ¬ (f.i = 64 ∨ f.i = 65) by omega), if_neg (show ¬ (f.i = 80 ∨ f.i = 81) by omega), if_neg (show ¬ (f.i = 160 ∨ f.i = 161) by omega), if_pos hi])
  refine jv_Wp.lift (fun _ Kz => jv_Ev.c jv_i394 (pc' := 174) (S' := []) (G1 := (jv_H K I2 L R)) jv_i372 [.ref 178, .long a, .int (vl_I f.z), .long xs] rfl rfl rfl rfl (jv_cal rfl (jv_H_at (jv_rwK hW 178 14 31 (by decide))) rfl rfl) rfl (show jv_Ms 372 [.ref 178, .long a, .int (vl_I f.z), .long xs] _ _ _ _ from by rw [ev]; exact hKp) rfl rfl Kz) ?_
  refine jv_Wp.lift (fun _ Kz => jv_Ev.steps jv_i394 1 (pc' := 175) (l' := [(11, .long xs), (10, .int (224 : Int32)), (8, .long (vm_J old)), (6, .long (0 : Int64)), (4, .long xs), (0, .ref 178), (1, .long a), (3, .int (vl_I f.z))]) (st' := [.ref 178]) rfl Kz) ?_
  refine jv_Wp.lift (fun _ Kz => jv_Ev.m jv_i394 (pc' := 178) (st' := [.int (225 : Int32)]) (G' := (jv_H K I2 L R)) rfl rfl (jv_m_getI (jv_rwK hW 178 14 31 (by decide)) rfl rfl (e178.trans hiI)) Kz) ?_
  refine jv_Wp.lift (fun _ Kz => jv_Ev.steps jv_i394 1 (pc' := 181) (l' := [(11, .long xs), (10, .int (224 : Int32)), (8, .long (vm_J old)), (6, .long (0 : Int64)), (4, .long xs), (0, .ref 178), (1, .long a), (3, .int (vl_I f.z))]) (st' := [.int (241 : Int32), .int (225 : Int32)]) rfl Kz) ?_
  refine jv_Wp.lift (fun _ Kz => jv_Ev.br jv_i394 (pc' := 194) (st' := []) rfl (by rfl) Kz) ?_
  refine jv_Wp.lift (fun _ Kz => jv_Ev.steps jv_i394 1 (pc' := 195) (l' := [(11, .long xs), (10, .int (224 : Int32)), (8, .long (vm_J old)), (6, .long (0 : Int64)), (4, .long xs), (0, .ref 178), (1, .long a), (3, .int (vl_I f.z))]) (st' := [.ref 178]) rfl Kz) ?_
  refine jv_Wp.lift (fun _ Kz => jv_Ev.m jv_i394 (pc' := 198) (st' := [.int (225 : Int32)]) (G' := (jv_H K I2 L R)) rfl rfl (jv_m_getI (jv_rwK hW 178 14 31 (by decide)) rfl rfl (e178.trans hiI)) Kz) ?_
  refine jv_Wp.lift (fun _ Kz => jv_Ev.steps jv_i394 1 (pc' := 199) (l' := [(11, .long xs), (10, .int (224 : Int32)), (8, .long (vm_J old)), (6, .long (0 : Int64)), (4, .long xs), (0, .ref 178), (1, .long a), (3, .int (vl_I f.z))]) (st' := [.int (2 : Int32), .int (225 : Int32)]) rfl Kz) ?_
  refine jv_Wp.lift (fun _ Kz => jv_Ev.op jv_i394 (pc' := 200) (l' := [(11, .long xs), (10, .int (224 : Int32)), (8, .long (vm_J old)), (6, .long (0 : Int64)), (4, .long xs), (0, .ref 178), (1, .long a), (3, .int (vl_I f.z))]) (st' := [.int ((225 : Int32) - (225 : Int32) / (2 : Int32) * (2 : Int32))]) rfl (jv_op_irem (by decide)) Kz) ?_
  refine jv_Wp.lift (fun _ Kz => jv_Ev.steps jv_i394 1 (pc' := 201) (l' := [(11, .long xs), (10, .int (224 : Int32)), (8, .long (vm_J old)), (6, .long (0 : Int64)), (4, .long xs), (0, .ref 178), (1, .long a), (3, .int (vl_I f.z))]) (st' := [.int (1 : Int32), .int ((225 : Int32) - (225 : Int32) / (2 : Int32) * (2 : Int32))]) rfl Kz) ?_
  refine jv_Wp.cnd jv_i394 (pt := 214) (pe := 204) (p := (¬ ((225 : Int32) - (225 : Int32) / (2 : Int32) * (2 : Int32)) = (1 : Int32))) (q := (¬ ((225 : Int32) - (225 : Int32) / (2 : Int32) * (2 : Int32)) = (1 : Int32))) rfl jv_bc_ne rfl rfl Iff.rfl (fun hz => absurd hz (by decide)) (fun _ => ?_)
  refine jv_Wp.lift (fun _ Kz => jv_Ev.steps jv_i394 2 (pc' := 206) (l' := [(11, .long xs), (10, .int (224 : Int32)), (8, .long (vm_J old)), (6, .long (0 : Int64)), (4, .long xs), (0, .ref 178), (1, .long a), (3, .int (vl_I f.z))]) (st' := [.ref 178, .ref 178]) rfl Kz) ?_
  refine jv_Wp.lift (fun _ Kz => jv_Ev.m jv_i394 (pc' := 209) (st' := [.int (vl_I f.s), .ref 178]) (G' := (jv_H K I2 L R)) rfl rfl (jv_m_getI (jv_rwK hW 178 14 31 (by decide)) rfl rfl (s178.trans (vm_d_s D))) Kz) ?_
  refine jv_Wp.lift (fun _ Kz => jv_Ev.steps jv_i394 1 (pc' := 211) (l' := [(11, .long xs), (10, .int (224 : Int32)), (8, .long (vm_J old)), (6, .long (0 : Int64)), (4, .long xs), (0, .ref 178), (1, .long a), (3, .int (vl_I f.z))]) (st' := [.long (vm_J old), .int (vl_I f.s), .ref 178]) rfl Kz) ?_
  refine jv_Wp.lift (fun _ Kz => jv_Ev.c jv_i394 (pc' := 214) (S' := []) (G1 := (jv_H K (jv_u I2 221 f.s 1) (jv_u L 220 f.s (vm_J old)) R)) jv_i375 [.ref 178, .int (vl_I f.s), .long (vm_J old)] rfl rfl rfl rfl (jv_cal rfl (jv_H_at (jv_rwK hW 178 14 31 (by decide))) rfl rfl) rfl (vr_give (I := I2) (L := L) (n := n) (sl := sl) (r := f.s) hW (by omega)) rfl rfl Kz) ?_
  refine jv_Wp.of (jv_Ev.ret jv_i394 rfl rfl) ?_
  rw [hQ]
  exact ⟨_, _, rfl, vm_r_gv (r := f.s) hm, vr_gv_ff (vc_ff_le (fun _ _ z => Or.inl z) hf)⟩
theorem vr_atomic241 {K : Nat → Option (Nat × Nat)} {I : Nat → Nat → Int32} {L : Nat → Nat → Int64} {R : Nat → Nat → Value} (hW : jv_rW K R) {S T : vm_S} (hsh : vm_sh S) (h : vm_r I L S) {f : vf_F} (D : vm_D I f) (hd : f.d < 11) (hs : f.s < 11) {a y q : Int64} {old : Nat} {U : vm_S} (hi : f.i = 241) (hgs : vm_rd S f.s = some y) (hq : (if f.i = 241 then vm_rd S 0 else some 0) = some q) (hal0 : a.toInt % (f.z : Int) = 0) (hnum : vm_num 1073750016 1073758208 S a f.z = some old) (hU : vm_keep 1073750016 1073758208 S a (vm_bt (Int64.ofBitVec (vm_new f (BitVec.ofNat 64 old) y.toBitVec q.toBitVec))) f.z = some U) (hT : T = (if f.i = 241 then vm_gv U 0 (vm_J old) else if f.i % 2 = 1 then vm_gv U f.s (vm_J old) else U)) {n sl : Nat} : ∃ I1 L1, jv_Ms 394 [.ref 178, .long a, .int (vl_I f.z)] (jv_H K I L R) n sl (none, jv_H K I1 L1 R, n, sl) ∧ vm_r I1 L1 T ∧ vc_ff vr_Er I L I1 L1 := by
  obtain ⟨Q, hQ⟩ : ∃ Q : jv_R → Prop, Q = fun X => ∃ I1 L1, X = (none, jv_H K I1 L1 R, n, sl) ∧ vm_r I1 L1 T ∧ vc_ff vr_Er I L I1 L1 := ⟨_, rfl⟩
  suffices hE : jv_Wp 394 0 [(0, .ref 178), (1, .long a), (3, .int (vl_I f.z))] [] (jv_H K I L R) n sl Q by
    rw [hQ] at hE
    obtain ⟨X, hE, I1, L1, e, h'⟩ := hE
    subst e
    exact ⟨I1, L1, hE, h'⟩
  have z4 := vf_z_cases f
  have z8 : f.z ≤ 8 := by omega
  have hiI : I 178 29 = (241 : Int32) := (vm_d_i D).trans (Int32.toInt_inj.mp (by rw [vr_dQ D, hi]; decide))
  have hz0 : ¬ (vl_I f.z).toInt64 = (0 : Int64) := by rcases z4 with e | e | e | e <;> rw [e] <;> decide
  have hr0 : (a - a / (vl_I f.z).toInt64 * (vl_I f.z).toInt64) = (0 : Int64) := vm_rem0 z4 hal0
  obtain ⟨xs, exs⟩ : ∃ xs, xs = y := ⟨y, rfl⟩
  have hgs : vm_rd S f.s = some xs := exs ▸ hgs
  have hN := vr_number (n := n) (sl := sl) hW hsh h (by omega) hnum
  obtain ⟨I2, hKp, hm, hf⟩ := vr_keepM (n := n) (sl := sl) (R := R) hW z8 hsh h hU
  have e178 : I2 178 29 = I 178 29 := hf.1 178 29 (by omega)
  have s178 : I2 178 27 = I 178 27 := hf.1 178 27 (by omega)
  rw [if_pos hi] at hq hT
  obtain ⟨x0, exq⟩ : ∃ x0, x0 = q := ⟨q, rfl⟩
  have hg0 : vm_rd S 0 = some x0 := exq ▸ hq
  have hL : jv_Ms 381 [.long x0, .int ((8 : Int32) * (vl_I f.z))] (jv_H K I L R) n sl (some (.long (Int64.ofBitVec (x0.toBitVec &&& vb_lowest (8 * f.z)))), jv_H K I L R, n, sl) := by
    rcases z4 with e | e | e | e <;> rw [e]
    · exact vr_low8
    · exact vr_low16
    · exact vr_low32
    · exact vr_low64
  subst hT
  refine jv_Wp.lift (fun _ Kz => jv_Ev.steps jv_i394 4 (pc' := 4) (l' := [(0, .ref 178), (1, .long a), (3, .int (vl_I f.z))]) (st' := [.long (vl_I f.z).toInt64, .long a, .ref 178]) rfl Kz) ?_
  refine jv_Wp.lift (fun _ Kz => jv_Ev.op jv_i394 (pc' := 5) (l' := [(0, .ref 178), (1, .long a), (3, .int (vl_I f.z))]) (st' := [.long (a - a / (vl_I f.z).toInt64 * (vl_I f.z).toInt64), .ref 178]) rfl (jv_op_lrem hz0) Kz) ?_
  refine jv_Wp.lift (fun _ Kz => jv_Ev.steps jv_i394 2 (pc' := 7) (l' := [(0, .ref 178), (1, .long a), (3, .int (vl_I f.z))]) (st' := [.int (lg_cmp (a - a / (vl_I f.z).toInt64 * (vl_I f.z).toInt64) (0 : Int64)), .ref 178]) rfl Kz) ?_
  refine jv_Wp.cnd jv_i394 (pt := 14) (pe := 10) (p := ((lg_cmp (a - a / (vl_I f.z).toInt64 * (vl_I f.z).toInt64) (0 : Int64)) = 0)) (q := ((a - a / (vl_I f.z).toInt64 * (vl_I f.z).toInt64) = (0 : Int64))) rfl jv_bi_eq rfl rfl (lg_cmp_eq (a - a / (vl_I f.z).toInt64 * (vl_I f.z).toInt64) (0 : Int64)) (fun _ => ?_) (fun hz => absurd hr0 hz)
  refine jv_Wp.lift (fun _ Kz => jv_Ev.steps jv_i394 1 (pc' := 15) (l' := [(0, .ref 178), (1, .long a), (3, .int (vl_I f.z))]) (st' := [.int (0 : Int32), .ref 178]) rfl Kz) ?_
  refine jv_Wp.lift (fun _ Kz => jv_Ev.c jv_i394 (pc' := 18) (S' := []) jv_i365 [.ref 178, .int (0 : Int32)] rfl rfl rfl rfl (jv_cal rfl (jv_H_at (jv_rwK hW 178 14 31 (by decide))) rfl rfl) rfl (vr_count0 (n := n) (sl := sl) hW) rfl rfl Kz) ?_
  refine jv_Wp.lift (fun _ Kz => jv_Ev.steps jv_i394 2 (pc' := 20) (l' := [(0, .ref 178), (1, .long a), (3, .int (vl_I f.z))]) (st' := [.ref 178, .ref 178]) rfl Kz) ?_
  refine jv_Wp.lift (fun _ Kz => jv_Ev.m jv_i394 (pc' := 23) (st' := [.int (vl_I f.s), .ref 178]) (G' := (jv_H K I L R)) rfl rfl (jv_m_getI (jv_rwK hW 178 14 31 (by decide)) rfl rfl (vm_d_s D)) Kz) ?_
  refine jv_Wp.lift (fun _ Kz => jv_Ev.c jv_i394 (pc' := 26) (S' := [.long xs]) jv_i374 [.ref 178, .int (vl_I f.s)] rfl rfl rfl rfl (jv_cal rfl (jv_H_at (jv_rwK hW 178 14 31 (by decide))) rfl rfl) rfl (vr_readR hW h hs hgs) rfl rfl Kz) ?_
  refine jv_Wp.lift (fun _ Kz => jv_Ev.steps jv_i394 2 (pc' := 29) (l' := [(4, .long xs), (0, .ref 178), (1, .long a), (3, .int (vl_I f.z))]) (st' := [.ref 178]) rfl Kz) ?_
  refine jv_Wp.lift (fun _ Kz => jv_Ev.m jv_i394 (pc' := 32) (st' := [.int (241 : Int32)]) (G' := (jv_H K I L R)) rfl rfl (jv_m_getI (jv_rwK hW 178 14 31 (by decide)) rfl rfl hiI) Kz) ?_
  refine jv_Wp.lift (fun _ Kz => jv_Ev.steps jv_i394 1 (pc' := 35) (l' := [(4, .long xs), (0, .ref 178), (1, .long a), (3, .int (vl_I f.z))]) (st' := [.int (241 : Int32), .int (241 : Int32)]) rfl Kz) ?_
  refine jv_Wp.lift (fun _ Kz => jv_Ev.br jv_i394 (pc' := 38) (st' := []) rfl (by rfl) Kz) ?_
  refine jv_Wp.lift (fun _ Kz => jv_Ev.steps jv_i394 2 (pc' := 40) (l' := [(4, .long xs), (0, .ref 178), (1, .long a), (3, .int (vl_I f.z))]) (st' := [.int (0 : Int32), .ref 178]) rfl Kz) ?_
  refine jv_Wp.lift (fun _ Kz => jv_Ev.c jv_i394 (pc' := 43) (S' := [.long x0]) jv_i374 [.ref 178, .int (0 : Int32)] rfl rfl rfl rfl (jv_cal rfl (jv_H_at (jv_rwK hW 178 14 31 (by decide))) rfl rfl) rfl (vr_readR hW h (r := 0) (by decide) hg0) rfl rfl Kz) ?_
  refine jv_Wp.lift (fun _ Kz => jv_Ev.steps jv_i394 5 (pc' := 52) (l' := [(6, .long x0), (4, .long xs), (0, .ref 178), (1, .long a), (3, .int (vl_I f.z))]) (st' := [.int (vl_I f.z), .long a, .ref 178]) rfl Kz) ?_
  refine jv_Wp.lift (fun _ Kz => jv_Ev.c jv_i394 (pc' := 55) (S' := [.long (vm_J old)]) jv_i371 [.ref 178, .long a, .int (vl_I f.z)] rfl rfl rfl rfl (jv_cal rfl (jv_H_at (jv_rwK hW 178 14 31 (by decide))) rfl rfl) rfl hN rfl rfl Kz) ?_
  refine jv_Wp.lift (fun _ Kz => jv_Ev.steps jv_i394 2 (pc' := 58) (l' := [(8, .long (vm_J old)), (6, .long x0), (4, .long xs), (0, .ref 178), (1, .long a), (3, .int (vl_I f.z))]) (st' := [.ref 178]) rfl Kz) ?_
  refine jv_Wp.lift (fun _ Kz => jv_Ev.m jv_i394 (pc' := 61) (st' := [.int (241 : Int32)]) (G' := (jv_H K I L R)) rfl rfl (jv_m_getI (jv_rwK hW 178 14 31 (by decide)) rfl rfl hiI) Kz) ?_
  refine jv_Wp.lift (fun _ Kz => jv_Ev.steps jv_i394 4 (pc' := 67) (l' := [(10, .int (240 : Int32)), (8, .long (vm_J old)), (6, .long x0), (4, .long xs), (0, .ref 178), (1, .long a), (3, .int (vl_I f.z))]) (st' := [.ref 178]) rfl Kz) ?_
  refine jv_Wp.lift (fun _ Kz => jv_Ev.m jv_i394 (pc' := 70) (st' := [.int (241 : Int32)]) (G' := (jv_H K I L R)) rfl rfl (jv_m_getI (jv_rwK hW 178 14 31 (by decide)) rfl rfl hiI) Kz) ?_
  refine jv_Wp.lift (fun _ Kz => jv_Ev.steps jv_i394 1 (pc' := 73) (l' := [(10, .int (240 : Int32)), (8, .long (vm_J old)), (6, .long x0), (4, .long xs), (0, .ref 178), (1, .long a), (3, .int (vl_I f.z))]) (st' := [.int (225 : Int32), .int (241 : Int32)]) rfl Kz) ?_
  refine jv_Wp.lift (fun _ Kz => jv_Ev.br jv_i394 (pc' := 81) (st' := []) rfl (by rfl) Kz) ?_
  refine jv_Wp.lift (fun _ Kz => jv_Ev.steps jv_i394 1 (pc' := 82) (l' := [(10, .int (240 : Int32)), (8, .long (vm_J old)), (6, .long x0), (4, .long xs), (0, .ref 178), (1, .long a), (3, .int (vl_I f.z))]) (st' := [.ref 178]) rfl Kz) ?_
  refine jv_Wp.lift (fun _ Kz => jv_Ev.m jv_i394 (pc' := 85) (st' := [.int (241 : Int32)]) (G' := (jv_H K I L R)) rfl rfl (jv_m_getI (jv_rwK hW 178 14 31 (by decide)) rfl rfl hiI) Kz) ?_
  refine jv_Wp.lift (fun _ Kz => jv_Ev.steps jv_i394 1 (pc' := 88) (l' := [(10, .int (240 : Int32)), (8, .long (vm_J old)), (6, .long x0), (4, .long xs), (0, .ref 178), (1, .long a), (3, .int (vl_I f.z))]) (st' := [.int (241 : Int32), .int (241 : Int32)]) rfl Kz) ?_
  refine jv_Wp.lift (fun _ Kz => jv_Ev.br jv_i394 (pc' := 91) (st' := []) rfl (by rfl) Kz) ?_
  refine jv_Wp.lift (fun _ Kz => jv_Ev.steps jv_i394 5 (pc' := 99) (l' := [(10, .int (240 : Int32)), (8, .long (vm_J old)), (6, .long x0), (4, .long xs), (0, .ref 178), (1, .long a), (3, .int (vl_I f.z))]) (st' := [.int ((8 : Int32) * (vl_I f.z)), .long x0, .long (vm_J old)]) rfl Kz) ?_
  refine jv_Wp.lift (fun _ Kz => jv_Ev.c jv_i394 (pc' := 102) (S' := [.long (Int64.ofBitVec (x0.toBitVec &&& vb_lowest (8 * f.z))), .long (vm_J old)]) jv_i381 [.long x0, .int ((8 : Int32) * (vl_I f.z))] rfl rfl rfl rfl rfl rfl hL rfl rfl Kz) ?_
  refine jv_Wp.lift (fun _ Kz => jv_Ev.steps jv_i394 1 (pc' := 103) (l' := [(10, .int (240 : Int32)), (8, .long (vm_J old)), (6, .long x0), (4, .long xs), (0, .ref 178), (1, .long a), (3, .int (vl_I f.z))]) (st' := [.int (lg_cmp (vm_J old) (Int64.ofBitVec (x0.toBitVec &&& vb_lowest (8 * f.z))))]) rfl Kz) ?_
  refine jv_Wp.cnd jv_i394 (pt := 111) (pe := 106) (p := (¬ (lg_cmp (vm_J old) (Int64.ofBitVec (x0.toBitVec &&& vb_lowest (8 * f.z)))) = 0)) (q := (¬ (vm_J old) = (Int64.ofBitVec (x0.toBitVec &&& vb_lowest (8 * f.z))))) rfl jv_bi_ne rfl rfl (not_congr (lg_cmp_eq (vm_J old) (Int64.ofBitVec (x0.toBitVec &&& vb_lowest (8 * f.z))))) (fun h1 => ?_) (fun h1 => ?_)
  · refine jv_Wp.lift (fun _ Kz => jv_Ev.steps jv_i394 7 (pc' := 171) (l' := [(11, .long (vm_J old)), (10, .int (240 : Int32)), (8, .long (vm_J old)), (6, .long x0), (4, .long xs), (0, .ref 178), (1, .long a), (3, .int (vl_I f.z))]) (st' := [.long (vm_J old), .int (vl_I f.z), .long a, .ref 178]) rfl Kz) ?_
    have ev : (vm_J old) = Int64.ofBitVec (vm_new f (BitVec.ofNat 64 old) y.toBitVec q.toBitVec) := Int64.toBitVec_inj.mp (by show _ = vm_new f (BitVec.ofNat 64 old) y.toBitVec q.toBitVec; unfold vm_new; rw [if_neg (show ¬ (f.i = 0 ∨ f.i = 1) by omega), if_neg (show ¬ (f.i = 64 ∨ f.i = 65) by omega), if_neg (show ¬ (f.i = 80 ∨ f.i = 81) by omega), if_neg (show ¬ (f.i = 160 ∨ f.i = 161) by omega), if_neg (show ¬ f.i = 225 by omega), if_neg (show ¬ BitVec.ofNat 64 old = q.toBitVec &&& vb_lowest (8 * f.z) from fun z => h1 (Int64.toBitVec_inj.mp (by rw [exq]; exact z)))]; rfl)
    refine jv_Wp.lift (fun _ Kz => jv_Ev.c jv_i394 (pc' := 174) (S' := []) (G1 := (jv_H K I2 L R)) jv_i372 [.ref 178, .long a, .int (vl_I f.z), .long (vm_J old)] rfl rfl rfl rfl (jv_cal rfl (jv_H_at (jv_rwK hW 178 14 31 (by decide))) rfl rfl) rfl (show jv_Ms 372 [.ref 178, .long a, .int (vl_I f.z), .long (vm_J old)] _ _ _ _ from by rw [ev]; exact hKp) rfl rfl Kz) ?_
    refine jv_Wp.lift (fun _ Kz => jv_Ev.steps jv_i394 1 (pc' := 175) (l' := [(11, .long (vm_J old)), (10, .int (240 : Int32)), (8, .long (vm_J old)), (6, .long x0), (4, .long xs), (0, .ref 178), (1, .long a), (3, .int (vl_I f.z))]) (st' := [.ref 178]) rfl Kz) ?_
    refine jv_Wp.lift (fun _ Kz => jv_Ev.m jv_i394 (pc' := 178) (st' := [.int (241 : Int32)]) (G' := (jv_H K I2 L R)) rfl rfl (jv_m_getI (jv_rwK hW 178 14 31 (by decide)) rfl rfl (e178.trans hiI)) Kz) ?_
    refine jv_Wp.lift (fun _ Kz => jv_Ev.steps jv_i394 1 (pc' := 181) (l' := [(11, .long (vm_J old)), (10, .int (240 : Int32)), (8, .long (vm_J old)), (6, .long x0), (4, .long xs), (0, .ref 178), (1, .long a), (3, .int (vl_I f.z))]) (st' := [.int (241 : Int32), .int (241 : Int32)]) rfl Kz) ?_
    refine jv_Wp.lift (fun _ Kz => jv_Ev.br jv_i394 (pc' := 184) (st' := []) rfl (by rfl) Kz) ?_
    refine jv_Wp.lift (fun _ Kz => jv_Ev.steps jv_i394 3 (pc' := 188) (l' := [(11, .long (vm_J old)), (10, .int (240 : Int32)), (8, .long (vm_J old)), (6, .long x0), (4, .long xs), (0, .ref 178), (1, .long a), (3, .int (vl_I f.z))]) (st' := [.long (vm_J old), .int (0 : Int32), .ref 178]) rfl Kz) ?_
    refine jv_Wp.lift (fun _ Kz => jv_Ev.c jv_i394 (pc' := 191) (S' := []) (G1 := (jv_H K (jv_u I2 221 0 1) (jv_u L 220 0 (vm_J old)) R)) jv_i375 [.ref 178, .int (0 : Int32), .long (vm_J old)] rfl rfl rfl rfl (jv_cal rfl (jv_H_at (jv_rwK hW 178 14 31 (by decide))) rfl rfl) rfl (vr_give (I := I2) (L := L) (n := n) (sl := sl) (r := 0) hW (by omega)) rfl rfl Kz) ?_
    refine jv_Wp.lift (fun _ Kz => jv_Ev.steps jv_i394 1 (pc' := 214) (l' := [(11, .long (vm_J old)), (10, .int (240 : Int32)), (8, .long (vm_J old)), (6, .long x0), (4, .long xs), (0, .ref 178), (1, .long a), (3, .int (vl_I f.z))]) (st' := []) rfl Kz) ?_
    refine jv_Wp.of (jv_Ev.ret jv_i394 rfl rfl) ?_
    rw [hQ]
    exact ⟨_, _, rfl, vm_r_gv (r := 0) hm, vr_gv_ff (vc_ff_le (fun _ _ z => Or.inl z) hf)⟩
  · refine jv_Wp.lift (fun _ Kz => jv_Ev.steps jv_i394 7 (pc' := 171) (l' := [(11, .long xs), (10, .int (240 : Int32)), (8, .long (vm_J old)), (6, .long x0), (4, .long xs), (0, .ref 178), (1, .long a), (3, .int (vl_I f.z))]) (st' := [.long xs, .int (vl_I f.z), .long a, .ref 178]) rfl Kz) ?_
    have ev : xs = Int64.ofBitVec (vm_new f (BitVec.ofNat 64 old) y.toBitVec q.toBitVec) := Int64.toBitVec_inj.mp (by rw [exs]; show _ = vm_new f (BitVec.ofNat 64 old) y.toBitVec q.toBitVec; unfold vm_new; rw [if_neg (show ¬ (f.i = 0 ∨ f.i = 1) by omega), if_neg (show ¬ (f.i = 64 ∨ f.i = 65) by omega), if_neg (show ¬ (f.i = 80 ∨ f.i = 81) by omega), if_neg (show ¬ (f.i = 160 ∨ f.i = 161) by omega), if_neg (show ¬ f.i = 225 by omega), if_pos (show BitVec.ofNat 64 old = q.toBitVec &&& vb_lowest (8 * f.z) from by rw [← exq]; exact congrArg Int64.toBitVec (Classical.not_not.mp h1))])
    refine jv_Wp.lift (fun _ Kz => jv_Ev.c jv_i394 (pc' := 174) (S' := []) (G1 := (jv_H K I2 L R)) jv_i372 [.ref 178, .long a, .int (vl_I f.z), .long xs] rfl rfl rfl rfl (jv_cal rfl (jv_H_at (jv_rwK hW 178 14 31 (by decide))) rfl rfl) rfl (show jv_Ms 372 [.ref 178, .long a, .int (vl_I f.z), .long xs] _ _ _ _ from by rw [ev]; exact hKp) rfl rfl Kz) ?_
    refine jv_Wp.lift (fun _ Kz => jv_Ev.steps jv_i394 1 (pc' := 175) (l' := [(11, .long xs), (10, .int (240 : Int32)), (8, .long (vm_J old)), (6, .long x0), (4, .long xs), (0, .ref 178), (1, .long a), (3, .int (vl_I f.z))]) (st' := [.ref 178]) rfl Kz) ?_
    refine jv_Wp.lift (fun _ Kz => jv_Ev.m jv_i394 (pc' := 178) (st' := [.int (241 : Int32)]) (G' := (jv_H K I2 L R)) rfl rfl (jv_m_getI (jv_rwK hW 178 14 31 (by decide)) rfl rfl (e178.trans hiI)) Kz) ?_
    refine jv_Wp.lift (fun _ Kz => jv_Ev.steps jv_i394 1 (pc' := 181) (l' := [(11, .long xs), (10, .int (240 : Int32)), (8, .long (vm_J old)), (6, .long x0), (4, .long xs), (0, .ref 178), (1, .long a), (3, .int (vl_I f.z))]) (st' := [.int (241 : Int32), .int (241 : Int32)]) rfl Kz) ?_
    refine jv_Wp.lift (fun _ Kz => jv_Ev.br jv_i394 (pc' := 184) (st' := []) rfl (by rfl) Kz) ?_
    refine jv_Wp.lift (fun _ Kz => jv_Ev.steps jv_i394 3 (pc' := 188) (l' := [(11, .long xs), (10, .int (240 : Int32)), (8, .long (vm_J old)), (6, .long x0), (4, .long xs), (0, .ref 178), (1, .long a), (3, .int (vl_I f.z))]) (st' := [.long (vm_J old), .int (0 : Int32), .ref 178]) rfl Kz) ?_
    refine jv_Wp.lift (fun _ Kz => jv_Ev.c jv_i394 (pc' := 191) (S' := []) (G1 := (jv_H K (jv_u I2 221 0 1) (jv_u L 220 0 (vm_J old)) R)) jv_i375 [.ref 178, .int (0 : Int32), .long (vm_J old)] rfl rfl rfl rfl (jv_cal rfl (jv_H_at (jv_rwK hW 178 14 31 (by decide))) rfl rfl) rfl (vr_give (I := I2) (L := L) (n := n) (sl := sl) (r := 0) hW (by omega)) rfl rfl Kz) ?_
    refine jv_Wp.lift (fun _ Kz => jv_Ev.steps jv_i394 1 (pc' := 214) (l' := [(11, .long xs), (10, .int (240 : Int32)), (8, .long (vm_J old)), (6, .long x0), (4, .long xs), (0, .ref 178), (1, .long a), (3, .int (vl_I f.z))]) (st' := []) rfl Kz) ?_
    refine jv_Wp.of (jv_Ev.ret jv_i394 rfl rfl) ?_
    rw [hQ]
    exact ⟨_, _, rfl, vm_r_gv (r := 0) hm, vr_gv_ff (vc_ff_le (fun _ _ z => Or.inl z) hf)⟩
theorem vr_access3A {K : Nat → Option (Nat × Nat)} {I : Nat → Nat → Int32} {L : Nat → Nat → Int64} {R : Nat → Nat → Value} (hW : jv_rW K R) {S T : vm_S} (hsh : vm_sh S) (h : vm_r I L S) {f : vf_F} (D : vm_D I f) (hd : f.d < 11) (hs : f.s < 11) (hk : f.kind = 3) (hmo : f.mode = 6) (hi : f.i = 0 ∨ f.i = 1 ∨ f.i = 64 ∨ f.i = 65 ∨ f.i = 80 ∨ f.i = 81 ∨ f.i = 160 ∨ f.i = 161 ∨ f.i = 225 ∨ f.i = 241) (hl : vm_atomic 1073750016 1073758208 f S = some T) {n sl : Nat} : ∃ I1 L1, jv_Ms 395 [.ref 178] (jv_H K I L R) n sl (none, jv_H K I1 L1 R, n, sl) ∧ vm_r I1 L1 T ∧ vc_ff vr_Er I L I1 L1 := by
  obtain ⟨Q, hQ⟩ : ∃ Q : jv_R → Prop, Q = fun X => ∃ I1 L1, X = (none, jv_H K I1 L1 R, n, sl) ∧ vm_r I1 L1 T ∧ vc_ff vr_Er I L I1 L1 := ⟨_, rfl⟩
  suffices hE : jv_Wp 395 0 [(0, .ref 178)] [] (jv_H K I L R) n sl Q by
    rw [hQ] at hE
    obtain ⟨X, hE, I1, L1, e, h'⟩ := hE
    subst e
    exact ⟨I1, L1, hE, h'⟩
  obtain ⟨xd, y, q, old, U, hgd, hgs, hq, hal0, hnum, hU, hT⟩ := vm_atomic_dec hl
  have hA0 : ∃ I1 L1, jv_Ms 394 [.ref 178, .long (xd + vm_i f.o), .int (vl_I f.z)] (jv_H K I L R) n sl (none, jv_H K I1 L1 R, n, sl) ∧ vm_r I1 L1 T ∧ vc_ff vr_Er I L I1 L1 := by
    rcases hi with hi | hi | hi | hi | hi | hi | hi | hi | hi | hi
    · exact vr_atomic0 hW hsh h D hd hs hi hgs hq hal0 hnum hU hT
    · exact vr_atomic1 hW hsh h D hd hs hi hgs hq hal0 hnum hU hT
    · exact vr_atomic64 hW hsh h D hd hs hi hgs hq hal0 hnum hU hT
    · exact vr_atomic65 hW hsh h D hd hs hi hgs hq hal0 hnum hU hT
    · exact vr_atomic80 hW hsh h D hd hs hi hgs hq hal0 hnum hU hT
    · exact vr_atomic81 hW hsh h D hd hs hi hgs hq hal0 hnum hU hT
    · exact vr_atomic160 hW hsh h D hd hs hi hgs hq hal0 hnum hU hT
    · exact vr_atomic161 hW hsh h D hd hs hi hgs hq hal0 hnum hU hT
    · exact vr_atomic225 hW hsh h D hd hs hi hgs hq hal0 hnum hU hT
    · exact vr_atomic241 hW hsh h D hd hs hi hgs hq hal0 hnum hU hT
  obtain ⟨I2, L2, hA, hm, hf⟩ := hA0
  rw [← vm_io (vr_dO D)] at hA
  refine jv_Wp.lift (fun _ Kz => jv_Ev.steps jv_i395 1 (pc' := 1) (l' := [(0, .ref 178)]) (st' := [.ref 178]) rfl Kz) ?_
  refine jv_Wp.lift (fun _ Kz => jv_Ev.c jv_i395 (pc' := 4) (S' := [.int (vl_I f.z)]) jv_i388 [.ref 178] rfl rfl rfl rfl (jv_cal rfl (jv_H_at (jv_rwK hW 178 14 31 (by decide))) rfl rfl) rfl (vr_mbytes hW D) rfl rfl Kz) ?_
  refine jv_Wp.lift (fun _ Kz => jv_Ev.steps jv_i395 3 (pc' := 7) (l' := [(1, .int (vl_I f.z)), (0, .ref 178)]) (st' := [.ref 178, .ref 178]) rfl Kz) ?_
  refine jv_Wp.lift (fun _ Kz => jv_Ev.c jv_i395 (pc' := 10) (S' := [.int (3 : Int32), .ref 178]) jv_i385 [.ref 178] rfl rfl rfl rfl (jv_cal rfl (jv_H_at (jv_rwK hW 178 14 31 (by decide))) rfl rfl) rfl (by have z := vr_mkind (L := L) (n := n) (sl := sl) hW D; rw [hk] at z; exact z) rfl rfl Kz) ?_
  refine jv_Wp.lift (fun _ Kz => jv_Ev.steps jv_i395 1 (pc' := 11) (l' := [(1, .int (vl_I f.z)), (0, .ref 178)]) (st' := [.int (1 : Int32), .int (3 : Int32), .ref 178]) rfl Kz) ?_
  refine jv_Wp.lift (fun _ Kz => jv_Ev.br jv_i395 (pc' := 21) (st' := [.ref 178]) rfl (by rfl) Kz) ?_
  refine jv_Wp.lift (fun _ Kz => jv_Ev.steps jv_i395 1 (pc' := 22) (l' := [(1, .int (vl_I f.z)), (0, .ref 178)]) (st' := [.ref 178, .ref 178]) rfl Kz) ?_
  refine jv_Wp.lift (fun _ Kz => jv_Ev.m jv_i395 (pc' := 25) (st' := [.int (vl_I f.d), .ref 178]) (G' := (jv_H K I L R)) rfl rfl (jv_m_getI (jv_rwK hW 178 14 31 (by decide)) rfl rfl (vm_d_d D)) Kz) ?_
  refine jv_Wp.lift (fun _ Kz => jv_Ev.c jv_i395 (pc' := 28) (S' := [.long xd]) jv_i374 [.ref 178, .int (vl_I f.d)] rfl rfl rfl rfl (jv_cal rfl (jv_H_at (jv_rwK hW 178 14 31 (by decide))) rfl rfl) rfl (vr_readR hW h hd hgd) rfl rfl Kz) ?_
  refine jv_Wp.lift (fun _ Kz => jv_Ev.steps jv_i395 1 (pc' := 29) (l' := [(1, .int (vl_I f.z)), (0, .ref 178)]) (st' := [.ref 178, .long xd]) rfl Kz) ?_
  refine jv_Wp.lift (fun _ Kz => jv_Ev.m jv_i395 (pc' := 32) (st' := [.int (Int32.ofInt f.o), .long xd]) (G' := (jv_H K I L R)) rfl rfl (jv_m_getI (jv_rwK hW 178 14 31 (by decide)) rfl rfl (vm_d_o D)) Kz) ?_
  refine jv_Wp.lift (fun _ Kz => jv_Ev.steps jv_i395 4 (pc' := 36) (l' := [(2, .long (xd + (Int32.ofInt f.o).toInt64)), (1, .int (vl_I f.z)), (0, .ref 178)]) (st' := [.ref 178]) rfl Kz) ?_
  refine jv_Wp.lift (fun _ Kz => jv_Ev.c jv_i395 (pc' := 39) (S' := [.int (3 : Int32)]) jv_i385 [.ref 178] rfl rfl rfl rfl (jv_cal rfl (jv_H_at (jv_rwK hW 178 14 31 (by decide))) rfl rfl) rfl (by have z := vr_mkind (L := L) (n := n) (sl := sl) hW D; rw [hk] at z; exact z) rfl rfl Kz) ?_
  refine jv_Wp.lift (fun _ Kz => jv_Ev.steps jv_i395 1 (pc' := 40) (l' := [(2, .long (xd + (Int32.ofInt f.o).toInt64)), (1, .int (vl_I f.z)), (0, .ref 178)]) (st' := [.int (3 : Int32), .int (3 : Int32)]) rfl Kz) ?_
  refine jv_Wp.lift (fun _ Kz => jv_Ev.br jv_i395 (pc' := 43) (st' := []) rfl (by rfl) Kz) ?_
  refine jv_Wp.lift (fun _ Kz => jv_Ev.steps jv_i395 1 (pc' := 44) (l' := [(2, .long (xd + (Int32.ofInt f.o).toInt64)), (1, .int (vl_I f.z)), (0, .ref 178)]) (st' := [.ref 178]) rfl Kz) ?_
  refine jv_Wp.lift (fun _ Kz => jv_Ev.c jv_i395 (pc' := 47) (S' := [.int (6 : Int32)]) jv_i389 [.ref 178] rfl rfl rfl rfl (jv_cal rfl (jv_H_at (jv_rwK hW 178 14 31 (by decide))) rfl rfl) rfl (by have z := vr_mmode (L := L) (n := n) (sl := sl) hW D; rw [hmo] at z; exact z) rfl rfl Kz) ?_
  refine jv_Wp.lift (fun _ Kz => jv_Ev.steps jv_i395 1 (pc' := 49) (l' := [(2, .long (xd + (Int32.ofInt f.o).toInt64)), (1, .int (vl_I f.z)), (0, .ref 178)]) (st' := [.int (6 : Int32), .int (6 : Int32)]) rfl Kz) ?_
  refine jv_Wp.lift (fun _ Kz => jv_Ev.br jv_i395 (pc' := 52) (st' := []) rfl (by rfl) Kz) ?_
  refine jv_Wp.lift (fun _ Kz => jv_Ev.steps jv_i395 3 (pc' := 55) (l' := [(2, .long (xd + (Int32.ofInt f.o).toInt64)), (1, .int (vl_I f.z)), (0, .ref 178)]) (st' := [.int (vl_I f.z), .long (xd + (Int32.ofInt f.o).toInt64), .ref 178]) rfl Kz) ?_
  refine jv_Wp.lift (fun _ Kz => jv_Ev.c jv_i395 (pc' := 58) (S' := []) (G1 := (jv_H K I2 L2 R)) jv_i394 [.ref 178, .long (xd + (Int32.ofInt f.o).toInt64), .int (vl_I f.z)] rfl rfl rfl rfl (jv_cal rfl (jv_H_at (jv_rwK hW 178 14 31 (by decide))) rfl rfl) rfl hA rfl rfl Kz) ?_
  refine jv_Wp.of (jv_Ev.ret jv_i395 rfl rfl) ?_
  rw [hQ]
  exact ⟨_, _, rfl, hm, hf⟩