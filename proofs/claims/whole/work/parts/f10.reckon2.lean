/-! part f10: reckoning instructions of the class (gen/tf10.py) -/
theorem vw_l82 {w : Int64} {f : vf_F} (ef : vc_F w = f) {k : Nat} (hk : f.n = k) {x : Int32} (hx : vl_I k = x) {G : jv_G} {n sl : Nat} : jv_Ms 82 [.long w] G n sl (some (.int x), G, n, sl) := by subst hk; subst hx; exact vw_f82 ef
theorem vb_turned_low {x : BitVec 64} {n : Nat} (hn : n = 16 ∨ n = 32 ∨ n = 64) : vb_turned (x &&& vb_lowest n) n = vb_turned x n := by
  refine BitVec.eq_of_getLsbD_eq (fun k hk => ?_)
  rw [vb_turned_bit _ hn hk, vb_turned_bit _ hn hk]
  by_cases c : k < n
  · rw [BitVec.getLsbD_and, vb_lowest_bit n (by omega), decide_eq_true (show 8 * (n / 8 - 1 - k / 8) + k % 8 < n by omega), Bool.and_true]
  · rw [decide_eq_false c]; rfl
theorem vm_oi {x : Int32} {i : Int} {k : Nat} (h : x.toInt = i) (hk : i = k) (hl : k < 2147483648) : x = vl_I k := Int32.toInt_inj.mp (by rw [h, vl_I_i hl, hk])
theorem vm_o1 {x : Int32} {o : Int} (h : x.toInt = o) : x = (1 : Int32) ↔ o = 1 := ⟨fun z => by rw [← h, z]; decide, fun z => Int32.toInt_inj.mp (by rw [h, z]; decide)⟩
theorem jv_i63 : jv_I 63 13 none 4 99 jv_c63 := ⟨rfl, rfl, rfl, rfl, rfl⟩
theorem vc_reckon7tr {K : Nat → Option (Nat × Nat)} {I : Nat → Nat → Int32} {L : Nat → Nat → Int64} {R : Nat → Nat → Value} (hC : vm_CW K R) {S T : vm_S} (h : vm_c I L S) {w : Int64} {f : vf_F} (ef : vc_F w = f) (hd : f.d < 11) (hs : f.s < 11) (har : vf_ar f) (hk : f.kind = 7) (hn : f.n = 13) (hb3 : f.bit3 = true) (hl : vm_arith f S = some T) {n sl : Nat} : ∃ I1 L1, jv_Ms 63 [.ref 171, .long w] (jv_H K I L R) n sl (none, jv_H K I1 L1 R, n, sl) ∧ vm_c I1 L1 T ∧ vc_ff vm_Er I L I1 L1 := by
  obtain ⟨Q, hQ⟩ : ∃ Q : jv_R → Prop, Q = fun X => ∃ I1 L1, X = (none, jv_H K I1 L1 R, n, sl) ∧ vm_c I1 L1 T ∧ vc_ff vm_Er I L I1 L1 := ⟨_, rfl⟩
  suffices hE : jv_Wp 63 0 [(0, .ref 171), (1, .long w)] [] (jv_H K I L R) n sl Q by
    rw [hQ] at hE
    obtain ⟨X, hE, I1, L1, e, h'⟩ := hE
    subst e
    exact ⟨I1, L1, hE, h'⟩
  obtain ⟨x, y, hx, hy, hT⟩ := vm_arith_dec hl
  subst hT
  have hn256 : f.n < 256 := by have : f.n = f.code / 16 := rfl; have := vw_dc ef; omega
  rw [if_neg (show ¬ f.n = 11 by omega)] at hx
  obtain ⟨xd, exd⟩ : ∃ xd, xd = x := ⟨x, rfl⟩
  have hgd : vm_rd S f.d = some xd := exd ▸ hx
  have hi3 : f.i.toNat = 16 ∨ f.i.toNat = 32 ∨ f.i.toNat = 64 := by have := har.2.2.2.2 hn; omega
  have hI : Int32.ofInt f.i = vl_I f.i.toNat := vm_oi (vw_dQ ef) (by have := har.2.2.2.2 hn; omega) (by omega)
  refine jv_Wp.lift (fun _ Kz => jv_Ev.steps jv_i63 1 (pc' := 1) (l' := [(0, .ref 171), (1, .long w)]) (st' := [.long w]) rfl Kz) ?_
  refine jv_Wp.lift (fun _ Kz => jv_Ev.c jv_i63 (pc' := 4) (S' := [.int (13 : Int32)]) jv_i82 [.long w] rfl rfl rfl rfl rfl rfl (vw_l82 ef hn rfl) rfl rfl Kz) ?_
  refine jv_Wp.lift (fun _ Kz => jv_Ev.steps jv_i63 2 (pc' := 6) (l' := [(3, .int (13 : Int32)), (0, .ref 171), (1, .long w)]) (st' := [.long w]) rfl Kz) ?_
  refine jv_Wp.lift (fun _ Kz => jv_Ev.c jv_i63 (pc' := 9) (S' := [.int (Int32.ofInt f.i)]) jv_i89 [.long w] rfl rfl rfl rfl rfl rfl (vw_f89 ef) rfl rfl Kz) ?_
  refine jv_Wp.lift (fun _ Kz => jv_Ev.steps jv_i63 2 (pc' := 12) (l' := [(4, .int (Int32.ofInt f.i)), (3, .int (13 : Int32)), (0, .ref 171), (1, .long w)]) (st' := [.long w]) rfl Kz) ?_
  refine jv_Wp.lift (fun _ Kz => jv_Ev.c jv_i63 (pc' := 15) (S' := [.int (Int32.ofInt f.o)]) jv_i88 [.long w] rfl rfl rfl rfl rfl rfl (vw_f88 ef) rfl rfl Kz) ?_
  refine jv_Wp.lift (fun _ Kz => jv_Ev.steps jv_i63 2 (pc' := 18) (l' := [(5, .int (Int32.ofInt f.o)), (4, .int (Int32.ofInt f.i)), (3, .int (13 : Int32)), (0, .ref 171), (1, .long w)]) (st' := [.long w]) rfl Kz) ?_
  refine jv_Wp.lift (fun _ Kz => jv_Ev.c jv_i63 (pc' := 21) (S' := [.int (vl_I f.d)]) jv_i86 [.long w] rfl rfl rfl rfl rfl rfl (vw_f86 ef) rfl rfl Kz) ?_
  refine jv_Wp.lift (fun _ Kz => jv_Ev.steps jv_i63 2 (pc' := 24) (l' := [(6, .int (vl_I f.d)), (5, .int (Int32.ofInt f.o)), (4, .int (Int32.ofInt f.i)), (3, .int (13 : Int32)), (0, .ref 171), (1, .long w)]) (st' := [.long w]) rfl Kz) ?_
  refine jv_Wp.lift (fun _ Kz => jv_Ev.c jv_i63 (pc' := 27) (S' := [.int (7 : Int32)]) jv_i81 [.long w] rfl rfl rfl rfl rfl rfl (vw_l81 ef hk rfl) rfl rfl Kz) ?_
  refine jv_Wp.lift (fun _ Kz => jv_Ev.steps jv_i63 1 (pc' := 29) (l' := [(6, .int (vl_I f.d)), (5, .int (Int32.ofInt f.o)), (4, .int (Int32.ofInt f.i)), (3, .int (13 : Int32)), (0, .ref 171), (1, .long w)]) (st' := [.int (7 : Int32), .int (7 : Int32)]) rfl Kz) ?_
  refine jv_Wp.lift (fun _ Kz => jv_Ev.br jv_i63 (pc' := 32) (st' := []) rfl (by rfl) Kz) ?_
  refine jv_Wp.lift (fun _ Kz => jv_Ev.steps jv_i63 5 (pc' := 42) (l' := [(7, .int (1 : Int32)), (6, .int (vl_I f.d)), (5, .int (Int32.ofInt f.o)), (4, .int (Int32.ofInt f.i)), (3, .int (13 : Int32)), (0, .ref 171), (1, .long w)]) (st' := [.int (11 : Int32), .int (13 : Int32)]) rfl Kz) ?_
  refine jv_Wp.lift (fun _ Kz => jv_Ev.br jv_i63 (pc' := 49) (st' := []) rfl (by rfl) Kz) ?_
  refine jv_Wp.lift (fun _ Kz => jv_Ev.steps jv_i63 2 (pc' := 52) (l' := [(7, .int (1 : Int32)), (6, .int (vl_I f.d)), (5, .int (Int32.ofInt f.o)), (4, .int (Int32.ofInt f.i)), (3, .int (13 : Int32)), (0, .ref 171), (1, .long w)]) (st' := [.int (vl_I f.d), .ref 171]) rfl Kz) ?_
  refine jv_Wp.lift (fun _ Kz => jv_Ev.c jv_i63 (pc' := 55) (S' := [.long xd]) jv_i53 [.ref 171, .int (vl_I f.d)] rfl rfl rfl rfl (jv_cal rfl (jv_H_at (vm_cK hC 171 2 13 (by decide))) rfl rfl) rfl (vm_cget hC h hd hgd) rfl rfl Kz) ?_
  refine jv_Wp.lift (fun _ Kz => jv_Ev.steps jv_i63 3 (pc' := 60) (l' := [(8, .long xd), (7, .int (1 : Int32)), (6, .int (vl_I f.d)), (5, .int (Int32.ofInt f.o)), (4, .int (Int32.ofInt f.i)), (3, .int (13 : Int32)), (0, .ref 171), (1, .long w)]) (st' := [.int (13 : Int32), .int (13 : Int32)]) rfl Kz) ?_
  refine jv_Wp.lift (fun _ Kz => jv_Ev.br jv_i63 (pc' := 63) (st' := []) rfl (by rfl) Kz) ?_
  refine jv_Wp.lift (fun _ Kz => jv_Ev.steps jv_i63 1 (pc' := 65) (l' := [(8, .long xd), (7, .int (1 : Int32)), (6, .int (vl_I f.d)), (5, .int (Int32.ofInt f.o)), (4, .int (Int32.ofInt f.i)), (3, .int (13 : Int32)), (0, .ref 171), (1, .long w)]) (st' := [.int (1 : Int32)]) rfl Kz) ?_
  refine jv_Wp.lift (fun _ Kz => jv_Ev.br jv_i63 (pc' := 75) (st' := []) rfl (by rfl) Kz) ?_
  refine jv_Wp.lift (fun _ Kz => jv_Ev.steps jv_i63 6 (pc' := 87) (l' := [(10, .int (1 : Int32)), (8, .long xd), (7, .int (1 : Int32)), (6, .int (vl_I f.d)), (5, .int (Int32.ofInt f.o)), (4, .int (Int32.ofInt f.i)), (3, .int (13 : Int32)), (0, .ref 171), (1, .long w)]) (st' := [.int (1 : Int32), .int (vl_I f.d), .ref 171]) rfl Kz) ?_
  refine jv_Wp.lift (fun _ Kz => jv_Ev.br jv_i63 (pc' := 90) (st' := [.int (vl_I f.d), .ref 171]) rfl (by rfl) Kz) ?_
  refine jv_Wp.lift (fun _ Kz => jv_Ev.steps jv_i63 2 (pc' := 94) (l' := [(10, .int (1 : Int32)), (8, .long xd), (7, .int (1 : Int32)), (6, .int (vl_I f.d)), (5, .int (Int32.ofInt f.o)), (4, .int (Int32.ofInt f.i)), (3, .int (13 : Int32)), (0, .ref 171), (1, .long w)]) (st' := [.int (Int32.ofInt f.i), .long xd, .int (vl_I f.d), .ref 171]) rfl Kz) ?_
  refine jv_Wp.lift (fun _ Kz => jv_Ev.c jv_i63 (pc' := 97) (S' := [.long (Int64.ofBitVec (vb_turned xd.toBitVec f.i.toNat)), .int (vl_I f.d), .ref 171]) jv_i9 [.long xd, .int (Int32.ofInt f.i)] rfl rfl rfl rfl rfl rfl (show jv_Ms 9 [.long xd, .int (Int32.ofInt f.i)] _ _ _ _ from by rw [hI]; exact vl_turned xd hi3) rfl rfl Kz) ?_
  refine jv_Wp.lift (fun _ Kz => jv_Ev.steps jv_i63 1 (pc' := 108) (l' := [(10, .int (1 : Int32)), (8, .long xd), (7, .int (1 : Int32)), (6, .int (vl_I f.d)), (5, .int (Int32.ofInt f.o)), (4, .int (Int32.ofInt f.i)), (3, .int (13 : Int32)), (0, .ref 171), (1, .long w)]) (st' := [.long (Int64.ofBitVec (vb_turned xd.toBitVec f.i.toNat)), .int (vl_I f.d), .ref 171]) rfl Kz) ?_
  refine jv_Wp.lift (fun _ Kz => jv_Ev.c jv_i63 (pc' := 111) (S' := []) (G1 := (jv_H K (jv_u I 171 2 ((I 171 2) ||| ((1 : Int32) <<< ((vl_I f.d) &&& 31)))) (jv_u L 172 f.d (Int64.ofBitVec (vb_turned xd.toBitVec f.i.toNat))) R)) jv_i54 [.ref 171, .int (vl_I f.d), .long (Int64.ofBitVec (vb_turned xd.toBitVec f.i.toNat))] rfl rfl rfl rfl (jv_cal rfl (jv_H_at (vm_cK hC 171 2 13 (by decide))) rfl rfl) rfl (vm_cset (I := I) (L := L) (n := n) (sl := sl) (r := f.d) hC (by omega)) rfl rfl Kz) ?_
  refine jv_Wp.of (jv_Ev.ret jv_i63 rfl rfl) ?_
  have ev : (Int64.ofBitVec (vb_turned xd.toBitVec f.i.toNat)) = Int64.ofBitVec (vx_do f x.toBitVec y.toBitVec (vm_sg f x.toBitVec y.toBitVec)) := congrArg Int64.ofBitVec (by unfold vx_do; rw [if_pos hn, if_pos (by first | exact Or.inl hk | exact Or.inr hb3), vb_turned_low hi3, exd])
  rw [hQ, ev]
  exact ⟨_, _, rfl, vc_m_gv h hd, vm_gv_ff (vc_ff_refl _ I L)⟩
theorem vc_reckon7ti {K : Nat → Option (Nat × Nat)} {I : Nat → Nat → Int32} {L : Nat → Nat → Int64} {R : Nat → Nat → Value} (hC : vm_CW K R) {S T : vm_S} (h : vm_c I L S) {w : Int64} {f : vf_F} (ef : vc_F w = f) (hd : f.d < 11) (hs : f.s < 11) (har : vf_ar f) (hk : f.kind = 7) (hn : f.n = 13) (hb3 : f.bit3 = false) (hl : vm_arith f S = some T) {n sl : Nat} : ∃ I1 L1, jv_Ms 63 [.ref 171, .long w] (jv_H K I L R) n sl (none, jv_H K I1 L1 R, n, sl) ∧ vm_c I1 L1 T ∧ vc_ff vm_Er I L I1 L1 := by
  obtain ⟨Q, hQ⟩ : ∃ Q : jv_R → Prop, Q = fun X => ∃ I1 L1, X = (none, jv_H K I1 L1 R, n, sl) ∧ vm_c I1 L1 T ∧ vc_ff vm_Er I L I1 L1 := ⟨_, rfl⟩
  suffices hE : jv_Wp 63 0 [(0, .ref 171), (1, .long w)] [] (jv_H K I L R) n sl Q by
    rw [hQ] at hE
    obtain ⟨X, hE, I1, L1, e, h'⟩ := hE
    subst e
    exact ⟨I1, L1, hE, h'⟩
  obtain ⟨x, y, hx, hy, hT⟩ := vm_arith_dec hl
  subst hT
  have hn256 : f.n < 256 := by have : f.n = f.code / 16 := rfl; have := vw_dc ef; omega
  rw [if_neg (show ¬ f.n = 11 by omega)] at hx
  obtain ⟨xd, exd⟩ : ∃ xd, xd = x := ⟨x, rfl⟩
  have hgd : vm_rd S f.d = some xd := exd ▸ hx
  have hi3 : f.i.toNat = 16 ∨ f.i.toNat = 32 ∨ f.i.toNat = 64 := by have := har.2.2.2.2 hn; omega
  have hI : Int32.ofInt f.i = vl_I f.i.toNat := vm_oi (vw_dQ ef) (by have := har.2.2.2.2 hn; omega) (by omega)
  refine jv_Wp.lift (fun _ Kz => jv_Ev.steps jv_i63 1 (pc' := 1) (l' := [(0, .ref 171), (1, .long w)]) (st' := [.long w]) rfl Kz) ?_
  refine jv_Wp.lift (fun _ Kz => jv_Ev.c jv_i63 (pc' := 4) (S' := [.int (13 : Int32)]) jv_i82 [.long w] rfl rfl rfl rfl rfl rfl (vw_l82 ef hn rfl) rfl rfl Kz) ?_
  refine jv_Wp.lift (fun _ Kz => jv_Ev.steps jv_i63 2 (pc' := 6) (l' := [(3, .int (13 : Int32)), (0, .ref 171), (1, .long w)]) (st' := [.long w]) rfl Kz) ?_
  refine jv_Wp.lift (fun _ Kz => jv_Ev.c jv_i63 (pc' := 9) (S' := [.int (Int32.ofInt f.i)]) jv_i89 [.long w] rfl rfl rfl rfl rfl rfl (vw_f89 ef) rfl rfl Kz) ?_
  refine jv_Wp.lift (fun _ Kz => jv_Ev.steps jv_i63 2 (pc' := 12) (l' := [(4, .int (Int32.ofInt f.i)), (3, .int (13 : Int32)), (0, .ref 171), (1, .long w)]) (st' := [.long w]) rfl Kz) ?_
  refine jv_Wp.lift (fun _ Kz => jv_Ev.c jv_i63 (pc' := 15) (S' := [.int (Int32.ofInt f.o)]) jv_i88 [.long w] rfl rfl rfl rfl rfl rfl (vw_f88 ef) rfl rfl Kz) ?_
  refine jv_Wp.lift (fun _ Kz => jv_Ev.steps jv_i63 2 (pc' := 18) (l' := [(5, .int (Int32.ofInt f.o)), (4, .int (Int32.ofInt f.i)), (3, .int (13 : Int32)), (0, .ref 171), (1, .long w)]) (st' := [.long w]) rfl Kz) ?_
  refine jv_Wp.lift (fun _ Kz => jv_Ev.c jv_i63 (pc' := 21) (S' := [.int (vl_I f.d)]) jv_i86 [.long w] rfl rfl rfl rfl rfl rfl (vw_f86 ef) rfl rfl Kz) ?_
  refine jv_Wp.lift (fun _ Kz => jv_Ev.steps jv_i63 2 (pc' := 24) (l' := [(6, .int (vl_I f.d)), (5, .int (Int32.ofInt f.o)), (4, .int (Int32.ofInt f.i)), (3, .int (13 : Int32)), (0, .ref 171), (1, .long w)]) (st' := [.long w]) rfl Kz) ?_
  refine jv_Wp.lift (fun _ Kz => jv_Ev.c jv_i63 (pc' := 27) (S' := [.int (7 : Int32)]) jv_i81 [.long w] rfl rfl rfl rfl rfl rfl (vw_l81 ef hk rfl) rfl rfl Kz) ?_
  refine jv_Wp.lift (fun _ Kz => jv_Ev.steps jv_i63 1 (pc' := 29) (l' := [(6, .int (vl_I f.d)), (5, .int (Int32.ofInt f.o)), (4, .int (Int32.ofInt f.i)), (3, .int (13 : Int32)), (0, .ref 171), (1, .long w)]) (st' := [.int (7 : Int32), .int (7 : Int32)]) rfl Kz) ?_
  refine jv_Wp.lift (fun _ Kz => jv_Ev.br jv_i63 (pc' := 32) (st' := []) rfl (by rfl) Kz) ?_
  refine jv_Wp.lift (fun _ Kz => jv_Ev.steps jv_i63 5 (pc' := 42) (l' := [(7, .int (1 : Int32)), (6, .int (vl_I f.d)), (5, .int (Int32.ofInt f.o)), (4, .int (Int32.ofInt f.i)), (3, .int (13 : Int32)), (0, .ref 171), (1, .long w)]) (st' := [.int (11 : Int32), .int (13 : Int32)]) rfl Kz) ?_
  refine jv_Wp.lift (fun _ Kz => jv_Ev.br jv_i63 (pc' := 49) (st' := []) rfl (by rfl) Kz) ?_
  refine jv_Wp.lift (fun _ Kz => jv_Ev.steps jv_i63 2 (pc' := 52) (l' := [(7, .int (1 : Int32)), (6, .int (vl_I f.d)), (5, .int (Int32.ofInt f.o)), (4, .int (Int32.ofInt f.i)), (3, .int (13 : Int32)), (0, .ref 171), (1, .long w)]) (st' := [.int (vl_I f.d), .ref 171]) rfl Kz) ?_
  refine jv_Wp.lift (fun _ Kz => jv_Ev.c jv_i63 (pc' := 55) (S' := [.long xd]) jv_i53 [.ref 171, .int (vl_I f.d)] rfl rfl rfl rfl (jv_cal rfl (jv_H_at (vm_cK hC 171 2 13 (by decide))) rfl rfl) rfl (vm_cget hC h hd hgd) rfl rfl Kz) ?_
  refine jv_Wp.lift (fun _ Kz => jv_Ev.steps jv_i63 3 (pc' := 60) (l' := [(8, .long xd), (7, .int (1 : Int32)), (6, .int (vl_I f.d)), (5, .int (Int32.ofInt f.o)), (4, .int (Int32.ofInt f.i)), (3, .int (13 : Int32)), (0, .ref 171), (1, .long w)]) (st' := [.int (13 : Int32), .int (13 : Int32)]) rfl Kz) ?_
  refine jv_Wp.lift (fun _ Kz => jv_Ev.br jv_i63 (pc' := 63) (st' := []) rfl (by rfl) Kz) ?_
  refine jv_Wp.lift (fun _ Kz => jv_Ev.steps jv_i63 1 (pc' := 65) (l' := [(8, .long xd), (7, .int (1 : Int32)), (6, .int (vl_I f.d)), (5, .int (Int32.ofInt f.o)), (4, .int (Int32.ofInt f.i)), (3, .int (13 : Int32)), (0, .ref 171), (1, .long w)]) (st' := [.int (1 : Int32)]) rfl Kz) ?_
  refine jv_Wp.lift (fun _ Kz => jv_Ev.br jv_i63 (pc' := 75) (st' := []) rfl (by rfl) Kz) ?_
  refine jv_Wp.lift (fun _ Kz => jv_Ev.steps jv_i63 6 (pc' := 87) (l' := [(10, .int (1 : Int32)), (8, .long xd), (7, .int (1 : Int32)), (6, .int (vl_I f.d)), (5, .int (Int32.ofInt f.o)), (4, .int (Int32.ofInt f.i)), (3, .int (13 : Int32)), (0, .ref 171), (1, .long w)]) (st' := [.int (1 : Int32), .int (vl_I f.d), .ref 171]) rfl Kz) ?_
  refine jv_Wp.lift (fun _ Kz => jv_Ev.br jv_i63 (pc' := 90) (st' := [.int (vl_I f.d), .ref 171]) rfl (by rfl) Kz) ?_
  refine jv_Wp.lift (fun _ Kz => jv_Ev.steps jv_i63 2 (pc' := 94) (l' := [(10, .int (1 : Int32)), (8, .long xd), (7, .int (1 : Int32)), (6, .int (vl_I f.d)), (5, .int (Int32.ofInt f.o)), (4, .int (Int32.ofInt f.i)), (3, .int (13 : Int32)), (0, .ref 171), (1, .long w)]) (st' := [.int (Int32.ofInt f.i), .long xd, .int (vl_I f.d), .ref 171]) rfl Kz) ?_
  refine jv_Wp.lift (fun _ Kz => jv_Ev.c jv_i63 (pc' := 97) (S' := [.long (Int64.ofBitVec (vb_turned xd.toBitVec f.i.toNat)), .int (vl_I f.d), .ref 171]) jv_i9 [.long xd, .int (Int32.ofInt f.i)] rfl rfl rfl rfl rfl rfl (show jv_Ms 9 [.long xd, .int (Int32.ofInt f.i)] _ _ _ _ from by rw [hI]; exact vl_turned xd hi3) rfl rfl Kz) ?_
  refine jv_Wp.lift (fun _ Kz => jv_Ev.steps jv_i63 1 (pc' := 108) (l' := [(10, .int (1 : Int32)), (8, .long xd), (7, .int (1 : Int32)), (6, .int (vl_I f.d)), (5, .int (Int32.ofInt f.o)), (4, .int (Int32.ofInt f.i)), (3, .int (13 : Int32)), (0, .ref 171), (1, .long w)]) (st' := [.long (Int64.ofBitVec (vb_turned xd.toBitVec f.i.toNat)), .int (vl_I f.d), .ref 171]) rfl Kz) ?_
  refine jv_Wp.lift (fun _ Kz => jv_Ev.c jv_i63 (pc' := 111) (S' := []) (G1 := (jv_H K (jv_u I 171 2 ((I 171 2) ||| ((1 : Int32) <<< ((vl_I f.d) &&& 31)))) (jv_u L 172 f.d (Int64.ofBitVec (vb_turned xd.toBitVec f.i.toNat))) R)) jv_i54 [.ref 171, .int (vl_I f.d), .long (Int64.ofBitVec (vb_turned xd.toBitVec f.i.toNat))] rfl rfl rfl rfl (jv_cal rfl (jv_H_at (vm_cK hC 171 2 13 (by decide))) rfl rfl) rfl (vm_cset (I := I) (L := L) (n := n) (sl := sl) (r := f.d) hC (by omega)) rfl rfl Kz) ?_
  refine jv_Wp.of (jv_Ev.ret jv_i63 rfl rfl) ?_
  have ev : (Int64.ofBitVec (vb_turned xd.toBitVec f.i.toNat)) = Int64.ofBitVec (vx_do f x.toBitVec y.toBitVec (vm_sg f x.toBitVec y.toBitVec)) := congrArg Int64.ofBitVec (by unfold vx_do; rw [if_pos hn, if_pos (by first | exact Or.inl hk | exact Or.inr hb3), vb_turned_low hi3, exd])
  rw [hQ, ev]
  exact ⟨_, _, rfl, vc_m_gv h hd, vm_gv_ff (vc_ff_refl _ I L)⟩
theorem vc_reckon7m0r {K : Nat → Option (Nat × Nat)} {I : Nat → Nat → Int32} {L : Nat → Nat → Int64} {R : Nat → Nat → Value} (hC : vm_CW K R) {S T : vm_S} (h : vm_c I L S) {w : Int64} {f : vf_F} (ef : vc_F w = f) (hd : f.d < 11) (hs : f.s < 11) (har : vf_ar f) (hk : f.kind = 7) (hn : f.n = 11) (ho0 : f.o = 0) (hb3 : f.bit3 = true) (hl : vm_arith f S = some T) {n sl : Nat} : ∃ I1 L1, jv_Ms 63 [.ref 171, .long w] (jv_H K I L R) n sl (none, jv_H K I1 L1 R, n, sl) ∧ vm_c I1 L1 T ∧ vc_ff vm_Er I L I1 L1 := by
  obtain ⟨Q, hQ⟩ : ∃ Q : jv_R → Prop, Q = fun X => ∃ I1 L1, X = (none, jv_H K I1 L1 R, n, sl) ∧ vm_c I1 L1 T ∧ vc_ff vm_Er I L I1 L1 := ⟨_, rfl⟩
  suffices hE : jv_Wp 63 0 [(0, .ref 171), (1, .long w)] [] (jv_H K I L R) n sl Q by
    rw [hQ] at hE
    obtain ⟨X, hE, I1, L1, e, h'⟩ := hE
    subst e
    exact ⟨I1, L1, hE, h'⟩
  obtain ⟨x, y, hx, hy, hT⟩ := vm_arith_dec hl
  subst hT
  have hn256 : f.n < 256 := by have : f.n = f.code / 16 := rfl; have := vw_dc ef; omega
  rw [if_neg (show ¬ f.n = 13 by omega)] at hy
  rw [if_pos hb3] at hy
  obtain ⟨xs, exs⟩ : ∃ xs, xs = y := ⟨y, rfl⟩
  have hgs : vm_rd S f.s = some xs := exs ▸ hy
  have ho1 : f.o ≠ 1 := by have := har.2.2.2.1 hn; omega
  refine jv_Wp.lift (fun _ Kz => jv_Ev.steps jv_i63 1 (pc' := 1) (l' := [(0, .ref 171), (1, .long w)]) (st' := [.long w]) rfl Kz) ?_
  refine jv_Wp.lift (fun _ Kz => jv_Ev.c jv_i63 (pc' := 4) (S' := [.int (11 : Int32)]) jv_i82 [.long w] rfl rfl rfl rfl rfl rfl (vw_l82 ef hn rfl) rfl rfl Kz) ?_
  refine jv_Wp.lift (fun _ Kz => jv_Ev.steps jv_i63 2 (pc' := 6) (l' := [(3, .int (11 : Int32)), (0, .ref 171), (1, .long w)]) (st' := [.long w]) rfl Kz) ?_
  refine jv_Wp.lift (fun _ Kz => jv_Ev.c jv_i63 (pc' := 9) (S' := [.int (Int32.ofInt f.i)]) jv_i89 [.long w] rfl rfl rfl rfl rfl rfl (vw_f89 ef) rfl rfl Kz) ?_
  refine jv_Wp.lift (fun _ Kz => jv_Ev.steps jv_i63 2 (pc' := 12) (l' := [(4, .int (Int32.ofInt f.i)), (3, .int (11 : Int32)), (0, .ref 171), (1, .long w)]) (st' := [.long w]) rfl Kz) ?_
  refine jv_Wp.lift (fun _ Kz => jv_Ev.c jv_i63 (pc' := 15) (S' := [.int (Int32.ofInt f.o)]) jv_i88 [.long w] rfl rfl rfl rfl rfl rfl (vw_f88 ef) rfl rfl Kz) ?_
  refine jv_Wp.lift (fun _ Kz => jv_Ev.steps jv_i63 2 (pc' := 18) (l' := [(5, .int (Int32.ofInt f.o)), (4, .int (Int32.ofInt f.i)), (3, .int (11 : Int32)), (0, .ref 171), (1, .long w)]) (st' := [.long w]) rfl Kz) ?_
  refine jv_Wp.lift (fun _ Kz => jv_Ev.c jv_i63 (pc' := 21) (S' := [.int (vl_I f.d)]) jv_i86 [.long w] rfl rfl rfl rfl rfl rfl (vw_f86 ef) rfl rfl Kz) ?_
  refine jv_Wp.lift (fun _ Kz => jv_Ev.steps jv_i63 2 (pc' := 24) (l' := [(6, .int (vl_I f.d)), (5, .int (Int32.ofInt f.o)), (4, .int (Int32.ofInt f.i)), (3, .int (11 : Int32)), (0, .ref 171), (1, .long w)]) (st' := [.long w]) rfl Kz) ?_
  refine jv_Wp.lift (fun _ Kz => jv_Ev.c jv_i63 (pc' := 27) (S' := [.int (7 : Int32)]) jv_i81 [.long w] rfl rfl rfl rfl rfl rfl (vw_l81 ef hk rfl) rfl rfl Kz) ?_
  refine jv_Wp.lift (fun _ Kz => jv_Ev.steps jv_i63 1 (pc' := 29) (l' := [(6, .int (vl_I f.d)), (5, .int (Int32.ofInt f.o)), (4, .int (Int32.ofInt f.i)), (3, .int (11 : Int32)), (0, .ref 171), (1, .long w)]) (st' := [.int (7 : Int32), .int (7 : Int32)]) rfl Kz) ?_
  refine jv_Wp.lift (fun _ Kz => jv_Ev.br jv_i63 (pc' := 32) (st' := []) rfl (by rfl) Kz) ?_
  refine jv_Wp.lift (fun _ Kz => jv_Ev.steps jv_i63 5 (pc' := 42) (l' := [(7, .int (1 : Int32)), (6, .int (vl_I f.d)), (5, .int (Int32.ofInt f.o)), (4, .int (Int32.ofInt f.i)), (3, .int (11 : Int32)), (0, .ref 171), (1, .long w)]) (st' := [.int (11 : Int32), .int (11 : Int32)]) rfl Kz) ?_
  refine jv_Wp.lift (fun _ Kz => jv_Ev.br jv_i63 (pc' := 45) (st' := []) rfl (by rfl) Kz) ?_
  refine jv_Wp.lift (fun _ Kz => jv_Ev.steps jv_i63 5 (pc' := 60) (l' := [(8, .long (0 : Int64)), (7, .int (1 : Int32)), (6, .int (vl_I f.d)), (5, .int (Int32.ofInt f.o)), (4, .int (Int32.ofInt f.i)), (3, .int (11 : Int32)), (0, .ref 171), (1, .long w)]) (st' := [.int (13 : Int32), .int (11 : Int32)]) rfl Kz) ?_
  refine jv_Wp.lift (fun _ Kz => jv_Ev.br jv_i63 (pc' := 112) (st' := []) rfl (by rfl) Kz) ?_
  refine jv_Wp.lift (fun _ Kz => jv_Ev.steps jv_i63 1 (pc' := 113) (l' := [(8, .long (0 : Int64)), (7, .int (1 : Int32)), (6, .int (vl_I f.d)), (5, .int (Int32.ofInt f.o)), (4, .int (Int32.ofInt f.i)), (3, .int (11 : Int32)), (0, .ref 171), (1, .long w)]) (st' := [.long w]) rfl Kz) ?_
  refine jv_Wp.lift (fun _ Kz => jv_Ev.c jv_i63 (pc' := 116) (S' := [.int (1 : Int32)]) jv_i83 [.long w] rfl rfl rfl rfl rfl rfl (vw_l83 ef hb3 rfl) rfl rfl Kz) ?_
  refine jv_Wp.lift (fun _ Kz => jv_Ev.br jv_i63 (pc' := 119) (st' := []) rfl (by rfl) Kz) ?_
  refine jv_Wp.lift (fun _ Kz => jv_Ev.steps jv_i63 2 (pc' := 121) (l' := [(8, .long (0 : Int64)), (7, .int (1 : Int32)), (6, .int (vl_I f.d)), (5, .int (Int32.ofInt f.o)), (4, .int (Int32.ofInt f.i)), (3, .int (11 : Int32)), (0, .ref 171), (1, .long w)]) (st' := [.long w, .ref 171]) rfl Kz) ?_
  refine jv_Wp.lift (fun _ Kz => jv_Ev.c jv_i63 (pc' := 124) (S' := [.int (vl_I f.s), .ref 171]) jv_i87 [.long w] rfl rfl rfl rfl rfl rfl (vw_f87 ef) rfl rfl Kz) ?_
  refine jv_Wp.lift (fun _ Kz => jv_Ev.c jv_i63 (pc' := 127) (S' := [.long xs]) jv_i53 [.ref 171, .int (vl_I f.s)] rfl rfl rfl rfl (jv_cal rfl (jv_H_at (vm_cK hC 171 2 13 (by decide))) rfl rfl) rfl (vm_cget hC h hs hgs) rfl rfl Kz) ?_
  refine jv_Wp.lift (fun _ Kz => jv_Ev.steps jv_i63 4 (pc' := 138) (l' := [(10, .long xs), (8, .long (0 : Int64)), (7, .int (1 : Int32)), (6, .int (vl_I f.d)), (5, .int (Int32.ofInt f.o)), (4, .int (Int32.ofInt f.i)), (3, .int (11 : Int32)), (0, .ref 171), (1, .long w)]) (st' := [.int (11 : Int32), .int (11 : Int32)]) rfl Kz) ?_
  refine jv_Wp.lift (fun _ Kz => jv_Ev.br jv_i63 (pc' := 141) (st' := []) rfl (by rfl) Kz) ?_
  refine jv_Wp.lift (fun _ Kz => jv_Ev.steps jv_i63 1 (pc' := 143) (l' := [(10, .long xs), (8, .long (0 : Int64)), (7, .int (1 : Int32)), (6, .int (vl_I f.d)), (5, .int (Int32.ofInt f.o)), (4, .int (Int32.ofInt f.i)), (3, .int (11 : Int32)), (0, .ref 171), (1, .long w)]) (st' := [.int (Int32.ofInt f.o)]) rfl Kz) ?_
  refine jv_Wp.cnd jv_i63 (pt := 162) (pe := 146) (p := ((Int32.ofInt f.o) ≤ 0)) (q := ((Int32.ofInt f.o) ≤ 0)) rfl jv_bi_le rfl rfl Iff.rfl (fun _ => ?_) (fun hz => absurd (Int32.le_iff_toInt_le.mpr (by rw [vw_dO ef, show (0 : Int32).toInt = 0 from rfl]; omega)) hz)
  refine jv_Wp.lift (fun _ Kz => jv_Ev.steps jv_i63 2 (pc' := 165) (l' := [(10, .long xs), (8, .long (0 : Int64)), (7, .int (1 : Int32)), (6, .int (vl_I f.d)), (5, .int (Int32.ofInt f.o)), (4, .int (Int32.ofInt f.i)), (3, .int (11 : Int32)), (0, .ref 171), (1, .long w)]) (st' := [.int (1 : Int32), .int (Int32.ofInt f.o)]) rfl Kz) ?_
  refine jv_Wp.cnd jv_i63 (pt := 172) (pe := 168) (p := (¬ (Int32.ofInt f.o) = (1 : Int32))) (q := (¬ (Int32.ofInt f.o) = (1 : Int32))) rfl jv_bc_ne rfl rfl Iff.rfl (fun _ => ?_) (fun hz => absurd (fun z => by have := (vm_o1 (vw_dO ef)).mp z; omega) hz)
  refine jv_Wp.lift (fun _ Kz => jv_Ev.steps jv_i63 5 (pc' := 180) (l' := [(12, .int (0 : Int32)), (10, .long xs), (8, .long (0 : Int64)), (7, .int (1 : Int32)), (6, .int (vl_I f.d)), (5, .int (Int32.ofInt f.o)), (4, .int (Int32.ofInt f.i)), (3, .int (11 : Int32)), (0, .ref 171), (1, .long w)]) (st' := [.int (1 : Int32), .int (vl_I f.d), .ref 171]) rfl Kz) ?_
  refine jv_Wp.lift (fun _ Kz => jv_Ev.br jv_i63 (pc' := 183) (st' := [.int (vl_I f.d), .ref 171]) rfl (by rfl) Kz) ?_
  refine jv_Wp.lift (fun _ Kz => jv_Ev.steps jv_i63 4 (pc' := 190) (l' := [(12, .int (0 : Int32)), (10, .long xs), (8, .long (0 : Int64)), (7, .int (1 : Int32)), (6, .int (vl_I f.d)), (5, .int (Int32.ofInt f.o)), (4, .int (Int32.ofInt f.i)), (3, .int (11 : Int32)), (0, .ref 171), (1, .long w)]) (st' := [.int (0 : Int32), .long xs, .long (0 : Int64), .int (11 : Int32), .int (vl_I f.d), .ref 171]) rfl Kz) ?_
  refine jv_Wp.lift (fun _ Kz => jv_Ev.c jv_i63 (pc' := 193) (S' := [.long (Int64.ofBitVec (vm_ck 11 ((0 : Int64)).toBitVec (xs).toBitVec false)), .int (vl_I f.d), .ref 171]) jv_i64 [.int (11 : Int32), .long (0 : Int64), .long xs, .int (0 : Int32)] rfl rfl rfl rfl rfl rfl (vc_reckoned (n := 11) (x := (0 : Int64)) (y := xs) (sg := false) (by decide)) rfl rfl Kz) ?_
  refine jv_Wp.lift (fun _ Kz => jv_Ev.steps jv_i63 1 (pc' := 214) (l' := [(12, .int (0 : Int32)), (10, .long xs), (8, .long (0 : Int64)), (7, .int (1 : Int32)), (6, .int (vl_I f.d)), (5, .int (Int32.ofInt f.o)), (4, .int (Int32.ofInt f.i)), (3, .int (11 : Int32)), (0, .ref 171), (1, .long w)]) (st' := [.long (Int64.ofBitVec (vm_ck 11 ((0 : Int64)).toBitVec (xs).toBitVec false)), .int (vl_I f.d), .ref 171]) rfl Kz) ?_
  refine jv_Wp.lift (fun _ Kz => jv_Ev.c jv_i63 (pc' := 217) (S' := []) (G1 := (jv_H K (jv_u I 171 2 ((I 171 2) ||| ((1 : Int32) <<< ((vl_I f.d) &&& 31)))) (jv_u L 172 f.d (Int64.ofBitVec (vm_ck 11 ((0 : Int64)).toBitVec (xs).toBitVec false))) R)) jv_i54 [.ref 171, .int (vl_I f.d), .long (Int64.ofBitVec (vm_ck 11 ((0 : Int64)).toBitVec (xs).toBitVec false))] rfl rfl rfl rfl (jv_cal rfl (jv_H_at (vm_cK hC 171 2 13 (by decide))) rfl rfl) rfl (vm_cset (I := I) (L := L) (n := n) (sl := sl) (r := f.d) hC (by omega)) rfl rfl Kz) ?_
  refine jv_Wp.of (jv_Ev.ret jv_i63 rfl rfl) ?_
  have ev : (Int64.ofBitVec (vm_ck 11 ((0 : Int64)).toBitVec (xs).toBitVec false)) = Int64.ofBitVec (vx_do f x.toBitVec y.toBitVec (vm_sg f x.toBitVec y.toBitVec)) := congrArg Int64.ofBitVec (by rw [vm_do7m hk hn, if_pos ho0]; show (xs).toBitVec = _; rw [exs])
  rw [hQ, ev]
  exact ⟨_, _, rfl, vc_m_gv h hd, vm_gv_ff (vc_ff_refl _ I L)⟩
theorem vc_reckon7m0i {K : Nat → Option (Nat × Nat)} {I : Nat → Nat → Int32} {L : Nat → Nat → Int64} {R : Nat → Nat → Value} (hC : vm_CW K R) {S T : vm_S} (h : vm_c I L S) {w : Int64} {f : vf_F} (ef : vc_F w = f) (hd : f.d < 11) (hs : f.s < 11) (har : vf_ar f) (hk : f.kind = 7) (hn : f.n = 11) (ho0 : f.o = 0) (hb3 : f.bit3 = false) (hl : vm_arith f S = some T) {n sl : Nat} : ∃ I1 L1, jv_Ms 63 [.ref 171, .long w] (jv_H K I L R) n sl (none, jv_H K I1 L1 R, n, sl) ∧ vm_c I1 L1 T ∧ vc_ff vm_Er I L I1 L1 := by
  obtain ⟨Q, hQ⟩ : ∃ Q : jv_R → Prop, Q = fun X => ∃ I1 L1, X = (none, jv_H K I1 L1 R, n, sl) ∧ vm_c I1 L1 T ∧ vc_ff vm_Er I L I1 L1 := ⟨_, rfl⟩
  suffices hE : jv_Wp 63 0 [(0, .ref 171), (1, .long w)] [] (jv_H K I L R) n sl Q by
    rw [hQ] at hE
    obtain ⟨X, hE, I1, L1, e, h'⟩ := hE
    subst e
    exact ⟨I1, L1, hE, h'⟩
  obtain ⟨x, y, hx, hy, hT⟩ := vm_arith_dec hl
  subst hT
  have hn256 : f.n < 256 := by have : f.n = f.code / 16 := rfl; have := vw_dc ef; omega
  rw [if_neg (show ¬ f.n = 13 by omega)] at hy
  rw [if_neg (by rw [hb3]; decide)] at hy
  have exs : (Int32.ofInt f.i).toInt64 = y := (vm_io (vw_dQ ef)).trans (Option.some.inj hy)
  have ho1 : f.o ≠ 1 := by have := har.2.2.2.1 hn; omega
  refine jv_Wp.lift (fun _ Kz => jv_Ev.steps jv_i63 1 (pc' := 1) (l' := [(0, .ref 171), (1, .long w)]) (st' := [.long w]) rfl Kz) ?_
  refine jv_Wp.lift (fun _ Kz => jv_Ev.c jv_i63 (pc' := 4) (S' := [.int (11 : Int32)]) jv_i82 [.long w] rfl rfl rfl rfl rfl rfl (vw_l82 ef hn rfl) rfl rfl Kz) ?_
  refine jv_Wp.lift (fun _ Kz => jv_Ev.steps jv_i63 2 (pc' := 6) (l' := [(3, .int (11 : Int32)), (0, .ref 171), (1, .long w)]) (st' := [.long w]) rfl Kz) ?_
  refine jv_Wp.lift (fun _ Kz => jv_Ev.c jv_i63 (pc' := 9) (S' := [.int (Int32.ofInt f.i)]) jv_i89 [.long w] rfl rfl rfl rfl rfl rfl (vw_f89 ef) rfl rfl Kz) ?_
  refine jv_Wp.lift (fun _ Kz => jv_Ev.steps jv_i63 2 (pc' := 12) (l' := [(4, .int (Int32.ofInt f.i)), (3, .int (11 : Int32)), (0, .ref 171), (1, .long w)]) (st' := [.long w]) rfl Kz) ?_
  refine jv_Wp.lift (fun _ Kz => jv_Ev.c jv_i63 (pc' := 15) (S' := [.int (Int32.ofInt f.o)]) jv_i88 [.long w] rfl rfl rfl rfl rfl rfl (vw_f88 ef) rfl rfl Kz) ?_
  refine jv_Wp.lift (fun _ Kz => jv_Ev.steps jv_i63 2 (pc' := 18) (l' := [(5, .int (Int32.ofInt f.o)), (4, .int (Int32.ofInt f.i)), (3, .int (11 : Int32)), (0, .ref 171), (1, .long w)]) (st' := [.long w]) rfl Kz) ?_
  refine jv_Wp.lift (fun _ Kz => jv_Ev.c jv_i63 (pc' := 21) (S' := [.int (vl_I f.d)]) jv_i86 [.long w] rfl rfl rfl rfl rfl rfl (vw_f86 ef) rfl rfl Kz) ?_
  refine jv_Wp.lift (fun _ Kz => jv_Ev.steps jv_i63 2 (pc' := 24) (l' := [(6, .int (vl_I f.d)), (5, .int (Int32.ofInt f.o)), (4, .int (Int32.ofInt f.i)), (3, .int (11 : Int32)), (0, .ref 171), (1, .long w)]) (st' := [.long w]) rfl Kz) ?_
  refine jv_Wp.lift (fun _ Kz => jv_Ev.c jv_i63 (pc' := 27) (S' := [.int (7 : Int32)]) jv_i81 [.long w] rfl rfl rfl rfl rfl rfl (vw_l81 ef hk rfl) rfl rfl Kz) ?_
  refine jv_Wp.lift (fun _ Kz => jv_Ev.steps jv_i63 1 (pc' := 29) (l' := [(6, .int (vl_I f.d)), (5, .int (Int32.ofInt f.o)), (4, .int (Int32.ofInt f.i)), (3, .int (11 : Int32)), (0, .ref 171), (1, .long w)]) (st' := [.int (7 : Int32), .int (7 : Int32)]) rfl Kz) ?_
  refine jv_Wp.lift (fun _ Kz => jv_Ev.br jv_i63 (pc' := 32) (st' := []) rfl (by rfl) Kz) ?_
  refine jv_Wp.lift (fun _ Kz => jv_Ev.steps jv_i63 5 (pc' := 42) (l' := [(7, .int (1 : Int32)), (6, .int (vl_I f.d)), (5, .int (Int32.ofInt f.o)), (4, .int (Int32.ofInt f.i)), (3, .int (11 : Int32)), (0, .ref 171), (1, .long w)]) (st' := [.int (11 : Int32), .int (11 : Int32)]) rfl Kz) ?_
  refine jv_Wp.lift (fun _ Kz => jv_Ev.br jv_i63 (pc' := 45) (st' := []) rfl (by rfl) Kz) ?_
  refine jv_Wp.lift (fun _ Kz => jv_Ev.steps jv_i63 5 (pc' := 60) (l' := [(8, .long (0 : Int64)), (7, .int (1 : Int32)), (6, .int (vl_I f.d)), (5, .int (Int32.ofInt f.o)), (4, .int (Int32.ofInt f.i)), (3, .int (11 : Int32)), (0, .ref 171), (1, .long w)]) (st' := [.int (13 : Int32), .int (11 : Int32)]) rfl Kz) ?_
  refine jv_Wp.lift (fun _ Kz => jv_Ev.br jv_i63 (pc' := 112) (st' := []) rfl (by rfl) Kz) ?_
  refine jv_Wp.lift (fun _ Kz => jv_Ev.steps jv_i63 1 (pc' := 113) (l' := [(8, .long (0 : Int64)), (7, .int (1 : Int32)), (6, .int (vl_I f.d)), (5, .int (Int32.ofInt f.o)), (4, .int (Int32.ofInt f.i)), (3, .int (11 : Int32)), (0, .ref 171), (1, .long w)]) (st' := [.long w]) rfl Kz) ?_
  refine jv_Wp.lift (fun _ Kz => jv_Ev.c jv_i63 (pc' := 116) (S' := [.int (0 : Int32)]) jv_i83 [.long w] rfl rfl rfl rfl rfl rfl (vw_l83 ef hb3 rfl) rfl rfl Kz) ?_
  refine jv_Wp.lift (fun _ Kz => jv_Ev.br jv_i63 (pc' := 130) (st' := []) rfl (by rfl) Kz) ?_
  refine jv_Wp.lift (fun _ Kz => jv_Ev.steps jv_i63 5 (pc' := 138) (l' := [(10, .long (Int32.ofInt f.i).toInt64), (8, .long (0 : Int64)), (7, .int (1 : Int32)), (6, .int (vl_I f.d)), (5, .int (Int32.ofInt f.o)), (4, .int (Int32.ofInt f.i)), (3, .int (11 : Int32)), (0, .ref 171), (1, .long w)]) (st' := [.int (11 : Int32), .int (11 : Int32)]) rfl Kz) ?_
  refine jv_Wp.lift (fun _ Kz => jv_Ev.br jv_i63 (pc' := 141) (st' := []) rfl (by rfl) Kz) ?_
  refine jv_Wp.lift (fun _ Kz => jv_Ev.steps jv_i63 1 (pc' := 143) (l' := [(10, .long (Int32.ofInt f.i).toInt64), (8, .long (0 : Int64)), (7, .int (1 : Int32)), (6, .int (vl_I f.d)), (5, .int (Int32.ofInt f.o)), (4, .int (Int32.ofInt f.i)), (3, .int (11 : Int32)), (0, .ref 171), (1, .long w)]) (st' := [.int (Int32.ofInt f.o)]) rfl Kz) ?_
  refine jv_Wp.cnd jv_i63 (pt := 162) (pe := 146) (p := ((Int32.ofInt f.o) ≤ 0)) (q := ((Int32.ofInt f.o) ≤ 0)) rfl jv_bi_le rfl rfl Iff.rfl (fun _ => ?_) (fun hz => absurd (Int32.le_iff_toInt_le.mpr (by rw [vw_dO ef, show (0 : Int32).toInt = 0 from rfl]; omega)) hz)
  refine jv_Wp.lift (fun _ Kz => jv_Ev.steps jv_i63 2 (pc' := 165) (l' := [(10, .long (Int32.ofInt f.i).toInt64), (8, .long (0 : Int64)), (7, .int (1 : Int32)), (6, .int (vl_I f.d)), (5, .int (Int32.ofInt f.o)), (4, .int (Int32.ofInt f.i)), (3, .int (11 : Int32)), (0, .ref 171), (1, .long w)]) (st' := [.int (1 : Int32), .int (Int32.ofInt f.o)]) rfl Kz) ?_
  refine jv_Wp.cnd jv_i63 (pt := 172) (pe := 168) (p := (¬ (Int32.ofInt f.o) = (1 : Int32))) (q := (¬ (Int32.ofInt f.o) = (1 : Int32))) rfl jv_bc_ne rfl rfl Iff.rfl (fun _ => ?_) (fun hz => absurd (fun z => by have := (vm_o1 (vw_dO ef)).mp z; omega) hz)
  refine jv_Wp.lift (fun _ Kz => jv_Ev.steps jv_i63 5 (pc' := 180) (l' := [(12, .int (0 : Int32)), (10, .long (Int32.ofInt f.i).toInt64), (8, .long (0 : Int64)), (7, .int (1 : Int32)), (6, .int (vl_I f.d)), (5, .int (Int32.ofInt f.o)), (4, .int (Int32.ofInt f.i)), (3, .int (11 : Int32)), (0, .ref 171), (1, .long w)]) (st' := [.int (1 : Int32), .int (vl_I f.d), .ref 171]) rfl Kz) ?_
  refine jv_Wp.lift (fun _ Kz => jv_Ev.br jv_i63 (pc' := 183) (st' := [.int (vl_I f.d), .ref 171]) rfl (by rfl) Kz) ?_
  refine jv_Wp.lift (fun _ Kz => jv_Ev.steps jv_i63 4 (pc' := 190) (l' := [(12, .int (0 : Int32)), (10, .long (Int32.ofInt f.i).toInt64), (8, .long (0 : Int64)), (7, .int (1 : Int32)), (6, .int (vl_I f.d)), (5, .int (Int32.ofInt f.o)), (4, .int (Int32.ofInt f.i)), (3, .int (11 : Int32)), (0, .ref 171), (1, .long w)]) (st' := [.int (0 : Int32), .long (Int32.ofInt f.i).toInt64, .long (0 : Int64), .int (11 : Int32), .int (vl_I f.d), .ref 171]) rfl Kz) ?_
  refine jv_Wp.lift (fun _ Kz => jv_Ev.c jv_i63 (pc' := 193) (S' := [.long (Int64.ofBitVec (vm_ck 11 ((0 : Int64)).toBitVec ((Int32.ofInt f.i).toInt64).toBitVec false)), .int (vl_I f.d), .ref 171]) jv_i64 [.int (11 : Int32), .long (0 : Int64), .long (Int32.ofInt f.i).toInt64, .int (0 : Int32)] rfl rfl rfl rfl rfl rfl (vc_reckoned (n := 11) (x := (0 : Int64)) (y := (Int32.ofInt f.i).toInt64) (sg := false) (by decide)) rfl rfl Kz) ?_
  refine jv_Wp.lift (fun _ Kz => jv_Ev.steps jv_i63 1 (pc' := 214) (l' := [(12, .int (0 : Int32)), (10, .long (Int32.ofInt f.i).toInt64), (8, .long (0 : Int64)), (7, .int (1 : Int32)), (6, .int (vl_I f.d)), (5, .int (Int32.ofInt f.o)), (4, .int (Int32.ofInt f.i)), (3, .int (11 : Int32)), (0, .ref 171), (1, .long w)]) (st' := [.long (Int64.ofBitVec (vm_ck 11 ((0 : Int64)).toBitVec ((Int32.ofInt f.i).toInt64).toBitVec false)), .int (vl_I f.d), .ref 171]) rfl Kz) ?_
  refine jv_Wp.lift (fun _ Kz => jv_Ev.c jv_i63 (pc' := 217) (S' := []) (G1 := (jv_H K (jv_u I 171 2 ((I 171 2) ||| ((1 : Int32) <<< ((vl_I f.d) &&& 31)))) (jv_u L 172 f.d (Int64.ofBitVec (vm_ck 11 ((0 : Int64)).toBitVec ((Int32.ofInt f.i).toInt64).toBitVec false))) R)) jv_i54 [.ref 171, .int (vl_I f.d), .long (Int64.ofBitVec (vm_ck 11 ((0 : Int64)).toBitVec ((Int32.ofInt f.i).toInt64).toBitVec false))] rfl rfl rfl rfl (jv_cal rfl (jv_H_at (vm_cK hC 171 2 13 (by decide))) rfl rfl) rfl (vm_cset (I := I) (L := L) (n := n) (sl := sl) (r := f.d) hC (by omega)) rfl rfl Kz) ?_
  refine jv_Wp.of (jv_Ev.ret jv_i63 rfl rfl) ?_
  have ev : (Int64.ofBitVec (vm_ck 11 ((0 : Int64)).toBitVec ((Int32.ofInt f.i).toInt64).toBitVec false)) = Int64.ofBitVec (vx_do f x.toBitVec y.toBitVec (vm_sg f x.toBitVec y.toBitVec)) := congrArg Int64.ofBitVec (by rw [vm_do7m hk hn, if_pos ho0]; show ((Int32.ofInt f.i).toInt64).toBitVec = _; rw [exs])
  rw [hQ, ev]
  exact ⟨_, _, rfl, vc_m_gv h hd, vm_gv_ff (vc_ff_refl _ I L)⟩
theorem vc_reckon7m1r {K : Nat → Option (Nat × Nat)} {I : Nat → Nat → Int32} {L : Nat → Nat → Int64} {R : Nat → Nat → Value} (hC : vm_CW K R) {S T : vm_S} (h : vm_c I L S) {w : Int64} {f : vf_F} (ef : vc_F w = f) (hd : f.d < 11) (hs : f.s < 11) (har : vf_ar f) (hk : f.kind = 7) (hn : f.n = 11) (ho0 : ¬ f.o = 0) (hb3 : f.bit3 = true) (hl : vm_arith f S = some T) {n sl : Nat} : ∃ I1 L1, jv_Ms 63 [.ref 171, .long w] (jv_H K I L R) n sl (none, jv_H K I1 L1 R, n, sl) ∧ vm_c I1 L1 T ∧ vc_ff vm_Er I L I1 L1 := by
  obtain ⟨Q, hQ⟩ : ∃ Q : jv_R → Prop, Q = fun X => ∃ I1 L1, X = (none, jv_H K I1 L1 R, n, sl) ∧ vm_c I1 L1 T ∧ vc_ff vm_Er I L I1 L1 := ⟨_, rfl⟩
  suffices hE : jv_Wp 63 0 [(0, .ref 171), (1, .long w)] [] (jv_H K I L R) n sl Q by
    rw [hQ] at hE
    obtain ⟨X, hE, I1, L1, e, h'⟩ := hE
    subst e
    exact ⟨I1, L1, hE, h'⟩
  obtain ⟨x, y, hx, hy, hT⟩ := vm_arith_dec hl
  subst hT
  have hn256 : f.n < 256 := by have : f.n = f.code / 16 := rfl; have := vw_dc ef; omega
  rw [if_neg (show ¬ f.n = 13 by omega)] at hy
  rw [if_pos hb3] at hy
  obtain ⟨xs, exs⟩ : ∃ xs, xs = y := ⟨y, rfl⟩
  have hgs : vm_rd S f.s = some xs := exs ▸ hy
  have ho3 : f.o.toNat = 8 ∨ f.o.toNat = 16 ∨ f.o.toNat = 32 := by have := har.2.2.2.1 hn ho0; omega
  have hO : Int32.ofInt f.o = vl_I f.o.toNat := vm_oi (vw_dO ef) (by have := har.2.2.2.1 hn ho0; omega) (by omega)
  have ho1 : f.o ≠ 1 := by have := har.2.2.2.1 hn; omega
  refine jv_Wp.lift (fun _ Kz => jv_Ev.steps jv_i63 1 (pc' := 1) (l' := [(0, .ref 171), (1, .long w)]) (st' := [.long w]) rfl Kz) ?_
  refine jv_Wp.lift (fun _ Kz => jv_Ev.c jv_i63 (pc' := 4) (S' := [.int (11 : Int32)]) jv_i82 [.long w] rfl rfl rfl rfl rfl rfl (vw_l82 ef hn rfl) rfl rfl Kz) ?_
  refine jv_Wp.lift (fun _ Kz => jv_Ev.steps jv_i63 2 (pc' := 6) (l' := [(3, .int (11 : Int32)), (0, .ref 171), (1, .long w)]) (st' := [.long w]) rfl Kz) ?_
  refine jv_Wp.lift (fun _ Kz => jv_Ev.c jv_i63 (pc' := 9) (S' := [.int (Int32.ofInt f.i)]) jv_i89 [.long w] rfl rfl rfl rfl rfl rfl (vw_f89 ef) rfl rfl Kz) ?_
  refine jv_Wp.lift (fun _ Kz => jv_Ev.steps jv_i63 2 (pc' := 12) (l' := [(4, .int (Int32.ofInt f.i)), (3, .int (11 : Int32)), (0, .ref 171), (1, .long w)]) (st' := [.long w]) rfl Kz) ?_
  refine jv_Wp.lift (fun _ Kz => jv_Ev.c jv_i63 (pc' := 15) (S' := [.int (Int32.ofInt f.o)]) jv_i88 [.long w] rfl rfl rfl rfl rfl rfl (vw_f88 ef) rfl rfl Kz) ?_
  refine jv_Wp.lift (fun _ Kz => jv_Ev.steps jv_i63 2 (pc' := 18) (l' := [(5, .int (Int32.ofInt f.o)), (4, .int (Int32.ofInt f.i)), (3, .int (11 : Int32)), (0, .ref 171), (1, .long w)]) (st' := [.long w]) rfl Kz) ?_
  refine jv_Wp.lift (fun _ Kz => jv_Ev.c jv_i63 (pc' := 21) (S' := [.int (vl_I f.d)]) jv_i86 [.long w] rfl rfl rfl rfl rfl rfl (vw_f86 ef) rfl rfl Kz) ?_
  refine jv_Wp.lift (fun _ Kz => jv_Ev.steps jv_i63 2 (pc' := 24) (l' := [(6, .int (vl_I f.d)), (5, .int (Int32.ofInt f.o)), (4, .int (Int32.ofInt f.i)), (3, .int (11 : Int32)), (0, .ref 171), (1, .long w)]) (st' := [.long w]) rfl Kz) ?_
  refine jv_Wp.lift (fun _ Kz => jv_Ev.c jv_i63 (pc' := 27) (S' := [.int (7 : Int32)]) jv_i81 [.long w] rfl rfl rfl rfl rfl rfl (vw_l81 ef hk rfl) rfl rfl Kz) ?_
  refine jv_Wp.lift (fun _ Kz => jv_Ev.steps jv_i63 1 (pc' := 29) (l' := [(6, .int (vl_I f.d)), (5, .int (Int32.ofInt f.o)), (4, .int (Int32.ofInt f.i)), (3, .int (11 : Int32)), (0, .ref 171), (1, .long w)]) (st' := [.int (7 : Int32), .int (7 : Int32)]) rfl Kz) ?_
  refine jv_Wp.lift (fun _ Kz => jv_Ev.br jv_i63 (pc' := 32) (st' := []) rfl (by rfl) Kz) ?_
  refine jv_Wp.lift (fun _ Kz => jv_Ev.steps jv_i63 5 (pc' := 42) (l' := [(7, .int (1 : Int32)), (6, .int (vl_I f.d)), (5, .int (Int32.ofInt f.o)), (4, .int (Int32.ofInt f.i)), (3, .int (11 : Int32)), (0, .ref 171), (1, .long w)]) (st' := [.int (11 : Int32), .int (11 : Int32)]) rfl Kz) ?_
  refine jv_Wp.lift (fun _ Kz => jv_Ev.br jv_i63 (pc' := 45) (st' := []) rfl (by rfl) Kz) ?_
  refine jv_Wp.lift (fun _ Kz => jv_Ev.steps jv_i63 5 (pc' := 60) (l' := [(8, .long (0 : Int64)), (7, .int (1 : Int32)), (6, .int (vl_I f.d)), (5, .int (Int32.ofInt f.o)), (4, .int (Int32.ofInt f.i)), (3, .int (11 : Int32)), (0, .ref 171), (1, .long w)]) (st' := [.int (13 : Int32), .int (11 : Int32)]) rfl Kz) ?_
  refine jv_Wp.lift (fun _ Kz => jv_Ev.br jv_i63 (pc' := 112) (st' := []) rfl (by rfl) Kz) ?_
  refine jv_Wp.lift (fun _ Kz => jv_Ev.steps jv_i63 1 (pc' := 113) (l' := [(8, .long (0 : Int64)), (7, .int (1 : Int32)), (6, .int (vl_I f.d)), (5, .int (Int32.ofInt f.o)), (4, .int (Int32.ofInt f.i)), (3, .int (11 : Int32)), (0, .ref 171), (1, .long w)]) (st' := [.long w]) rfl Kz) ?_
  refine jv_Wp.lift (fun _ Kz => jv_Ev.c jv_i63 (pc' := 116) (S' := [.int (1 : Int32)]) jv_i83 [.long w] rfl rfl rfl rfl rfl rfl (vw_l83 ef hb3 rfl) rfl rfl Kz) ?_
  refine jv_Wp.lift (fun _ Kz => jv_Ev.br jv_i63 (pc' := 119) (st' := []) rfl (by rfl) Kz) ?_
  refine jv_Wp.lift (fun _ Kz => jv_Ev.steps jv_i63 2 (pc' := 121) (l' := [(8, .long (0 : Int64)), (7, .int (1 : Int32)), (6, .int (vl_I f.d)), (5, .int (Int32.ofInt f.o)), (4, .int (Int32.ofInt f.i)), (3, .int (11 : Int32)), (0, .ref 171), (1, .long w)]) (st' := [.long w, .ref 171]) rfl Kz) ?_
  refine jv_Wp.lift (fun _ Kz => jv_Ev.c jv_i63 (pc' := 124) (S' := [.int (vl_I f.s), .ref 171]) jv_i87 [.long w] rfl rfl rfl rfl rfl rfl (vw_f87 ef) rfl rfl Kz) ?_
  refine jv_Wp.lift (fun _ Kz => jv_Ev.c jv_i63 (pc' := 127) (S' := [.long xs]) jv_i53 [.ref 171, .int (vl_I f.s)] rfl rfl rfl rfl (jv_cal rfl (jv_H_at (vm_cK hC 171 2 13 (by decide))) rfl rfl) rfl (vm_cget hC h hs hgs) rfl rfl Kz) ?_
  refine jv_Wp.lift (fun _ Kz => jv_Ev.steps jv_i63 4 (pc' := 138) (l' := [(10, .long xs), (8, .long (0 : Int64)), (7, .int (1 : Int32)), (6, .int (vl_I f.d)), (5, .int (Int32.ofInt f.o)), (4, .int (Int32.ofInt f.i)), (3, .int (11 : Int32)), (0, .ref 171), (1, .long w)]) (st' := [.int (11 : Int32), .int (11 : Int32)]) rfl Kz) ?_
  refine jv_Wp.lift (fun _ Kz => jv_Ev.br jv_i63 (pc' := 141) (st' := []) rfl (by rfl) Kz) ?_
  refine jv_Wp.lift (fun _ Kz => jv_Ev.steps jv_i63 1 (pc' := 143) (l' := [(10, .long xs), (8, .long (0 : Int64)), (7, .int (1 : Int32)), (6, .int (vl_I f.d)), (5, .int (Int32.ofInt f.o)), (4, .int (Int32.ofInt f.i)), (3, .int (11 : Int32)), (0, .ref 171), (1, .long w)]) (st' := [.int (Int32.ofInt f.o)]) rfl Kz) ?_
  refine jv_Wp.cnd jv_i63 (pt := 162) (pe := 146) (p := ((Int32.ofInt f.o) ≤ 0)) (q := ((Int32.ofInt f.o) ≤ 0)) rfl jv_bi_le rfl rfl Iff.rfl (fun hz => absurd hz (fun z => by have z := Int32.le_iff_toInt_le.mp z; rw [vw_dO ef, show (0 : Int32).toInt = 0 from rfl] at z; omega)) (fun _ => ?_)
  refine jv_Wp.lift (fun _ Kz => jv_Ev.steps jv_i63 12 (pc' := 165) (l' := [(10, .long ((xs <<< (((64 : Int32) - (Int32.ofInt f.o)).toInt64 &&& 63)) >>> (((64 : Int32) - (Int32.ofInt f.o)).toInt64 &&& 63))), (8, .long (0 : Int64)), (7, .int (1 : Int32)), (6, .int (vl_I f.d)), (5, .int (Int32.ofInt f.o)), (4, .int (Int32.ofInt f.i)), (3, .int (11 : Int32)), (0, .ref 171), (1, .long w)]) (st' := [.int (1 : Int32), .int (Int32.ofInt f.o)]) rfl Kz) ?_
  refine jv_Wp.cnd jv_i63 (pt := 172) (pe := 168) (p := (¬ (Int32.ofInt f.o) = (1 : Int32))) (q := (¬ (Int32.ofInt f.o) = (1 : Int32))) rfl jv_bc_ne rfl rfl Iff.rfl (fun _ => ?_) (fun hz => absurd (fun z => by have := (vm_o1 (vw_dO ef)).mp z; omega) hz)
  refine jv_Wp.lift (fun _ Kz => jv_Ev.steps jv_i63 5 (pc' := 180) (l' := [(12, .int (0 : Int32)), (10, .long ((xs <<< (((64 : Int32) - (Int32.ofInt f.o)).toInt64 &&& 63)) >>> (((64 : Int32) - (Int32.ofInt f.o)).toInt64 &&& 63))), (8, .long (0 : Int64)), (7, .int (1 : Int32)), (6, .int (vl_I f.d)), (5, .int (Int32.ofInt f.o)), (4, .int (Int32.ofInt f.i)), (3, .int (11 : Int32)), (0, .ref 171), (1, .long w)]) (st' := [.int (1 : Int32), .int (vl_I f.d), .ref 171]) rfl Kz) ?_
  refine jv_Wp.lift (fun _ Kz => jv_Ev.br jv_i63 (pc' := 183) (st' := [.int (vl_I f.d), .ref 171]) rfl (by rfl) Kz) ?_
  refine jv_Wp.lift (fun _ Kz => jv_Ev.steps jv_i63 4 (pc' := 190) (l' := [(12, .int (0 : Int32)), (10, .long ((xs <<< (((64 : Int32) - (Int32.ofInt f.o)).toInt64 &&& 63)) >>> (((64 : Int32) - (Int32.ofInt f.o)).toInt64 &&& 63))), (8, .long (0 : Int64)), (7, .int (1 : Int32)), (6, .int (vl_I f.d)), (5, .int (Int32.ofInt f.o)), (4, .int (Int32.ofInt f.i)), (3, .int (11 : Int32)), (0, .ref 171), (1, .long w)]) (st' := [.int (0 : Int32), .long ((xs <<< (((64 : Int32) - (Int32.ofInt f.o)).toInt64 &&& 63)) >>> (((64 : Int32) - (Int32.ofInt f.o)).toInt64 &&& 63)), .long (0 : Int64), .int (11 : Int32), .int (vl_I f.d), .ref 171]) rfl Kz) ?_
  refine jv_Wp.lift (fun _ Kz => jv_Ev.c jv_i63 (pc' := 193) (S' := [.long (Int64.ofBitVec (vm_ck 11 ((0 : Int64)).toBitVec (((xs <<< (((64 : Int32) - (Int32.ofInt f.o)).toInt64 &&& 63)) >>> (((64 : Int32) - (Int32.ofInt f.o)).toInt64 &&& 63))).toBitVec false)), .int (vl_I f.d), .ref 171]) jv_i64 [.int (11 : Int32), .long (0 : Int64), .long ((xs <<< (((64 : Int32) - (Int32.ofInt f.o)).toInt64 &&& 63)) >>> (((64 : Int32) - (Int32.ofInt f.o)).toInt64 &&& 63)), .int (0 : Int32)] rfl rfl rfl rfl rfl rfl (vc_reckoned (n := 11) (x := (0 : Int64)) (y := ((xs <<< (((64 : Int32) - (Int32.ofInt f.o)).toInt64 &&& 63)) >>> (((64 : Int32) - (Int32.ofInt f.o)).toInt64 &&& 63))) (sg := false) (by decide)) rfl rfl Kz) ?_
  refine jv_Wp.lift (fun _ Kz => jv_Ev.steps jv_i63 1 (pc' := 214) (l' := [(12, .int (0 : Int32)), (10, .long ((xs <<< (((64 : Int32) - (Int32.ofInt f.o)).toInt64 &&& 63)) >>> (((64 : Int32) - (Int32.ofInt f.o)).toInt64 &&& 63))), (8, .long (0 : Int64)), (7, .int (1 : Int32)), (6, .int (vl_I f.d)), (5, .int (Int32.ofInt f.o)), (4, .int (Int32.ofInt f.i)), (3, .int (11 : Int32)), (0, .ref 171), (1, .long w)]) (st' := [.long (Int64.ofBitVec (vm_ck 11 ((0 : Int64)).toBitVec (((xs <<< (((64 : Int32) - (Int32.ofInt f.o)).toInt64 &&& 63)) >>> (((64 : Int32) - (Int32.ofInt f.o)).toInt64 &&& 63))).toBitVec false)), .int (vl_I f.d), .ref 171]) rfl Kz) ?_
  refine jv_Wp.lift (fun _ Kz => jv_Ev.c jv_i63 (pc' := 217) (S' := []) (G1 := (jv_H K (jv_u I 171 2 ((I 171 2) ||| ((1 : Int32) <<< ((vl_I f.d) &&& 31)))) (jv_u L 172 f.d (Int64.ofBitVec (vm_ck 11 ((0 : Int64)).toBitVec (((xs <<< (((64 : Int32) - (Int32.ofInt f.o)).toInt64 &&& 63)) >>> (((64 : Int32) - (Int32.ofInt f.o)).toInt64 &&& 63))).toBitVec false))) R)) jv_i54 [.ref 171, .int (vl_I f.d), .long (Int64.ofBitVec (vm_ck 11 ((0 : Int64)).toBitVec (((xs <<< (((64 : Int32) - (Int32.ofInt f.o)).toInt64 &&& 63)) >>> (((64 : Int32) - (Int32.ofInt f.o)).toInt64 &&& 63))).toBitVec false))] rfl rfl rfl rfl (jv_cal rfl (jv_H_at (vm_cK hC 171 2 13 (by decide))) rfl rfl) rfl (vm_cset (I := I) (L := L) (n := n) (sl := sl) (r := f.d) hC (by omega)) rfl rfl Kz) ?_
  refine jv_Wp.of (jv_Ev.ret jv_i63 rfl rfl) ?_
  have ev : (Int64.ofBitVec (vm_ck 11 ((0 : Int64)).toBitVec (((xs <<< (((64 : Int32) - (Int32.ofInt f.o)).toInt64 &&& 63)) >>> (((64 : Int32) - (Int32.ofInt f.o)).toInt64 &&& 63))).toBitVec false)) = Int64.ofBitVec (vx_do f x.toBitVec y.toBitVec (vm_sg f x.toBitVec y.toBitVec)) := congrArg Int64.ofBitVec (by rw [vm_do7m hk hn, if_neg ho0]; show (((xs <<< (((64 : Int32) - (Int32.ofInt f.o)).toInt64 &&& 63)) >>> (((64 : Int32) - (Int32.ofInt f.o)).toInt64 &&& 63))).toBitVec = _; rw [vm_shoE ho3 hO, exs]; rfl)
  rw [hQ, ev]
  exact ⟨_, _, rfl, vc_m_gv h hd, vm_gv_ff (vc_ff_refl _ I L)⟩
theorem vc_reckon7m1i {K : Nat → Option (Nat × Nat)} {I : Nat → Nat → Int32} {L : Nat → Nat → Int64} {R : Nat → Nat → Value} (hC : vm_CW K R) {S T : vm_S} (h : vm_c I L S) {w : Int64} {f : vf_F} (ef : vc_F w = f) (hd : f.d < 11) (hs : f.s < 11) (har : vf_ar f) (hk : f.kind = 7) (hn : f.n = 11) (ho0 : ¬ f.o = 0) (hb3 : f.bit3 = false) (hl : vm_arith f S = some T) {n sl : Nat} : ∃ I1 L1, jv_Ms 63 [.ref 171, .long w] (jv_H K I L R) n sl (none, jv_H K I1 L1 R, n, sl) ∧ vm_c I1 L1 T ∧ vc_ff vm_Er I L I1 L1 := by
  obtain ⟨Q, hQ⟩ : ∃ Q : jv_R → Prop, Q = fun X => ∃ I1 L1, X = (none, jv_H K I1 L1 R, n, sl) ∧ vm_c I1 L1 T ∧ vc_ff vm_Er I L I1 L1 := ⟨_, rfl⟩
  suffices hE : jv_Wp 63 0 [(0, .ref 171), (1, .long w)] [] (jv_H K I L R) n sl Q by
    rw [hQ] at hE
    obtain ⟨X, hE, I1, L1, e, h'⟩ := hE
    subst e
    exact ⟨I1, L1, hE, h'⟩
  obtain ⟨x, y, hx, hy, hT⟩ := vm_arith_dec hl
  subst hT
  have hn256 : f.n < 256 := by have : f.n = f.code / 16 := rfl; have := vw_dc ef; omega
  rw [if_neg (show ¬ f.n = 13 by omega)] at hy
  rw [if_neg (by rw [hb3]; decide)] at hy
  have exs : (Int32.ofInt f.i).toInt64 = y := (vm_io (vw_dQ ef)).trans (Option.some.inj hy)
  have ho3 : f.o.toNat = 8 ∨ f.o.toNat = 16 ∨ f.o.toNat = 32 := by have := har.2.2.2.1 hn ho0; omega
  have hO : Int32.ofInt f.o = vl_I f.o.toNat := vm_oi (vw_dO ef) (by have := har.2.2.2.1 hn ho0; omega) (by omega)
  have ho1 : f.o ≠ 1 := by have := har.2.2.2.1 hn; omega
  refine jv_Wp.lift (fun _ Kz => jv_Ev.steps jv_i63 1 (pc' := 1) (l' := [(0, .ref 171), (1, .long w)]) (st' := [.long w]) rfl Kz) ?_
  refine jv_Wp.lift (fun _ Kz => jv_Ev.c jv_i63 (pc' := 4) (S' := [.int (11 : Int32)]) jv_i82 [.long w] rfl rfl rfl rfl rfl rfl (vw_l82 ef hn rfl) rfl rfl Kz) ?_
  refine jv_Wp.lift (fun _ Kz => jv_Ev.steps jv_i63 2 (pc' := 6) (l' := [(3, .int (11 : Int32)), (0, .ref 171), (1, .long w)]) (st' := [.long w]) rfl Kz) ?_
  refine jv_Wp.lift (fun _ Kz => jv_Ev.c jv_i63 (pc' := 9) (S' := [.int (Int32.ofInt f.i)]) jv_i89 [.long w] rfl rfl rfl rfl rfl rfl (vw_f89 ef) rfl rfl Kz) ?_
  refine jv_Wp.lift (fun _ Kz => jv_Ev.steps jv_i63 2 (pc' := 12) (l' := [(4, .int (Int32.ofInt f.i)), (3, .int (11 : Int32)), (0, .ref 171), (1, .long w)]) (st' := [.long w]) rfl Kz) ?_
  refine jv_Wp.lift (fun _ Kz => jv_Ev.c jv_i63 (pc' := 15) (S' := [.int (Int32.ofInt f.o)]) jv_i88 [.long w] rfl rfl rfl rfl rfl rfl (vw_f88 ef) rfl rfl Kz) ?_
  refine jv_Wp.lift (fun _ Kz => jv_Ev.steps jv_i63 2 (pc' := 18) (l' := [(5, .int (Int32.ofInt f.o)), (4, .int (Int32.ofInt f.i)), (3, .int (11 : Int32)), (0, .ref 171), (1, .long w)]) (st' := [.long w]) rfl Kz) ?_
  refine jv_Wp.lift (fun _ Kz => jv_Ev.c jv_i63 (pc' := 21) (S' := [.int (vl_I f.d)]) jv_i86 [.long w] rfl rfl rfl rfl rfl rfl (vw_f86 ef) rfl rfl Kz) ?_
  refine jv_Wp.lift (fun _ Kz => jv_Ev.steps jv_i63 2 (pc' := 24) (l' := [(6, .int (vl_I f.d)), (5, .int (Int32.ofInt f.o)), (4, .int (Int32.ofInt f.i)), (3, .int (11 : Int32)), (0, .ref 171), (1, .long w)]) (st' := [.long w]) rfl Kz) ?_
  refine jv_Wp.lift (fun _ Kz => jv_Ev.c jv_i63 (pc' := 27) (S' := [.int (7 : Int32)]) jv_i81 [.long w] rfl rfl rfl rfl rfl rfl (vw_l81 ef hk rfl) rfl rfl Kz) ?_
  refine jv_Wp.lift (fun _ Kz => jv_Ev.steps jv_i63 1 (pc' := 29) (l' := [(6, .int (vl_I f.d)), (5, .int (Int32.ofInt f.o)), (4, .int (Int32.ofInt f.i)), (3, .int (11 : Int32)), (0, .ref 171), (1, .long w)]) (st' := [.int (7 : Int32), .int (7 : Int32)]) rfl Kz) ?_
  refine jv_Wp.lift (fun _ Kz => jv_Ev.br jv_i63 (pc' := 32) (st' := []) rfl (by rfl) Kz) ?_
  refine jv_Wp.lift (fun _ Kz => jv_Ev.steps jv_i63 5 (pc' := 42) (l' := [(7, .int (1 : Int32)), (6, .int (vl_I f.d)), (5, .int (Int32.ofInt f.o)), (4, .int (Int32.ofInt f.i)), (3, .int (11 : Int32)), (0, .ref 171), (1, .long w)]) (st' := [.int (11 : Int32), .int (11 : Int32)]) rfl Kz) ?_
  refine jv_Wp.lift (fun _ Kz => jv_Ev.br jv_i63 (pc' := 45) (st' := []) rfl (by rfl) Kz) ?_
  refine jv_Wp.lift (fun _ Kz => jv_Ev.steps jv_i63 5 (pc' := 60) (l' := [(8, .long (0 : Int64)), (7, .int (1 : Int32)), (6, .int (vl_I f.d)), (5, .int (Int32.ofInt f.o)), (4, .int (Int32.ofInt f.i)), (3, .int (11 : Int32)), (0, .ref 171), (1, .long w)]) (st' := [.int (13 : Int32), .int (11 : Int32)]) rfl Kz) ?_
  refine jv_Wp.lift (fun _ Kz => jv_Ev.br jv_i63 (pc' := 112) (st' := []) rfl (by rfl) Kz) ?_
  refine jv_Wp.lift (fun _ Kz => jv_Ev.steps jv_i63 1 (pc' := 113) (l' := [(8, .long (0 : Int64)), (7, .int (1 : Int32)), (6, .int (vl_I f.d)), (5, .int (Int32.ofInt f.o)), (4, .int (Int32.ofInt f.i)), (3, .int (11 : Int32)), (0, .ref 171), (1, .long w)]) (st' := [.long w]) rfl Kz) ?_
  refine jv_Wp.lift (fun _ Kz => jv_Ev.c jv_i63 (pc' := 116) (S' := [.int (0 : Int32)]) jv_i83 [.long w] rfl rfl rfl rfl rfl rfl (vw_l83 ef hb3 rfl) rfl rfl Kz) ?_
  refine jv_Wp.lift (fun _ Kz => jv_Ev.br jv_i63 (pc' := 130) (st' := []) rfl (by rfl) Kz) ?_
  refine jv_Wp.lift (fun _ Kz => jv_Ev.steps jv_i63 5 (pc' := 138) (l' := [(10, .long (Int32.ofInt f.i).toInt64), (8, .long (0 : Int64)), (7, .int (1 : Int32)), (6, .int (vl_I f.d)), (5, .int (Int32.ofInt f.o)), (4, .int (Int32.ofInt f.i)), (3, .int (11 : Int32)), (0, .ref 171), (1, .long w)]) (st' := [.int (11 : Int32), .int (11 : Int32)]) rfl Kz) ?_
  refine jv_Wp.lift (fun _ Kz => jv_Ev.br jv_i63 (pc' := 141) (st' := []) rfl (by rfl) Kz) ?_
  refine jv_Wp.lift (fun _ Kz => jv_Ev.steps jv_i63 1 (pc' := 143) (l' := [(10, .long (Int32.ofInt f.i).toInt64), (8, .long (0 : Int64)), (7, .int (1 : Int32)), (6, .int (vl_I f.d)), (5, .int (Int32.ofInt f.o)), (4, .int (Int32.ofInt f.i)), (3, .int (11 : Int32)), (0, .ref 171), (1, .long w)]) (st' := [.int (Int32.ofInt f.o)]) rfl Kz) ?_
  refine jv_Wp.cnd jv_i63 (pt := 162) (pe := 146) (p := ((Int32.ofInt f.o) ≤ 0)) (q := ((Int32.ofInt f.o) ≤ 0)) rfl jv_bi_le rfl rfl Iff.rfl (fun hz => absurd hz (fun z => by have z := Int32.le_iff_toInt_le.mp z; rw [vw_dO ef, show (0 : Int32).toInt = 0 from rfl] at z; omega)) (fun _ => ?_)
  refine jv_Wp.lift (fun _ Kz => jv_Ev.steps jv_i63 12 (pc' := 165) (l' := [(10, .long (((Int32.ofInt f.i).toInt64 <<< (((64 : Int32) - (Int32.ofInt f.o)).toInt64 &&& 63)) >>> (((64 : Int32) - (Int32.ofInt f.o)).toInt64 &&& 63))), (8, .long (0 : Int64)), (7, .int (1 : Int32)), (6, .int (vl_I f.d)), (5, .int (Int32.ofInt f.o)), (4, .int (Int32.ofInt f.i)), (3, .int (11 : Int32)), (0, .ref 171), (1, .long w)]) (st' := [.int (1 : Int32), .int (Int32.ofInt f.o)]) rfl Kz) ?_
  refine jv_Wp.cnd jv_i63 (pt := 172) (pe := 168) (p := (¬ (Int32.ofInt f.o) = (1 : Int32))) (q := (¬ (Int32.ofInt f.o) = (1 : Int32))) rfl jv_bc_ne rfl rfl Iff.rfl (fun _ => ?_) (fun hz => absurd (fun z => by have := (vm_o1 (vw_dO ef)).mp z; omega) hz)
  refine jv_Wp.lift (fun _ Kz => jv_Ev.steps jv_i63 5 (pc' := 180) (l' := [(12, .int (0 : Int32)), (10, .long (((Int32.ofInt f.i).toInt64 <<< (((64 : Int32) - (Int32.ofInt f.o)).toInt64 &&& 63)) >>> (((64 : Int32) - (Int32.ofInt f.o)).toInt64 &&& 63))), (8, .long (0 : Int64)), (7, .int (1 : Int32)), (6, .int (vl_I f.d)), (5, .int (Int32.ofInt f.o)), (4, .int (Int32.ofInt f.i)), (3, .int (11 : Int32)), (0, .ref 171), (1, .long w)]) (st' := [.int (1 : Int32), .int (vl_I f.d), .ref 171]) rfl Kz) ?_
  refine jv_Wp.lift (fun _ Kz => jv_Ev.br jv_i63 (pc' := 183) (st' := [.int (vl_I f.d), .ref 171]) rfl (by rfl) Kz) ?_
  refine jv_Wp.lift (fun _ Kz => jv_Ev.steps jv_i63 4 (pc' := 190) (l' := [(12, .int (0 : Int32)), (10, .long (((Int32.ofInt f.i).toInt64 <<< (((64 : Int32) - (Int32.ofInt f.o)).toInt64 &&& 63)) >>> (((64 : Int32) - (Int32.ofInt f.o)).toInt64 &&& 63))), (8, .long (0 : Int64)), (7, .int (1 : Int32)), (6, .int (vl_I f.d)), (5, .int (Int32.ofInt f.o)), (4, .int (Int32.ofInt f.i)), (3, .int (11 : Int32)), (0, .ref 171), (1, .long w)]) (st' := [.int (0 : Int32), .long (((Int32.ofInt f.i).toInt64 <<< (((64 : Int32) - (Int32.ofInt f.o)).toInt64 &&& 63)) >>> (((64 : Int32) - (Int32.ofInt f.o)).toInt64 &&& 63)), .long (0 : Int64), .int (11 : Int32), .int (vl_I f.d), .ref 171]) rfl Kz) ?_
  refine jv_Wp.lift (fun _ Kz => jv_Ev.c jv_i63 (pc' := 193) (S' := [.long (Int64.ofBitVec (vm_ck 11 ((0 : Int64)).toBitVec ((((Int32.ofInt f.i).toInt64 <<< (((64 : Int32) - (Int32.ofInt f.o)).toInt64 &&& 63)) >>> (((64 : Int32) - (Int32.ofInt f.o)).toInt64 &&& 63))).toBitVec false)), .int (vl_I f.d), .ref 171]) jv_i64 [.int (11 : Int32), .long (0 : Int64), .long (((Int32.ofInt f.i).toInt64 <<< (((64 : Int32) - (Int32.ofInt f.o)).toInt64 &&& 63)) >>> (((64 : Int32) - (Int32.ofInt f.o)).toInt64 &&& 63)), .int (0 : Int32)] rfl rfl rfl rfl rfl rfl (vc_reckoned (n := 11) (x := (0 : Int64)) (y := (((Int32.ofInt f.i).toInt64 <<< (((64 : Int32) - (Int32.ofInt f.o)).toInt64 &&& 63)) >>> (((64 : Int32) - (Int32.ofInt f.o)).toInt64 &&& 63))) (sg := false) (by decide)) rfl rfl Kz) ?_
  refine jv_Wp.lift (fun _ Kz => jv_Ev.steps jv_i63 1 (pc' := 214) (l' := [(12, .int (0 : Int32)), (10, .long (((Int32.ofInt f.i).toInt64 <<< (((64 : Int32) - (Int32.ofInt f.o)).toInt64 &&& 63)) >>> (((64 : Int32) - (Int32.ofInt f.o)).toInt64 &&& 63))), (8, .long (0 : Int64)), (7, .int (1 : Int32)), (6, .int (vl_I f.d)), (5, .int (Int32.ofInt f.o)), (4, .int (Int32.ofInt f.i)), (3, .int (11 : Int32)), (0, .ref 171), (1, .long w)]) (st' := [.long (Int64.ofBitVec (vm_ck 11 ((0 : Int64)).toBitVec ((((Int32.ofInt f.i).toInt64 <<< (((64 : Int32) - (Int32.ofInt f.o)).toInt64 &&& 63)) >>> (((64 : Int32) - (Int32.ofInt f.o)).toInt64 &&& 63))).toBitVec false)), .int (vl_I f.d), .ref 171]) rfl Kz) ?_
  refine jv_Wp.lift (fun _ Kz => jv_Ev.c jv_i63 (pc' := 217) (S' := []) (G1 := (jv_H K (jv_u I 171 2 ((I 171 2) ||| ((1 : Int32) <<< ((vl_I f.d) &&& 31)))) (jv_u L 172 f.d (Int64.ofBitVec (vm_ck 11 ((0 : Int64)).toBitVec ((((Int32.ofInt f.i).toInt64 <<< (((64 : Int32) - (Int32.ofInt f.o)).toInt64 &&& 63)) >>> (((64 : Int32) - (Int32.ofInt f.o)).toInt64 &&& 63))).toBitVec false))) R)) jv_i54 [.ref 171, .int (vl_I f.d), .long (Int64.ofBitVec (vm_ck 11 ((0 : Int64)).toBitVec ((((Int32.ofInt f.i).toInt64 <<< (((64 : Int32) - (Int32.ofInt f.o)).toInt64 &&& 63)) >>> (((64 : Int32) - (Int32.ofInt f.o)).toInt64 &&& 63))).toBitVec false))] rfl rfl rfl rfl (jv_cal rfl (jv_H_at (vm_cK hC 171 2 13 (by decide))) rfl rfl) rfl (vm_cset (I := I) (L := L) (n := n) (sl := sl) (r := f.d) hC (by omega)) rfl rfl Kz) ?_
  refine jv_Wp.of (jv_Ev.ret jv_i63 rfl rfl) ?_
  have ev : (Int64.ofBitVec (vm_ck 11 ((0 : Int64)).toBitVec ((((Int32.ofInt f.i).toInt64 <<< (((64 : Int32) - (Int32.ofInt f.o)).toInt64 &&& 63)) >>> (((64 : Int32) - (Int32.ofInt f.o)).toInt64 &&& 63))).toBitVec false)) = Int64.ofBitVec (vx_do f x.toBitVec y.toBitVec (vm_sg f x.toBitVec y.toBitVec)) := congrArg Int64.ofBitVec (by rw [vm_do7m hk hn, if_neg ho0]; show ((((Int32.ofInt f.i).toInt64 <<< (((64 : Int32) - (Int32.ofInt f.o)).toInt64 &&& 63)) >>> (((64 : Int32) - (Int32.ofInt f.o)).toInt64 &&& 63))).toBitVec = _; rw [vm_shoE ho3 hO, exs]; rfl)
  rw [hQ, ev]
  exact ⟨_, _, rfl, vc_m_gv h hd, vm_gv_ff (vc_ff_refl _ I L)⟩
theorem vc_reckon7or {K : Nat → Option (Nat × Nat)} {I : Nat → Nat → Int32} {L : Nat → Nat → Int64} {R : Nat → Nat → Value} (hC : vm_CW K R) {S T : vm_S} (h : vm_c I L S) {w : Int64} {f : vf_F} (ef : vc_F w = f) (hd : f.d < 11) (hs : f.s < 11) (har : vf_ar f) (hk : f.kind = 7) (hn11 : f.n ≠ 11) (hn13 : f.n ≠ 13) (hb3 : f.bit3 = true) (hl : vm_arith f S = some T) {n sl : Nat} : ∃ I1 L1, jv_Ms 63 [.ref 171, .long w] (jv_H K I L R) n sl (none, jv_H K I1 L1 R, n, sl) ∧ vm_c I1 L1 T ∧ vc_ff vm_Er I L I1 L1 := by
  obtain ⟨Q, hQ⟩ : ∃ Q : jv_R → Prop, Q = fun X => ∃ I1 L1, X = (none, jv_H K I1 L1 R, n, sl) ∧ vm_c I1 L1 T ∧ vc_ff vm_Er I L I1 L1 := ⟨_, rfl⟩
  suffices hE : jv_Wp 63 0 [(0, .ref 171), (1, .long w)] [] (jv_H K I L R) n sl Q by
    rw [hQ] at hE
    obtain ⟨X, hE, I1, L1, e, h'⟩ := hE
    subst e
    exact ⟨I1, L1, hE, h'⟩
  obtain ⟨x, y, hx, hy, hT⟩ := vm_arith_dec hl
  subst hT
  have hn256 : f.n < 256 := by have : f.n = f.code / 16 := rfl; have := vw_dc ef; omega
  rw [if_neg (show ¬ f.n = 11 by omega)] at hx
  obtain ⟨xd, exd⟩ : ∃ xd, xd = x := ⟨x, rfl⟩
  have hgd : vm_rd S f.d = some xd := exd ▸ hx
  rw [if_neg (show ¬ f.n = 13 by omega)] at hy
  rw [if_pos hb3] at hy
  obtain ⟨xs, exs⟩ : ∃ xs, xs = y := ⟨y, rfl⟩
  have hgs : vm_rd S f.s = some xs := exs ▸ hy
  have hn12 : f.n ≤ 12 := by have := har.1; omega
  refine jv_Wp.lift (fun _ Kz => jv_Ev.steps jv_i63 1 (pc' := 1) (l' := [(0, .ref 171), (1, .long w)]) (st' := [.long w]) rfl Kz) ?_
  refine jv_Wp.lift (fun _ Kz => jv_Ev.c jv_i63 (pc' := 4) (S' := [.int (vl_I f.n)]) jv_i82 [.long w] rfl rfl rfl rfl rfl rfl (vw_f82 ef) rfl rfl Kz) ?_
  refine jv_Wp.lift (fun _ Kz => jv_Ev.steps jv_i63 2 (pc' := 6) (l' := [(3, .int (vl_I f.n)), (0, .ref 171), (1, .long w)]) (st' := [.long w]) rfl Kz) ?_
  refine jv_Wp.lift (fun _ Kz => jv_Ev.c jv_i63 (pc' := 9) (S' := [.int (Int32.ofInt f.i)]) jv_i89 [.long w] rfl rfl rfl rfl rfl rfl (vw_f89 ef) rfl rfl Kz) ?_
  refine jv_Wp.lift (fun _ Kz => jv_Ev.steps jv_i63 2 (pc' := 12) (l' := [(4, .int (Int32.ofInt f.i)), (3, .int (vl_I f.n)), (0, .ref 171), (1, .long w)]) (st' := [.long w]) rfl Kz) ?_
  refine jv_Wp.lift (fun _ Kz => jv_Ev.c jv_i63 (pc' := 15) (S' := [.int (Int32.ofInt f.o)]) jv_i88 [.long w] rfl rfl rfl rfl rfl rfl (vw_f88 ef) rfl rfl Kz) ?_
  refine jv_Wp.lift (fun _ Kz => jv_Ev.steps jv_i63 2 (pc' := 18) (l' := [(5, .int (Int32.ofInt f.o)), (4, .int (Int32.ofInt f.i)), (3, .int (vl_I f.n)), (0, .ref 171), (1, .long w)]) (st' := [.long w]) rfl Kz) ?_
  refine jv_Wp.lift (fun _ Kz => jv_Ev.c jv_i63 (pc' := 21) (S' := [.int (vl_I f.d)]) jv_i86 [.long w] rfl rfl rfl rfl rfl rfl (vw_f86 ef) rfl rfl Kz) ?_
  refine jv_Wp.lift (fun _ Kz => jv_Ev.steps jv_i63 2 (pc' := 24) (l' := [(6, .int (vl_I f.d)), (5, .int (Int32.ofInt f.o)), (4, .int (Int32.ofInt f.i)), (3, .int (vl_I f.n)), (0, .ref 171), (1, .long w)]) (st' := [.long w]) rfl Kz) ?_
  refine jv_Wp.lift (fun _ Kz => jv_Ev.c jv_i63 (pc' := 27) (S' := [.int (7 : Int32)]) jv_i81 [.long w] rfl rfl rfl rfl rfl rfl (vw_l81 ef hk rfl) rfl rfl Kz) ?_
  refine jv_Wp.lift (fun _ Kz => jv_Ev.steps jv_i63 1 (pc' := 29) (l' := [(6, .int (vl_I f.d)), (5, .int (Int32.ofInt f.o)), (4, .int (Int32.ofInt f.i)), (3, .int (vl_I f.n)), (0, .ref 171), (1, .long w)]) (st' := [.int (7 : Int32), .int (7 : Int32)]) rfl Kz) ?_
  refine jv_Wp.lift (fun _ Kz => jv_Ev.br jv_i63 (pc' := 32) (st' := []) rfl (by rfl) Kz) ?_
  refine jv_Wp.lift (fun _ Kz => jv_Ev.steps jv_i63 5 (pc' := 42) (l' := [(7, .int (1 : Int32)), (6, .int (vl_I f.d)), (5, .int (Int32.ofInt f.o)), (4, .int (Int32.ofInt f.i)), (3, .int (vl_I f.n)), (0, .ref 171), (1, .long w)]) (st' := [.int (11 : Int32), .int (vl_I f.n)]) rfl Kz) ?_
  refine jv_Wp.cnd jv_i63 (pt := 49) (pe := 45) (p := (¬ (vl_I f.n) = (11 : Int32))) (q := (¬ (vl_I f.n) = (11 : Int32))) rfl jv_bc_ne rfl rfl Iff.rfl (fun _ => ?_) (fun hz => absurd (fun z => hn11 ((vl_I_inj (a := f.n) (b := 11) (by omega) (by decide)).mp z)) hz)
  refine jv_Wp.lift (fun _ Kz => jv_Ev.steps jv_i63 2 (pc' := 52) (l' := [(7, .int (1 : Int32)), (6, .int (vl_I f.d)), (5, .int (Int32.ofInt f.o)), (4, .int (Int32.ofInt f.i)), (3, .int (vl_I f.n)), (0, .ref 171), (1, .long w)]) (st' := [.int (vl_I f.d), .ref 171]) rfl Kz) ?_
  refine jv_Wp.lift (fun _ Kz => jv_Ev.c jv_i63 (pc' := 55) (S' := [.long xd]) jv_i53 [.ref 171, .int (vl_I f.d)] rfl rfl rfl rfl (jv_cal rfl (jv_H_at (vm_cK hC 171 2 13 (by decide))) rfl rfl) rfl (vm_cget hC h hd hgd) rfl rfl Kz) ?_
  refine jv_Wp.lift (fun _ Kz => jv_Ev.steps jv_i63 3 (pc' := 60) (l' := [(8, .long xd), (7, .int (1 : Int32)), (6, .int (vl_I f.d)), (5, .int (Int32.ofInt f.o)), (4, .int (Int32.ofInt f.i)), (3, .int (vl_I f.n)), (0, .ref 171), (1, .long w)]) (st' := [.int (13 : Int32), .int (vl_I f.n)]) rfl Kz) ?_
  refine jv_Wp.cnd jv_i63 (pt := 112) (pe := 63) (p := (¬ (vl_I f.n) = (13 : Int32))) (q := (¬ (vl_I f.n) = (13 : Int32))) rfl jv_bc_ne rfl rfl Iff.rfl (fun _ => ?_) (fun hz => absurd (fun z => hn13 ((vl_I_inj (a := f.n) (b := 13) (by omega) (by decide)).mp z)) hz)
  refine jv_Wp.lift (fun _ Kz => jv_Ev.steps jv_i63 1 (pc' := 113) (l' := [(8, .long xd), (7, .int (1 : Int32)), (6, .int (vl_I f.d)), (5, .int (Int32.ofInt f.o)), (4, .int (Int32.ofInt f.i)), (3, .int (vl_I f.n)), (0, .ref 171), (1, .long w)]) (st' := [.long w]) rfl Kz) ?_
  refine jv_Wp.lift (fun _ Kz => jv_Ev.c jv_i63 (pc' := 116) (S' := [.int (1 : Int32)]) jv_i83 [.long w] rfl rfl rfl rfl rfl rfl (vw_l83 ef hb3 rfl) rfl rfl Kz) ?_
  refine jv_Wp.lift (fun _ Kz => jv_Ev.br jv_i63 (pc' := 119) (st' := []) rfl (by rfl) Kz) ?_
  refine jv_Wp.lift (fun _ Kz => jv_Ev.steps jv_i63 2 (pc' := 121) (l' := [(8, .long xd), (7, .int (1 : Int32)), (6, .int (vl_I f.d)), (5, .int (Int32.ofInt f.o)), (4, .int (Int32.ofInt f.i)), (3, .int (vl_I f.n)), (0, .ref 171), (1, .long w)]) (st' := [.long w, .ref 171]) rfl Kz) ?_
  refine jv_Wp.lift (fun _ Kz => jv_Ev.c jv_i63 (pc' := 124) (S' := [.int (vl_I f.s), .ref 171]) jv_i87 [.long w] rfl rfl rfl rfl rfl rfl (vw_f87 ef) rfl rfl Kz) ?_
  refine jv_Wp.lift (fun _ Kz => jv_Ev.c jv_i63 (pc' := 127) (S' := [.long xs]) jv_i53 [.ref 171, .int (vl_I f.s)] rfl rfl rfl rfl (jv_cal rfl (jv_H_at (vm_cK hC 171 2 13 (by decide))) rfl rfl) rfl (vm_cget hC h hs hgs) rfl rfl Kz) ?_
  refine jv_Wp.lift (fun _ Kz => jv_Ev.steps jv_i63 4 (pc' := 138) (l' := [(10, .long xs), (8, .long xd), (7, .int (1 : Int32)), (6, .int (vl_I f.d)), (5, .int (Int32.ofInt f.o)), (4, .int (Int32.ofInt f.i)), (3, .int (vl_I f.n)), (0, .ref 171), (1, .long w)]) (st' := [.int (11 : Int32), .int (vl_I f.n)]) rfl Kz) ?_
  refine jv_Wp.cnd jv_i63 (pt := 162) (pe := 141) (p := (¬ (vl_I f.n) = (11 : Int32))) (q := (¬ (vl_I f.n) = (11 : Int32))) rfl jv_bc_ne rfl rfl Iff.rfl (fun _ => ?_) (fun hz => absurd (fun z => hn11 ((vl_I_inj (a := f.n) (b := 11) (by omega) (by decide)).mp z)) hz)
  refine jv_Wp.lift (fun _ Kz => jv_Ev.steps jv_i63 2 (pc' := 165) (l' := [(10, .long xs), (8, .long xd), (7, .int (1 : Int32)), (6, .int (vl_I f.d)), (5, .int (Int32.ofInt f.o)), (4, .int (Int32.ofInt f.i)), (3, .int (vl_I f.n)), (0, .ref 171), (1, .long w)]) (st' := [.int (1 : Int32), .int (Int32.ofInt f.o)]) rfl Kz) ?_
  refine jv_Wp.cnd jv_i63 (pt := 172) (pe := 168) (p := (¬ (Int32.ofInt f.o) = (1 : Int32))) (q := (¬ (Int32.ofInt f.o) = (1 : Int32))) rfl jv_bc_ne rfl rfl Iff.rfl (fun h1 => ?_) (fun h1 => ?_)
  · refine jv_Wp.lift (fun _ Kz => jv_Ev.steps jv_i63 5 (pc' := 180) (l' := [(12, .int (0 : Int32)), (10, .long xs), (8, .long xd), (7, .int (1 : Int32)), (6, .int (vl_I f.d)), (5, .int (Int32.ofInt f.o)), (4, .int (Int32.ofInt f.i)), (3, .int (vl_I f.n)), (0, .ref 171), (1, .long w)]) (st' := [.int (1 : Int32), .int (vl_I f.d), .ref 171]) rfl Kz) ?_
    refine jv_Wp.lift (fun _ Kz => jv_Ev.br jv_i63 (pc' := 183) (st' := [.int (vl_I f.d), .ref 171]) rfl (by rfl) Kz) ?_
    refine jv_Wp.lift (fun _ Kz => jv_Ev.steps jv_i63 4 (pc' := 190) (l' := [(12, .int (0 : Int32)), (10, .long xs), (8, .long xd), (7, .int (1 : Int32)), (6, .int (vl_I f.d)), (5, .int (Int32.ofInt f.o)), (4, .int (Int32.ofInt f.i)), (3, .int (vl_I f.n)), (0, .ref 171), (1, .long w)]) (st' := [.int (0 : Int32), .long xs, .long xd, .int (vl_I f.n), .int (vl_I f.d), .ref 171]) rfl Kz) ?_
    refine jv_Wp.lift (fun _ Kz => jv_Ev.c jv_i63 (pc' := 193) (S' := [.long (Int64.ofBitVec (vm_ck f.n (xd).toBitVec (xs).toBitVec false)), .int (vl_I f.d), .ref 171]) jv_i64 [.int (vl_I f.n), .long xd, .long xs, .int (0 : Int32)] rfl rfl rfl rfl rfl rfl (vc_reckoned (n := f.n) (x := xd) (y := xs) (sg := false) hn12) rfl rfl Kz) ?_
    refine jv_Wp.lift (fun _ Kz => jv_Ev.steps jv_i63 1 (pc' := 214) (l' := [(12, .int (0 : Int32)), (10, .long xs), (8, .long xd), (7, .int (1 : Int32)), (6, .int (vl_I f.d)), (5, .int (Int32.ofInt f.o)), (4, .int (Int32.ofInt f.i)), (3, .int (vl_I f.n)), (0, .ref 171), (1, .long w)]) (st' := [.long (Int64.ofBitVec (vm_ck f.n (xd).toBitVec (xs).toBitVec false)), .int (vl_I f.d), .ref 171]) rfl Kz) ?_
    refine jv_Wp.lift (fun _ Kz => jv_Ev.c jv_i63 (pc' := 217) (S' := []) (G1 := (jv_H K (jv_u I 171 2 ((I 171 2) ||| ((1 : Int32) <<< ((vl_I f.d) &&& 31)))) (jv_u L 172 f.d (Int64.ofBitVec (vm_ck f.n (xd).toBitVec (xs).toBitVec false))) R)) jv_i54 [.ref 171, .int (vl_I f.d), .long (Int64.ofBitVec (vm_ck f.n (xd).toBitVec (xs).toBitVec false))] rfl rfl rfl rfl (jv_cal rfl (jv_H_at (vm_cK hC 171 2 13 (by decide))) rfl rfl) rfl (vm_cset (I := I) (L := L) (n := n) (sl := sl) (r := f.d) hC (by omega)) rfl rfl Kz) ?_
    refine jv_Wp.of (jv_Ev.ret jv_i63 rfl rfl) ?_
    have ev : (Int64.ofBitVec (vm_ck f.n (xd).toBitVec (xs).toBitVec false)) = Int64.ofBitVec (vx_do f x.toBitVec y.toBitVec (vm_sg f x.toBitVec y.toBitVec)) := congrArg Int64.ofBitVec (by rw [exd, exs]; exact (vm_do7 hk har hn13 hn11 (show false = decide (f.o = 1) from (decide_eq_false (fun z => h1 ((vm_o1 (vw_dO ef)).mpr z))).symm)).symm)
    rw [hQ, ev]
    exact ⟨_, _, rfl, vc_m_gv h hd, vm_gv_ff (vc_ff_refl _ I L)⟩
  · refine jv_Wp.lift (fun _ Kz => jv_Ev.steps jv_i63 6 (pc' := 180) (l' := [(12, .int (1 : Int32)), (10, .long xs), (8, .long xd), (7, .int (1 : Int32)), (6, .int (vl_I f.d)), (5, .int (Int32.ofInt f.o)), (4, .int (Int32.ofInt f.i)), (3, .int (vl_I f.n)), (0, .ref 171), (1, .long w)]) (st' := [.int (1 : Int32), .int (vl_I f.d), .ref 171]) rfl Kz) ?_
    refine jv_Wp.lift (fun _ Kz => jv_Ev.br jv_i63 (pc' := 183) (st' := [.int (vl_I f.d), .ref 171]) rfl (by rfl) Kz) ?_
    refine jv_Wp.lift (fun _ Kz => jv_Ev.steps jv_i63 4 (pc' := 190) (l' := [(12, .int (1 : Int32)), (10, .long xs), (8, .long xd), (7, .int (1 : Int32)), (6, .int (vl_I f.d)), (5, .int (Int32.ofInt f.o)), (4, .int (Int32.ofInt f.i)), (3, .int (vl_I f.n)), (0, .ref 171), (1, .long w)]) (st' := [.int (1 : Int32), .long xs, .long xd, .int (vl_I f.n), .int (vl_I f.d), .ref 171]) rfl Kz) ?_
    refine jv_Wp.lift (fun _ Kz => jv_Ev.c jv_i63 (pc' := 193) (S' := [.long (Int64.ofBitVec (vm_ck f.n (xd).toBitVec (xs).toBitVec true)), .int (vl_I f.d), .ref 171]) jv_i64 [.int (vl_I f.n), .long xd, .long xs, .int (1 : Int32)] rfl rfl rfl rfl rfl rfl (vc_reckoned (n := f.n) (x := xd) (y := xs) (sg := true) hn12) rfl rfl Kz) ?_
    refine jv_Wp.lift (fun _ Kz => jv_Ev.steps jv_i63 1 (pc' := 214) (l' := [(12, .int (1 : Int32)), (10, .long xs), (8, .long xd), (7, .int (1 : Int32)), (6, .int (vl_I f.d)), (5, .int (Int32.ofInt f.o)), (4, .int (Int32.ofInt f.i)), (3, .int (vl_I f.n)), (0, .ref 171), (1, .long w)]) (st' := [.long (Int64.ofBitVec (vm_ck f.n (xd).toBitVec (xs).toBitVec true)), .int (vl_I f.d), .ref 171]) rfl Kz) ?_
    refine jv_Wp.lift (fun _ Kz => jv_Ev.c jv_i63 (pc' := 217) (S' := []) (G1 := (jv_H K (jv_u I 171 2 ((I 171 2) ||| ((1 : Int32) <<< ((vl_I f.d) &&& 31)))) (jv_u L 172 f.d (Int64.ofBitVec (vm_ck f.n (xd).toBitVec (xs).toBitVec true))) R)) jv_i54 [.ref 171, .int (vl_I f.d), .long (Int64.ofBitVec (vm_ck f.n (xd).toBitVec (xs).toBitVec true))] rfl rfl rfl rfl (jv_cal rfl (jv_H_at (vm_cK hC 171 2 13 (by decide))) rfl rfl) rfl (vm_cset (I := I) (L := L) (n := n) (sl := sl) (r := f.d) hC (by omega)) rfl rfl Kz) ?_
    refine jv_Wp.of (jv_Ev.ret jv_i63 rfl rfl) ?_
    have ev : (Int64.ofBitVec (vm_ck f.n (xd).toBitVec (xs).toBitVec true)) = Int64.ofBitVec (vx_do f x.toBitVec y.toBitVec (vm_sg f x.toBitVec y.toBitVec)) := congrArg Int64.ofBitVec (by rw [exd, exs]; exact (vm_do7 hk har hn13 hn11 (show true = decide (f.o = 1) from (decide_eq_true ((vm_o1 (vw_dO ef)).mp (Classical.not_not.mp h1))).symm)).symm)
    rw [hQ, ev]
    exact ⟨_, _, rfl, vc_m_gv h hd, vm_gv_ff (vc_ff_refl _ I L)⟩
theorem vc_reckon7oi {K : Nat → Option (Nat × Nat)} {I : Nat → Nat → Int32} {L : Nat → Nat → Int64} {R : Nat → Nat → Value} (hC : vm_CW K R) {S T : vm_S} (h : vm_c I L S) {w : Int64} {f : vf_F} (ef : vc_F w = f) (hd : f.d < 11) (hs : f.s < 11) (har : vf_ar f) (hk : f.kind = 7) (hn11 : f.n ≠ 11) (hn13 : f.n ≠ 13) (hb3 : f.bit3 = false) (hl : vm_arith f S = some T) {n sl : Nat} : ∃ I1 L1, jv_Ms 63 [.ref 171, .long w] (jv_H K I L R) n sl (none, jv_H K I1 L1 R, n, sl) ∧ vm_c I1 L1 T ∧ vc_ff vm_Er I L I1 L1 := by
  obtain ⟨Q, hQ⟩ : ∃ Q : jv_R → Prop, Q = fun X => ∃ I1 L1, X = (none, jv_H K I1 L1 R, n, sl) ∧ vm_c I1 L1 T ∧ vc_ff vm_Er I L I1 L1 := ⟨_, rfl⟩
  suffices hE : jv_Wp 63 0 [(0, .ref 171), (1, .long w)] [] (jv_H K I L R) n sl Q by
    rw [hQ] at hE
    obtain ⟨X, hE, I1, L1, e, h'⟩ := hE
    subst e
    exact ⟨I1, L1, hE, h'⟩
  obtain ⟨x, y, hx, hy, hT⟩ := vm_arith_dec hl
  subst hT
  have hn256 : f.n < 256 := by have : f.n = f.code / 16 := rfl; have := vw_dc ef; omega
  rw [if_neg (show ¬ f.n = 11 by omega)] at hx
  obtain ⟨xd, exd⟩ : ∃ xd, xd = x := ⟨x, rfl⟩
  have hgd : vm_rd S f.d = some xd := exd ▸ hx
  rw [if_neg (show ¬ f.n = 13 by omega)] at hy
  rw [if_neg (by rw [hb3]; decide)] at hy
  have exs : (Int32.ofInt f.i).toInt64 = y := (vm_io (vw_dQ ef)).trans (Option.some.inj hy)
  have hn12 : f.n ≤ 12 := by have := har.1; omega
  refine jv_Wp.lift (fun _ Kz => jv_Ev.steps jv_i63 1 (pc' := 1) (l' := [(0, .ref 171), (1, .long w)]) (st' := [.long w]) rfl Kz) ?_
  refine jv_Wp.lift (fun _ Kz => jv_Ev.c jv_i63 (pc' := 4) (S' := [.int (vl_I f.n)]) jv_i82 [.long w] rfl rfl rfl rfl rfl rfl (vw_f82 ef) rfl rfl Kz) ?_
  refine jv_Wp.lift (fun _ Kz => jv_Ev.steps jv_i63 2 (pc' := 6) (l' := [(3, .int (vl_I f.n)), (0, .ref 171), (1, .long w)]) (st' := [.long w]) rfl Kz) ?_
  refine jv_Wp.lift (fun _ Kz => jv_Ev.c jv_i63 (pc' := 9) (S' := [.int (Int32.ofInt f.i)]) jv_i89 [.long w] rfl rfl rfl rfl rfl rfl (vw_f89 ef) rfl rfl Kz) ?_
  refine jv_Wp.lift (fun _ Kz => jv_Ev.steps jv_i63 2 (pc' := 12) (l' := [(4, .int (Int32.ofInt f.i)), (3, .int (vl_I f.n)), (0, .ref 171), (1, .long w)]) (st' := [.long w]) rfl Kz) ?_
  refine jv_Wp.lift (fun _ Kz => jv_Ev.c jv_i63 (pc' := 15) (S' := [.int (Int32.ofInt f.o)]) jv_i88 [.long w] rfl rfl rfl rfl rfl rfl (vw_f88 ef) rfl rfl Kz) ?_
  refine jv_Wp.lift (fun _ Kz => jv_Ev.steps jv_i63 2 (pc' := 18) (l' := [(5, .int (Int32.ofInt f.o)), (4, .int (Int32.ofInt f.i)), (3, .int (vl_I f.n)), (0, .ref 171), (1, .long w)]) (st' := [.long w]) rfl Kz) ?_
  refine jv_Wp.lift (fun _ Kz => jv_Ev.c jv_i63 (pc' := 21) (S' := [.int (vl_I f.d)]) jv_i86 [.long w] rfl rfl rfl rfl rfl rfl (vw_f86 ef) rfl rfl Kz) ?_
  refine jv_Wp.lift (fun _ Kz => jv_Ev.steps jv_i63 2 (pc' := 24) (l' := [(6, .int (vl_I f.d)), (5, .int (Int32.ofInt f.o)), (4, .int (Int32.ofInt f.i)), (3, .int (vl_I f.n)), (0, .ref 171), (1, .long w)]) (st' := [.long w]) rfl Kz) ?_
  refine jv_Wp.lift (fun _ Kz => jv_Ev.c jv_i63 (pc' := 27) (S' := [.int (7 : Int32)]) jv_i81 [.long w] rfl rfl rfl rfl rfl rfl (vw_l81 ef hk rfl) rfl rfl Kz) ?_
  refine jv_Wp.lift (fun _ Kz => jv_Ev.steps jv_i63 1 (pc' := 29) (l' := [(6, .int (vl_I f.d)), (5, .int (Int32.ofInt f.o)), (4, .int (Int32.ofInt f.i)), (3, .int (vl_I f.n)), (0, .ref 171), (1, .long w)]) (st' := [.int (7 : Int32), .int (7 : Int32)]) rfl Kz) ?_
  refine jv_Wp.lift (fun _ Kz => jv_Ev.br jv_i63 (pc' := 32) (st' := []) rfl (by rfl) Kz) ?_
  refine jv_Wp.lift (fun _ Kz => jv_Ev.steps jv_i63 5 (pc' := 42) (l' := [(7, .int (1 : Int32)), (6, .int (vl_I f.d)), (5, .int (Int32.ofInt f.o)), (4, .int (Int32.ofInt f.i)), (3, .int (vl_I f.n)), (0, .ref 171), (1, .long w)]) (st' := [.int (11 : Int32), .int (vl_I f.n)]) rfl Kz) ?_
  refine jv_Wp.cnd jv_i63 (pt := 49) (pe := 45) (p := (¬ (vl_I f.n) = (11 : Int32))) (q := (¬ (vl_I f.n) = (11 : Int32))) rfl jv_bc_ne rfl rfl Iff.rfl (fun _ => ?_) (fun hz => absurd (fun z => hn11 ((vl_I_inj (a := f.n) (b := 11) (by omega) (by decide)).mp z)) hz)
  refine jv_Wp.lift (fun _ Kz => jv_Ev.steps jv_i63 2 (pc' := 52) (l' := [(7, .int (1 : Int32)), (6, .int (vl_I f.d)), (5, .int (Int32.ofInt f.o)), (4, .int (Int32.ofInt f.i)), (3, .int (vl_I f.n)), (0, .ref 171), (1, .long w)]) (st' := [.int (vl_I f.d), .ref 171]) rfl Kz) ?_
  refine jv_Wp.lift (fun _ Kz => jv_Ev.c jv_i63 (pc' := 55) (S' := [.long xd]) jv_i53 [.ref 171, .int (vl_I f.d)] rfl rfl rfl rfl (jv_cal rfl (jv_H_at (vm_cK hC 171 2 13 (by decide))) rfl rfl) rfl (vm_cget hC h hd hgd) rfl rfl Kz) ?_
  refine jv_Wp.lift (fun _ Kz => jv_Ev.steps jv_i63 3 (pc' := 60) (l' := [(8, .long xd), (7, .int (1 : Int32)), (6, .int (vl_I f.d)), (5, .int (Int32.ofInt f.o)), (4, .int (Int32.ofInt f.i)), (3, .int (vl_I f.n)), (0, .ref 171), (1, .long w)]) (st' := [.int (13 : Int32), .int (vl_I f.n)]) rfl Kz) ?_
  refine jv_Wp.cnd jv_i63 (pt := 112) (pe := 63) (p := (¬ (vl_I f.n) = (13 : Int32))) (q := (¬ (vl_I f.n) = (13 : Int32))) rfl jv_bc_ne rfl rfl Iff.rfl (fun _ => ?_) (fun hz => absurd (fun z => hn13 ((vl_I_inj (a := f.n) (b := 13) (by omega) (by decide)).mp z)) hz)
  refine jv_Wp.lift (fun _ Kz => jv_Ev.steps jv_i63 1 (pc' := 113) (l' := [(8, .long xd), (7, .int (1 : Int32)), (6, .int (vl_I f.d)), (5, .int (Int32.ofInt f.o)), (4, .int (Int32.ofInt f.i)), (3, .int (vl_I f.n)), (0, .ref 171), (1, .long w)]) (st' := [.long w]) rfl Kz) ?_
  refine jv_Wp.lift (fun _ Kz => jv_Ev.c jv_i63 (pc' := 116) (S' := [.int (0 : Int32)]) jv_i83 [.long w] rfl rfl rfl rfl rfl rfl (vw_l83 ef hb3 rfl) rfl rfl Kz) ?_
  refine jv_Wp.lift (fun _ Kz => jv_Ev.br jv_i63 (pc' := 130) (st' := []) rfl (by rfl) Kz) ?_
  refine jv_Wp.lift (fun _ Kz => jv_Ev.steps jv_i63 5 (pc' := 138) (l' := [(10, .long (Int32.ofInt f.i).toInt64), (8, .long xd), (7, .int (1 : Int32)), (6, .int (vl_I f.d)), (5, .int (Int32.ofInt f.o)), (4, .int (Int32.ofInt f.i)), (3, .int (vl_I f.n)), (0, .ref 171), (1, .long w)]) (st' := [.int (11 : Int32), .int (vl_I f.n)]) rfl Kz) ?_
  refine jv_Wp.cnd jv_i63 (pt := 162) (pe := 141) (p := (¬ (vl_I f.n) = (11 : Int32))) (q := (¬ (vl_I f.n) = (11 : Int32))) rfl jv_bc_ne rfl rfl Iff.rfl (fun _ => ?_) (fun hz => absurd (fun z => hn11 ((vl_I_inj (a := f.n) (b := 11) (by omega) (by decide)).mp z)) hz)
  refine jv_Wp.lift (fun _ Kz => jv_Ev.steps jv_i63 2 (pc' := 165) (l' := [(10, .long (Int32.ofInt f.i).toInt64), (8, .long xd), (7, .int (1 : Int32)), (6, .int (vl_I f.d)), (5, .int (Int32.ofInt f.o)), (4, .int (Int32.ofInt f.i)), (3, .int (vl_I f.n)), (0, .ref 171), (1, .long w)]) (st' := [.int (1 : Int32), .int (Int32.ofInt f.o)]) rfl Kz) ?_
  refine jv_Wp.cnd jv_i63 (pt := 172) (pe := 168) (p := (¬ (Int32.ofInt f.o) = (1 : Int32))) (q := (¬ (Int32.ofInt f.o) = (1 : Int32))) rfl jv_bc_ne rfl rfl Iff.rfl (fun h1 => ?_) (fun h1 => ?_)
  · refine jv_Wp.lift (fun _ Kz => jv_Ev.steps jv_i63 5 (pc' := 180) (l' := [(12, .int (0 : Int32)), (10, .long (Int32.ofInt f.i).toInt64), (8, .long xd), (7, .int (1 : Int32)), (6, .int (vl_I f.d)), (5, .int (Int32.ofInt f.o)), (4, .int (Int32.ofInt f.i)), (3, .int (vl_I f.n)), (0, .ref 171), (1, .long w)]) (st' := [.int (1 : Int32), .int (vl_I f.d), .ref 171]) rfl Kz) ?_
    refine jv_Wp.lift (fun _ Kz => jv_Ev.br jv_i63 (pc' := 183) (st' := [.int (vl_I f.d), .ref 171]) rfl (by rfl) Kz) ?_
    refine jv_Wp.lift (fun _ Kz => jv_Ev.steps jv_i63 4 (pc' := 190) (l' := [(12, .int (0 : Int32)), (10, .long (Int32.ofInt f.i).toInt64), (8, .long xd), (7, .int (1 : Int32)), (6, .int (vl_I f.d)), (5, .int (Int32.ofInt f.o)), (4, .int (Int32.ofInt f.i)), (3, .int (vl_I f.n)), (0, .ref 171), (1, .long w)]) (st' := [.int (0 : Int32), .long (Int32.ofInt f.i).toInt64, .long xd, .int (vl_I f.n), .int (vl_I f.d), .ref 171]) rfl Kz) ?_
    refine jv_Wp.lift (fun _ Kz => jv_Ev.c jv_i63 (pc' := 193) (S' := [.long (Int64.ofBitVec (vm_ck f.n (xd).toBitVec ((Int32.ofInt f.i).toInt64).toBitVec false)), .int (vl_I f.d), .ref 171]) jv_i64 [.int (vl_I f.n), .long xd, .long (Int32.ofInt f.i).toInt64, .int (0 : Int32)] rfl rfl rfl rfl rfl rfl (vc_reckoned (n := f.n) (x := xd) (y := (Int32.ofInt f.i).toInt64) (sg := false) hn12) rfl rfl Kz) ?_
    refine jv_Wp.lift (fun _ Kz => jv_Ev.steps jv_i63 1 (pc' := 214) (l' := [(12, .int (0 : Int32)), (10, .long (Int32.ofInt f.i).toInt64), (8, .long xd), (7, .int (1 : Int32)), (6, .int (vl_I f.d)), (5, .int (Int32.ofInt f.o)), (4, .int (Int32.ofInt f.i)), (3, .int (vl_I f.n)), (0, .ref 171), (1, .long w)]) (st' := [.long (Int64.ofBitVec (vm_ck f.n (xd).toBitVec ((Int32.ofInt f.i).toInt64).toBitVec false)), .int (vl_I f.d), .ref 171]) rfl Kz) ?_
    refine jv_Wp.lift (fun _ Kz => jv_Ev.c jv_i63 (pc' := 217) (S' := []) (G1 := (jv_H K (jv_u I 171 2 ((I 171 2) ||| ((1 : Int32) <<< ((vl_I f.d) &&& 31)))) (jv_u L 172 f.d (Int64.ofBitVec (vm_ck f.n (xd).toBitVec ((Int32.ofInt f.i).toInt64).toBitVec false))) R)) jv_i54 [.ref 171, .int (vl_I f.d), .long (Int64.ofBitVec (vm_ck f.n (xd).toBitVec ((Int32.ofInt f.i).toInt64).toBitVec false))] rfl rfl rfl rfl (jv_cal rfl (jv_H_at (vm_cK hC 171 2 13 (by decide))) rfl rfl) rfl (vm_cset (I := I) (L := L) (n := n) (sl := sl) (r := f.d) hC (by omega)) rfl rfl Kz) ?_
    refine jv_Wp.of (jv_Ev.ret jv_i63 rfl rfl) ?_
    have ev : (Int64.ofBitVec (vm_ck f.n (xd).toBitVec ((Int32.ofInt f.i).toInt64).toBitVec false)) = Int64.ofBitVec (vx_do f x.toBitVec y.toBitVec (vm_sg f x.toBitVec y.toBitVec)) := congrArg Int64.ofBitVec (by rw [exd, exs]; exact (vm_do7 hk har hn13 hn11 (show false = decide (f.o = 1) from (decide_eq_false (fun z => h1 ((vm_o1 (vw_dO ef)).mpr z))).symm)).symm)
    rw [hQ, ev]
    exact ⟨_, _, rfl, vc_m_gv h hd, vm_gv_ff (vc_ff_refl _ I L)⟩
  · refine jv_Wp.lift (fun _ Kz => jv_Ev.steps jv_i63 6 (pc' := 180) (l' := [(12, .int (1 : Int32)), (10, .long (Int32.ofInt f.i).toInt64), (8, .long xd), (7, .int (1 : Int32)), (6, .int (vl_I f.d)), (5, .int (Int32.ofInt f.o)), (4, .int (Int32.ofInt f.i)), (3, .int (vl_I f.n)), (0, .ref 171), (1, .long w)]) (st' := [.int (1 : Int32), .int (vl_I f.d), .ref 171]) rfl Kz) ?_
    refine jv_Wp.lift (fun _ Kz => jv_Ev.br jv_i63 (pc' := 183) (st' := [.int (vl_I f.d), .ref 171]) rfl (by rfl) Kz) ?_
    refine jv_Wp.lift (fun _ Kz => jv_Ev.steps jv_i63 4 (pc' := 190) (l' := [(12, .int (1 : Int32)), (10, .long (Int32.ofInt f.i).toInt64), (8, .long xd), (7, .int (1 : Int32)), (6, .int (vl_I f.d)), (5, .int (Int32.ofInt f.o)), (4, .int (Int32.ofInt f.i)), (3, .int (vl_I f.n)), (0, .ref 171), (1, .long w)]) (st' := [.int (1 : Int32), .long (Int32.ofInt f.i).toInt64, .long xd, .int (vl_I f.n), .int (vl_I f.d), .ref 171]) rfl Kz) ?_
    refine jv_Wp.lift (fun _ Kz => jv_Ev.c jv_i63 (pc' := 193) (S' := [.long (Int64.ofBitVec (vm_ck f.n (xd).toBitVec ((Int32.ofInt f.i).toInt64).toBitVec true)), .int (vl_I f.d), .ref 171]) jv_i64 [.int (vl_I f.n), .long xd, .long (Int32.ofInt f.i).toInt64, .int (1 : Int32)] rfl rfl rfl rfl rfl rfl (vc_reckoned (n := f.n) (x := xd) (y := (Int32.ofInt f.i).toInt64) (sg := true) hn12) rfl rfl Kz) ?_
    refine jv_Wp.lift (fun _ Kz => jv_Ev.steps jv_i63 1 (pc' := 214) (l' := [(12, .int (1 : Int32)), (10, .long (Int32.ofInt f.i).toInt64), (8, .long xd), (7, .int (1 : Int32)), (6, .int (vl_I f.d)), (5, .int (Int32.ofInt f.o)), (4, .int (Int32.ofInt f.i)), (3, .int (vl_I f.n)), (0, .ref 171), (1, .long w)]) (st' := [.long (Int64.ofBitVec (vm_ck f.n (xd).toBitVec ((Int32.ofInt f.i).toInt64).toBitVec true)), .int (vl_I f.d), .ref 171]) rfl Kz) ?_
    refine jv_Wp.lift (fun _ Kz => jv_Ev.c jv_i63 (pc' := 217) (S' := []) (G1 := (jv_H K (jv_u I 171 2 ((I 171 2) ||| ((1 : Int32) <<< ((vl_I f.d) &&& 31)))) (jv_u L 172 f.d (Int64.ofBitVec (vm_ck f.n (xd).toBitVec ((Int32.ofInt f.i).toInt64).toBitVec true))) R)) jv_i54 [.ref 171, .int (vl_I f.d), .long (Int64.ofBitVec (vm_ck f.n (xd).toBitVec ((Int32.ofInt f.i).toInt64).toBitVec true))] rfl rfl rfl rfl (jv_cal rfl (jv_H_at (vm_cK hC 171 2 13 (by decide))) rfl rfl) rfl (vm_cset (I := I) (L := L) (n := n) (sl := sl) (r := f.d) hC (by omega)) rfl rfl Kz) ?_
    refine jv_Wp.of (jv_Ev.ret jv_i63 rfl rfl) ?_
    have ev : (Int64.ofBitVec (vm_ck f.n (xd).toBitVec ((Int32.ofInt f.i).toInt64).toBitVec true)) = Int64.ofBitVec (vx_do f x.toBitVec y.toBitVec (vm_sg f x.toBitVec y.toBitVec)) := congrArg Int64.ofBitVec (by rw [exd, exs]; exact (vm_do7 hk har hn13 hn11 (show true = decide (f.o = 1) from (decide_eq_true ((vm_o1 (vw_dO ef)).mp (Classical.not_not.mp h1))).symm)).symm)
    rw [hQ, ev]
    exact ⟨_, _, rfl, vc_m_gv h hd, vm_gv_ff (vc_ff_refl _ I L)⟩
theorem vc_reckon4tr {K : Nat → Option (Nat × Nat)} {I : Nat → Nat → Int32} {L : Nat → Nat → Int64} {R : Nat → Nat → Value} (hC : vm_CW K R) {S T : vm_S} (h : vm_c I L S) {w : Int64} {f : vf_F} (ef : vc_F w = f) (hd : f.d < 11) (hs : f.s < 11) (har : vf_ar f) (hk : f.kind = 4) (hn : f.n = 13) (hb3 : f.bit3 = true) (hl : vm_arith f S = some T) {n sl : Nat} : ∃ I1 L1, jv_Ms 63 [.ref 171, .long w] (jv_H K I L R) n sl (none, jv_H K I1 L1 R, n, sl) ∧ vm_c I1 L1 T ∧ vc_ff vm_Er I L I1 L1 := by
  obtain ⟨Q, hQ⟩ : ∃ Q : jv_R → Prop, Q = fun X => ∃ I1 L1, X = (none, jv_H K I1 L1 R, n, sl) ∧ vm_c I1 L1 T ∧ vc_ff vm_Er I L I1 L1 := ⟨_, rfl⟩
  suffices hE : jv_Wp 63 0 [(0, .ref 171), (1, .long w)] [] (jv_H K I L R) n sl Q by
    rw [hQ] at hE
    obtain ⟨X, hE, I1, L1, e, h'⟩ := hE
    subst e
    exact ⟨I1, L1, hE, h'⟩
  obtain ⟨x, y, hx, hy, hT⟩ := vm_arith_dec hl
  subst hT
  have hn256 : f.n < 256 := by have : f.n = f.code / 16 := rfl; have := vw_dc ef; omega
  rw [if_neg (show ¬ f.n = 11 by omega)] at hx
  obtain ⟨xd, exd⟩ : ∃ xd, xd = x := ⟨x, rfl⟩
  have hgd : vm_rd S f.d = some xd := exd ▸ hx
  have hi3 : f.i.toNat = 16 ∨ f.i.toNat = 32 ∨ f.i.toNat = 64 := by have := har.2.2.2.2 hn; omega
  have hI : Int32.ofInt f.i = vl_I f.i.toNat := vm_oi (vw_dQ ef) (by have := har.2.2.2.2 hn; omega) (by omega)
  refine jv_Wp.lift (fun _ Kz => jv_Ev.steps jv_i63 1 (pc' := 1) (l' := [(0, .ref 171), (1, .long w)]) (st' := [.long w]) rfl Kz) ?_
  refine jv_Wp.lift (fun _ Kz => jv_Ev.c jv_i63 (pc' := 4) (S' := [.int (13 : Int32)]) jv_i82 [.long w] rfl rfl rfl rfl rfl rfl (vw_l82 ef hn rfl) rfl rfl Kz) ?_
  refine jv_Wp.lift (fun _ Kz => jv_Ev.steps jv_i63 2 (pc' := 6) (l' := [(3, .int (13 : Int32)), (0, .ref 171), (1, .long w)]) (st' := [.long w]) rfl Kz) ?_
  refine jv_Wp.lift (fun _ Kz => jv_Ev.c jv_i63 (pc' := 9) (S' := [.int (Int32.ofInt f.i)]) jv_i89 [.long w] rfl rfl rfl rfl rfl rfl (vw_f89 ef) rfl rfl Kz) ?_
  refine jv_Wp.lift (fun _ Kz => jv_Ev.steps jv_i63 2 (pc' := 12) (l' := [(4, .int (Int32.ofInt f.i)), (3, .int (13 : Int32)), (0, .ref 171), (1, .long w)]) (st' := [.long w]) rfl Kz) ?_
  refine jv_Wp.lift (fun _ Kz => jv_Ev.c jv_i63 (pc' := 15) (S' := [.int (Int32.ofInt f.o)]) jv_i88 [.long w] rfl rfl rfl rfl rfl rfl (vw_f88 ef) rfl rfl Kz) ?_
  refine jv_Wp.lift (fun _ Kz => jv_Ev.steps jv_i63 2 (pc' := 18) (l' := [(5, .int (Int32.ofInt f.o)), (4, .int (Int32.ofInt f.i)), (3, .int (13 : Int32)), (0, .ref 171), (1, .long w)]) (st' := [.long w]) rfl Kz) ?_
  refine jv_Wp.lift (fun _ Kz => jv_Ev.c jv_i63 (pc' := 21) (S' := [.int (vl_I f.d)]) jv_i86 [.long w] rfl rfl rfl rfl rfl rfl (vw_f86 ef) rfl rfl Kz) ?_
  refine jv_Wp.lift (fun _ Kz => jv_Ev.steps jv_i63 2 (pc' := 24) (l' := [(6, .int (vl_I f.d)), (5, .int (Int32.ofInt f.o)), (4, .int (Int32.ofInt f.i)), (3, .int (13 : Int32)), (0, .ref 171), (1, .long w)]) (st' := [.long w]) rfl Kz) ?_
  refine jv_Wp.lift (fun _ Kz => jv_Ev.c jv_i63 (pc' := 27) (S' := [.int (4 : Int32)]) jv_i81 [.long w] rfl rfl rfl rfl rfl rfl (vw_l81 ef hk rfl) rfl rfl Kz) ?_
  refine jv_Wp.lift (fun _ Kz => jv_Ev.steps jv_i63 1 (pc' := 29) (l' := [(6, .int (vl_I f.d)), (5, .int (Int32.ofInt f.o)), (4, .int (Int32.ofInt f.i)), (3, .int (13 : Int32)), (0, .ref 171), (1, .long w)]) (st' := [.int (7 : Int32), .int (4 : Int32)]) rfl Kz) ?_
  refine jv_Wp.lift (fun _ Kz => jv_Ev.br jv_i63 (pc' := 36) (st' := []) rfl (by rfl) Kz) ?_
  refine jv_Wp.lift (fun _ Kz => jv_Ev.steps jv_i63 4 (pc' := 42) (l' := [(7, .int (0 : Int32)), (6, .int (vl_I f.d)), (5, .int (Int32.ofInt f.o)), (4, .int (Int32.ofInt f.i)), (3, .int (13 : Int32)), (0, .ref 171), (1, .long w)]) (st' := [.int (11 : Int32), .int (13 : Int32)]) rfl Kz) ?_
  refine jv_Wp.lift (fun _ Kz => jv_Ev.br jv_i63 (pc' := 49) (st' := []) rfl (by rfl) Kz) ?_
  refine jv_Wp.lift (fun _ Kz => jv_Ev.steps jv_i63 2 (pc' := 52) (l' := [(7, .int (0 : Int32)), (6, .int (vl_I f.d)), (5, .int (Int32.ofInt f.o)), (4, .int (Int32.ofInt f.i)), (3, .int (13 : Int32)), (0, .ref 171), (1, .long w)]) (st' := [.int (vl_I f.d), .ref 171]) rfl Kz) ?_
  refine jv_Wp.lift (fun _ Kz => jv_Ev.c jv_i63 (pc' := 55) (S' := [.long xd]) jv_i53 [.ref 171, .int (vl_I f.d)] rfl rfl rfl rfl (jv_cal rfl (jv_H_at (vm_cK hC 171 2 13 (by decide))) rfl rfl) rfl (vm_cget hC h hd hgd) rfl rfl Kz) ?_
  refine jv_Wp.lift (fun _ Kz => jv_Ev.steps jv_i63 3 (pc' := 60) (l' := [(8, .long xd), (7, .int (0 : Int32)), (6, .int (vl_I f.d)), (5, .int (Int32.ofInt f.o)), (4, .int (Int32.ofInt f.i)), (3, .int (13 : Int32)), (0, .ref 171), (1, .long w)]) (st' := [.int (13 : Int32), .int (13 : Int32)]) rfl Kz) ?_
  refine jv_Wp.lift (fun _ Kz => jv_Ev.br jv_i63 (pc' := 63) (st' := []) rfl (by rfl) Kz) ?_
  refine jv_Wp.lift (fun _ Kz => jv_Ev.steps jv_i63 1 (pc' := 65) (l' := [(8, .long xd), (7, .int (0 : Int32)), (6, .int (vl_I f.d)), (5, .int (Int32.ofInt f.o)), (4, .int (Int32.ofInt f.i)), (3, .int (13 : Int32)), (0, .ref 171), (1, .long w)]) (st' := [.int (0 : Int32)]) rfl Kz) ?_
  refine jv_Wp.lift (fun _ Kz => jv_Ev.br jv_i63 (pc' := 68) (st' := []) rfl (by rfl) Kz) ?_
  refine jv_Wp.lift (fun _ Kz => jv_Ev.steps jv_i63 1 (pc' := 69) (l' := [(8, .long xd), (7, .int (0 : Int32)), (6, .int (vl_I f.d)), (5, .int (Int32.ofInt f.o)), (4, .int (Int32.ofInt f.i)), (3, .int (13 : Int32)), (0, .ref 171), (1, .long w)]) (st' := [.long w]) rfl Kz) ?_
  refine jv_Wp.lift (fun _ Kz => jv_Ev.c jv_i63 (pc' := 72) (S' := [.int (1 : Int32)]) jv_i83 [.long w] rfl rfl rfl rfl rfl rfl (vw_l83 ef hb3 rfl) rfl rfl Kz) ?_
  refine jv_Wp.lift (fun _ Kz => jv_Ev.br jv_i63 (pc' := 75) (st' := []) rfl (by rfl) Kz) ?_
  refine jv_Wp.lift (fun _ Kz => jv_Ev.steps jv_i63 6 (pc' := 87) (l' := [(10, .int (1 : Int32)), (8, .long xd), (7, .int (0 : Int32)), (6, .int (vl_I f.d)), (5, .int (Int32.ofInt f.o)), (4, .int (Int32.ofInt f.i)), (3, .int (13 : Int32)), (0, .ref 171), (1, .long w)]) (st' := [.int (1 : Int32), .int (vl_I f.d), .ref 171]) rfl Kz) ?_
  refine jv_Wp.lift (fun _ Kz => jv_Ev.br jv_i63 (pc' := 90) (st' := [.int (vl_I f.d), .ref 171]) rfl (by rfl) Kz) ?_
  refine jv_Wp.lift (fun _ Kz => jv_Ev.steps jv_i63 2 (pc' := 94) (l' := [(10, .int (1 : Int32)), (8, .long xd), (7, .int (0 : Int32)), (6, .int (vl_I f.d)), (5, .int (Int32.ofInt f.o)), (4, .int (Int32.ofInt f.i)), (3, .int (13 : Int32)), (0, .ref 171), (1, .long w)]) (st' := [.int (Int32.ofInt f.i), .long xd, .int (vl_I f.d), .ref 171]) rfl Kz) ?_
  refine jv_Wp.lift (fun _ Kz => jv_Ev.c jv_i63 (pc' := 97) (S' := [.long (Int64.ofBitVec (vb_turned xd.toBitVec f.i.toNat)), .int (vl_I f.d), .ref 171]) jv_i9 [.long xd, .int (Int32.ofInt f.i)] rfl rfl rfl rfl rfl rfl (show jv_Ms 9 [.long xd, .int (Int32.ofInt f.i)] _ _ _ _ from by rw [hI]; exact vl_turned xd hi3) rfl rfl Kz) ?_
  refine jv_Wp.lift (fun _ Kz => jv_Ev.steps jv_i63 1 (pc' := 108) (l' := [(10, .int (1 : Int32)), (8, .long xd), (7, .int (0 : Int32)), (6, .int (vl_I f.d)), (5, .int (Int32.ofInt f.o)), (4, .int (Int32.ofInt f.i)), (3, .int (13 : Int32)), (0, .ref 171), (1, .long w)]) (st' := [.long (Int64.ofBitVec (vb_turned xd.toBitVec f.i.toNat)), .int (vl_I f.d), .ref 171]) rfl Kz) ?_
  refine jv_Wp.lift (fun _ Kz => jv_Ev.c jv_i63 (pc' := 111) (S' := []) (G1 := (jv_H K (jv_u I 171 2 ((I 171 2) ||| ((1 : Int32) <<< ((vl_I f.d) &&& 31)))) (jv_u L 172 f.d (Int64.ofBitVec (vb_turned xd.toBitVec f.i.toNat))) R)) jv_i54 [.ref 171, .int (vl_I f.d), .long (Int64.ofBitVec (vb_turned xd.toBitVec f.i.toNat))] rfl rfl rfl rfl (jv_cal rfl (jv_H_at (vm_cK hC 171 2 13 (by decide))) rfl rfl) rfl (vm_cset (I := I) (L := L) (n := n) (sl := sl) (r := f.d) hC (by omega)) rfl rfl Kz) ?_
  refine jv_Wp.of (jv_Ev.ret jv_i63 rfl rfl) ?_
  have ev : (Int64.ofBitVec (vb_turned xd.toBitVec f.i.toNat)) = Int64.ofBitVec (vx_do f x.toBitVec y.toBitVec (vm_sg f x.toBitVec y.toBitVec)) := congrArg Int64.ofBitVec (by unfold vx_do; rw [if_pos hn, if_pos (by first | exact Or.inl hk | exact Or.inr hb3), vb_turned_low hi3, exd])
  rw [hQ, ev]
  exact ⟨_, _, rfl, vc_m_gv h hd, vm_gv_ff (vc_ff_refl _ I L)⟩
theorem vc_reckon4ti {K : Nat → Option (Nat × Nat)} {I : Nat → Nat → Int32} {L : Nat → Nat → Int64} {R : Nat → Nat → Value} (hC : vm_CW K R) {S T : vm_S} (h : vm_c I L S) {w : Int64} {f : vf_F} (ef : vc_F w = f) (hd : f.d < 11) (hs : f.s < 11) (har : vf_ar f) (hk : f.kind = 4) (hn : f.n = 13) (hb3 : f.bit3 = false) (hl : vm_arith f S = some T) {n sl : Nat} : ∃ I1 L1, jv_Ms 63 [.ref 171, .long w] (jv_H K I L R) n sl (none, jv_H K I1 L1 R, n, sl) ∧ vm_c I1 L1 T ∧ vc_ff vm_Er I L I1 L1 := by
  obtain ⟨Q, hQ⟩ : ∃ Q : jv_R → Prop, Q = fun X => ∃ I1 L1, X = (none, jv_H K I1 L1 R, n, sl) ∧ vm_c I1 L1 T ∧ vc_ff vm_Er I L I1 L1 := ⟨_, rfl⟩
  suffices hE : jv_Wp 63 0 [(0, .ref 171), (1, .long w)] [] (jv_H K I L R) n sl Q by
    rw [hQ] at hE
    obtain ⟨X, hE, I1, L1, e, h'⟩ := hE
    subst e
    exact ⟨I1, L1, hE, h'⟩
  obtain ⟨x, y, hx, hy, hT⟩ := vm_arith_dec hl
  subst hT
  have hn256 : f.n < 256 := by have : f.n = f.code / 16 := rfl; have := vw_dc ef; omega
  rw [if_neg (show ¬ f.n = 11 by omega)] at hx
  obtain ⟨xd, exd⟩ : ∃ xd, xd = x := ⟨x, rfl⟩
  have hgd : vm_rd S f.d = some xd := exd ▸ hx
  have hi3 : f.i.toNat = 16 ∨ f.i.toNat = 32 ∨ f.i.toNat = 64 := by have := har.2.2.2.2 hn; omega
  have hI : Int32.ofInt f.i = vl_I f.i.toNat := vm_oi (vw_dQ ef) (by have := har.2.2.2.2 hn; omega) (by omega)
  refine jv_Wp.lift (fun _ Kz => jv_Ev.steps jv_i63 1 (pc' := 1) (l' := [(0, .ref 171), (1, .long w)]) (st' := [.long w]) rfl Kz) ?_
  refine jv_Wp.lift (fun _ Kz => jv_Ev.c jv_i63 (pc' := 4) (S' := [.int (13 : Int32)]) jv_i82 [.long w] rfl rfl rfl rfl rfl rfl (vw_l82 ef hn rfl) rfl rfl Kz) ?_
  refine jv_Wp.lift (fun _ Kz => jv_Ev.steps jv_i63 2 (pc' := 6) (l' := [(3, .int (13 : Int32)), (0, .ref 171), (1, .long w)]) (st' := [.long w]) rfl Kz) ?_
  refine jv_Wp.lift (fun _ Kz => jv_Ev.c jv_i63 (pc' := 9) (S' := [.int (Int32.ofInt f.i)]) jv_i89 [.long w] rfl rfl rfl rfl rfl rfl (vw_f89 ef) rfl rfl Kz) ?_
  refine jv_Wp.lift (fun _ Kz => jv_Ev.steps jv_i63 2 (pc' := 12) (l' := [(4, .int (Int32.ofInt f.i)), (3, .int (13 : Int32)), (0, .ref 171), (1, .long w)]) (st' := [.long w]) rfl Kz) ?_
  refine jv_Wp.lift (fun _ Kz => jv_Ev.c jv_i63 (pc' := 15) (S' := [.int (Int32.ofInt f.o)]) jv_i88 [.long w] rfl rfl rfl rfl rfl rfl (vw_f88 ef) rfl rfl Kz) ?_
  refine jv_Wp.lift (fun _ Kz => jv_Ev.steps jv_i63 2 (pc' := 18) (l' := [(5, .int (Int32.ofInt f.o)), (4, .int (Int32.ofInt f.i)), (3, .int (13 : Int32)), (0, .ref 171), (1, .long w)]) (st' := [.long w]) rfl Kz) ?_
  refine jv_Wp.lift (fun _ Kz => jv_Ev.c jv_i63 (pc' := 21) (S' := [.int (vl_I f.d)]) jv_i86 [.long w] rfl rfl rfl rfl rfl rfl (vw_f86 ef) rfl rfl Kz) ?_
  refine jv_Wp.lift (fun _ Kz => jv_Ev.steps jv_i63 2 (pc' := 24) (l' := [(6, .int (vl_I f.d)), (5, .int (Int32.ofInt f.o)), (4, .int (Int32.ofInt f.i)), (3, .int (13 : Int32)), (0, .ref 171), (1, .long w)]) (st' := [.long w]) rfl Kz) ?_
  refine jv_Wp.lift (fun _ Kz => jv_Ev.c jv_i63 (pc' := 27) (S' := [.int (4 : Int32)]) jv_i81 [.long w] rfl rfl rfl rfl rfl rfl (vw_l81 ef hk rfl) rfl rfl Kz) ?_
  refine jv_Wp.lift (fun _ Kz => jv_Ev.steps jv_i63 1 (pc' := 29) (l' := [(6, .int (vl_I f.d)), (5, .int (Int32.ofInt f.o)), (4, .int (Int32.ofInt f.i)), (3, .int (13 : Int32)), (0, .ref 171), (1, .long w)]) (st' := [.int (7 : Int32), .int (4 : Int32)]) rfl Kz) ?_
  refine jv_Wp.lift (fun _ Kz => jv_Ev.br jv_i63 (pc' := 36) (st' := []) rfl (by rfl) Kz) ?_
  refine jv_Wp.lift (fun _ Kz => jv_Ev.steps jv_i63 4 (pc' := 42) (l' := [(7, .int (0 : Int32)), (6, .int (vl_I f.d)), (5, .int (Int32.ofInt f.o)), (4, .int (Int32.ofInt f.i)), (3, .int (13 : Int32)), (0, .ref 171), (1, .long w)]) (st' := [.int (11 : Int32), .int (13 : Int32)]) rfl Kz) ?_
  refine jv_Wp.lift (fun _ Kz => jv_Ev.br jv_i63 (pc' := 49) (st' := []) rfl (by rfl) Kz) ?_
  refine jv_Wp.lift (fun _ Kz => jv_Ev.steps jv_i63 2 (pc' := 52) (l' := [(7, .int (0 : Int32)), (6, .int (vl_I f.d)), (5, .int (Int32.ofInt f.o)), (4, .int (Int32.ofInt f.i)), (3, .int (13 : Int32)), (0, .ref 171), (1, .long w)]) (st' := [.int (vl_I f.d), .ref 171]) rfl Kz) ?_
  refine jv_Wp.lift (fun _ Kz => jv_Ev.c jv_i63 (pc' := 55) (S' := [.long xd]) jv_i53 [.ref 171, .int (vl_I f.d)] rfl rfl rfl rfl (jv_cal rfl (jv_H_at (vm_cK hC 171 2 13 (by decide))) rfl rfl) rfl (vm_cget hC h hd hgd) rfl rfl Kz) ?_
  refine jv_Wp.lift (fun _ Kz => jv_Ev.steps jv_i63 3 (pc' := 60) (l' := [(8, .long xd), (7, .int (0 : Int32)), (6, .int (vl_I f.d)), (5, .int (Int32.ofInt f.o)), (4, .int (Int32.ofInt f.i)), (3, .int (13 : Int32)), (0, .ref 171), (1, .long w)]) (st' := [.int (13 : Int32), .int (13 : Int32)]) rfl Kz) ?_
  refine jv_Wp.lift (fun _ Kz => jv_Ev.br jv_i63 (pc' := 63) (st' := []) rfl (by rfl) Kz) ?_
  refine jv_Wp.lift (fun _ Kz => jv_Ev.steps jv_i63 1 (pc' := 65) (l' := [(8, .long xd), (7, .int (0 : Int32)), (6, .int (vl_I f.d)), (5, .int (Int32.ofInt f.o)), (4, .int (Int32.ofInt f.i)), (3, .int (13 : Int32)), (0, .ref 171), (1, .long w)]) (st' := [.int (0 : Int32)]) rfl Kz) ?_
  refine jv_Wp.lift (fun _ Kz => jv_Ev.br jv_i63 (pc' := 68) (st' := []) rfl (by rfl) Kz) ?_
  refine jv_Wp.lift (fun _ Kz => jv_Ev.steps jv_i63 1 (pc' := 69) (l' := [(8, .long xd), (7, .int (0 : Int32)), (6, .int (vl_I f.d)), (5, .int (Int32.ofInt f.o)), (4, .int (Int32.ofInt f.i)), (3, .int (13 : Int32)), (0, .ref 171), (1, .long w)]) (st' := [.long w]) rfl Kz) ?_
  refine jv_Wp.lift (fun _ Kz => jv_Ev.c jv_i63 (pc' := 72) (S' := [.int (0 : Int32)]) jv_i83 [.long w] rfl rfl rfl rfl rfl rfl (vw_l83 ef hb3 rfl) rfl rfl Kz) ?_
  refine jv_Wp.lift (fun _ Kz => jv_Ev.br jv_i63 (pc' := 79) (st' := []) rfl (by rfl) Kz) ?_
  refine jv_Wp.lift (fun _ Kz => jv_Ev.steps jv_i63 5 (pc' := 87) (l' := [(10, .int (0 : Int32)), (8, .long xd), (7, .int (0 : Int32)), (6, .int (vl_I f.d)), (5, .int (Int32.ofInt f.o)), (4, .int (Int32.ofInt f.i)), (3, .int (13 : Int32)), (0, .ref 171), (1, .long w)]) (st' := [.int (0 : Int32), .int (vl_I f.d), .ref 171]) rfl Kz) ?_
  refine jv_Wp.lift (fun _ Kz => jv_Ev.br jv_i63 (pc' := 100) (st' := [.int (vl_I f.d), .ref 171]) rfl (by rfl) Kz) ?_
  refine jv_Wp.lift (fun _ Kz => jv_Ev.steps jv_i63 2 (pc' := 104) (l' := [(10, .int (0 : Int32)), (8, .long xd), (7, .int (0 : Int32)), (6, .int (vl_I f.d)), (5, .int (Int32.ofInt f.o)), (4, .int (Int32.ofInt f.i)), (3, .int (13 : Int32)), (0, .ref 171), (1, .long w)]) (st' := [.int (Int32.ofInt f.i), .long xd, .int (vl_I f.d), .ref 171]) rfl Kz) ?_
  refine jv_Wp.lift (fun _ Kz => jv_Ev.c jv_i63 (pc' := 107) (S' := [.long (jv_clowest (vl_I f.i.toNat)), .long xd, .int (vl_I f.d), .ref 171]) jv_i5 [.int (Int32.ofInt f.i)] rfl rfl rfl rfl rfl rfl (show jv_Ms 5 [.int (Int32.ofInt f.i)] _ _ _ _ from by rw [hI]; exact jv_s5 (vl_I f.i.toNat)) rfl rfl Kz) ?_
  refine jv_Wp.lift (fun _ Kz => jv_Ev.steps jv_i63 1 (pc' := 108) (l' := [(10, .int (0 : Int32)), (8, .long xd), (7, .int (0 : Int32)), (6, .int (vl_I f.d)), (5, .int (Int32.ofInt f.o)), (4, .int (Int32.ofInt f.i)), (3, .int (13 : Int32)), (0, .ref 171), (1, .long w)]) (st' := [.long (xd &&& (jv_clowest (vl_I f.i.toNat))), .int (vl_I f.d), .ref 171]) rfl Kz) ?_
  refine jv_Wp.lift (fun _ Kz => jv_Ev.c jv_i63 (pc' := 111) (S' := []) (G1 := (jv_H K (jv_u I 171 2 ((I 171 2) ||| ((1 : Int32) <<< ((vl_I f.d) &&& 31)))) (jv_u L 172 f.d (xd &&& (jv_clowest (vl_I f.i.toNat)))) R)) jv_i54 [.ref 171, .int (vl_I f.d), .long (xd &&& (jv_clowest (vl_I f.i.toNat)))] rfl rfl rfl rfl (jv_cal rfl (jv_H_at (vm_cK hC 171 2 13 (by decide))) rfl rfl) rfl (vm_cset (I := I) (L := L) (n := n) (sl := sl) (r := f.d) hC (by omega)) rfl rfl Kz) ?_
  refine jv_Wp.of (jv_Ev.ret jv_i63 rfl rfl) ?_
  have ev : (xd &&& (jv_clowest (vl_I f.i.toNat))) = Int64.ofBitVec (vx_do f x.toBitVec y.toBitVec (vm_sg f x.toBitVec y.toBitVec)) := Int64.toBitVec_inj.mp (by unfold vx_do; rw [if_pos hn, if_neg (by rw [hk, hb3]; decide), Int64.toBitVec_and, vl_lowk (by omega), exd]; rfl)
  rw [hQ, ev]
  exact ⟨_, _, rfl, vc_m_gv h hd, vm_gv_ff (vc_ff_refl _ I L)⟩
theorem vc_reckon4m0r {K : Nat → Option (Nat × Nat)} {I : Nat → Nat → Int32} {L : Nat → Nat → Int64} {R : Nat → Nat → Value} (hC : vm_CW K R) {S T : vm_S} (h : vm_c I L S) {w : Int64} {f : vf_F} (ef : vc_F w = f) (hd : f.d < 11) (hs : f.s < 11) (har : vf_ar f) (hk : f.kind = 4) (hn : f.n = 11) (ho0 : f.o = 0) (hb3 : f.bit3 = true) (hl : vm_arith f S = some T) {n sl : Nat} : ∃ I1 L1, jv_Ms 63 [.ref 171, .long w] (jv_H K I L R) n sl (none, jv_H K I1 L1 R, n, sl) ∧ vm_c I1 L1 T ∧ vc_ff vm_Er I L I1 L1 := by
  obtain ⟨Q, hQ⟩ : ∃ Q : jv_R → Prop, Q = fun X => ∃ I1 L1, X = (none, jv_H K I1 L1 R, n, sl) ∧ vm_c I1 L1 T ∧ vc_ff vm_Er I L I1 L1 := ⟨_, rfl⟩
  suffices hE : jv_Wp 63 0 [(0, .ref 171), (1, .long w)] [] (jv_H K I L R) n sl Q by
    rw [hQ] at hE
    obtain ⟨X, hE, I1, L1, e, h'⟩ := hE
    subst e
    exact ⟨I1, L1, hE, h'⟩
  obtain ⟨x, y, hx, hy, hT⟩ := vm_arith_dec hl
  subst hT
  have hn256 : f.n < 256 := by have : f.n = f.code / 16 := rfl; have := vw_dc ef; omega
  rw [if_neg (show ¬ f.n = 13 by omega)] at hy
  rw [if_pos hb3] at hy
  obtain ⟨xs, exs⟩ : ∃ xs, xs = y := ⟨y, rfl⟩
  have hgs : vm_rd S f.s = some xs := exs ▸ hy
  have ho1 : f.o ≠ 1 := by have := har.2.2.2.1 hn; omega
  refine jv_Wp.lift (fun _ Kz => jv_Ev.steps jv_i63 1 (pc' := 1) (l' := [(0, .ref 171), (1, .long w)]) (st' := [.long w]) rfl Kz) ?_
  refine jv_Wp.lift (fun _ Kz => jv_Ev.c jv_i63 (pc' := 4) (S' := [.int (11 : Int32)]) jv_i82 [.long w] rfl rfl rfl rfl rfl rfl (vw_l82 ef hn rfl) rfl rfl Kz) ?_
  refine jv_Wp.lift (fun _ Kz => jv_Ev.steps jv_i63 2 (pc' := 6) (l' := [(3, .int (11 : Int32)), (0, .ref 171), (1, .long w)]) (st' := [.long w]) rfl Kz) ?_
  refine jv_Wp.lift (fun _ Kz => jv_Ev.c jv_i63 (pc' := 9) (S' := [.int (Int32.ofInt f.i)]) jv_i89 [.long w] rfl rfl rfl rfl rfl rfl (vw_f89 ef) rfl rfl Kz) ?_
  refine jv_Wp.lift (fun _ Kz => jv_Ev.steps jv_i63 2 (pc' := 12) (l' := [(4, .int (Int32.ofInt f.i)), (3, .int (11 : Int32)), (0, .ref 171), (1, .long w)]) (st' := [.long w]) rfl Kz) ?_
  refine jv_Wp.lift (fun _ Kz => jv_Ev.c jv_i63 (pc' := 15) (S' := [.int (Int32.ofInt f.o)]) jv_i88 [.long w] rfl rfl rfl rfl rfl rfl (vw_f88 ef) rfl rfl Kz) ?_
  refine jv_Wp.lift (fun _ Kz => jv_Ev.steps jv_i63 2 (pc' := 18) (l' := [(5, .int (Int32.ofInt f.o)), (4, .int (Int32.ofInt f.i)), (3, .int (11 : Int32)), (0, .ref 171), (1, .long w)]) (st' := [.long w]) rfl Kz) ?_
  refine jv_Wp.lift (fun _ Kz => jv_Ev.c jv_i63 (pc' := 21) (S' := [.int (vl_I f.d)]) jv_i86 [.long w] rfl rfl rfl rfl rfl rfl (vw_f86 ef) rfl rfl Kz) ?_
  refine jv_Wp.lift (fun _ Kz => jv_Ev.steps jv_i63 2 (pc' := 24) (l' := [(6, .int (vl_I f.d)), (5, .int (Int32.ofInt f.o)), (4, .int (Int32.ofInt f.i)), (3, .int (11 : Int32)), (0, .ref 171), (1, .long w)]) (st' := [.long w]) rfl Kz) ?_
  refine jv_Wp.lift (fun _ Kz => jv_Ev.c jv_i63 (pc' := 27) (S' := [.int (4 : Int32)]) jv_i81 [.long w] rfl rfl rfl rfl rfl rfl (vw_l81 ef hk rfl) rfl rfl Kz) ?_
  refine jv_Wp.lift (fun _ Kz => jv_Ev.steps jv_i63 1 (pc' := 29) (l' := [(6, .int (vl_I f.d)), (5, .int (Int32.ofInt f.o)), (4, .int (Int32.ofInt f.i)), (3, .int (11 : Int32)), (0, .ref 171), (1, .long w)]) (st' := [.int (7 : Int32), .int (4 : Int32)]) rfl Kz) ?_
  refine jv_Wp.lift (fun _ Kz => jv_Ev.br jv_i63 (pc' := 36) (st' := []) rfl (by rfl) Kz) ?_
  refine jv_Wp.lift (fun _ Kz => jv_Ev.steps jv_i63 4 (pc' := 42) (l' := [(7, .int (0 : Int32)), (6, .int (vl_I f.d)), (5, .int (Int32.ofInt f.o)), (4, .int (Int32.ofInt f.i)), (3, .int (11 : Int32)), (0, .ref 171), (1, .long w)]) (st' := [.int (11 : Int32), .int (11 : Int32)]) rfl Kz) ?_
  refine jv_Wp.lift (fun _ Kz => jv_Ev.br jv_i63 (pc' := 45) (st' := []) rfl (by rfl) Kz) ?_
  refine jv_Wp.lift (fun _ Kz => jv_Ev.steps jv_i63 5 (pc' := 60) (l' := [(8, .long (0 : Int64)), (7, .int (0 : Int32)), (6, .int (vl_I f.d)), (5, .int (Int32.ofInt f.o)), (4, .int (Int32.ofInt f.i)), (3, .int (11 : Int32)), (0, .ref 171), (1, .long w)]) (st' := [.int (13 : Int32), .int (11 : Int32)]) rfl Kz) ?_
  refine jv_Wp.lift (fun _ Kz => jv_Ev.br jv_i63 (pc' := 112) (st' := []) rfl (by rfl) Kz) ?_
  refine jv_Wp.lift (fun _ Kz => jv_Ev.steps jv_i63 1 (pc' := 113) (l' := [(8, .long (0 : Int64)), (7, .int (0 : Int32)), (6, .int (vl_I f.d)), (5, .int (Int32.ofInt f.o)), (4, .int (Int32.ofInt f.i)), (3, .int (11 : Int32)), (0, .ref 171), (1, .long w)]) (st' := [.long w]) rfl Kz) ?_
  refine jv_Wp.lift (fun _ Kz => jv_Ev.c jv_i63 (pc' := 116) (S' := [.int (1 : Int32)]) jv_i83 [.long w] rfl rfl rfl rfl rfl rfl (vw_l83 ef hb3 rfl) rfl rfl Kz) ?_
  refine jv_Wp.lift (fun _ Kz => jv_Ev.br jv_i63 (pc' := 119) (st' := []) rfl (by rfl) Kz) ?_
  refine jv_Wp.lift (fun _ Kz => jv_Ev.steps jv_i63 2 (pc' := 121) (l' := [(8, .long (0 : Int64)), (7, .int (0 : Int32)), (6, .int (vl_I f.d)), (5, .int (Int32.ofInt f.o)), (4, .int (Int32.ofInt f.i)), (3, .int (11 : Int32)), (0, .ref 171), (1, .long w)]) (st' := [.long w, .ref 171]) rfl Kz) ?_
  refine jv_Wp.lift (fun _ Kz => jv_Ev.c jv_i63 (pc' := 124) (S' := [.int (vl_I f.s), .ref 171]) jv_i87 [.long w] rfl rfl rfl rfl rfl rfl (vw_f87 ef) rfl rfl Kz) ?_
  refine jv_Wp.lift (fun _ Kz => jv_Ev.c jv_i63 (pc' := 127) (S' := [.long xs]) jv_i53 [.ref 171, .int (vl_I f.s)] rfl rfl rfl rfl (jv_cal rfl (jv_H_at (vm_cK hC 171 2 13 (by decide))) rfl rfl) rfl (vm_cget hC h hs hgs) rfl rfl Kz) ?_
  refine jv_Wp.lift (fun _ Kz => jv_Ev.steps jv_i63 4 (pc' := 138) (l' := [(10, .long xs), (8, .long (0 : Int64)), (7, .int (0 : Int32)), (6, .int (vl_I f.d)), (5, .int (Int32.ofInt f.o)), (4, .int (Int32.ofInt f.i)), (3, .int (11 : Int32)), (0, .ref 171), (1, .long w)]) (st' := [.int (11 : Int32), .int (11 : Int32)]) rfl Kz) ?_
  refine jv_Wp.lift (fun _ Kz => jv_Ev.br jv_i63 (pc' := 141) (st' := []) rfl (by rfl) Kz) ?_
  refine jv_Wp.lift (fun _ Kz => jv_Ev.steps jv_i63 1 (pc' := 143) (l' := [(10, .long xs), (8, .long (0 : Int64)), (7, .int (0 : Int32)), (6, .int (vl_I f.d)), (5, .int (Int32.ofInt f.o)), (4, .int (Int32.ofInt f.i)), (3, .int (11 : Int32)), (0, .ref 171), (1, .long w)]) (st' := [.int (Int32.ofInt f.o)]) rfl Kz) ?_
  refine jv_Wp.cnd jv_i63 (pt := 162) (pe := 146) (p := ((Int32.ofInt f.o) ≤ 0)) (q := ((Int32.ofInt f.o) ≤ 0)) rfl jv_bi_le rfl rfl Iff.rfl (fun _ => ?_) (fun hz => absurd (Int32.le_iff_toInt_le.mpr (by rw [vw_dO ef, show (0 : Int32).toInt = 0 from rfl]; omega)) hz)
  refine jv_Wp.lift (fun _ Kz => jv_Ev.steps jv_i63 2 (pc' := 165) (l' := [(10, .long xs), (8, .long (0 : Int64)), (7, .int (0 : Int32)), (6, .int (vl_I f.d)), (5, .int (Int32.ofInt f.o)), (4, .int (Int32.ofInt f.i)), (3, .int (11 : Int32)), (0, .ref 171), (1, .long w)]) (st' := [.int (1 : Int32), .int (Int32.ofInt f.o)]) rfl Kz) ?_
  refine jv_Wp.cnd jv_i63 (pt := 172) (pe := 168) (p := (¬ (Int32.ofInt f.o) = (1 : Int32))) (q := (¬ (Int32.ofInt f.o) = (1 : Int32))) rfl jv_bc_ne rfl rfl Iff.rfl (fun _ => ?_) (fun hz => absurd (fun z => by have := (vm_o1 (vw_dO ef)).mp z; omega) hz)
  refine jv_Wp.lift (fun _ Kz => jv_Ev.steps jv_i63 5 (pc' := 180) (l' := [(12, .int (0 : Int32)), (10, .long xs), (8, .long (0 : Int64)), (7, .int (0 : Int32)), (6, .int (vl_I f.d)), (5, .int (Int32.ofInt f.o)), (4, .int (Int32.ofInt f.i)), (3, .int (11 : Int32)), (0, .ref 171), (1, .long w)]) (st' := [.int (0 : Int32), .int (vl_I f.d), .ref 171]) rfl Kz) ?_
  refine jv_Wp.lift (fun _ Kz => jv_Ev.br jv_i63 (pc' := 196) (st' := [.int (vl_I f.d), .ref 171]) rfl (by rfl) Kz) ?_
  refine jv_Wp.lift (fun _ Kz => jv_Ev.steps jv_i63 6 (pc' := 205) (l' := [(12, .int (0 : Int32)), (10, .long xs), (8, .long (0 : Int64)), (7, .int (0 : Int32)), (6, .int (vl_I f.d)), (5, .int (Int32.ofInt f.o)), (4, .int (Int32.ofInt f.i)), (3, .int (11 : Int32)), (0, .ref 171), (1, .long w)]) (st' := [.int (0 : Int32), .int xs.toInt32, .int (0 : Int64).toInt32, .int (11 : Int32), .int (vl_I f.d), .ref 171]) rfl Kz) ?_
  refine jv_Wp.lift (fun _ Kz => jv_Ev.c jv_i63 (pc' := 208) (S' := [.long (Int64.ofBitVec (vm_ci 11 ((0 : Int64).toInt32).toBitVec (xs.toInt32).toBitVec false)), .int (vl_I f.d), .ref 171]) jv_i66 [.int (11 : Int32), .int (0 : Int64).toInt32, .int xs.toInt32, .int (0 : Int32)] rfl rfl rfl rfl rfl rfl (vc_rints (n := 11) (x := (0 : Int64).toInt32) (y := xs.toInt32) (sg := false) (by decide)) rfl rfl Kz) ?_
  refine jv_Wp.lift (fun _ Kz => jv_Ev.steps jv_i63 1 (pc' := 210) (l' := [(12, .int (0 : Int32)), (10, .long xs), (8, .long (0 : Int64)), (7, .int (0 : Int32)), (6, .int (vl_I f.d)), (5, .int (Int32.ofInt f.o)), (4, .int (Int32.ofInt f.i)), (3, .int (11 : Int32)), (0, .ref 171), (1, .long w)]) (st' := [.int (32 : Int32), .long (Int64.ofBitVec (vm_ci 11 ((0 : Int64).toInt32).toBitVec (xs.toInt32).toBitVec false)), .int (vl_I f.d), .ref 171]) rfl Kz) ?_
  refine jv_Wp.lift (fun _ Kz => jv_Ev.c jv_i63 (pc' := 213) (S' := [.long (jv_clowest (32 : Int32)), .long (Int64.ofBitVec (vm_ci 11 ((0 : Int64).toInt32).toBitVec (xs.toInt32).toBitVec false)), .int (vl_I f.d), .ref 171]) jv_i5 [.int (32 : Int32)] rfl rfl rfl rfl rfl rfl (jv_s5 (32 : Int32)) rfl rfl Kz) ?_
  refine jv_Wp.lift (fun _ Kz => jv_Ev.steps jv_i63 1 (pc' := 214) (l' := [(12, .int (0 : Int32)), (10, .long xs), (8, .long (0 : Int64)), (7, .int (0 : Int32)), (6, .int (vl_I f.d)), (5, .int (Int32.ofInt f.o)), (4, .int (Int32.ofInt f.i)), (3, .int (11 : Int32)), (0, .ref 171), (1, .long w)]) (st' := [.long ((Int64.ofBitVec (vm_ci 11 ((0 : Int64).toInt32).toBitVec (xs.toInt32).toBitVec false)) &&& (jv_clowest (32 : Int32))), .int (vl_I f.d), .ref 171]) rfl Kz) ?_
  refine jv_Wp.lift (fun _ Kz => jv_Ev.c jv_i63 (pc' := 217) (S' := []) (G1 := (jv_H K (jv_u I 171 2 ((I 171 2) ||| ((1 : Int32) <<< ((vl_I f.d) &&& 31)))) (jv_u L 172 f.d ((Int64.ofBitVec (vm_ci 11 ((0 : Int64).toInt32).toBitVec (xs.toInt32).toBitVec false)) &&& (jv_clowest (32 : Int32)))) R)) jv_i54 [.ref 171, .int (vl_I f.d), .long ((Int64.ofBitVec (vm_ci 11 ((0 : Int64).toInt32).toBitVec (xs.toInt32).toBitVec false)) &&& (jv_clowest (32 : Int32)))] rfl rfl rfl rfl (jv_cal rfl (jv_H_at (vm_cK hC 171 2 13 (by decide))) rfl rfl) rfl (vm_cset (I := I) (L := L) (n := n) (sl := sl) (r := f.d) hC (by omega)) rfl rfl Kz) ?_
  refine jv_Wp.of (jv_Ev.ret jv_i63 rfl rfl) ?_
  have ev : ((Int64.ofBitVec (vm_ci 11 ((0 : Int64).toInt32).toBitVec (xs.toInt32).toBitVec false)) &&& (jv_clowest (32 : Int32))) = Int64.ofBitVec (vx_do f x.toBitVec y.toBitVec (vm_sg f x.toBitVec y.toBitVec)) := Int64.toBitVec_inj.mp (by rw [vm_do4m (by omega) hn, if_pos ho0]; rw [Int64.toBitVec_and, show (jv_clowest (32 : Int32)).toBitVec = vb_lowest 32 from vl_lowk (n := 32) (by decide)]; refine vb_lo_eq ?_; rw [exs]; show ((BitVec.signExtend 64 (_ : BitVec 32))).setWidth 32 = _; rw [vb_lo_se, vl_i32])
  rw [hQ, ev]
  exact ⟨_, _, rfl, vc_m_gv h hd, vm_gv_ff (vc_ff_refl _ I L)⟩
theorem vc_reckon4m0i {K : Nat → Option (Nat × Nat)} {I : Nat → Nat → Int32} {L : Nat → Nat → Int64} {R : Nat → Nat → Value} (hC : vm_CW K R) {S T : vm_S} (h : vm_c I L S) {w : Int64} {f : vf_F} (ef : vc_F w = f) (hd : f.d < 11) (hs : f.s < 11) (har : vf_ar f) (hk : f.kind = 4) (hn : f.n = 11) (ho0 : f.o = 0) (hb3 : f.bit3 = false) (hl : vm_arith f S = some T) {n sl : Nat} : ∃ I1 L1, jv_Ms 63 [.ref 171, .long w] (jv_H K I L R) n sl (none, jv_H K I1 L1 R, n, sl) ∧ vm_c I1 L1 T ∧ vc_ff vm_Er I L I1 L1 := by
  obtain ⟨Q, hQ⟩ : ∃ Q : jv_R → Prop, Q = fun X => ∃ I1 L1, X = (none, jv_H K I1 L1 R, n, sl) ∧ vm_c I1 L1 T ∧ vc_ff vm_Er I L I1 L1 := ⟨_, rfl⟩
  suffices hE : jv_Wp 63 0 [(0, .ref 171), (1, .long w)] [] (jv_H K I L R) n sl Q by
    rw [hQ] at hE
    obtain ⟨X, hE, I1, L1, e, h'⟩ := hE
    subst e
    exact ⟨I1, L1, hE, h'⟩
  obtain ⟨x, y, hx, hy, hT⟩ := vm_arith_dec hl
  subst hT
  have hn256 : f.n < 256 := by have : f.n = f.code / 16 := rfl; have := vw_dc ef; omega
  rw [if_neg (show ¬ f.n = 13 by omega)] at hy
  rw [if_neg (by rw [hb3]; decide)] at hy
  have exs : (Int32.ofInt f.i).toInt64 = y := (vm_io (vw_dQ ef)).trans (Option.some.inj hy)
  have ho1 : f.o ≠ 1 := by have := har.2.2.2.1 hn; omega
  refine jv_Wp.lift (fun _ Kz => jv_Ev.steps jv_i63 1 (pc' := 1) (l' := [(0, .ref 171), (1, .long w)]) (st' := [.long w]) rfl Kz) ?_
  refine jv_Wp.lift (fun _ Kz => jv_Ev.c jv_i63 (pc' := 4) (S' := [.int (11 : Int32)]) jv_i82 [.long w] rfl rfl rfl rfl rfl rfl (vw_l82 ef hn rfl) rfl rfl Kz) ?_
  refine jv_Wp.lift (fun _ Kz => jv_Ev.steps jv_i63 2 (pc' := 6) (l' := [(3, .int (11 : Int32)), (0, .ref 171), (1, .long w)]) (st' := [.long w]) rfl Kz) ?_
  refine jv_Wp.lift (fun _ Kz => jv_Ev.c jv_i63 (pc' := 9) (S' := [.int (Int32.ofInt f.i)]) jv_i89 [.long w] rfl rfl rfl rfl rfl rfl (vw_f89 ef) rfl rfl Kz) ?_
  refine jv_Wp.lift (fun _ Kz => jv_Ev.steps jv_i63 2 (pc' := 12) (l' := [(4, .int (Int32.ofInt f.i)), (3, .int (11 : Int32)), (0, .ref 171), (1, .long w)]) (st' := [.long w]) rfl Kz) ?_
  refine jv_Wp.lift (fun _ Kz => jv_Ev.c jv_i63 (pc' := 15) (S' := [.int (Int32.ofInt f.o)]) jv_i88 [.long w] rfl rfl rfl rfl rfl rfl (vw_f88 ef) rfl rfl Kz) ?_
  refine jv_Wp.lift (fun _ Kz => jv_Ev.steps jv_i63 2 (pc' := 18) (l' := [(5, .int (Int32.ofInt f.o)), (4, .int (Int32.ofInt f.i)), (3, .int (11 : Int32)), (0, .ref 171), (1, .long w)]) (st' := [.long w]) rfl Kz) ?_
  refine jv_Wp.lift (fun _ Kz => jv_Ev.c jv_i63 (pc' := 21) (S' := [.int (vl_I f.d)]) jv_i86 [.long w] rfl rfl rfl rfl rfl rfl (vw_f86 ef) rfl rfl Kz) ?_
  refine jv_Wp.lift (fun _ Kz => jv_Ev.steps jv_i63 2 (pc' := 24) (l' := [(6, .int (vl_I f.d)), (5, .int (Int32.ofInt f.o)), (4, .int (Int32.ofInt f.i)), (3, .int (11 : Int32)), (0, .ref 171), (1, .long w)]) (st' := [.long w]) rfl Kz) ?_
  refine jv_Wp.lift (fun _ Kz => jv_Ev.c jv_i63 (pc' := 27) (S' := [.int (4 : Int32)]) jv_i81 [.long w] rfl rfl rfl rfl rfl rfl (vw_l81 ef hk rfl) rfl rfl Kz) ?_
  refine jv_Wp.lift (fun _ Kz => jv_Ev.steps jv_i63 1 (pc' := 29) (l' := [(6, .int (vl_I f.d)), (5, .int (Int32.ofInt f.o)), (4, .int (Int32.ofInt f.i)), (3, .int (11 : Int32)), (0, .ref 171), (1, .long w)]) (st' := [.int (7 : Int32), .int (4 : Int32)]) rfl Kz) ?_
  refine jv_Wp.lift (fun _ Kz => jv_Ev.br jv_i63 (pc' := 36) (st' := []) rfl (by rfl) Kz) ?_
  refine jv_Wp.lift (fun _ Kz => jv_Ev.steps jv_i63 4 (pc' := 42) (l' := [(7, .int (0 : Int32)), (6, .int (vl_I f.d)), (5, .int (Int32.ofInt f.o)), (4, .int (Int32.ofInt f.i)), (3, .int (11 : Int32)), (0, .ref 171), (1, .long w)]) (st' := [.int (11 : Int32), .int (11 : Int32)]) rfl Kz) ?_
  refine jv_Wp.lift (fun _ Kz => jv_Ev.br jv_i63 (pc' := 45) (st' := []) rfl (by rfl) Kz) ?_
  refine jv_Wp.lift (fun _ Kz => jv_Ev.steps jv_i63 5 (pc' := 60) (l' := [(8, .long (0 : Int64)), (7, .int (0 : Int32)), (6, .int (vl_I f.d)), (5, .int (Int32.ofInt f.o)), (4, .int (Int32.ofInt f.i)), (3, .int (11 : Int32)), (0, .ref 171), (1, .long w)]) (st' := [.int (13 : Int32), .int (11 : Int32)]) rfl Kz) ?_
  refine jv_Wp.lift (fun _ Kz => jv_Ev.br jv_i63 (pc' := 112) (st' := []) rfl (by rfl) Kz) ?_
  refine jv_Wp.lift (fun _ Kz => jv_Ev.steps jv_i63 1 (pc' := 113) (l' := [(8, .long (0 : Int64)), (7, .int (0 : Int32)), (6, .int (vl_I f.d)), (5, .int (Int32.ofInt f.o)), (4, .int (Int32.ofInt f.i)), (3, .int (11 : Int32)), (0, .ref 171), (1, .long w)]) (st' := [.long w]) rfl Kz) ?_
  refine jv_Wp.lift (fun _ Kz => jv_Ev.c jv_i63 (pc' := 116) (S' := [.int (0 : Int32)]) jv_i83 [.long w] rfl rfl rfl rfl rfl rfl (vw_l83 ef hb3 rfl) rfl rfl Kz) ?_
  refine jv_Wp.lift (fun _ Kz => jv_Ev.br jv_i63 (pc' := 130) (st' := []) rfl (by rfl) Kz) ?_
  refine jv_Wp.lift (fun _ Kz => jv_Ev.steps jv_i63 5 (pc' := 138) (l' := [(10, .long (Int32.ofInt f.i).toInt64), (8, .long (0 : Int64)), (7, .int (0 : Int32)), (6, .int (vl_I f.d)), (5, .int (Int32.ofInt f.o)), (4, .int (Int32.ofInt f.i)), (3, .int (11 : Int32)), (0, .ref 171), (1, .long w)]) (st' := [.int (11 : Int32), .int (11 : Int32)]) rfl Kz) ?_
  refine jv_Wp.lift (fun _ Kz => jv_Ev.br jv_i63 (pc' := 141) (st' := []) rfl (by rfl) Kz) ?_
  refine jv_Wp.lift (fun _ Kz => jv_Ev.steps jv_i63 1 (pc' := 143) (l' := [(10, .long (Int32.ofInt f.i).toInt64), (8, .long (0 : Int64)), (7, .int (0 : Int32)), (6, .int (vl_I f.d)), (5, .int (Int32.ofInt f.o)), (4, .int (Int32.ofInt f.i)), (3, .int (11 : Int32)), (0, .ref 171), (1, .long w)]) (st' := [.int (Int32.ofInt f.o)]) rfl Kz) ?_
  refine jv_Wp.cnd jv_i63 (pt := 162) (pe := 146) (p := ((Int32.ofInt f.o) ≤ 0)) (q := ((Int32.ofInt f.o) ≤ 0)) rfl jv_bi_le rfl rfl Iff.rfl (fun _ => ?_) (fun hz => absurd (Int32.le_iff_toInt_le.mpr (by rw [vw_dO ef, show (0 : Int32).toInt = 0 from rfl]; omega)) hz)
  refine jv_Wp.lift (fun _ Kz => jv_Ev.steps jv_i63 2 (pc' := 165) (l' := [(10, .long (Int32.ofInt f.i).toInt64), (8, .long (0 : Int64)), (7, .int (0 : Int32)), (6, .int (vl_I f.d)), (5, .int (Int32.ofInt f.o)), (4, .int (Int32.ofInt f.i)), (3, .int (11 : Int32)), (0, .ref 171), (1, .long w)]) (st' := [.int (1 : Int32), .int (Int32.ofInt f.o)]) rfl Kz) ?_
  refine jv_Wp.cnd jv_i63 (pt := 172) (pe := 168) (p := (¬ (Int32.ofInt f.o) = (1 : Int32))) (q := (¬ (Int32.ofInt f.o) = (1 : Int32))) rfl jv_bc_ne rfl rfl Iff.rfl (fun _ => ?_) (fun hz => absurd (fun z => by have := (vm_o1 (vw_dO ef)).mp z; omega) hz)
  refine jv_Wp.lift (fun _ Kz => jv_Ev.steps jv_i63 5 (pc' := 180) (l' := [(12, .int (0 : Int32)), (10, .long (Int32.ofInt f.i).toInt64), (8, .long (0 : Int64)), (7, .int (0 : Int32)), (6, .int (vl_I f.d)), (5, .int (Int32.ofInt f.o)), (4, .int (Int32.ofInt f.i)), (3, .int (11 : Int32)), (0, .ref 171), (1, .long w)]) (st' := [.int (0 : Int32), .int (vl_I f.d), .ref 171]) rfl Kz) ?_
  refine jv_Wp.lift (fun _ Kz => jv_Ev.br jv_i63 (pc' := 196) (st' := [.int (vl_I f.d), .ref 171]) rfl (by rfl) Kz) ?_
  refine jv_Wp.lift (fun _ Kz => jv_Ev.steps jv_i63 6 (pc' := 205) (l' := [(12, .int (0 : Int32)), (10, .long (Int32.ofInt f.i).toInt64), (8, .long (0 : Int64)), (7, .int (0 : Int32)), (6, .int (vl_I f.d)), (5, .int (Int32.ofInt f.o)), (4, .int (Int32.ofInt f.i)), (3, .int (11 : Int32)), (0, .ref 171), (1, .long w)]) (st' := [.int (0 : Int32), .int (Int32.ofInt f.i).toInt64.toInt32, .int (0 : Int64).toInt32, .int (11 : Int32), .int (vl_I f.d), .ref 171]) rfl Kz) ?_
  refine jv_Wp.lift (fun _ Kz => jv_Ev.c jv_i63 (pc' := 208) (S' := [.long (Int64.ofBitVec (vm_ci 11 ((0 : Int64).toInt32).toBitVec ((Int32.ofInt f.i).toInt64.toInt32).toBitVec false)), .int (vl_I f.d), .ref 171]) jv_i66 [.int (11 : Int32), .int (0 : Int64).toInt32, .int (Int32.ofInt f.i).toInt64.toInt32, .int (0 : Int32)] rfl rfl rfl rfl rfl rfl (vc_rints (n := 11) (x := (0 : Int64).toInt32) (y := (Int32.ofInt f.i).toInt64.toInt32) (sg := false) (by decide)) rfl rfl Kz) ?_
  refine jv_Wp.lift (fun _ Kz => jv_Ev.steps jv_i63 1 (pc' := 210) (l' := [(12, .int (0 : Int32)), (10, .long (Int32.ofInt f.i).toInt64), (8, .long (0 : Int64)), (7, .int (0 : Int32)), (6, .int (vl_I f.d)), (5, .int (Int32.ofInt f.o)), (4, .int (Int32.ofInt f.i)), (3, .int (11 : Int32)), (0, .ref 171), (1, .long w)]) (st' := [.int (32 : Int32), .long (Int64.ofBitVec (vm_ci 11 ((0 : Int64).toInt32).toBitVec ((Int32.ofInt f.i).toInt64.toInt32).toBitVec false)), .int (vl_I f.d), .ref 171]) rfl Kz) ?_
  refine jv_Wp.lift (fun _ Kz => jv_Ev.c jv_i63 (pc' := 213) (S' := [.long (jv_clowest (32 : Int32)), .long (Int64.ofBitVec (vm_ci 11 ((0 : Int64).toInt32).toBitVec ((Int32.ofInt f.i).toInt64.toInt32).toBitVec false)), .int (vl_I f.d), .ref 171]) jv_i5 [.int (32 : Int32)] rfl rfl rfl rfl rfl rfl (jv_s5 (32 : Int32)) rfl rfl Kz) ?_
  refine jv_Wp.lift (fun _ Kz => jv_Ev.steps jv_i63 1 (pc' := 214) (l' := [(12, .int (0 : Int32)), (10, .long (Int32.ofInt f.i).toInt64), (8, .long (0 : Int64)), (7, .int (0 : Int32)), (6, .int (vl_I f.d)), (5, .int (Int32.ofInt f.o)), (4, .int (Int32.ofInt f.i)), (3, .int (11 : Int32)), (0, .ref 171), (1, .long w)]) (st' := [.long ((Int64.ofBitVec (vm_ci 11 ((0 : Int64).toInt32).toBitVec ((Int32.ofInt f.i).toInt64.toInt32).toBitVec false)) &&& (jv_clowest (32 : Int32))), .int (vl_I f.d), .ref 171]) rfl Kz) ?_
  refine jv_Wp.lift (fun _ Kz => jv_Ev.c jv_i63 (pc' := 217) (S' := []) (G1 := (jv_H K (jv_u I 171 2 ((I 171 2) ||| ((1 : Int32) <<< ((vl_I f.d) &&& 31)))) (jv_u L 172 f.d ((Int64.ofBitVec (vm_ci 11 ((0 : Int64).toInt32).toBitVec ((Int32.ofInt f.i).toInt64.toInt32).toBitVec false)) &&& (jv_clowest (32 : Int32)))) R)) jv_i54 [.ref 171, .int (vl_I f.d), .long ((Int64.ofBitVec (vm_ci 11 ((0 : Int64).toInt32).toBitVec ((Int32.ofInt f.i).toInt64.toInt32).toBitVec false)) &&& (jv_clowest (32 : Int32)))] rfl rfl rfl rfl (jv_cal rfl (jv_H_at (vm_cK hC 171 2 13 (by decide))) rfl rfl) rfl (vm_cset (I := I) (L := L) (n := n) (sl := sl) (r := f.d) hC (by omega)) rfl rfl Kz) ?_
  refine jv_Wp.of (jv_Ev.ret jv_i63 rfl rfl) ?_
  have ev : ((Int64.ofBitVec (vm_ci 11 ((0 : Int64).toInt32).toBitVec ((Int32.ofInt f.i).toInt64.toInt32).toBitVec false)) &&& (jv_clowest (32 : Int32))) = Int64.ofBitVec (vx_do f x.toBitVec y.toBitVec (vm_sg f x.toBitVec y.toBitVec)) := Int64.toBitVec_inj.mp (by rw [vm_do4m (by omega) hn, if_pos ho0]; rw [Int64.toBitVec_and, show (jv_clowest (32 : Int32)).toBitVec = vb_lowest 32 from vl_lowk (n := 32) (by decide)]; refine vb_lo_eq ?_; rw [exs]; show ((BitVec.signExtend 64 (_ : BitVec 32))).setWidth 32 = _; rw [vb_lo_se, vl_i32])
  rw [hQ, ev]
  exact ⟨_, _, rfl, vc_m_gv h hd, vm_gv_ff (vc_ff_refl _ I L)⟩
theorem vc_reckon4m1r {K : Nat → Option (Nat × Nat)} {I : Nat → Nat → Int32} {L : Nat → Nat → Int64} {R : Nat → Nat → Value} (hC : vm_CW K R) {S T : vm_S} (h : vm_c I L S) {w : Int64} {f : vf_F} (ef : vc_F w = f) (hd : f.d < 11) (hs : f.s < 11) (har : vf_ar f) (hk : f.kind = 4) (hn : f.n = 11) (ho0 : ¬ f.o = 0) (hb3 : f.bit3 = true) (hl : vm_arith f S = some T) {n sl : Nat} : ∃ I1 L1, jv_Ms 63 [.ref 171, .long w] (jv_H K I L R) n sl (none, jv_H K I1 L1 R, n, sl) ∧ vm_c I1 L1 T ∧ vc_ff vm_Er I L I1 L1 := by
  obtain ⟨Q, hQ⟩ : ∃ Q : jv_R → Prop, Q = fun X => ∃ I1 L1, X = (none, jv_H K I1 L1 R, n, sl) ∧ vm_c I1 L1 T ∧ vc_ff vm_Er I L I1 L1 := ⟨_, rfl⟩
  suffices hE : jv_Wp 63 0 [(0, .ref 171), (1, .long w)] [] (jv_H K I L R) n sl Q by
    rw [hQ] at hE
    obtain ⟨X, hE, I1, L1, e, h'⟩ := hE
    subst e
    exact ⟨I1, L1, hE, h'⟩
  obtain ⟨x, y, hx, hy, hT⟩ := vm_arith_dec hl
  subst hT
  have hn256 : f.n < 256 := by have : f.n = f.code / 16 := rfl; have := vw_dc ef; omega
  rw [if_neg (show ¬ f.n = 13 by omega)] at hy
  rw [if_pos hb3] at hy
  obtain ⟨xs, exs⟩ : ∃ xs, xs = y := ⟨y, rfl⟩
  have hgs : vm_rd S f.s = some xs := exs ▸ hy
  have ho3 : f.o.toNat = 8 ∨ f.o.toNat = 16 ∨ f.o.toNat = 32 := by have := har.2.2.2.1 hn ho0; omega
  have hO : Int32.ofInt f.o = vl_I f.o.toNat := vm_oi (vw_dO ef) (by have := har.2.2.2.1 hn ho0; omega) (by omega)
  have ho1 : f.o ≠ 1 := by have := har.2.2.2.1 hn; omega
  refine jv_Wp.lift (fun _ Kz => jv_Ev.steps jv_i63 1 (pc' := 1) (l' := [(0, .ref 171), (1, .long w)]) (st' := [.long w]) rfl Kz) ?_
  refine jv_Wp.lift (fun _ Kz => jv_Ev.c jv_i63 (pc' := 4) (S' := [.int (11 : Int32)]) jv_i82 [.long w] rfl rfl rfl rfl rfl rfl (vw_l82 ef hn rfl) rfl rfl Kz) ?_
  refine jv_Wp.lift (fun _ Kz => jv_Ev.steps jv_i63 2 (pc' := 6) (l' := [(3, .int (11 : Int32)), (0, .ref 171), (1, .long w)]) (st' := [.long w]) rfl Kz) ?_
  refine jv_Wp.lift (fun _ Kz => jv_Ev.c jv_i63 (pc' := 9) (S' := [.int (Int32.ofInt f.i)]) jv_i89 [.long w] rfl rfl rfl rfl rfl rfl (vw_f89 ef) rfl rfl Kz) ?_
  refine jv_Wp.lift (fun _ Kz => jv_Ev.steps jv_i63 2 (pc' := 12) (l' := [(4, .int (Int32.ofInt f.i)), (3, .int (11 : Int32)), (0, .ref 171), (1, .long w)]) (st' := [.long w]) rfl Kz) ?_
  refine jv_Wp.lift (fun _ Kz => jv_Ev.c jv_i63 (pc' := 15) (S' := [.int (Int32.ofInt f.o)]) jv_i88 [.long w] rfl rfl rfl rfl rfl rfl (vw_f88 ef) rfl rfl Kz) ?_
  refine jv_Wp.lift (fun _ Kz => jv_Ev.steps jv_i63 2 (pc' := 18) (l' := [(5, .int (Int32.ofInt f.o)), (4, .int (Int32.ofInt f.i)), (3, .int (11 : Int32)), (0, .ref 171), (1, .long w)]) (st' := [.long w]) rfl Kz) ?_
  refine jv_Wp.lift (fun _ Kz => jv_Ev.c jv_i63 (pc' := 21) (S' := [.int (vl_I f.d)]) jv_i86 [.long w] rfl rfl rfl rfl rfl rfl (vw_f86 ef) rfl rfl Kz) ?_
  refine jv_Wp.lift (fun _ Kz => jv_Ev.steps jv_i63 2 (pc' := 24) (l' := [(6, .int (vl_I f.d)), (5, .int (Int32.ofInt f.o)), (4, .int (Int32.ofInt f.i)), (3, .int (11 : Int32)), (0, .ref 171), (1, .long w)]) (st' := [.long w]) rfl Kz) ?_
  refine jv_Wp.lift (fun _ Kz => jv_Ev.c jv_i63 (pc' := 27) (S' := [.int (4 : Int32)]) jv_i81 [.long w] rfl rfl rfl rfl rfl rfl (vw_l81 ef hk rfl) rfl rfl Kz) ?_
  refine jv_Wp.lift (fun _ Kz => jv_Ev.steps jv_i63 1 (pc' := 29) (l' := [(6, .int (vl_I f.d)), (5, .int (Int32.ofInt f.o)), (4, .int (Int32.ofInt f.i)), (3, .int (11 : Int32)), (0, .ref 171), (1, .long w)]) (st' := [.int (7 : Int32), .int (4 : Int32)]) rfl Kz) ?_
  refine jv_Wp.lift (fun _ Kz => jv_Ev.br jv_i63 (pc' := 36) (st' := []) rfl (by rfl) Kz) ?_
  refine jv_Wp.lift (fun _ Kz => jv_Ev.steps jv_i63 4 (pc' := 42) (l' := [(7, .int (0 : Int32)), (6, .int (vl_I f.d)), (5, .int (Int32.ofInt f.o)), (4, .int (Int32.ofInt f.i)), (3, .int (11 : Int32)), (0, .ref 171), (1, .long w)]) (st' := [.int (11 : Int32), .int (11 : Int32)]) rfl Kz) ?_
  refine jv_Wp.lift (fun _ Kz => jv_Ev.br jv_i63 (pc' := 45) (st' := []) rfl (by rfl) Kz) ?_
  refine jv_Wp.lift (fun _ Kz => jv_Ev.steps jv_i63 5 (pc' := 60) (l' := [(8, .long (0 : Int64)), (7, .int (0 : Int32)), (6, .int (vl_I f.d)), (5, .int (Int32.ofInt f.o)), (4, .int (Int32.ofInt f.i)), (3, .int (11 : Int32)), (0, .ref 171), (1, .long w)]) (st' := [.int (13 : Int32), .int (11 : Int32)]) rfl Kz) ?_
  refine jv_Wp.lift (fun _ Kz => jv_Ev.br jv_i63 (pc' := 112) (st' := []) rfl (by rfl) Kz) ?_
  refine jv_Wp.lift (fun _ Kz => jv_Ev.steps jv_i63 1 (pc' := 113) (l' := [(8, .long (0 : Int64)), (7, .int (0 : Int32)), (6, .int (vl_I f.d)), (5, .int (Int32.ofInt f.o)), (4, .int (Int32.ofInt f.i)), (3, .int (11 : Int32)), (0, .ref 171), (1, .long w)]) (st' := [.long w]) rfl Kz) ?_
  refine jv_Wp.lift (fun _ Kz => jv_Ev.c jv_i63 (pc' := 116) (S' := [.int (1 : Int32)]) jv_i83 [.long w] rfl rfl rfl rfl rfl rfl (vw_l83 ef hb3 rfl) rfl rfl Kz) ?_
  refine jv_Wp.lift (fun _ Kz => jv_Ev.br jv_i63 (pc' := 119) (st' := []) rfl (by rfl) Kz) ?_
  refine jv_Wp.lift (fun _ Kz => jv_Ev.steps jv_i63 2 (pc' := 121) (l' := [(8, .long (0 : Int64)), (7, .int (0 : Int32)), (6, .int (vl_I f.d)), (5, .int (Int32.ofInt f.o)), (4, .int (Int32.ofInt f.i)), (3, .int (11 : Int32)), (0, .ref 171), (1, .long w)]) (st' := [.long w, .ref 171]) rfl Kz) ?_
  refine jv_Wp.lift (fun _ Kz => jv_Ev.c jv_i63 (pc' := 124) (S' := [.int (vl_I f.s), .ref 171]) jv_i87 [.long w] rfl rfl rfl rfl rfl rfl (vw_f87 ef) rfl rfl Kz) ?_
  refine jv_Wp.lift (fun _ Kz => jv_Ev.c jv_i63 (pc' := 127) (S' := [.long xs]) jv_i53 [.ref 171, .int (vl_I f.s)] rfl rfl rfl rfl (jv_cal rfl (jv_H_at (vm_cK hC 171 2 13 (by decide))) rfl rfl) rfl (vm_cget hC h hs hgs) rfl rfl Kz) ?_
  refine jv_Wp.lift (fun _ Kz => jv_Ev.steps jv_i63 4 (pc' := 138) (l' := [(10, .long xs), (8, .long (0 : Int64)), (7, .int (0 : Int32)), (6, .int (vl_I f.d)), (5, .int (Int32.ofInt f.o)), (4, .int (Int32.ofInt f.i)), (3, .int (11 : Int32)), (0, .ref 171), (1, .long w)]) (st' := [.int (11 : Int32), .int (11 : Int32)]) rfl Kz) ?_
  refine jv_Wp.lift (fun _ Kz => jv_Ev.br jv_i63 (pc' := 141) (st' := []) rfl (by rfl) Kz) ?_
  refine jv_Wp.lift (fun _ Kz => jv_Ev.steps jv_i63 1 (pc' := 143) (l' := [(10, .long xs), (8, .long (0 : Int64)), (7, .int (0 : Int32)), (6, .int (vl_I f.d)), (5, .int (Int32.ofInt f.o)), (4, .int (Int32.ofInt f.i)), (3, .int (11 : Int32)), (0, .ref 171), (1, .long w)]) (st' := [.int (Int32.ofInt f.o)]) rfl Kz) ?_
  refine jv_Wp.cnd jv_i63 (pt := 162) (pe := 146) (p := ((Int32.ofInt f.o) ≤ 0)) (q := ((Int32.ofInt f.o) ≤ 0)) rfl jv_bi_le rfl rfl Iff.rfl (fun hz => absurd hz (fun z => by have z := Int32.le_iff_toInt_le.mp z; rw [vw_dO ef, show (0 : Int32).toInt = 0 from rfl] at z; omega)) (fun _ => ?_)
  refine jv_Wp.lift (fun _ Kz => jv_Ev.steps jv_i63 12 (pc' := 165) (l' := [(10, .long ((xs <<< (((64 : Int32) - (Int32.ofInt f.o)).toInt64 &&& 63)) >>> (((64 : Int32) - (Int32.ofInt f.o)).toInt64 &&& 63))), (8, .long (0 : Int64)), (7, .int (0 : Int32)), (6, .int (vl_I f.d)), (5, .int (Int32.ofInt f.o)), (4, .int (Int32.ofInt f.i)), (3, .int (11 : Int32)), (0, .ref 171), (1, .long w)]) (st' := [.int (1 : Int32), .int (Int32.ofInt f.o)]) rfl Kz) ?_
  refine jv_Wp.cnd jv_i63 (pt := 172) (pe := 168) (p := (¬ (Int32.ofInt f.o) = (1 : Int32))) (q := (¬ (Int32.ofInt f.o) = (1 : Int32))) rfl jv_bc_ne rfl rfl Iff.rfl (fun _ => ?_) (fun hz => absurd (fun z => by have := (vm_o1 (vw_dO ef)).mp z; omega) hz)
  refine jv_Wp.lift (fun _ Kz => jv_Ev.steps jv_i63 5 (pc' := 180) (l' := [(12, .int (0 : Int32)), (10, .long ((xs <<< (((64 : Int32) - (Int32.ofInt f.o)).toInt64 &&& 63)) >>> (((64 : Int32) - (Int32.ofInt f.o)).toInt64 &&& 63))), (8, .long (0 : Int64)), (7, .int (0 : Int32)), (6, .int (vl_I f.d)), (5, .int (Int32.ofInt f.o)), (4, .int (Int32.ofInt f.i)), (3, .int (11 : Int32)), (0, .ref 171), (1, .long w)]) (st' := [.int (0 : Int32), .int (vl_I f.d), .ref 171]) rfl Kz) ?_
  refine jv_Wp.lift (fun _ Kz => jv_Ev.br jv_i63 (pc' := 196) (st' := [.int (vl_I f.d), .ref 171]) rfl (by rfl) Kz) ?_
  refine jv_Wp.lift (fun _ Kz => jv_Ev.steps jv_i63 6 (pc' := 205) (l' := [(12, .int (0 : Int32)), (10, .long ((xs <<< (((64 : Int32) - (Int32.ofInt f.o)).toInt64 &&& 63)) >>> (((64 : Int32) - (Int32.ofInt f.o)).toInt64 &&& 63))), (8, .long (0 : Int64)), (7, .int (0 : Int32)), (6, .int (vl_I f.d)), (5, .int (Int32.ofInt f.o)), (4, .int (Int32.ofInt f.i)), (3, .int (11 : Int32)), (0, .ref 171), (1, .long w)]) (st' := [.int (0 : Int32), .int ((xs <<< (((64 : Int32) - (Int32.ofInt f.o)).toInt64 &&& 63)) >>> (((64 : Int32) - (Int32.ofInt f.o)).toInt64 &&& 63)).toInt32, .int (0 : Int64).toInt32, .int (11 : Int32), .int (vl_I f.d), .ref 171]) rfl Kz) ?_
  refine jv_Wp.lift (fun _ Kz => jv_Ev.c jv_i63 (pc' := 208) (S' := [.long (Int64.ofBitVec (vm_ci 11 ((0 : Int64).toInt32).toBitVec (((xs <<< (((64 : Int32) - (Int32.ofInt f.o)).toInt64 &&& 63)) >>> (((64 : Int32) - (Int32.ofInt f.o)).toInt64 &&& 63)).toInt32).toBitVec false)), .int (vl_I f.d), .ref 171]) jv_i66 [.int (11 : Int32), .int (0 : Int64).toInt32, .int ((xs <<< (((64 : Int32) - (Int32.ofInt f.o)).toInt64 &&& 63)) >>> (((64 : Int32) - (Int32.ofInt f.o)).toInt64 &&& 63)).toInt32, .int (0 : Int32)] rfl rfl rfl rfl rfl rfl (vc_rints (n := 11) (x := (0 : Int64).toInt32) (y := ((xs <<< (((64 : Int32) - (Int32.ofInt f.o)).toInt64 &&& 63)) >>> (((64 : Int32) - (Int32.ofInt f.o)).toInt64 &&& 63)).toInt32) (sg := false) (by decide)) rfl rfl Kz) ?_
  refine jv_Wp.lift (fun _ Kz => jv_Ev.steps jv_i63 1 (pc' := 210) (l' := [(12, .int (0 : Int32)), (10, .long ((xs <<< (((64 : Int32) - (Int32.ofInt f.o)).toInt64 &&& 63)) >>> (((64 : Int32) - (Int32.ofInt f.o)).toInt64 &&& 63))), (8, .long (0 : Int64)), (7, .int (0 : Int32)), (6, .int (vl_I f.d)), (5, .int (Int32.ofInt f.o)), (4, .int (Int32.ofInt f.i)), (3, .int (11 : Int32)), (0, .ref 171), (1, .long w)]) (st' := [.int (32 : Int32), .long (Int64.ofBitVec (vm_ci 11 ((0 : Int64).toInt32).toBitVec (((xs <<< (((64 : Int32) - (Int32.ofInt f.o)).toInt64 &&& 63)) >>> (((64 : Int32) - (Int32.ofInt f.o)).toInt64 &&& 63)).toInt32).toBitVec false)), .int (vl_I f.d), .ref 171]) rfl Kz) ?_
  refine jv_Wp.lift (fun _ Kz => jv_Ev.c jv_i63 (pc' := 213) (S' := [.long (jv_clowest (32 : Int32)), .long (Int64.ofBitVec (vm_ci 11 ((0 : Int64).toInt32).toBitVec (((xs <<< (((64 : Int32) - (Int32.ofInt f.o)).toInt64 &&& 63)) >>> (((64 : Int32) - (Int32.ofInt f.o)).toInt64 &&& 63)).toInt32).toBitVec false)), .int (vl_I f.d), .ref 171]) jv_i5 [.int (32 : Int32)] rfl rfl rfl rfl rfl rfl (jv_s5 (32 : Int32)) rfl rfl Kz) ?_
  refine jv_Wp.lift (fun _ Kz => jv_Ev.steps jv_i63 1 (pc' := 214) (l' := [(12, .int (0 : Int32)), (10, .long ((xs <<< (((64 : Int32) - (Int32.ofInt f.o)).toInt64 &&& 63)) >>> (((64 : Int32) - (Int32.ofInt f.o)).toInt64 &&& 63))), (8, .long (0 : Int64)), (7, .int (0 : Int32)), (6, .int (vl_I f.d)), (5, .int (Int32.ofInt f.o)), (4, .int (Int32.ofInt f.i)), (3, .int (11 : Int32)), (0, .ref 171), (1, .long w)]) (st' := [.long ((Int64.ofBitVec (vm_ci 11 ((0 : Int64).toInt32).toBitVec (((xs <<< (((64 : Int32) - (Int32.ofInt f.o)).toInt64 &&& 63)) >>> (((64 : Int32) - (Int32.ofInt f.o)).toInt64 &&& 63)).toInt32).toBitVec false)) &&& (jv_clowest (32 : Int32))), .int (vl_I f.d), .ref 171]) rfl Kz) ?_
  refine jv_Wp.lift (fun _ Kz => jv_Ev.c jv_i63 (pc' := 217) (S' := []) (G1 := (jv_H K (jv_u I 171 2 ((I 171 2) ||| ((1 : Int32) <<< ((vl_I f.d) &&& 31)))) (jv_u L 172 f.d ((Int64.ofBitVec (vm_ci 11 ((0 : Int64).toInt32).toBitVec (((xs <<< (((64 : Int32) - (Int32.ofInt f.o)).toInt64 &&& 63)) >>> (((64 : Int32) - (Int32.ofInt f.o)).toInt64 &&& 63)).toInt32).toBitVec false)) &&& (jv_clowest (32 : Int32)))) R)) jv_i54 [.ref 171, .int (vl_I f.d), .long ((Int64.ofBitVec (vm_ci 11 ((0 : Int64).toInt32).toBitVec (((xs <<< (((64 : Int32) - (Int32.ofInt f.o)).toInt64 &&& 63)) >>> (((64 : Int32) - (Int32.ofInt f.o)).toInt64 &&& 63)).toInt32).toBitVec false)) &&& (jv_clowest (32 : Int32)))] rfl rfl rfl rfl (jv_cal rfl (jv_H_at (vm_cK hC 171 2 13 (by decide))) rfl rfl) rfl (vm_cset (I := I) (L := L) (n := n) (sl := sl) (r := f.d) hC (by omega)) rfl rfl Kz) ?_
  refine jv_Wp.of (jv_Ev.ret jv_i63 rfl rfl) ?_
  have ev : ((Int64.ofBitVec (vm_ci 11 ((0 : Int64).toInt32).toBitVec (((xs <<< (((64 : Int32) - (Int32.ofInt f.o)).toInt64 &&& 63)) >>> (((64 : Int32) - (Int32.ofInt f.o)).toInt64 &&& 63)).toInt32).toBitVec false)) &&& (jv_clowest (32 : Int32))) = Int64.ofBitVec (vx_do f x.toBitVec y.toBitVec (vm_sg f x.toBitVec y.toBitVec)) := Int64.toBitVec_inj.mp (by rw [vm_do4m (by omega) hn, if_neg ho0]; rw [Int64.toBitVec_and, show (jv_clowest (32 : Int32)).toBitVec = vb_lowest 32 from vl_lowk (n := 32) (by decide)]; refine vb_lo_eq ?_; rw [vm_shoE ho3 hO, exs]; show ((BitVec.signExtend 64 (_ : BitVec 32))).setWidth 32 = _; rw [vb_lo_se, vl_i32]; rfl)
  rw [hQ, ev]
  exact ⟨_, _, rfl, vc_m_gv h hd, vm_gv_ff (vc_ff_refl _ I L)⟩
theorem vc_reckon4m1i {K : Nat → Option (Nat × Nat)} {I : Nat → Nat → Int32} {L : Nat → Nat → Int64} {R : Nat → Nat → Value} (hC : vm_CW K R) {S T : vm_S} (h : vm_c I L S) {w : Int64} {f : vf_F} (ef : vc_F w = f) (hd : f.d < 11) (hs : f.s < 11) (har : vf_ar f) (hk : f.kind = 4) (hn : f.n = 11) (ho0 : ¬ f.o = 0) (hb3 : f.bit3 = false) (hl : vm_arith f S = some T) {n sl : Nat} : ∃ I1 L1, jv_Ms 63 [.ref 171, .long w] (jv_H K I L R) n sl (none, jv_H K I1 L1 R, n, sl) ∧ vm_c I1 L1 T ∧ vc_ff vm_Er I L I1 L1 := by
  obtain ⟨Q, hQ⟩ : ∃ Q : jv_R → Prop, Q = fun X => ∃ I1 L1, X = (none, jv_H K I1 L1 R, n, sl) ∧ vm_c I1 L1 T ∧ vc_ff vm_Er I L I1 L1 := ⟨_, rfl⟩
  suffices hE : jv_Wp 63 0 [(0, .ref 171), (1, .long w)] [] (jv_H K I L R) n sl Q by
    rw [hQ] at hE
    obtain ⟨X, hE, I1, L1, e, h'⟩ := hE
    subst e
    exact ⟨I1, L1, hE, h'⟩
  obtain ⟨x, y, hx, hy, hT⟩ := vm_arith_dec hl
  subst hT
  have hn256 : f.n < 256 := by have : f.n = f.code / 16 := rfl; have := vw_dc ef; omega
  rw [if_neg (show ¬ f.n = 13 by omega)] at hy
  rw [if_neg (by rw [hb3]; decide)] at hy
  have exs : (Int32.ofInt f.i).toInt64 = y := (vm_io (vw_dQ ef)).trans (Option.some.inj hy)
  have ho3 : f.o.toNat = 8 ∨ f.o.toNat = 16 ∨ f.o.toNat = 32 := by have := har.2.2.2.1 hn ho0; omega
  have hO : Int32.ofInt f.o = vl_I f.o.toNat := vm_oi (vw_dO ef) (by have := har.2.2.2.1 hn ho0; omega) (by omega)
  have ho1 : f.o ≠ 1 := by have := har.2.2.2.1 hn; omega
  refine jv_Wp.lift (fun _ Kz => jv_Ev.steps jv_i63 1 (pc' := 1) (l' := [(0, .ref 171), (1, .long w)]) (st' := [.long w]) rfl Kz) ?_
  refine jv_Wp.lift (fun _ Kz => jv_Ev.c jv_i63 (pc' := 4) (S' := [.int (11 : Int32)]) jv_i82 [.long w] rfl rfl rfl rfl rfl rfl (vw_l82 ef hn rfl) rfl rfl Kz) ?_
  refine jv_Wp.lift (fun _ Kz => jv_Ev.steps jv_i63 2 (pc' := 6) (l' := [(3, .int (11 : Int32)), (0, .ref 171), (1, .long w)]) (st' := [.long w]) rfl Kz) ?_
  refine jv_Wp.lift (fun _ Kz => jv_Ev.c jv_i63 (pc' := 9) (S' := [.int (Int32.ofInt f.i)]) jv_i89 [.long w] rfl rfl rfl rfl rfl rfl (vw_f89 ef) rfl rfl Kz) ?_
  refine jv_Wp.lift (fun _ Kz => jv_Ev.steps jv_i63 2 (pc' := 12) (l' := [(4, .int (Int32.ofInt f.i)), (3, .int (11 : Int32)), (0, .ref 171), (1, .long w)]) (st' := [.long w]) rfl Kz) ?_
  refine jv_Wp.lift (fun _ Kz => jv_Ev.c jv_i63 (pc' := 15) (S' := [.int (Int32.ofInt f.o)]) jv_i88 [.long w] rfl rfl rfl rfl rfl rfl (vw_f88 ef) rfl rfl Kz) ?_
  refine jv_Wp.lift (fun _ Kz => jv_Ev.steps jv_i63 2 (pc' := 18) (l' := [(5, .int (Int32.ofInt f.o)), (4, .int (Int32.ofInt f.i)), (3, .int (11 : Int32)), (0, .ref 171), (1, .long w)]) (st' := [.long w]) rfl Kz) ?_
  refine jv_Wp.lift (fun _ Kz => jv_Ev.c jv_i63 (pc' := 21) (S' := [.int (vl_I f.d)]) jv_i86 [.long w] rfl rfl rfl rfl rfl rfl (vw_f86 ef) rfl rfl Kz) ?_
  refine jv_Wp.lift (fun _ Kz => jv_Ev.steps jv_i63 2 (pc' := 24) (l' := [(6, .int (vl_I f.d)), (5, .int (Int32.ofInt f.o)), (4, .int (Int32.ofInt f.i)), (3, .int (11 : Int32)), (0, .ref 171), (1, .long w)]) (st' := [.long w]) rfl Kz) ?_
  refine jv_Wp.lift (fun _ Kz => jv_Ev.c jv_i63 (pc' := 27) (S' := [.int (4 : Int32)]) jv_i81 [.long w] rfl rfl rfl rfl rfl rfl (vw_l81 ef hk rfl) rfl rfl Kz) ?_
  refine jv_Wp.lift (fun _ Kz => jv_Ev.steps jv_i63 1 (pc' := 29) (l' := [(6, .int (vl_I f.d)), (5, .int (Int32.ofInt f.o)), (4, .int (Int32.ofInt f.i)), (3, .int (11 : Int32)), (0, .ref 171), (1, .long w)]) (st' := [.int (7 : Int32), .int (4 : Int32)]) rfl Kz) ?_
  refine jv_Wp.lift (fun _ Kz => jv_Ev.br jv_i63 (pc' := 36) (st' := []) rfl (by rfl) Kz) ?_
  refine jv_Wp.lift (fun _ Kz => jv_Ev.steps jv_i63 4 (pc' := 42) (l' := [(7, .int (0 : Int32)), (6, .int (vl_I f.d)), (5, .int (Int32.ofInt f.o)), (4, .int (Int32.ofInt f.i)), (3, .int (11 : Int32)), (0, .ref 171), (1, .long w)]) (st' := [.int (11 : Int32), .int (11 : Int32)]) rfl Kz) ?_
  refine jv_Wp.lift (fun _ Kz => jv_Ev.br jv_i63 (pc' := 45) (st' := []) rfl (by rfl) Kz) ?_
  refine jv_Wp.lift (fun _ Kz => jv_Ev.steps jv_i63 5 (pc' := 60) (l' := [(8, .long (0 : Int64)), (7, .int (0 : Int32)), (6, .int (vl_I f.d)), (5, .int (Int32.ofInt f.o)), (4, .int (Int32.ofInt f.i)), (3, .int (11 : Int32)), (0, .ref 171), (1, .long w)]) (st' := [.int (13 : Int32), .int (11 : Int32)]) rfl Kz) ?_
  refine jv_Wp.lift (fun _ Kz => jv_Ev.br jv_i63 (pc' := 112) (st' := []) rfl (by rfl) Kz) ?_
  refine jv_Wp.lift (fun _ Kz => jv_Ev.steps jv_i63 1 (pc' := 113) (l' := [(8, .long (0 : Int64)), (7, .int (0 : Int32)), (6, .int (vl_I f.d)), (5, .int (Int32.ofInt f.o)), (4, .int (Int32.ofInt f.i)), (3, .int (11 : Int32)), (0, .ref 171), (1, .long w)]) (st' := [.long w]) rfl Kz) ?_
  refine jv_Wp.lift (fun _ Kz => jv_Ev.c jv_i63 (pc' := 116) (S' := [.int (0 : Int32)]) jv_i83 [.long w] rfl rfl rfl rfl rfl rfl (vw_l83 ef hb3 rfl) rfl rfl Kz) ?_
  refine jv_Wp.lift (fun _ Kz => jv_Ev.br jv_i63 (pc' := 130) (st' := []) rfl (by rfl) Kz) ?_
  refine jv_Wp.lift (fun _ Kz => jv_Ev.steps jv_i63 5 (pc' := 138) (l' := [(10, .long (Int32.ofInt f.i).toInt64), (8, .long (0 : Int64)), (7, .int (0 : Int32)), (6, .int (vl_I f.d)), (5, .int (Int32.ofInt f.o)), (4, .int (Int32.ofInt f.i)), (3, .int (11 : Int32)), (0, .ref 171), (1, .long w)]) (st' := [.int (11 : Int32), .int (11 : Int32)]) rfl Kz) ?_
  refine jv_Wp.lift (fun _ Kz => jv_Ev.br jv_i63 (pc' := 141) (st' := []) rfl (by rfl) Kz) ?_
  refine jv_Wp.lift (fun _ Kz => jv_Ev.steps jv_i63 1 (pc' := 143) (l' := [(10, .long (Int32.ofInt f.i).toInt64), (8, .long (0 : Int64)), (7, .int (0 : Int32)), (6, .int (vl_I f.d)), (5, .int (Int32.ofInt f.o)), (4, .int (Int32.ofInt f.i)), (3, .int (11 : Int32)), (0, .ref 171), (1, .long w)]) (st' := [.int (Int32.ofInt f.o)]) rfl Kz) ?_
  refine jv_Wp.cnd jv_i63 (pt := 162) (pe := 146) (p := ((Int32.ofInt f.o) ≤ 0)) (q := ((Int32.ofInt f.o) ≤ 0)) rfl jv_bi_le rfl rfl Iff.rfl (fun hz => absurd hz (fun z => by have z := Int32.le_iff_toInt_le.mp z; rw [vw_dO ef, show (0 : Int32).toInt = 0 from rfl] at z; omega)) (fun _ => ?_)
  refine jv_Wp.lift (fun _ Kz => jv_Ev.steps jv_i63 12 (pc' := 165) (l' := [(10, .long (((Int32.ofInt f.i).toInt64 <<< (((64 : Int32) - (Int32.ofInt f.o)).toInt64 &&& 63)) >>> (((64 : Int32) - (Int32.ofInt f.o)).toInt64 &&& 63))), (8, .long (0 : Int64)), (7, .int (0 : Int32)), (6, .int (vl_I f.d)), (5, .int (Int32.ofInt f.o)), (4, .int (Int32.ofInt f.i)), (3, .int (11 : Int32)), (0, .ref 171), (1, .long w)]) (st' := [.int (1 : Int32), .int (Int32.ofInt f.o)]) rfl Kz) ?_
  refine jv_Wp.cnd jv_i63 (pt := 172) (pe := 168) (p := (¬ (Int32.ofInt f.o) = (1 : Int32))) (q := (¬ (Int32.ofInt f.o) = (1 : Int32))) rfl jv_bc_ne rfl rfl Iff.rfl (fun _ => ?_) (fun hz => absurd (fun z => by have := (vm_o1 (vw_dO ef)).mp z; omega) hz)
  refine jv_Wp.lift (fun _ Kz => jv_Ev.steps jv_i63 5 (pc' := 180) (l' := [(12, .int (0 : Int32)), (10, .long (((Int32.ofInt f.i).toInt64 <<< (((64 : Int32) - (Int32.ofInt f.o)).toInt64 &&& 63)) >>> (((64 : Int32) - (Int32.ofInt f.o)).toInt64 &&& 63))), (8, .long (0 : Int64)), (7, .int (0 : Int32)), (6, .int (vl_I f.d)), (5, .int (Int32.ofInt f.o)), (4, .int (Int32.ofInt f.i)), (3, .int (11 : Int32)), (0, .ref 171), (1, .long w)]) (st' := [.int (0 : Int32), .int (vl_I f.d), .ref 171]) rfl Kz) ?_
  refine jv_Wp.lift (fun _ Kz => jv_Ev.br jv_i63 (pc' := 196) (st' := [.int (vl_I f.d), .ref 171]) rfl (by rfl) Kz) ?_
  refine jv_Wp.lift (fun _ Kz => jv_Ev.steps jv_i63 6 (pc' := 205) (l' := [(12, .int (0 : Int32)), (10, .long (((Int32.ofInt f.i).toInt64 <<< (((64 : Int32) - (Int32.ofInt f.o)).toInt64 &&& 63)) >>> (((64 : Int32) - (Int32.ofInt f.o)).toInt64 &&& 63))), (8, .long (0 : Int64)), (7, .int (0 : Int32)), (6, .int (vl_I f.d)), (5, .int (Int32.ofInt f.o)), (4, .int (Int32.ofInt f.i)), (3, .int (11 : Int32)), (0, .ref 171), (1, .long w)]) (st' := [.int (0 : Int32), .int (((Int32.ofInt f.i).toInt64 <<< (((64 : Int32) - (Int32.ofInt f.o)).toInt64 &&& 63)) >>> (((64 : Int32) - (Int32.ofInt f.o)).toInt64 &&& 63)).toInt32, .int (0 : Int64).toInt32, .int (11 : Int32), .int (vl_I f.d), .ref 171]) rfl Kz) ?_
  refine jv_Wp.lift (fun _ Kz => jv_Ev.c jv_i63 (pc' := 208) (S' := [.long (Int64.ofBitVec (vm_ci 11 ((0 : Int64).toInt32).toBitVec ((((Int32.ofInt f.i).toInt64 <<< (((64 : Int32) - (Int32.ofInt f.o)).toInt64 &&& 63)) >>> (((64 : Int32) - (Int32.ofInt f.o)).toInt64 &&& 63)).toInt32).toBitVec false)), .int (vl_I f.d), .ref 171]) jv_i66 [.int (11 : Int32), .int (0 : Int64).toInt32, .int (((Int32.ofInt f.i).toInt64 <<< (((64 : Int32) - (Int32.ofInt f.o)).toInt64 &&& 63)) >>> (((64 : Int32) - (Int32.ofInt f.o)).toInt64 &&& 63)).toInt32, .int (0 : Int32)] rfl rfl rfl rfl rfl rfl (vc_rints (n := 11) (x := (0 : Int64).toInt32) (y := (((Int32.ofInt f.i).toInt64 <<< (((64 : Int32) - (Int32.ofInt f.o)).toInt64 &&& 63)) >>> (((64 : Int32) - (Int32.ofInt f.o)).toInt64 &&& 63)).toInt32) (sg := false) (by decide)) rfl rfl Kz) ?_
  refine jv_Wp.lift (fun _ Kz => jv_Ev.steps jv_i63 1 (pc' := 210) (l' := [(12, .int (0 : Int32)), (10, .long (((Int32.ofInt f.i).toInt64 <<< (((64 : Int32) - (Int32.ofInt f.o)).toInt64 &&& 63)) >>> (((64 : Int32) - (Int32.ofInt f.o)).toInt64 &&& 63))), (8, .long (0 : Int64)), (7, .int (0 : Int32)), (6, .int (vl_I f.d)), (5, .int (Int32.ofInt f.o)), (4, .int (Int32.ofInt f.i)), (3, .int (11 : Int32)), (0, .ref 171), (1, .long w)]) (st' := [.int (32 : Int32), .long (Int64.ofBitVec (vm_ci 11 ((0 : Int64).toInt32).toBitVec ((((Int32.ofInt f.i).toInt64 <<< (((64 : Int32) - (Int32.ofInt f.o)).toInt64 &&& 63)) >>> (((64 : Int32) - (Int32.ofInt f.o)).toInt64 &&& 63)).toInt32).toBitVec false)), .int (vl_I f.d), .ref 171]) rfl Kz) ?_
  refine jv_Wp.lift (fun _ Kz => jv_Ev.c jv_i63 (pc' := 213) (S' := [.long (jv_clowest (32 : Int32)), .long (Int64.ofBitVec (vm_ci 11 ((0 : Int64).toInt32).toBitVec ((((Int32.ofInt f.i).toInt64 <<< (((64 : Int32) - (Int32.ofInt f.o)).toInt64 &&& 63)) >>> (((64 : Int32) - (Int32.ofInt f.o)).toInt64 &&& 63)).toInt32).toBitVec false)), .int (vl_I f.d), .ref 171]) jv_i5 [.int (32 : Int32)] rfl rfl rfl rfl rfl rfl (jv_s5 (32 : Int32)) rfl rfl Kz) ?_
  refine jv_Wp.lift (fun _ Kz => jv_Ev.steps jv_i63 1 (pc' := 214) (l' := [(12, .int (0 : Int32)), (10, .long (((Int32.ofInt f.i).toInt64 <<< (((64 : Int32) - (Int32.ofInt f.o)).toInt64 &&& 63)) >>> (((64 : Int32) - (Int32.ofInt f.o)).toInt64 &&& 63))), (8, .long (0 : Int64)), (7, .int (0 : Int32)), (6, .int (vl_I f.d)), (5, .int (Int32.ofInt f.o)), (4, .int (Int32.ofInt f.i)), (3, .int (11 : Int32)), (0, .ref 171), (1, .long w)]) (st' := [.long ((Int64.ofBitVec (vm_ci 11 ((0 : Int64).toInt32).toBitVec ((((Int32.ofInt f.i).toInt64 <<< (((64 : Int32) - (Int32.ofInt f.o)).toInt64 &&& 63)) >>> (((64 : Int32) - (Int32.ofInt f.o)).toInt64 &&& 63)).toInt32).toBitVec false)) &&& (jv_clowest (32 : Int32))), .int (vl_I f.d), .ref 171]) rfl Kz) ?_
  refine jv_Wp.lift (fun _ Kz => jv_Ev.c jv_i63 (pc' := 217) (S' := []) (G1 := (jv_H K (jv_u I 171 2 ((I 171 2) ||| ((1 : Int32) <<< ((vl_I f.d) &&& 31)))) (jv_u L 172 f.d ((Int64.ofBitVec (vm_ci 11 ((0 : Int64).toInt32).toBitVec ((((Int32.ofInt f.i).toInt64 <<< (((64 : Int32) - (Int32.ofInt f.o)).toInt64 &&& 63)) >>> (((64 : Int32) - (Int32.ofInt f.o)).toInt64 &&& 63)).toInt32).toBitVec false)) &&& (jv_clowest (32 : Int32)))) R)) jv_i54 [.ref 171, .int (vl_I f.d), .long ((Int64.ofBitVec (vm_ci 11 ((0 : Int64).toInt32).toBitVec ((((Int32.ofInt f.i).toInt64 <<< (((64 : Int32) - (Int32.ofInt f.o)).toInt64 &&& 63)) >>> (((64 : Int32) - (Int32.ofInt f.o)).toInt64 &&& 63)).toInt32).toBitVec false)) &&& (jv_clowest (32 : Int32)))] rfl rfl rfl rfl (jv_cal rfl (jv_H_at (vm_cK hC 171 2 13 (by decide))) rfl rfl) rfl (vm_cset (I := I) (L := L) (n := n) (sl := sl) (r := f.d) hC (by omega)) rfl rfl Kz) ?_
  refine jv_Wp.of (jv_Ev.ret jv_i63 rfl rfl) ?_
  have ev : ((Int64.ofBitVec (vm_ci 11 ((0 : Int64).toInt32).toBitVec ((((Int32.ofInt f.i).toInt64 <<< (((64 : Int32) - (Int32.ofInt f.o)).toInt64 &&& 63)) >>> (((64 : Int32) - (Int32.ofInt f.o)).toInt64 &&& 63)).toInt32).toBitVec false)) &&& (jv_clowest (32 : Int32))) = Int64.ofBitVec (vx_do f x.toBitVec y.toBitVec (vm_sg f x.toBitVec y.toBitVec)) := Int64.toBitVec_inj.mp (by rw [vm_do4m (by omega) hn, if_neg ho0]; rw [Int64.toBitVec_and, show (jv_clowest (32 : Int32)).toBitVec = vb_lowest 32 from vl_lowk (n := 32) (by decide)]; refine vb_lo_eq ?_; rw [vm_shoE ho3 hO, exs]; show ((BitVec.signExtend 64 (_ : BitVec 32))).setWidth 32 = _; rw [vb_lo_se, vl_i32]; rfl)
  rw [hQ, ev]
  exact ⟨_, _, rfl, vc_m_gv h hd, vm_gv_ff (vc_ff_refl _ I L)⟩
theorem vc_reckon4or {K : Nat → Option (Nat × Nat)} {I : Nat → Nat → Int32} {L : Nat → Nat → Int64} {R : Nat → Nat → Value} (hC : vm_CW K R) {S T : vm_S} (h : vm_c I L S) {w : Int64} {f : vf_F} (ef : vc_F w = f) (hd : f.d < 11) (hs : f.s < 11) (har : vf_ar f) (hk : f.kind = 4) (hn11 : f.n ≠ 11) (hn13 : f.n ≠ 13) (hb3 : f.bit3 = true) (hl : vm_arith f S = some T) {n sl : Nat} : ∃ I1 L1, jv_Ms 63 [.ref 171, .long w] (jv_H K I L R) n sl (none, jv_H K I1 L1 R, n, sl) ∧ vm_c I1 L1 T ∧ vc_ff vm_Er I L I1 L1 := by
  obtain ⟨Q, hQ⟩ : ∃ Q : jv_R → Prop, Q = fun X => ∃ I1 L1, X = (none, jv_H K I1 L1 R, n, sl) ∧ vm_c I1 L1 T ∧ vc_ff vm_Er I L I1 L1 := ⟨_, rfl⟩
  suffices hE : jv_Wp 63 0 [(0, .ref 171), (1, .long w)] [] (jv_H K I L R) n sl Q by
    rw [hQ] at hE
    obtain ⟨X, hE, I1, L1, e, h'⟩ := hE
    subst e
    exact ⟨I1, L1, hE, h'⟩
  obtain ⟨x, y, hx, hy, hT⟩ := vm_arith_dec hl
  subst hT
  have hn256 : f.n < 256 := by have : f.n = f.code / 16 := rfl; have := vw_dc ef; omega
  rw [if_neg (show ¬ f.n = 11 by omega)] at hx
  obtain ⟨xd, exd⟩ : ∃ xd, xd = x := ⟨x, rfl⟩
  have hgd : vm_rd S f.d = some xd := exd ▸ hx
  rw [if_neg (show ¬ f.n = 13 by omega)] at hy
  rw [if_pos hb3] at hy
  obtain ⟨xs, exs⟩ : ∃ xs, xs = y := ⟨y, rfl⟩
  have hgs : vm_rd S f.s = some xs := exs ▸ hy
  have hn12 : f.n ≤ 12 := by have := har.1; omega
  refine jv_Wp.lift (fun _ Kz => jv_Ev.steps jv_i63 1 (pc' := 1) (l' := [(0, .ref 171), (1, .long w)]) (st' := [.long w]) rfl Kz) ?_
  refine jv_Wp.lift (fun _ Kz => jv_Ev.c jv_i63 (pc' := 4) (S' := [.int (vl_I f.n)]) jv_i82 [.long w] rfl rfl rfl rfl rfl rfl (vw_f82 ef) rfl rfl Kz) ?_
  refine jv_Wp.lift (fun _ Kz => jv_Ev.steps jv_i63 2 (pc' := 6) (l' := [(3, .int (vl_I f.n)), (0, .ref 171), (1, .long w)]) (st' := [.long w]) rfl Kz) ?_
  refine jv_Wp.lift (fun _ Kz => jv_Ev.c jv_i63 (pc' := 9) (S' := [.int (Int32.ofInt f.i)]) jv_i89 [.long w] rfl rfl rfl rfl rfl rfl (vw_f89 ef) rfl rfl Kz) ?_
  refine jv_Wp.lift (fun _ Kz => jv_Ev.steps jv_i63 2 (pc' := 12) (l' := [(4, .int (Int32.ofInt f.i)), (3, .int (vl_I f.n)), (0, .ref 171), (1, .long w)]) (st' := [.long w]) rfl Kz) ?_
  refine jv_Wp.lift (fun _ Kz => jv_Ev.c jv_i63 (pc' := 15) (S' := [.int (Int32.ofInt f.o)]) jv_i88 [.long w] rfl rfl rfl rfl rfl rfl (vw_f88 ef) rfl rfl Kz) ?_
  refine jv_Wp.lift (fun _ Kz => jv_Ev.steps jv_i63 2 (pc' := 18) (l' := [(5, .int (Int32.ofInt f.o)), (4, .int (Int32.ofInt f.i)), (3, .int (vl_I f.n)), (0, .ref 171), (1, .long w)]) (st' := [.long w]) rfl Kz) ?_
  refine jv_Wp.lift (fun _ Kz => jv_Ev.c jv_i63 (pc' := 21) (S' := [.int (vl_I f.d)]) jv_i86 [.long w] rfl rfl rfl rfl rfl rfl (vw_f86 ef) rfl rfl Kz) ?_
  refine jv_Wp.lift (fun _ Kz => jv_Ev.steps jv_i63 2 (pc' := 24) (l' := [(6, .int (vl_I f.d)), (5, .int (Int32.ofInt f.o)), (4, .int (Int32.ofInt f.i)), (3, .int (vl_I f.n)), (0, .ref 171), (1, .long w)]) (st' := [.long w]) rfl Kz) ?_
  refine jv_Wp.lift (fun _ Kz => jv_Ev.c jv_i63 (pc' := 27) (S' := [.int (4 : Int32)]) jv_i81 [.long w] rfl rfl rfl rfl rfl rfl (vw_l81 ef hk rfl) rfl rfl Kz) ?_
  refine jv_Wp.lift (fun _ Kz => jv_Ev.steps jv_i63 1 (pc' := 29) (l' := [(6, .int (vl_I f.d)), (5, .int (Int32.ofInt f.o)), (4, .int (Int32.ofInt f.i)), (3, .int (vl_I f.n)), (0, .ref 171), (1, .long w)]) (st' := [.int (7 : Int32), .int (4 : Int32)]) rfl Kz) ?_
  refine jv_Wp.lift (fun _ Kz => jv_Ev.br jv_i63 (pc' := 36) (st' := []) rfl (by rfl) Kz) ?_
  refine jv_Wp.lift (fun _ Kz => jv_Ev.steps jv_i63 4 (pc' := 42) (l' := [(7, .int (0 : Int32)), (6, .int (vl_I f.d)), (5, .int (Int32.ofInt f.o)), (4, .int (Int32.ofInt f.i)), (3, .int (vl_I f.n)), (0, .ref 171), (1, .long w)]) (st' := [.int (11 : Int32), .int (vl_I f.n)]) rfl Kz) ?_
  refine jv_Wp.cnd jv_i63 (pt := 49) (pe := 45) (p := (¬ (vl_I f.n) = (11 : Int32))) (q := (¬ (vl_I f.n) = (11 : Int32))) rfl jv_bc_ne rfl rfl Iff.rfl (fun _ => ?_) (fun hz => absurd (fun z => hn11 ((vl_I_inj (a := f.n) (b := 11) (by omega) (by decide)).mp z)) hz)
  refine jv_Wp.lift (fun _ Kz => jv_Ev.steps jv_i63 2 (pc' := 52) (l' := [(7, .int (0 : Int32)), (6, .int (vl_I f.d)), (5, .int (Int32.ofInt f.o)), (4, .int (Int32.ofInt f.i)), (3, .int (vl_I f.n)), (0, .ref 171), (1, .long w)]) (st' := [.int (vl_I f.d), .ref 171]) rfl Kz) ?_
  refine jv_Wp.lift (fun _ Kz => jv_Ev.c jv_i63 (pc' := 55) (S' := [.long xd]) jv_i53 [.ref 171, .int (vl_I f.d)] rfl rfl rfl rfl (jv_cal rfl (jv_H_at (vm_cK hC 171 2 13 (by decide))) rfl rfl) rfl (vm_cget hC h hd hgd) rfl rfl Kz) ?_
  refine jv_Wp.lift (fun _ Kz => jv_Ev.steps jv_i63 3 (pc' := 60) (l' := [(8, .long xd), (7, .int (0 : Int32)), (6, .int (vl_I f.d)), (5, .int (Int32.ofInt f.o)), (4, .int (Int32.ofInt f.i)), (3, .int (vl_I f.n)), (0, .ref 171), (1, .long w)]) (st' := [.int (13 : Int32), .int (vl_I f.n)]) rfl Kz) ?_
  refine jv_Wp.cnd jv_i63 (pt := 112) (pe := 63) (p := (¬ (vl_I f.n) = (13 : Int32))) (q := (¬ (vl_I f.n) = (13 : Int32))) rfl jv_bc_ne rfl rfl Iff.rfl (fun _ => ?_) (fun hz => absurd (fun z => hn13 ((vl_I_inj (a := f.n) (b := 13) (by omega) (by decide)).mp z)) hz)
  refine jv_Wp.lift (fun _ Kz => jv_Ev.steps jv_i63 1 (pc' := 113) (l' := [(8, .long xd), (7, .int (0 : Int32)), (6, .int (vl_I f.d)), (5, .int (Int32.ofInt f.o)), (4, .int (Int32.ofInt f.i)), (3, .int (vl_I f.n)), (0, .ref 171), (1, .long w)]) (st' := [.long w]) rfl Kz) ?_
  refine jv_Wp.lift (fun _ Kz => jv_Ev.c jv_i63 (pc' := 116) (S' := [.int (1 : Int32)]) jv_i83 [.long w] rfl rfl rfl rfl rfl rfl (vw_l83 ef hb3 rfl) rfl rfl Kz) ?_
  refine jv_Wp.lift (fun _ Kz => jv_Ev.br jv_i63 (pc' := 119) (st' := []) rfl (by rfl) Kz) ?_
  refine jv_Wp.lift (fun _ Kz => jv_Ev.steps jv_i63 2 (pc' := 121) (l' := [(8, .long xd), (7, .int (0 : Int32)), (6, .int (vl_I f.d)), (5, .int (Int32.ofInt f.o)), (4, .int (Int32.ofInt f.i)), (3, .int (vl_I f.n)), (0, .ref 171), (1, .long w)]) (st' := [.long w, .ref 171]) rfl Kz) ?_
  refine jv_Wp.lift (fun _ Kz => jv_Ev.c jv_i63 (pc' := 124) (S' := [.int (vl_I f.s), .ref 171]) jv_i87 [.long w] rfl rfl rfl rfl rfl rfl (vw_f87 ef) rfl rfl Kz) ?_
  refine jv_Wp.lift (fun _ Kz => jv_Ev.c jv_i63 (pc' := 127) (S' := [.long xs]) jv_i53 [.ref 171, .int (vl_I f.s)] rfl rfl rfl rfl (jv_cal rfl (jv_H_at (vm_cK hC 171 2 13 (by decide))) rfl rfl) rfl (vm_cget hC h hs hgs) rfl rfl Kz) ?_
  refine jv_Wp.lift (fun _ Kz => jv_Ev.steps jv_i63 4 (pc' := 138) (l' := [(10, .long xs), (8, .long xd), (7, .int (0 : Int32)), (6, .int (vl_I f.d)), (5, .int (Int32.ofInt f.o)), (4, .int (Int32.ofInt f.i)), (3, .int (vl_I f.n)), (0, .ref 171), (1, .long w)]) (st' := [.int (11 : Int32), .int (vl_I f.n)]) rfl Kz) ?_
  refine jv_Wp.cnd jv_i63 (pt := 162) (pe := 141) (p := (¬ (vl_I f.n) = (11 : Int32))) (q := (¬ (vl_I f.n) = (11 : Int32))) rfl jv_bc_ne rfl rfl Iff.rfl (fun _ => ?_) (fun hz => absurd (fun z => hn11 ((vl_I_inj (a := f.n) (b := 11) (by omega) (by decide)).mp z)) hz)
  refine jv_Wp.lift (fun _ Kz => jv_Ev.steps jv_i63 2 (pc' := 165) (l' := [(10, .long xs), (8, .long xd), (7, .int (0 : Int32)), (6, .int (vl_I f.d)), (5, .int (Int32.ofInt f.o)), (4, .int (Int32.ofInt f.i)), (3, .int (vl_I f.n)), (0, .ref 171), (1, .long w)]) (st' := [.int (1 : Int32), .int (Int32.ofInt f.o)]) rfl Kz) ?_
  refine jv_Wp.cnd jv_i63 (pt := 172) (pe := 168) (p := (¬ (Int32.ofInt f.o) = (1 : Int32))) (q := (¬ (Int32.ofInt f.o) = (1 : Int32))) rfl jv_bc_ne rfl rfl Iff.rfl (fun h1 => ?_) (fun h1 => ?_)
  · refine jv_Wp.lift (fun _ Kz => jv_Ev.steps jv_i63 5 (pc' := 180) (l' := [(12, .int (0 : Int32)), (10, .long xs), (8, .long xd), (7, .int (0 : Int32)), (6, .int (vl_I f.d)), (5, .int (Int32.ofInt f.o)), (4, .int (Int32.ofInt f.i)), (3, .int (vl_I f.n)), (0, .ref 171), (1, .long w)]) (st' := [.int (0 : Int32), .int (vl_I f.d), .ref 171]) rfl Kz) ?_
    refine jv_Wp.lift (fun _ Kz => jv_Ev.br jv_i63 (pc' := 196) (st' := [.int (vl_I f.d), .ref 171]) rfl (by rfl) Kz) ?_
    refine jv_Wp.lift (fun _ Kz => jv_Ev.steps jv_i63 6 (pc' := 205) (l' := [(12, .int (0 : Int32)), (10, .long xs), (8, .long xd), (7, .int (0 : Int32)), (6, .int (vl_I f.d)), (5, .int (Int32.ofInt f.o)), (4, .int (Int32.ofInt f.i)), (3, .int (vl_I f.n)), (0, .ref 171), (1, .long w)]) (st' := [.int (0 : Int32), .int xs.toInt32, .int xd.toInt32, .int (vl_I f.n), .int (vl_I f.d), .ref 171]) rfl Kz) ?_
    refine jv_Wp.lift (fun _ Kz => jv_Ev.c jv_i63 (pc' := 208) (S' := [.long (Int64.ofBitVec (vm_ci f.n (xd.toInt32).toBitVec (xs.toInt32).toBitVec false)), .int (vl_I f.d), .ref 171]) jv_i66 [.int (vl_I f.n), .int xd.toInt32, .int xs.toInt32, .int (0 : Int32)] rfl rfl rfl rfl rfl rfl (vc_rints (n := f.n) (x := xd.toInt32) (y := xs.toInt32) (sg := false) hn12) rfl rfl Kz) ?_
    refine jv_Wp.lift (fun _ Kz => jv_Ev.steps jv_i63 1 (pc' := 210) (l' := [(12, .int (0 : Int32)), (10, .long xs), (8, .long xd), (7, .int (0 : Int32)), (6, .int (vl_I f.d)), (5, .int (Int32.ofInt f.o)), (4, .int (Int32.ofInt f.i)), (3, .int (vl_I f.n)), (0, .ref 171), (1, .long w)]) (st' := [.int (32 : Int32), .long (Int64.ofBitVec (vm_ci f.n (xd.toInt32).toBitVec (xs.toInt32).toBitVec false)), .int (vl_I f.d), .ref 171]) rfl Kz) ?_
    refine jv_Wp.lift (fun _ Kz => jv_Ev.c jv_i63 (pc' := 213) (S' := [.long (jv_clowest (32 : Int32)), .long (Int64.ofBitVec (vm_ci f.n (xd.toInt32).toBitVec (xs.toInt32).toBitVec false)), .int (vl_I f.d), .ref 171]) jv_i5 [.int (32 : Int32)] rfl rfl rfl rfl rfl rfl (jv_s5 (32 : Int32)) rfl rfl Kz) ?_
    refine jv_Wp.lift (fun _ Kz => jv_Ev.steps jv_i63 1 (pc' := 214) (l' := [(12, .int (0 : Int32)), (10, .long xs), (8, .long xd), (7, .int (0 : Int32)), (6, .int (vl_I f.d)), (5, .int (Int32.ofInt f.o)), (4, .int (Int32.ofInt f.i)), (3, .int (vl_I f.n)), (0, .ref 171), (1, .long w)]) (st' := [.long ((Int64.ofBitVec (vm_ci f.n (xd.toInt32).toBitVec (xs.toInt32).toBitVec false)) &&& (jv_clowest (32 : Int32))), .int (vl_I f.d), .ref 171]) rfl Kz) ?_
    refine jv_Wp.lift (fun _ Kz => jv_Ev.c jv_i63 (pc' := 217) (S' := []) (G1 := (jv_H K (jv_u I 171 2 ((I 171 2) ||| ((1 : Int32) <<< ((vl_I f.d) &&& 31)))) (jv_u L 172 f.d ((Int64.ofBitVec (vm_ci f.n (xd.toInt32).toBitVec (xs.toInt32).toBitVec false)) &&& (jv_clowest (32 : Int32)))) R)) jv_i54 [.ref 171, .int (vl_I f.d), .long ((Int64.ofBitVec (vm_ci f.n (xd.toInt32).toBitVec (xs.toInt32).toBitVec false)) &&& (jv_clowest (32 : Int32)))] rfl rfl rfl rfl (jv_cal rfl (jv_H_at (vm_cK hC 171 2 13 (by decide))) rfl rfl) rfl (vm_cset (I := I) (L := L) (n := n) (sl := sl) (r := f.d) hC (by omega)) rfl rfl Kz) ?_
    refine jv_Wp.of (jv_Ev.ret jv_i63 rfl rfl) ?_
    have ev : ((Int64.ofBitVec (vm_ci f.n (xd.toInt32).toBitVec (xs.toInt32).toBitVec false)) &&& (jv_clowest (32 : Int32))) = Int64.ofBitVec (vx_do f x.toBitVec y.toBitVec (vm_sg f x.toBitVec y.toBitVec)) := Int64.toBitVec_inj.mp (by rw [exd, exs, Int64.toBitVec_and, show (jv_clowest (32 : Int32)).toBitVec = vb_lowest 32 from vl_lowk (n := 32) (by decide), vl_i32, vl_i32]; exact (vm_do4 (by omega) har hn13 hn11 (show false = decide (f.o = 1) from (decide_eq_false (fun z => h1 ((vm_o1 (vw_dO ef)).mpr z))).symm)).symm)
    rw [hQ, ev]
    exact ⟨_, _, rfl, vc_m_gv h hd, vm_gv_ff (vc_ff_refl _ I L)⟩
  · refine jv_Wp.lift (fun _ Kz => jv_Ev.steps jv_i63 6 (pc' := 180) (l' := [(12, .int (1 : Int32)), (10, .long xs), (8, .long xd), (7, .int (0 : Int32)), (6, .int (vl_I f.d)), (5, .int (Int32.ofInt f.o)), (4, .int (Int32.ofInt f.i)), (3, .int (vl_I f.n)), (0, .ref 171), (1, .long w)]) (st' := [.int (0 : Int32), .int (vl_I f.d), .ref 171]) rfl Kz) ?_
    refine jv_Wp.lift (fun _ Kz => jv_Ev.br jv_i63 (pc' := 196) (st' := [.int (vl_I f.d), .ref 171]) rfl (by rfl) Kz) ?_
    refine jv_Wp.lift (fun _ Kz => jv_Ev.steps jv_i63 6 (pc' := 205) (l' := [(12, .int (1 : Int32)), (10, .long xs), (8, .long xd), (7, .int (0 : Int32)), (6, .int (vl_I f.d)), (5, .int (Int32.ofInt f.o)), (4, .int (Int32.ofInt f.i)), (3, .int (vl_I f.n)), (0, .ref 171), (1, .long w)]) (st' := [.int (1 : Int32), .int xs.toInt32, .int xd.toInt32, .int (vl_I f.n), .int (vl_I f.d), .ref 171]) rfl Kz) ?_
    refine jv_Wp.lift (fun _ Kz => jv_Ev.c jv_i63 (pc' := 208) (S' := [.long (Int64.ofBitVec (vm_ci f.n (xd.toInt32).toBitVec (xs.toInt32).toBitVec true)), .int (vl_I f.d), .ref 171]) jv_i66 [.int (vl_I f.n), .int xd.toInt32, .int xs.toInt32, .int (1 : Int32)] rfl rfl rfl rfl rfl rfl (vc_rints (n := f.n) (x := xd.toInt32) (y := xs.toInt32) (sg := true) hn12) rfl rfl Kz) ?_
    refine jv_Wp.lift (fun _ Kz => jv_Ev.steps jv_i63 1 (pc' := 210) (l' := [(12, .int (1 : Int32)), (10, .long xs), (8, .long xd), (7, .int (0 : Int32)), (6, .int (vl_I f.d)), (5, .int (Int32.ofInt f.o)), (4, .int (Int32.ofInt f.i)), (3, .int (vl_I f.n)), (0, .ref 171), (1, .long w)]) (st' := [.int (32 : Int32), .long (Int64.ofBitVec (vm_ci f.n (xd.toInt32).toBitVec (xs.toInt32).toBitVec true)), .int (vl_I f.d), .ref 171]) rfl Kz) ?_
    refine jv_Wp.lift (fun _ Kz => jv_Ev.c jv_i63 (pc' := 213) (S' := [.long (jv_clowest (32 : Int32)), .long (Int64.ofBitVec (vm_ci f.n (xd.toInt32).toBitVec (xs.toInt32).toBitVec true)), .int (vl_I f.d), .ref 171]) jv_i5 [.int (32 : Int32)] rfl rfl rfl rfl rfl rfl (jv_s5 (32 : Int32)) rfl rfl Kz) ?_
    refine jv_Wp.lift (fun _ Kz => jv_Ev.steps jv_i63 1 (pc' := 214) (l' := [(12, .int (1 : Int32)), (10, .long xs), (8, .long xd), (7, .int (0 : Int32)), (6, .int (vl_I f.d)), (5, .int (Int32.ofInt f.o)), (4, .int (Int32.ofInt f.i)), (3, .int (vl_I f.n)), (0, .ref 171), (1, .long w)]) (st' := [.long ((Int64.ofBitVec (vm_ci f.n (xd.toInt32).toBitVec (xs.toInt32).toBitVec true)) &&& (jv_clowest (32 : Int32))), .int (vl_I f.d), .ref 171]) rfl Kz) ?_
    refine jv_Wp.lift (fun _ Kz => jv_Ev.c jv_i63 (pc' := 217) (S' := []) (G1 := (jv_H K (jv_u I 171 2 ((I 171 2) ||| ((1 : Int32) <<< ((vl_I f.d) &&& 31)))) (jv_u L 172 f.d ((Int64.ofBitVec (vm_ci f.n (xd.toInt32).toBitVec (xs.toInt32).toBitVec true)) &&& (jv_clowest (32 : Int32)))) R)) jv_i54 [.ref 171, .int (vl_I f.d), .long ((Int64.ofBitVec (vm_ci f.n (xd.toInt32).toBitVec (xs.toInt32).toBitVec true)) &&& (jv_clowest (32 : Int32)))] rfl rfl rfl rfl (jv_cal rfl (jv_H_at (vm_cK hC 171 2 13 (by decide))) rfl rfl) rfl (vm_cset (I := I) (L := L) (n := n) (sl := sl) (r := f.d) hC (by omega)) rfl rfl Kz) ?_
    refine jv_Wp.of (jv_Ev.ret jv_i63 rfl rfl) ?_
    have ev : ((Int64.ofBitVec (vm_ci f.n (xd.toInt32).toBitVec (xs.toInt32).toBitVec true)) &&& (jv_clowest (32 : Int32))) = Int64.ofBitVec (vx_do f x.toBitVec y.toBitVec (vm_sg f x.toBitVec y.toBitVec)) := Int64.toBitVec_inj.mp (by rw [exd, exs, Int64.toBitVec_and, show (jv_clowest (32 : Int32)).toBitVec = vb_lowest 32 from vl_lowk (n := 32) (by decide), vl_i32, vl_i32]; exact (vm_do4 (by omega) har hn13 hn11 (show true = decide (f.o = 1) from (decide_eq_true ((vm_o1 (vw_dO ef)).mp (Classical.not_not.mp h1))).symm)).symm)
    rw [hQ, ev]
    exact ⟨_, _, rfl, vc_m_gv h hd, vm_gv_ff (vc_ff_refl _ I L)⟩
theorem vc_reckon4oi {K : Nat → Option (Nat × Nat)} {I : Nat → Nat → Int32} {L : Nat → Nat → Int64} {R : Nat → Nat → Value} (hC : vm_CW K R) {S T : vm_S} (h : vm_c I L S) {w : Int64} {f : vf_F} (ef : vc_F w = f) (hd : f.d < 11) (hs : f.s < 11) (har : vf_ar f) (hk : f.kind = 4) (hn11 : f.n ≠ 11) (hn13 : f.n ≠ 13) (hb3 : f.bit3 = false) (hl : vm_arith f S = some T) {n sl : Nat} : ∃ I1 L1, jv_Ms 63 [.ref 171, .long w] (jv_H K I L R) n sl (none, jv_H K I1 L1 R, n, sl) ∧ vm_c I1 L1 T ∧ vc_ff vm_Er I L I1 L1 := by
  obtain ⟨Q, hQ⟩ : ∃ Q : jv_R → Prop, Q = fun X => ∃ I1 L1, X = (none, jv_H K I1 L1 R, n, sl) ∧ vm_c I1 L1 T ∧ vc_ff vm_Er I L I1 L1 := ⟨_, rfl⟩
  suffices hE : jv_Wp 63 0 [(0, .ref 171), (1, .long w)] [] (jv_H K I L R) n sl Q by
    rw [hQ] at hE
    obtain ⟨X, hE, I1, L1, e, h'⟩ := hE
    subst e
    exact ⟨I1, L1, hE, h'⟩
  obtain ⟨x, y, hx, hy, hT⟩ := vm_arith_dec hl
  subst hT
  have hn256 : f.n < 256 := by have : f.n = f.code / 16 := rfl; have := vw_dc ef; omega
  rw [if_neg (show ¬ f.n = 11 by omega)] at hx
  obtain ⟨xd, exd⟩ : ∃ xd, xd = x := ⟨x, rfl⟩
  have hgd : vm_rd S f.d = some xd := exd ▸ hx
  rw [if_neg (show ¬ f.n = 13 by omega)] at hy
  rw [if_neg (by rw [hb3]; decide)] at hy
  have exs : (Int32.ofInt f.i).toInt64 = y := (vm_io (vw_dQ ef)).trans (Option.some.inj hy)
  have hn12 : f.n ≤ 12 := by have := har.1; omega
  refine jv_Wp.lift (fun _ Kz => jv_Ev.steps jv_i63 1 (pc' := 1) (l' := [(0, .ref 171), (1, .long w)]) (st' := [.long w]) rfl Kz) ?_
  refine jv_Wp.lift (fun _ Kz => jv_Ev.c jv_i63 (pc' := 4) (S' := [.int (vl_I f.n)]) jv_i82 [.long w] rfl rfl rfl rfl rfl rfl (vw_f82 ef) rfl rfl Kz) ?_
  refine jv_Wp.lift (fun _ Kz => jv_Ev.steps jv_i63 2 (pc' := 6) (l' := [(3, .int (vl_I f.n)), (0, .ref 171), (1, .long w)]) (st' := [.long w]) rfl Kz) ?_
  refine jv_Wp.lift (fun _ Kz => jv_Ev.c jv_i63 (pc' := 9) (S' := [.int (Int32.ofInt f.i)]) jv_i89 [.long w] rfl rfl rfl rfl rfl rfl (vw_f89 ef) rfl rfl Kz) ?_
  refine jv_Wp.lift (fun _ Kz => jv_Ev.steps jv_i63 2 (pc' := 12) (l' := [(4, .int (Int32.ofInt f.i)), (3, .int (vl_I f.n)), (0, .ref 171), (1, .long w)]) (st' := [.long w]) rfl Kz) ?_
  refine jv_Wp.lift (fun _ Kz => jv_Ev.c jv_i63 (pc' := 15) (S' := [.int (Int32.ofInt f.o)]) jv_i88 [.long w] rfl rfl rfl rfl rfl rfl (vw_f88 ef) rfl rfl Kz) ?_
  refine jv_Wp.lift (fun _ Kz => jv_Ev.steps jv_i63 2 (pc' := 18) (l' := [(5, .int (Int32.ofInt f.o)), (4, .int (Int32.ofInt f.i)), (3, .int (vl_I f.n)), (0, .ref 171), (1, .long w)]) (st' := [.long w]) rfl Kz) ?_
  refine jv_Wp.lift (fun _ Kz => jv_Ev.c jv_i63 (pc' := 21) (S' := [.int (vl_I f.d)]) jv_i86 [.long w] rfl rfl rfl rfl rfl rfl (vw_f86 ef) rfl rfl Kz) ?_
  refine jv_Wp.lift (fun _ Kz => jv_Ev.steps jv_i63 2 (pc' := 24) (l' := [(6, .int (vl_I f.d)), (5, .int (Int32.ofInt f.o)), (4, .int (Int32.ofInt f.i)), (3, .int (vl_I f.n)), (0, .ref 171), (1, .long w)]) (st' := [.long w]) rfl Kz) ?_
  refine jv_Wp.lift (fun _ Kz => jv_Ev.c jv_i63 (pc' := 27) (S' := [.int (4 : Int32)]) jv_i81 [.long w] rfl rfl rfl rfl rfl rfl (vw_l81 ef hk rfl) rfl rfl Kz) ?_
  refine jv_Wp.lift (fun _ Kz => jv_Ev.steps jv_i63 1 (pc' := 29) (l' := [(6, .int (vl_I f.d)), (5, .int (Int32.ofInt f.o)), (4, .int (Int32.ofInt f.i)), (3, .int (vl_I f.n)), (0, .ref 171), (1, .long w)]) (st' := [.int (7 : Int32), .int (4 : Int32)]) rfl Kz) ?_
  refine jv_Wp.lift (fun _ Kz => jv_Ev.br jv_i63 (pc' := 36) (st' := []) rfl (by rfl) Kz) ?_
  refine jv_Wp.lift (fun _ Kz => jv_Ev.steps jv_i63 4 (pc' := 42) (l' := [(7, .int (0 : Int32)), (6, .int (vl_I f.d)), (5, .int (Int32.ofInt f.o)), (4, .int (Int32.ofInt f.i)), (3, .int (vl_I f.n)), (0, .ref 171), (1, .long w)]) (st' := [.int (11 : Int32), .int (vl_I f.n)]) rfl Kz) ?_
  refine jv_Wp.cnd jv_i63 (pt := 49) (pe := 45) (p := (¬ (vl_I f.n) = (11 : Int32))) (q := (¬ (vl_I f.n) = (11 : Int32))) rfl jv_bc_ne rfl rfl Iff.rfl (fun _ => ?_) (fun hz => absurd (fun z => hn11 ((vl_I_inj (a := f.n) (b := 11) (by omega) (by decide)).mp z)) hz)
  refine jv_Wp.lift (fun _ Kz => jv_Ev.steps jv_i63 2 (pc' := 52) (l' := [(7, .int (0 : Int32)), (6, .int (vl_I f.d)), (5, .int (Int32.ofInt f.o)), (4, .int (Int32.ofInt f.i)), (3, .int (vl_I f.n)), (0, .ref 171), (1, .long w)]) (st' := [.int (vl_I f.d), .ref 171]) rfl Kz) ?_
  refine jv_Wp.lift (fun _ Kz => jv_Ev.c jv_i63 (pc' := 55) (S' := [.long xd]) jv_i53 [.ref 171, .int (vl_I f.d)] rfl rfl rfl rfl (jv_cal rfl (jv_H_at (vm_cK hC 171 2 13 (by decide))) rfl rfl) rfl (vm_cget hC h hd hgd) rfl rfl Kz) ?_
  refine jv_Wp.lift (fun _ Kz => jv_Ev.steps jv_i63 3 (pc' := 60) (l' := [(8, .long xd), (7, .int (0 : Int32)), (6, .int (vl_I f.d)), (5, .int (Int32.ofInt f.o)), (4, .int (Int32.ofInt f.i)), (3, .int (vl_I f.n)), (0, .ref 171), (1, .long w)]) (st' := [.int (13 : Int32), .int (vl_I f.n)]) rfl Kz) ?_
  refine jv_Wp.cnd jv_i63 (pt := 112) (pe := 63) (p := (¬ (vl_I f.n) = (13 : Int32))) (q := (¬ (vl_I f.n) = (13 : Int32))) rfl jv_bc_ne rfl rfl Iff.rfl (fun _ => ?_) (fun hz => absurd (fun z => hn13 ((vl_I_inj (a := f.n) (b := 13) (by omega) (by decide)).mp z)) hz)
  refine jv_Wp.lift (fun _ Kz => jv_Ev.steps jv_i63 1 (pc' := 113) (l' := [(8, .long xd), (7, .int (0 : Int32)), (6, .int (vl_I f.d)), (5, .int (Int32.ofInt f.o)), (4, .int (Int32.ofInt f.i)), (3, .int (vl_I f.n)), (0, .ref 171), (1, .long w)]) (st' := [.long w]) rfl Kz) ?_
  refine jv_Wp.lift (fun _ Kz => jv_Ev.c jv_i63 (pc' := 116) (S' := [.int (0 : Int32)]) jv_i83 [.long w] rfl rfl rfl rfl rfl rfl (vw_l83 ef hb3 rfl) rfl rfl Kz) ?_
  refine jv_Wp.lift (fun _ Kz => jv_Ev.br jv_i63 (pc' := 130) (st' := []) rfl (by rfl) Kz) ?_
  refine jv_Wp.lift (fun _ Kz => jv_Ev.steps jv_i63 5 (pc' := 138) (l' := [(10, .long (Int32.ofInt f.i).toInt64), (8, .long xd), (7, .int (0 : Int32)), (6, .int (vl_I f.d)), (5, .int (Int32.ofInt f.o)), (4, .int (Int32.ofInt f.i)), (3, .int (vl_I f.n)), (0, .ref 171), (1, .long w)]) (st' := [.int (11 : Int32), .int (vl_I f.n)]) rfl Kz) ?_
  refine jv_Wp.cnd jv_i63 (pt := 162) (pe := 141) (p := (¬ (vl_I f.n) = (11 : Int32))) (q := (¬ (vl_I f.n) = (11 : Int32))) rfl jv_bc_ne rfl rfl Iff.rfl (fun _ => ?_) (fun hz => absurd (fun z => hn11 ((vl_I_inj (a := f.n) (b := 11) (by omega) (by decide)).mp z)) hz)
  refine jv_Wp.lift (fun _ Kz => jv_Ev.steps jv_i63 2 (pc' := 165) (l' := [(10, .long (Int32.ofInt f.i).toInt64), (8, .long xd), (7, .int (0 : Int32)), (6, .int (vl_I f.d)), (5, .int (Int32.ofInt f.o)), (4, .int (Int32.ofInt f.i)), (3, .int (vl_I f.n)), (0, .ref 171), (1, .long w)]) (st' := [.int (1 : Int32), .int (Int32.ofInt f.o)]) rfl Kz) ?_
  refine jv_Wp.cnd jv_i63 (pt := 172) (pe := 168) (p := (¬ (Int32.ofInt f.o) = (1 : Int32))) (q := (¬ (Int32.ofInt f.o) = (1 : Int32))) rfl jv_bc_ne rfl rfl Iff.rfl (fun h1 => ?_) (fun h1 => ?_)
  · refine jv_Wp.lift (fun _ Kz => jv_Ev.steps jv_i63 5 (pc' := 180) (l' := [(12, .int (0 : Int32)), (10, .long (Int32.ofInt f.i).toInt64), (8, .long xd), (7, .int (0 : Int32)), (6, .int (vl_I f.d)), (5, .int (Int32.ofInt f.o)), (4, .int (Int32.ofInt f.i)), (3, .int (vl_I f.n)), (0, .ref 171), (1, .long w)]) (st' := [.int (0 : Int32), .int (vl_I f.d), .ref 171]) rfl Kz) ?_
    refine jv_Wp.lift (fun _ Kz => jv_Ev.br jv_i63 (pc' := 196) (st' := [.int (vl_I f.d), .ref 171]) rfl (by rfl) Kz) ?_
    refine jv_Wp.lift (fun _ Kz => jv_Ev.steps jv_i63 6 (pc' := 205) (l' := [(12, .int (0 : Int32)), (10, .long (Int32.ofInt f.i).toInt64), (8, .long xd), (7, .int (0 : Int32)), (6, .int (vl_I f.d)), (5, .int (Int32.ofInt f.o)), (4, .int (Int32.ofInt f.i)), (3, .int (vl_I f.n)), (0, .ref 171), (1, .long w)]) (st' := [.int (0 : Int32), .int (Int32.ofInt f.i).toInt64.toInt32, .int xd.toInt32, .int (vl_I f.n), .int (vl_I f.d), .ref 171]) rfl Kz) ?_
    refine jv_Wp.lift (fun _ Kz => jv_Ev.c jv_i63 (pc' := 208) (S' := [.long (Int64.ofBitVec (vm_ci f.n (xd.toInt32).toBitVec ((Int32.ofInt f.i).toInt64.toInt32).toBitVec false)), .int (vl_I f.d), .ref 171]) jv_i66 [.int (vl_I f.n), .int xd.toInt32, .int (Int32.ofInt f.i).toInt64.toInt32, .int (0 : Int32)] rfl rfl rfl rfl rfl rfl (vc_rints (n := f.n) (x := xd.toInt32) (y := (Int32.ofInt f.i).toInt64.toInt32) (sg := false) hn12) rfl rfl Kz) ?_
    refine jv_Wp.lift (fun _ Kz => jv_Ev.steps jv_i63 1 (pc' := 210) (l' := [(12, .int (0 : Int32)), (10, .long (Int32.ofInt f.i).toInt64), (8, .long xd), (7, .int (0 : Int32)), (6, .int (vl_I f.d)), (5, .int (Int32.ofInt f.o)), (4, .int (Int32.ofInt f.i)), (3, .int (vl_I f.n)), (0, .ref 171), (1, .long w)]) (st' := [.int (32 : Int32), .long (Int64.ofBitVec (vm_ci f.n (xd.toInt32).toBitVec ((Int32.ofInt f.i).toInt64.toInt32).toBitVec false)), .int (vl_I f.d), .ref 171]) rfl Kz) ?_
    refine jv_Wp.lift (fun _ Kz => jv_Ev.c jv_i63 (pc' := 213) (S' := [.long (jv_clowest (32 : Int32)), .long (Int64.ofBitVec (vm_ci f.n (xd.toInt32).toBitVec ((Int32.ofInt f.i).toInt64.toInt32).toBitVec false)), .int (vl_I f.d), .ref 171]) jv_i5 [.int (32 : Int32)] rfl rfl rfl rfl rfl rfl (jv_s5 (32 : Int32)) rfl rfl Kz) ?_
    refine jv_Wp.lift (fun _ Kz => jv_Ev.steps jv_i63 1 (pc' := 214) (l' := [(12, .int (0 : Int32)), (10, .long (Int32.ofInt f.i).toInt64), (8, .long xd), (7, .int (0 : Int32)), (6, .int (vl_I f.d)), (5, .int (Int32.ofInt f.o)), (4, .int (Int32.ofInt f.i)), (3, .int (vl_I f.n)), (0, .ref 171), (1, .long w)]) (st' := [.long ((Int64.ofBitVec (vm_ci f.n (xd.toInt32).toBitVec ((Int32.ofInt f.i).toInt64.toInt32).toBitVec false)) &&& (jv_clowest (32 : Int32))), .int (vl_I f.d), .ref 171]) rfl Kz) ?_
    refine jv_Wp.lift (fun _ Kz => jv_Ev.c jv_i63 (pc' := 217) (S' := []) (G1 := (jv_H K (jv_u I 171 2 ((I 171 2) ||| ((1 : Int32) <<< ((vl_I f.d) &&& 31)))) (jv_u L 172 f.d ((Int64.ofBitVec (vm_ci f.n (xd.toInt32).toBitVec ((Int32.ofInt f.i).toInt64.toInt32).toBitVec false)) &&& (jv_clowest (32 : Int32)))) R)) jv_i54 [.ref 171, .int (vl_I f.d), .long ((Int64.ofBitVec (vm_ci f.n (xd.toInt32).toBitVec ((Int32.ofInt f.i).toInt64.toInt32).toBitVec false)) &&& (jv_clowest (32 : Int32)))] rfl rfl rfl rfl (jv_cal rfl (jv_H_at (vm_cK hC 171 2 13 (by decide))) rfl rfl) rfl (vm_cset (I := I) (L := L) (n := n) (sl := sl) (r := f.d) hC (by omega)) rfl rfl Kz) ?_
    refine jv_Wp.of (jv_Ev.ret jv_i63 rfl rfl) ?_
    have ev : ((Int64.ofBitVec (vm_ci f.n (xd.toInt32).toBitVec ((Int32.ofInt f.i).toInt64.toInt32).toBitVec false)) &&& (jv_clowest (32 : Int32))) = Int64.ofBitVec (vx_do f x.toBitVec y.toBitVec (vm_sg f x.toBitVec y.toBitVec)) := Int64.toBitVec_inj.mp (by rw [exd, exs, Int64.toBitVec_and, show (jv_clowest (32 : Int32)).toBitVec = vb_lowest 32 from vl_lowk (n := 32) (by decide), vl_i32, vl_i32]; exact (vm_do4 (by omega) har hn13 hn11 (show false = decide (f.o = 1) from (decide_eq_false (fun z => h1 ((vm_o1 (vw_dO ef)).mpr z))).symm)).symm)
    rw [hQ, ev]
    exact ⟨_, _, rfl, vc_m_gv h hd, vm_gv_ff (vc_ff_refl _ I L)⟩
  · refine jv_Wp.lift (fun _ Kz => jv_Ev.steps jv_i63 6 (pc' := 180) (l' := [(12, .int (1 : Int32)), (10, .long (Int32.ofInt f.i).toInt64), (8, .long xd), (7, .int (0 : Int32)), (6, .int (vl_I f.d)), (5, .int (Int32.ofInt f.o)), (4, .int (Int32.ofInt f.i)), (3, .int (vl_I f.n)), (0, .ref 171), (1, .long w)]) (st' := [.int (0 : Int32), .int (vl_I f.d), .ref 171]) rfl Kz) ?_
    refine jv_Wp.lift (fun _ Kz => jv_Ev.br jv_i63 (pc' := 196) (st' := [.int (vl_I f.d), .ref 171]) rfl (by rfl) Kz) ?_
    refine jv_Wp.lift (fun _ Kz => jv_Ev.steps jv_i63 6 (pc' := 205) (l' := [(12, .int (1 : Int32)), (10, .long (Int32.ofInt f.i).toInt64), (8, .long xd), (7, .int (0 : Int32)), (6, .int (vl_I f.d)), (5, .int (Int32.ofInt f.o)), (4, .int (Int32.ofInt f.i)), (3, .int (vl_I f.n)), (0, .ref 171), (1, .long w)]) (st' := [.int (1 : Int32), .int (Int32.ofInt f.i).toInt64.toInt32, .int xd.toInt32, .int (vl_I f.n), .int (vl_I f.d), .ref 171]) rfl Kz) ?_
    refine jv_Wp.lift (fun _ Kz => jv_Ev.c jv_i63 (pc' := 208) (S' := [.long (Int64.ofBitVec (vm_ci f.n (xd.toInt32).toBitVec ((Int32.ofInt f.i).toInt64.toInt32).toBitVec true)), .int (vl_I f.d), .ref 171]) jv_i66 [.int (vl_I f.n), .int xd.toInt32, .int (Int32.ofInt f.i).toInt64.toInt32, .int (1 : Int32)] rfl rfl rfl rfl rfl rfl (vc_rints (n := f.n) (x := xd.toInt32) (y := (Int32.ofInt f.i).toInt64.toInt32) (sg := true) hn12) rfl rfl Kz) ?_
    refine jv_Wp.lift (fun _ Kz => jv_Ev.steps jv_i63 1 (pc' := 210) (l' := [(12, .int (1 : Int32)), (10, .long (Int32.ofInt f.i).toInt64), (8, .long xd), (7, .int (0 : Int32)), (6, .int (vl_I f.d)), (5, .int (Int32.ofInt f.o)), (4, .int (Int32.ofInt f.i)), (3, .int (vl_I f.n)), (0, .ref 171), (1, .long w)]) (st' := [.int (32 : Int32), .long (Int64.ofBitVec (vm_ci f.n (xd.toInt32).toBitVec ((Int32.ofInt f.i).toInt64.toInt32).toBitVec true)), .int (vl_I f.d), .ref 171]) rfl Kz) ?_
    refine jv_Wp.lift (fun _ Kz => jv_Ev.c jv_i63 (pc' := 213) (S' := [.long (jv_clowest (32 : Int32)), .long (Int64.ofBitVec (vm_ci f.n (xd.toInt32).toBitVec ((Int32.ofInt f.i).toInt64.toInt32).toBitVec true)), .int (vl_I f.d), .ref 171]) jv_i5 [.int (32 : Int32)] rfl rfl rfl rfl rfl rfl (jv_s5 (32 : Int32)) rfl rfl Kz) ?_
    refine jv_Wp.lift (fun _ Kz => jv_Ev.steps jv_i63 1 (pc' := 214) (l' := [(12, .int (1 : Int32)), (10, .long (Int32.ofInt f.i).toInt64), (8, .long xd), (7, .int (0 : Int32)), (6, .int (vl_I f.d)), (5, .int (Int32.ofInt f.o)), (4, .int (Int32.ofInt f.i)), (3, .int (vl_I f.n)), (0, .ref 171), (1, .long w)]) (st' := [.long ((Int64.ofBitVec (vm_ci f.n (xd.toInt32).toBitVec ((Int32.ofInt f.i).toInt64.toInt32).toBitVec true)) &&& (jv_clowest (32 : Int32))), .int (vl_I f.d), .ref 171]) rfl Kz) ?_
    refine jv_Wp.lift (fun _ Kz => jv_Ev.c jv_i63 (pc' := 217) (S' := []) (G1 := (jv_H K (jv_u I 171 2 ((I 171 2) ||| ((1 : Int32) <<< ((vl_I f.d) &&& 31)))) (jv_u L 172 f.d ((Int64.ofBitVec (vm_ci f.n (xd.toInt32).toBitVec ((Int32.ofInt f.i).toInt64.toInt32).toBitVec true)) &&& (jv_clowest (32 : Int32)))) R)) jv_i54 [.ref 171, .int (vl_I f.d), .long ((Int64.ofBitVec (vm_ci f.n (xd.toInt32).toBitVec ((Int32.ofInt f.i).toInt64.toInt32).toBitVec true)) &&& (jv_clowest (32 : Int32)))] rfl rfl rfl rfl (jv_cal rfl (jv_H_at (vm_cK hC 171 2 13 (by decide))) rfl rfl) rfl (vm_cset (I := I) (L := L) (n := n) (sl := sl) (r := f.d) hC (by omega)) rfl rfl Kz) ?_
    refine jv_Wp.of (jv_Ev.ret jv_i63 rfl rfl) ?_
    have ev : ((Int64.ofBitVec (vm_ci f.n (xd.toInt32).toBitVec ((Int32.ofInt f.i).toInt64.toInt32).toBitVec true)) &&& (jv_clowest (32 : Int32))) = Int64.ofBitVec (vx_do f x.toBitVec y.toBitVec (vm_sg f x.toBitVec y.toBitVec)) := Int64.toBitVec_inj.mp (by rw [exd, exs, Int64.toBitVec_and, show (jv_clowest (32 : Int32)).toBitVec = vb_lowest 32 from vl_lowk (n := 32) (by decide), vl_i32, vl_i32]; exact (vm_do4 (by omega) har hn13 hn11 (show true = decide (f.o = 1) from (decide_eq_true ((vm_o1 (vw_dO ef)).mp (Classical.not_not.mp h1))).symm)).symm)
    rw [hQ, ev]
    exact ⟨_, _, rfl, vc_m_gv h hd, vm_gv_ff (vc_ff_refl _ I L)⟩
theorem vc_reckonM {K : Nat → Option (Nat × Nat)} {I : Nat → Nat → Int32} {L : Nat → Nat → Int64} {R : Nat → Nat → Value} (hC : vm_CW K R) {S T : vm_S} (h : vm_c I L S) {w : Int64} {f : vf_F} (ef : vc_F w = f) (hd : f.d < 11) (hs : f.s < 11) (har : vf_ar f) (hk : f.kind = 4 ∨ f.kind = 7) (hl : vm_arith f S = some T) {n sl : Nat} : ∃ I1 L1, jv_Ms 63 [.ref 171, .long w] (jv_H K I L R) n sl (none, jv_H K I1 L1 R, n, sl) ∧ vm_c I1 L1 T ∧ vc_ff vm_Er I L I1 L1 := by
  have hk : f.kind = 7 ∨ f.kind = 4 := hk.symm
  rcases hk with hk | hk
  · cases hb3 : f.bit3 with
    | false =>
      by_cases h13 : f.n = 13
      · exact vc_reckon7ti hC h ef hd hs har hk h13 hb3 hl
      · by_cases h11 : f.n = 11
        · by_cases ho : f.o = 0
          · exact vc_reckon7m0i hC h ef hd hs har hk h11 ho hb3 hl
          · exact vc_reckon7m1i hC h ef hd hs har hk h11 ho hb3 hl
        · exact vc_reckon7oi hC h ef hd hs har hk h11 h13 hb3 hl
    | true =>
      by_cases h13 : f.n = 13
      · exact vc_reckon7tr hC h ef hd hs har hk h13 hb3 hl
      · by_cases h11 : f.n = 11
        · by_cases ho : f.o = 0
          · exact vc_reckon7m0r hC h ef hd hs har hk h11 ho hb3 hl
          · exact vc_reckon7m1r hC h ef hd hs har hk h11 ho hb3 hl
        · exact vc_reckon7or hC h ef hd hs har hk h11 h13 hb3 hl
  · cases hb3 : f.bit3 with
    | false =>
      by_cases h13 : f.n = 13
      · exact vc_reckon4ti hC h ef hd hs har hk h13 hb3 hl
      · by_cases h11 : f.n = 11
        · by_cases ho : f.o = 0
          · exact vc_reckon4m0i hC h ef hd hs har hk h11 ho hb3 hl
          · exact vc_reckon4m1i hC h ef hd hs har hk h11 ho hb3 hl
        · exact vc_reckon4oi hC h ef hd hs har hk h11 h13 hb3 hl
    | true =>
      by_cases h13 : f.n = 13
      · exact vc_reckon4tr hC h ef hd hs har hk h13 hb3 hl
      · by_cases h11 : f.n = 11
        · by_cases ho : f.o = 0
          · exact vc_reckon4m0r hC h ef hd hs har hk h11 ho hb3 hl
          · exact vc_reckon4m1r hC h ef hd hs har hk h11 ho hb3 hl
        · exact vc_reckon4or hC h ef hd hs har hk h11 h13 hb3 hl
theorem vc_instr4 {K : Nat → Option (Nat × Nat)} {I : Nat → Nat → Int32} {L : Nat → Nat → Int64} {R : Nat → Nat → Value} (hC : vm_CW K R) {S T : vm_S} (h : vm_c I L S) {w : Int64} {f : vf_F} (ef : vc_F w = f) (hd : f.d < 11) (hs : f.s < 11) {pr : Nat} (har : vf_ar f) (hk : f.kind = 4) (hl : vm_arith f S = some T) {n sl : Nat} : ∃ I1 L1, jv_Ms 55 [.ref 171, .ref pr, .long w] (jv_H K I L R) n sl (none, jv_H K I1 L1 R, n, sl) ∧ vm_c I1 L1 T ∧ vc_ff vm_Er I L I1 L1 := by
  obtain ⟨Q, hQ⟩ : ∃ Q : jv_R → Prop, Q = fun X => ∃ I1 L1, X = (none, jv_H K I1 L1 R, n, sl) ∧ vm_c I1 L1 T ∧ vc_ff vm_Er I L I1 L1 := ⟨_, rfl⟩
  suffices hE : jv_Wp 55 0 [(0, .ref 171), (1, .ref pr), (2, .long w)] [] (jv_H K I L R) n sl Q by
    rw [hQ] at hE
    obtain ⟨X, hE, I1, L1, e, h'⟩ := hE
    subst e
    exact ⟨I1, L1, hE, h'⟩
  obtain ⟨I2, L2, hF, hm, hf⟩ := vc_reckonM (n := n) (sl := sl) hC h ef hd hs har (by omega) hl
  refine jv_Wp.lift (fun _ Kz => jv_Ev.steps jv_i55 1 (pc' := 1) (l' := [(0, .ref 171), (1, .ref pr), (2, .long w)]) (st' := [.long w]) rfl Kz) ?_
  refine jv_Wp.lift (fun _ Kz => jv_Ev.c jv_i55 (pc' := 4) (S' := [.int (4 : Int32)]) jv_i81 [.long w] rfl rfl rfl rfl rfl rfl (vw_l81 ef hk rfl) rfl rfl Kz) ?_
  refine jv_Wp.lift (fun _ Kz => jv_Ev.br jv_i55 (pc' := 185) (st' := []) rfl (by rfl) Kz) ?_
  refine jv_Wp.lift (fun _ Kz => jv_Ev.steps jv_i55 2 (pc' := 187) (l' := [(0, .ref 171), (1, .ref pr), (2, .long w)]) (st' := [.long w, .ref 171]) rfl Kz) ?_
  refine jv_Wp.lift (fun _ Kz => jv_Ev.c jv_i55 (pc' := 190) (S' := []) (G1 := (jv_H K I2 L2 R)) jv_i63 [.ref 171, .long w] rfl rfl rfl rfl (jv_cal rfl (jv_H_at (vm_cK hC 171 2 13 (by decide))) rfl rfl) rfl hF rfl rfl Kz) ?_
  refine jv_Wp.of (jv_Ev.ret jv_i55 rfl rfl) ?_
  rw [hQ]
  exact ⟨_, _, rfl, hm, hf⟩
theorem vc_instr7 {K : Nat → Option (Nat × Nat)} {I : Nat → Nat → Int32} {L : Nat → Nat → Int64} {R : Nat → Nat → Value} (hC : vm_CW K R) {S T : vm_S} (h : vm_c I L S) {w : Int64} {f : vf_F} (ef : vc_F w = f) (hd : f.d < 11) (hs : f.s < 11) {pr : Nat} (har : vf_ar f) (hk : f.kind = 7) (hl : vm_arith f S = some T) {n sl : Nat} : ∃ I1 L1, jv_Ms 55 [.ref 171, .ref pr, .long w] (jv_H K I L R) n sl (none, jv_H K I1 L1 R, n, sl) ∧ vm_c I1 L1 T ∧ vc_ff vm_Er I L I1 L1 := by
  obtain ⟨Q, hQ⟩ : ∃ Q : jv_R → Prop, Q = fun X => ∃ I1 L1, X = (none, jv_H K I1 L1 R, n, sl) ∧ vm_c I1 L1 T ∧ vc_ff vm_Er I L I1 L1 := ⟨_, rfl⟩
  suffices hE : jv_Wp 55 0 [(0, .ref 171), (1, .ref pr), (2, .long w)] [] (jv_H K I L R) n sl Q by
    rw [hQ] at hE
    obtain ⟨X, hE, I1, L1, e, h'⟩ := hE
    subst e
    exact ⟨I1, L1, hE, h'⟩
  obtain ⟨I2, L2, hF, hm, hf⟩ := vc_reckonM (n := n) (sl := sl) hC h ef hd hs har (by omega) hl
  refine jv_Wp.lift (fun _ Kz => jv_Ev.steps jv_i55 1 (pc' := 1) (l' := [(0, .ref 171), (1, .ref pr), (2, .long w)]) (st' := [.long w]) rfl Kz) ?_
  refine jv_Wp.lift (fun _ Kz => jv_Ev.c jv_i55 (pc' := 4) (S' := [.int (7 : Int32)]) jv_i81 [.long w] rfl rfl rfl rfl rfl rfl (vw_l81 ef hk rfl) rfl rfl Kz) ?_
  refine jv_Wp.lift (fun _ Kz => jv_Ev.br jv_i55 (pc' := 185) (st' := []) rfl (by rfl) Kz) ?_
  refine jv_Wp.lift (fun _ Kz => jv_Ev.steps jv_i55 2 (pc' := 187) (l' := [(0, .ref 171), (1, .ref pr), (2, .long w)]) (st' := [.long w, .ref 171]) rfl Kz) ?_
  refine jv_Wp.lift (fun _ Kz => jv_Ev.c jv_i55 (pc' := 190) (S' := []) (G1 := (jv_H K I2 L2 R)) jv_i63 [.ref 171, .long w] rfl rfl rfl rfl (jv_cal rfl (jv_H_at (vm_cK hC 171 2 13 (by decide))) rfl rfl) rfl hF rfl rfl Kz) ?_
  refine jv_Wp.of (jv_Ev.ret jv_i55 rfl rfl) ?_
  rw [hQ]
  exact ⟨_, _, rfl, hm, hf⟩