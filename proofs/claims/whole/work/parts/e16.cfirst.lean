/-! part e16: the first wrong place, of the class (gen/te16.py) -/
abbrev vc_c (W : Nat → Int64) : Nat → Nat := fun q => (vc_F (W q)).code
def vc_bI (W : Nat → Int64) (len p : Nat) : Bool := vf_bI (vc_F (W p)) (p + 1) len (vc_N (W (p + 1)) % 4294967296) (vc_N (W (p + 1)) / 4294967296)
def vc_g1 (W : Nat → Int64) (len p : Nat) : Bool := !vf_fs (vc_c W) p || vc_bI W len p
abbrev vc_sec (W : Nat → Int64) (len : Nat) (g : Int) : Prop := 0 < g ∧ g ≤ len ∧ (vc_F (W (g.toNat - 1))).code = 24
def vc_g2 (W : Nat → Int64) (len p : Nat) : Bool := decide (vc_sec W len p) || decide (vc_gw W len (vc_F (W p)) p)
theorem vf_fs_s (c : Nat → Nat) (p : Nat) : vf_fs c (p + 1) = !(vf_fs c p && decide (c p = 24)) := rfl
theorem vc_24 {W : Nat → Int64} {len p : Nat} (h : vc_bI W len p = true) (hc : (vc_F (W p)).code = 24) : p + 1 < len := by
  have k : (vc_F (W p)).kind = 0 := by show (vc_F (W p)).code % 8 = 0; omega
  exact (of_decide_eq_true ((vf_bI_0 k).symm.trans h)).2.2.2.2.1
theorem vi_pJ {p : Nat} (h : p < 2147483000) : (vl_I p).toInt64 = Int64.ofInt (p : Int) := by
  refine Int64.toInt_inj.mp ?_
  rw [vi_I64 (by omega), vi_J (by omega)]
theorem jv_i90 : jv_I 90 4 (some .int) 4 90 jv_c90 := ⟨rfl, rfl, rfl, rfl, rfl⟩
theorem vc_fw_1t {K : Nat → Option (Nat × Nat)} {I : Nat → Nat → Int32} {L : Nat → Nat → Int64} {R : Nat → Nat → Value} {pr ws len : Nat} {W : Nat → Int64} (hP : vc_P K L R pr ws len W) {rest : Bool} {p : Nat} (hp : p ≤ len) {n sl : Nat} {Q : jv_R → Prop} (contE : len ≤ p → jv_Wp 90 45 [(0, .ref pr), (1, .int (vr_b rest)), (2, .int (vl_I len)), (3, .int (vl_I p))] [] (jv_H K I L R) n sl Q) (contB : p < len → vc_bI W len p = false → Q (some (.int (vl_I p)), jv_H K I L R, n, sl)) (contG : p < len → vc_bI W len p = true → (vc_F (W p)).code ≠ 24 → jv_Wp 90 8 [(0, .ref pr), (1, .int (vr_b rest)), (2, .int (vl_I len)), (3, .int (vl_I (p + 1)))] [] (jv_H K I L R) n sl Q) (contW : p < len → vc_bI W len p = true → (vc_F (W p)).code = 24 → jv_Wp 90 8 [(0, .ref pr), (1, .int (vr_b rest)), (2, .int (vl_I len)), (3, .int (vl_I (p + 2)))] [] (jv_H K I L R) n sl Q) : jv_Wp 90 8 [(0, .ref pr), (1, .int (vr_b rest)), (2, .int (vl_I len)), (3, .int (vl_I p))] [] (jv_H K I L R) n sl Q := by
  have hle := hP.2.2.2.1
  refine jv_Wp.lift (fun _ Kz => jv_Ev.steps jv_i90 2 (pc' := 10) (l' := [(0, .ref pr), (1, .int (vr_b rest)), (2, .int (vl_I len)), (3, .int (vl_I p))]) (st' := [.int (vl_I len), .int (vl_I p)]) rfl Kz) ?_
  refine jv_Wp.cnd jv_i90 (pt := 45) (pe := 13) (p := ((vl_I len) ≤ (vl_I p))) (q := ((vl_I len) ≤ (vl_I p))) rfl jv_bc_ge rfl rfl Iff.rfl (fun h1 => ?_) (fun h1 => ?_)
  · exact contE ((vl_I_le (by omega) (by omega)).mp h1)
  · refine jv_Wp.lift (fun _ Kz => jv_Ev.steps jv_i90 2 (pc' := 15) (l' := [(0, .ref pr), (1, .int (vr_b rest)), (2, .int (vl_I len)), (3, .int (vl_I p))]) (st' := [.int (vl_I p), .ref pr]) rfl Kz) ?_
    have pN : p < len := Nat.lt_of_not_le (fun z => h1 ((vl_I_le (by omega) (by omega)).mpr z))
    refine jv_Wp.lift (fun _ Kz => jv_Ev.c jv_i90 (pc' := 18) (S' := [.int (vr_b (vc_bI W len p))]) jv_i91 [.ref pr, .int (vl_I p)] rfl rfl rfl rfl (jv_cal rfl (jv_H_at hP.1) rfl rfl) rfl (vc_isInstruction hP pN rfl) rfl rfl Kz) ?_
    refine jv_Wp.cnd jv_i90 (pt := 23) (pe := 21) (p := (¬ (vr_b (vc_bI W len p)) = 0)) (q := (¬ (vr_b (vc_bI W len p)) = 0)) rfl jv_bi_ne rfl rfl Iff.rfl (fun h2 => ?_) (fun h2 => ?_)
    · refine jv_Wp.lift (fun _ Kz => jv_Ev.steps jv_i90 2 (pc' := 25) (l' := [(0, .ref pr), (1, .int (vr_b rest)), (2, .int (vl_I len)), (3, .int (vl_I p))]) (st' := [.int (vl_I p), .ref pr]) rfl Kz) ?_
      refine jv_Wp.lift (fun _ Kz => jv_Ev.c jv_i90 (pc' := 28) (S' := [.long (W p)]) jv_i78 [.ref pr, .int (vl_I p)] rfl rfl rfl rfl (jv_cal rfl (jv_H_at hP.1) rfl rfl) rfl (vc_wordq hP pN rfl) rfl rfl Kz) ?_
      refine jv_Wp.lift (fun _ Kz => jv_Ev.c jv_i90 (pc' := 31) (S' := [.int (vl_I (vc_F (W p)).code)]) jv_i80 [.long (W p)] rfl rfl rfl rfl rfl rfl (vw_f80 rfl) rfl rfl Kz) ?_
      refine jv_Wp.lift (fun _ Kz => jv_Ev.steps jv_i90 1 (pc' := 33) (l' := [(0, .ref pr), (1, .int (vr_b rest)), (2, .int (vl_I len)), (3, .int (vl_I p))]) (st' := [.int (24 : Int32), .int (vl_I (vc_F (W p)).code)]) rfl Kz) ?_
      refine jv_Wp.cnd jv_i90 (pt := 39) (pe := 36) (p := (¬ (vl_I (vc_F (W p)).code) = (24 : Int32))) (q := (¬ (vl_I (vc_F (W p)).code) = (24 : Int32))) rfl jv_bc_ne rfl rfl Iff.rfl (fun h3 => ?_) (fun h3 => ?_)
      · refine jv_Wp.lift (fun _ Kz => jv_Ev.steps jv_i90 2 (pc' := 8) (l' := [(3, .int ((vl_I p) + Int32.ofInt 1)), (0, .ref pr), (1, .int (vr_b rest)), (2, .int (vl_I len))]) (st' := []) rfl Kz) ?_
        refine jv_Wp.loc (l := [(0, .ref pr), (1, .int (vr_b rest)), (2, .int (vl_I len)), (3, .int ((vl_I p) + Int32.ofInt 1))]) ⟨List.forall_mem_cons.mpr ⟨.tail _ (.head _), List.forall_mem_cons.mpr ⟨.tail _ (.tail _ (.head _)), List.forall_mem_cons.mpr ⟨.tail _ (.tail _ (.tail _ (.head _))), List.forall_mem_cons.mpr ⟨.head _, fun _ h => absurd h List.not_mem_nil⟩⟩⟩⟩, by show List.Nodup [3, 0, 1, 2]; decide⟩ ?_
        rw [show vl_I p + Int32.ofInt 1 = vl_I (p + 1) from vl_I_add p 1]
        exact contG pN (vr_b_t h2) (fun z => h3 ((vl_I_inj (a := (vc_F (W p)).code) (b := 24) (by have : (vc_F (W p)).code < 256 := vw_dc rfl; omega) (by decide)).mpr z))
      · refine jv_Wp.lift (fun _ Kz => jv_Ev.steps jv_i90 3 (pc' := 8) (l' := [(3, .int (((vl_I p) + Int32.ofInt 1) + Int32.ofInt 1)), (0, .ref pr), (1, .int (vr_b rest)), (2, .int (vl_I len))]) (st' := []) rfl Kz) ?_
        refine jv_Wp.loc (l := [(0, .ref pr), (1, .int (vr_b rest)), (2, .int (vl_I len)), (3, .int (((vl_I p) + Int32.ofInt 1) + Int32.ofInt 1))]) ⟨List.forall_mem_cons.mpr ⟨.tail _ (.head _), List.forall_mem_cons.mpr ⟨.tail _ (.tail _ (.head _)), List.forall_mem_cons.mpr ⟨.tail _ (.tail _ (.tail _ (.head _))), List.forall_mem_cons.mpr ⟨.head _, fun _ h => absurd h List.not_mem_nil⟩⟩⟩⟩, by show List.Nodup [3, 0, 1, 2]; decide⟩ ?_
        rw [show vl_I p + Int32.ofInt 1 + Int32.ofInt 1 = vl_I (p + 2) from (congrArg (fun z => z + Int32.ofInt 1) (vl_I_add p 1)).trans (vl_I_add (p + 1) 1)]
        exact contW pN (vr_b_t h2) ((vl_I_inj (a := (vc_F (W p)).code) (b := 24) (by have : (vc_F (W p)).code < 256 := vw_dc rfl; omega) (by decide)).mp (Classical.not_not.mp h3))
    · refine jv_Wp.lift (fun _ Kz => jv_Ev.steps jv_i90 1 (pc' := 22) (l' := [(0, .ref pr), (1, .int (vr_b rest)), (2, .int (vl_I len)), (3, .int (vl_I p))]) (st' := [.int (vl_I p)]) rfl Kz) ?_
      refine jv_Wp.of (jv_Ev.ret jv_i90 rfl rfl) ?_
      exact contB pN (vr_b_f (Classical.not_not.mp h2))
theorem vc_fw_2t {K : Nat → Option (Nat × Nat)} {I : Nat → Nat → Int32} {L : Nat → Nat → Int64} {R : Nat → Nat → Value} {pr ws len : Nat} {W : Nat → Int64} (hP : vc_P K L R pr ws len W) {rest : Bool} {p : Nat} (hp : p ≤ len) {n sl : Nat} {Q : jv_R → Prop} (contE : len ≤ p → jv_Wp 90 87 [(0, .ref pr), (1, .int (vr_b rest)), (2, .int (vl_I len)), (3, .int (vl_I p))] [] (jv_H K I L R) n sl Q) (contB : p < len → vc_g2 W len p = false → Q (some (.int (vl_I p)), jv_H K I L R, n, sl)) (contG : p < len → vc_g2 W len p = true → jv_Wp 90 57 [(0, .ref pr), (1, .int (vr_b rest)), (2, .int (vl_I len)), (3, .int (vl_I (p + 1)))] [] (jv_H K I L R) n sl Q) : jv_Wp 90 57 [(0, .ref pr), (1, .int (vr_b rest)), (2, .int (vl_I len)), (3, .int (vl_I p))] [] (jv_H K I L R) n sl Q := by
  have hle := hP.2.2.2.1
  refine jv_Wp.lift (fun _ Kz => jv_Ev.steps jv_i90 2 (pc' := 59) (l' := [(0, .ref pr), (1, .int (vr_b rest)), (2, .int (vl_I len)), (3, .int (vl_I p))]) (st' := [.int (vl_I len), .int (vl_I p)]) rfl Kz) ?_
  refine jv_Wp.cnd jv_i90 (pt := 87) (pe := 62) (p := ((vl_I len) ≤ (vl_I p))) (q := ((vl_I len) ≤ (vl_I p))) rfl jv_bc_ge rfl rfl Iff.rfl (fun h1 => ?_) (fun h1 => ?_)
  · exact contE ((vl_I_le (by omega) (by omega)).mp h1)
  · refine jv_Wp.lift (fun _ Kz => jv_Ev.steps jv_i90 3 (pc' := 65) (l' := [(0, .ref pr), (1, .int (vr_b rest)), (2, .int (vl_I len)), (3, .int (vl_I p))]) (st' := [.long (vl_I p).toInt64, .ref pr]) rfl Kz) ?_
    have pN : p < len := Nat.lt_of_not_le (fun z => h1 ((vl_I_le (by omega) (by omega)).mpr z))
    have H1 := vc_isSecond (I := I) (L := L) (n := n) (sl := sl) (g := (p : Int)) hP (by omega)
    rw [← vi_pJ (by omega)] at H1
    refine jv_Wp.lift (fun _ Kz => jv_Ev.c jv_i90 (pc' := 68) (S' := [.int (vr_b (decide (vc_sec W len (p : Int))))]) jv_i79 [.ref pr, .long (vl_I p).toInt64] rfl rfl rfl rfl (jv_cal rfl (jv_H_at hP.1) rfl rfl) rfl H1 rfl rfl Kz) ?_
    refine jv_Wp.cnd jv_i90 (pt := 81) (pe := 71) (p := (¬ (vr_b (decide (vc_sec W len (p : Int)))) = 0)) (q := (¬ (vr_b (decide (vc_sec W len (p : Int)))) = 0)) rfl jv_bi_ne rfl rfl Iff.rfl (fun h2 => ?_) (fun h2 => ?_)
    · refine jv_Wp.lift (fun _ Kz => jv_Ev.steps jv_i90 2 (pc' := 57) (l' := [(3, .int ((vl_I p) + Int32.ofInt 1)), (0, .ref pr), (1, .int (vr_b rest)), (2, .int (vl_I len))]) (st' := []) rfl Kz) ?_
      refine jv_Wp.loc (l := [(0, .ref pr), (1, .int (vr_b rest)), (2, .int (vl_I len)), (3, .int ((vl_I p) + Int32.ofInt 1))]) ⟨List.forall_mem_cons.mpr ⟨.tail _ (.head _), List.forall_mem_cons.mpr ⟨.tail _ (.tail _ (.head _)), List.forall_mem_cons.mpr ⟨.tail _ (.tail _ (.tail _ (.head _))), List.forall_mem_cons.mpr ⟨.head _, fun _ h => absurd h List.not_mem_nil⟩⟩⟩⟩, by show List.Nodup [3, 0, 1, 2]; decide⟩ ?_
      rw [show vl_I p + Int32.ofInt 1 = vl_I (p + 1) from vl_I_add p 1]
      exact contG pN (by unfold vc_g2; rw [decide_eq_true (of_decide_eq_true (vr_b_t h2))]; rfl)
    · refine jv_Wp.lift (fun _ Kz => jv_Ev.steps jv_i90 2 (pc' := 73) (l' := [(0, .ref pr), (1, .int (vr_b rest)), (2, .int (vl_I len)), (3, .int (vl_I p))]) (st' := [.int (vl_I p), .ref pr]) rfl Kz) ?_
      refine jv_Wp.lift (fun _ Kz => jv_Ev.c jv_i90 (pc' := 76) (S' := [.int (vr_b (decide (vc_gw W len (vc_F (W p)) p)))]) jv_i98 [.ref pr, .int (vl_I p)] rfl rfl rfl rfl (jv_cal rfl (jv_H_at hP.1) rfl rfl) rfl (vc_goesWell hP pN rfl) rfl rfl Kz) ?_
      refine jv_Wp.cnd jv_i90 (pt := 81) (pe := 79) (p := (¬ (vr_b (decide (vc_gw W len (vc_F (W p)) p))) = 0)) (q := (¬ (vr_b (decide (vc_gw W len (vc_F (W p)) p))) = 0)) rfl jv_bi_ne rfl rfl Iff.rfl (fun h3 => ?_) (fun h3 => ?_)
      · refine jv_Wp.lift (fun _ Kz => jv_Ev.steps jv_i90 2 (pc' := 57) (l' := [(3, .int ((vl_I p) + Int32.ofInt 1)), (0, .ref pr), (1, .int (vr_b rest)), (2, .int (vl_I len))]) (st' := []) rfl Kz) ?_
        refine jv_Wp.loc (l := [(0, .ref pr), (1, .int (vr_b rest)), (2, .int (vl_I len)), (3, .int ((vl_I p) + Int32.ofInt 1))]) ⟨List.forall_mem_cons.mpr ⟨.tail _ (.head _), List.forall_mem_cons.mpr ⟨.tail _ (.tail _ (.head _)), List.forall_mem_cons.mpr ⟨.tail _ (.tail _ (.tail _ (.head _))), List.forall_mem_cons.mpr ⟨.head _, fun _ h => absurd h List.not_mem_nil⟩⟩⟩⟩, by show List.Nodup [3, 0, 1, 2]; decide⟩ ?_
        rw [show vl_I p + Int32.ofInt 1 = vl_I (p + 1) from vl_I_add p 1]
        exact contG pN (by unfold vc_g2; rw [decide_eq_true (of_decide_eq_true (vr_b_t h3)), Bool.or_true])
      · refine jv_Wp.lift (fun _ Kz => jv_Ev.steps jv_i90 1 (pc' := 80) (l' := [(0, .ref pr), (1, .int (vr_b rest)), (2, .int (vl_I len)), (3, .int (vl_I p))]) (st' := [.int (vl_I p)]) rfl Kz) ?_
        refine jv_Wp.of (jv_Ev.ret jv_i90 rfl rfl) ?_
        exact contB pN (by unfold vc_g2; rw [decide_eq_false (of_decide_eq_false (vr_b_f (Classical.not_not.mp h2))), decide_eq_false (of_decide_eq_false (vr_b_f (Classical.not_not.mp h3)))]; rfl)