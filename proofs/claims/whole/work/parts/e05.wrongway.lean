/-! part e05: where a program goes, as the reference looks at it (gen/te05.py) -/
abbrev vf_b4 (f : vf_F) : Prop := (f.kind = 5 ∨ f.kind = 6) ∧ f.n ≠ 8 ∧ f.n ≠ 9
abbrev vf_b5 (f : vf_F) : Prop := f.code = 5 ∨ f.code = 6
/-- where the jump f at place p goes to -/
def vf_gl (f : vf_F) (p : Nat) : Int := p + 1 + (if f.code = 6 then f.i else f.o)
def vf_nx (f : vf_F) (p : Nat) : Nat := p + (if f.code = 24 then 2 else 1)
/-- whether all places to which place p goes on are there -/
abbrev vf_W (B : Nat → Nat) (N p : Nat) : Prop := (vf_b4 (vr_F B p) → vf_go (vf_c B) N (vf_gl (vr_F B p) p)) ∧ (vf_b5 (vr_F B p) ∨ (vr_F B p).code = 149 ∨ vf_nx (vr_F B p) p < N)
def vf_g2 (B : Nat → Nat) (N p : Nat) : Bool := !vf_fs (vf_c B) p || decide (vf_W B N p)
theorem vi_gw {p : Nat} {i : Int} {x : Int32} (hp : p < 2147483648) (hx : x.toInt = i) : ((vl_I p).toInt64 + (1 : Int64)) + x.toInt64 = Int64.ofInt (p + 1 + i) := by
  have b1 := x.toInt_lt; have b2 := x.le_toInt
  have e1 : ((vl_I p).toInt64 + (1 : Int64)).toInt = (p : Int) + 1 := by rw [Int64.toInt_add, vi_I64 hp]; exact vi_bm (by show -9223372036854775808 ≤ (p : Int) + 1; omega) (by show (p : Int) + 1 < 9223372036854775808; omega)
  refine Int64.toInt_inj.mp ?_
  rw [Int64.toInt_add, e1, Int32.toInt_toInt64, hx, vi_J (by omega)]
  exact vi_bm (by omega) (by omega)
theorem jv_i270 : jv_I 270 8 (some .int) 2 46 jv_c270 := ⟨rfl, rfl, rfl, rfl, rfl⟩
theorem vq_ww_2 {K : Nat → Option (Nat × Nat)} {I : Nat → Nat → Int32} {L : Nat → Nat → Int64} {R : Nat → Nat → Value} {N p : Nat} (hW : jv_rW K R) {B : Nat → Nat} {T : Nat} (hf : vr_fl I) (h : vr_tp I 197 T B) (hl : T ≤ 8192) (hle : 8 * N ≤ T) (hp : p ≤ N + 1) {n sl : Nat} {Q : jv_R → Prop}
    (contE : N ≤ p → jv_Wp 270 175 [(0, .ref 196), (1, .int (vl_I N)), (2, .int (vl_I p))] [] (jv_H K I L R) n sl Q)
    (contT : p < N → ∀ I1 L1, vr_dec I1 (vr_F B p) → vr_fr noP vr_E19 I L I1 L1 → jv_Wp 270 33 [(0, .ref 196), (1, .int (vl_I N)), (2, .int (vl_I p)), (3, .int (vl_I (vf_nx (vr_F B p) p)))] [] (jv_H K I1 L1 R) n sl Q) : jv_Wp 270 2 [(0, .ref 196), (1, .int (vl_I N)), (2, .int (vl_I p))] [] (jv_H K I L R) n sl Q := by
  refine jv_Wp.lift (fun _ Kz => jv_Ev.steps jv_i270 2 (pc' := 4) (l' := [(0, .ref 196), (1, .int (vl_I N)), (2, .int (vl_I p))]) (st' := [.int (vl_I N), .int (vl_I p)]) rfl Kz) ?_
  refine jv_Wp.cnd jv_i270 (pt := 175) (pe := 7) (p := ((vl_I N) ≤ (vl_I p))) (q := ((vl_I N) ≤ (vl_I p))) rfl jv_bc_ge rfl rfl Iff.rfl (fun h1 => ?_) (fun h1 => ?_)
  · exact contE ((vl_I_le (by omega) (by omega)).mp h1)
  · refine jv_Wp.lift (fun _ Kz => jv_Ev.steps jv_i270 2 (pc' := 9) (l' := [(0, .ref 196), (1, .int (vl_I N)), (2, .int (vl_I p))]) (st' := [.ref 196, .ref 196]) rfl Kz) ?_
    refine jv_Wp.lift (fun _ Kz => jv_Ev.m jv_i270 (pc' := 12) (st' := [.ref 197, .ref 196]) (G' := (jv_H K I L R)) rfl rfl (jv_m_getR (jv_rwK hW 196 12 24 (by decide)) rfl rfl (jv_rwR hW 196 1 197 (by decide))) Kz) ?_
    refine jv_Wp.lift (fun _ Kz => jv_Ev.steps jv_i270 1 (pc' := 13) (l' := [(0, .ref 196), (1, .int (vl_I N)), (2, .int (vl_I p))]) (st' := [.int (vl_I p), .ref 197, .ref 196]) rfl Kz) ?_
    have pN := Nat.lt_of_not_le (fun z => h1 ((vl_I_le (by omega) (by omega)).mpr z))
    obtain ⟨I1, L1, H1, D1, F1⟩ := vq_take197 (I := I) (L := L) (R := R) (n := n) (sl := sl) p T B hW hf h hl (by omega)
    refine jv_Wp.lift (fun _ Kz => jv_Ev.c jv_i270 (pc' := 16) (S' := []) (G1 := (jv_H K I1 L1 R)) jv_i256 [.ref 196, .ref 197, .int (vl_I p)] rfl rfl rfl rfl (jv_cal rfl (jv_H_at (jv_rwK hW 196 12 24 (by decide))) rfl rfl) rfl H1 rfl rfl Kz) ?_
    refine jv_Wp.lift (fun _ Kz => jv_Ev.steps jv_i270 1 (pc' := 17) (l' := [(0, .ref 196), (1, .int (vl_I N)), (2, .int (vl_I p))]) (st' := [.ref 196]) rfl Kz) ?_
    refine jv_Wp.lift (fun _ Kz => jv_Ev.c jv_i270 (pc' := 20) (S' := [.int (vr_b (decide ((vr_F B p).code = 24)))]) jv_i262 [.ref 196] rfl rfl rfl rfl (jv_cal rfl (jv_H_at (jv_rwK hW 196 12 24 (by decide))) rfl rfl) rfl (vq_isWide (vr_F B p) hW D1) rfl rfl Kz) ?_
    refine jv_Wp.cnd jv_i270 (pt := 29) (pe := 23) (p := ((vr_b (decide ((vr_F B p).code = 24))) = 0)) (q := ((vr_b (decide ((vr_F B p).code = 24))) = 0)) rfl jv_bi_eq rfl rfl Iff.rfl (fun h2 => ?_) (fun h2 => ?_)
    · refine jv_Wp.lift (fun _ Kz => jv_Ev.steps jv_i270 4 (pc' := 33) (l' := [(3, .int ((vl_I p) + (1 : Int32))), (0, .ref 196), (1, .int (vl_I N)), (2, .int (vl_I p))]) (st' := []) rfl Kz) ?_
      refine jv_Wp.loc (l := [(0, .ref 196), (1, .int (vl_I N)), (2, .int (vl_I p)), (3, .int ((vl_I p) + (1 : Int32)))]) ⟨List.forall_mem_cons.mpr ⟨.tail _ (.head _), List.forall_mem_cons.mpr ⟨.tail _ (.tail _ (.head _)), List.forall_mem_cons.mpr ⟨.tail _ (.tail _ (.tail _ (.head _))), List.forall_mem_cons.mpr ⟨.head _, fun _ h => absurd h List.not_mem_nil⟩⟩⟩⟩, by show List.Nodup [3, 0, 1, 2]; decide⟩ ?_
      have e : vl_I p + (1 : Int32) = vl_I (vf_nx (vr_F B p) p) := (vl_I_add p 1).trans (congrArg vl_I (by unfold vf_nx; rw [if_neg (of_decide_eq_false (vr_b_f h2))]))
      rw [e]
      exact contT pN I1 L1 D1 F1
    · refine jv_Wp.lift (fun _ Kz => jv_Ev.steps jv_i270 5 (pc' := 33) (l' := [(3, .int ((vl_I p) + (2 : Int32))), (0, .ref 196), (1, .int (vl_I N)), (2, .int (vl_I p))]) (st' := []) rfl Kz) ?_
      refine jv_Wp.loc (l := [(0, .ref 196), (1, .int (vl_I N)), (2, .int (vl_I p)), (3, .int ((vl_I p) + (2 : Int32)))]) ⟨List.forall_mem_cons.mpr ⟨.tail _ (.head _), List.forall_mem_cons.mpr ⟨.tail _ (.tail _ (.head _)), List.forall_mem_cons.mpr ⟨.tail _ (.tail _ (.tail _ (.head _))), List.forall_mem_cons.mpr ⟨.head _, fun _ h => absurd h List.not_mem_nil⟩⟩⟩⟩, by show List.Nodup [3, 0, 1, 2]; decide⟩ ?_
      have e : vl_I p + (2 : Int32) = vl_I (vf_nx (vr_F B p) p) := (vl_I_add p 2).trans (congrArg vl_I (by unfold vf_nx; rw [if_pos (of_decide_eq_true (vr_b_t h2))]))
      rw [e]
      exact contT pN I1 L1 D1 F1
theorem vq_ww_33 {K : Nat → Option (Nat × Nat)} {I : Nat → Nat → Int32} {L : Nat → Nat → Int64} {R : Nat → Nat → Value} {N p : Nat} (hW : jv_rW K R) {f : vf_F} (D : vr_dec I f) {x : Nat} {n sl : Nat} {Q : jv_R → Prop} (cont : jv_Wp 270 75 [(0, .ref 196), (1, .int (vl_I N)), (2, .int (vl_I p)), (3, .int (vl_I x)), (4, .int (vr_b (decide (vf_b4 f))))] [] (jv_H K I L R) n sl Q) : jv_Wp 270 33 [(0, .ref 196), (1, .int (vl_I N)), (2, .int (vl_I p)), (3, .int (vl_I x))] [] (jv_H K I L R) n sl Q := by
  have c1 := vr_dc D
  have c2 := vr_dd D
  have c3 := vr_ds D
  have c4 : f.n = f.code / 16 := rfl
  have c5 : f.kind = f.code % 8 := rfl
  have c6 : f.mode = f.code / 32 := rfl
  have c7 := vf_z f
  have bn : f.n < 2147483648 := by omega
  have bk : f.kind < 2147483648 := by omega
  have bm : f.mode < 2147483648 := by omega
  have bz : f.z < 2147483648 := by omega
  have bc : f.code < 2147483648 := by omega
  have bd : f.d < 2147483648 := by omega
  have bs : f.s < 2147483648 := by omega
  refine jv_Wp.lift (fun _ Kz => jv_Ev.steps jv_i270 1 (pc' := 34) (l' := [(0, .ref 196), (1, .int (vl_I N)), (2, .int (vl_I p)), (3, .int (vl_I x))]) (st' := [.ref 196]) rfl Kz) ?_
  refine jv_Wp.lift (fun _ Kz => jv_Ev.c jv_i270 (pc' := 37) (S' := [.int (vl_I f.kind)]) jv_i257 [.ref 196] rfl rfl rfl rfl (jv_cal rfl (jv_H_at (jv_rwK hW 196 12 24 (by decide))) rfl rfl) rfl (vq_kind f hW D) rfl rfl Kz) ?_
  refine jv_Wp.lift (fun _ Kz => jv_Ev.steps jv_i270 1 (pc' := 38) (l' := [(0, .ref 196), (1, .int (vl_I N)), (2, .int (vl_I p)), (3, .int (vl_I x))]) (st' := [.int (5 : Int32), .int (vl_I f.kind)]) rfl Kz) ?_
  refine jv_Wp.cnd jv_i270 (pt := 50) (pe := 41) (p := ((vl_I f.kind) = (5 : Int32))) (q := ((vl_I f.kind) = (5 : Int32))) rfl jv_bc_eq rfl rfl Iff.rfl (fun h1 => ?_) (fun h1 => ?_)
  · refine jv_Wp.lift (fun _ Kz => jv_Ev.steps jv_i270 1 (pc' := 51) (l' := [(0, .ref 196), (1, .int (vl_I N)), (2, .int (vl_I p)), (3, .int (vl_I x))]) (st' := [.ref 196]) rfl Kz) ?_
    refine jv_Wp.lift (fun _ Kz => jv_Ev.c jv_i270 (pc' := 54) (S' := [.int (vl_I f.n)]) jv_i258 [.ref 196] rfl rfl rfl rfl (jv_cal rfl (jv_H_at (jv_rwK hW 196 12 24 (by decide))) rfl rfl) rfl (vq_n f hW D) rfl rfl Kz) ?_
    refine jv_Wp.lift (fun _ Kz => jv_Ev.steps jv_i270 1 (pc' := 56) (l' := [(0, .ref 196), (1, .int (vl_I N)), (2, .int (vl_I p)), (3, .int (vl_I x))]) (st' := [.int (8 : Int32), .int (vl_I f.n)]) rfl Kz) ?_
    refine jv_Wp.cnd jv_i270 (pt := 72) (pe := 59) (p := ((vl_I f.n) = (8 : Int32))) (q := ((vl_I f.n) = (8 : Int32))) rfl jv_bc_eq rfl rfl Iff.rfl (fun h2 => ?_) (fun h2 => ?_)
    · refine jv_Wp.lift (fun _ Kz => jv_Ev.steps jv_i270 2 (pc' := 75) (l' := [(4, .int (0 : Int32)), (0, .ref 196), (1, .int (vl_I N)), (2, .int (vl_I p)), (3, .int (vl_I x))]) (st' := []) rfl Kz) ?_
      refine jv_Wp.loc (l := [(0, .ref 196), (1, .int (vl_I N)), (2, .int (vl_I p)), (3, .int (vl_I x)), (4, .int (0 : Int32))]) ⟨List.forall_mem_cons.mpr ⟨.tail _ (.head _), List.forall_mem_cons.mpr ⟨.tail _ (.tail _ (.head _)), List.forall_mem_cons.mpr ⟨.tail _ (.tail _ (.tail _ (.head _))), List.forall_mem_cons.mpr ⟨.tail _ (.tail _ (.tail _ (.tail _ (.head _)))), List.forall_mem_cons.mpr ⟨.head _, fun _ h => absurd h List.not_mem_nil⟩⟩⟩⟩⟩, by show List.Nodup [4, 0, 1, 2, 3]; decide⟩ ?_
      have x1 : f.kind = 5 := (vl_I_inj (a := f.kind) (b := 5) (Nat.lt_trans bk (by decide)) (by decide)).mp h1
      have x2 : f.n = 8 := (vl_I_inj (a := f.n) (b := 8) (Nat.lt_trans bn (by decide)) (by decide)).mp h2
      rw [show decide (vf_b4 f) = false from decide_eq_false (by omega)] at cont
      exact cont
    · refine jv_Wp.lift (fun _ Kz => jv_Ev.steps jv_i270 1 (pc' := 60) (l' := [(0, .ref 196), (1, .int (vl_I N)), (2, .int (vl_I p)), (3, .int (vl_I x))]) (st' := [.ref 196]) rfl Kz) ?_
      refine jv_Wp.lift (fun _ Kz => jv_Ev.c jv_i270 (pc' := 63) (S' := [.int (vl_I f.n)]) jv_i258 [.ref 196] rfl rfl rfl rfl (jv_cal rfl (jv_H_at (jv_rwK hW 196 12 24 (by decide))) rfl rfl) rfl (vq_n f hW D) rfl rfl Kz) ?_
      refine jv_Wp.lift (fun _ Kz => jv_Ev.steps jv_i270 1 (pc' := 65) (l' := [(0, .ref 196), (1, .int (vl_I N)), (2, .int (vl_I p)), (3, .int (vl_I x))]) (st' := [.int (9 : Int32), .int (vl_I f.n)]) rfl Kz) ?_
      refine jv_Wp.cnd jv_i270 (pt := 72) (pe := 68) (p := ((vl_I f.n) = (9 : Int32))) (q := ((vl_I f.n) = (9 : Int32))) rfl jv_bc_eq rfl rfl Iff.rfl (fun h3 => ?_) (fun h3 => ?_)
      · refine jv_Wp.lift (fun _ Kz => jv_Ev.steps jv_i270 2 (pc' := 75) (l' := [(4, .int (0 : Int32)), (0, .ref 196), (1, .int (vl_I N)), (2, .int (vl_I p)), (3, .int (vl_I x))]) (st' := []) rfl Kz) ?_
        refine jv_Wp.loc (l := [(0, .ref 196), (1, .int (vl_I N)), (2, .int (vl_I p)), (3, .int (vl_I x)), (4, .int (0 : Int32))]) ⟨List.forall_mem_cons.mpr ⟨.tail _ (.head _), List.forall_mem_cons.mpr ⟨.tail _ (.tail _ (.head _)), List.forall_mem_cons.mpr ⟨.tail _ (.tail _ (.tail _ (.head _))), List.forall_mem_cons.mpr ⟨.tail _ (.tail _ (.tail _ (.tail _ (.head _)))), List.forall_mem_cons.mpr ⟨.head _, fun _ h => absurd h List.not_mem_nil⟩⟩⟩⟩⟩, by show List.Nodup [4, 0, 1, 2, 3]; decide⟩ ?_
        have x1 : f.kind = 5 := (vl_I_inj (a := f.kind) (b := 5) (Nat.lt_trans bk (by decide)) (by decide)).mp h1
        have x2 : ¬ f.n = 8 := fun z => h2 ((vl_I_inj (a := f.n) (b := 8) (Nat.lt_trans bn (by decide)) (by decide)).mpr z)
        have x3 : f.n = 9 := (vl_I_inj (a := f.n) (b := 9) (Nat.lt_trans bn (by decide)) (by decide)).mp h3
        rw [show decide (vf_b4 f) = false from decide_eq_false (by omega)] at cont
        exact cont
      · refine jv_Wp.lift (fun _ Kz => jv_Ev.steps jv_i270 3 (pc' := 75) (l' := [(4, .int (1 : Int32)), (0, .ref 196), (1, .int (vl_I N)), (2, .int (vl_I p)), (3, .int (vl_I x))]) (st' := []) rfl Kz) ?_
        refine jv_Wp.loc (l := [(0, .ref 196), (1, .int (vl_I N)), (2, .int (vl_I p)), (3, .int (vl_I x)), (4, .int (1 : Int32))]) ⟨List.forall_mem_cons.mpr ⟨.tail _ (.head _), List.forall_mem_cons.mpr ⟨.tail _ (.tail _ (.head _)), List.forall_mem_cons.mpr ⟨.tail _ (.tail _ (.tail _ (.head _))), List.forall_mem_cons.mpr ⟨.tail _ (.tail _ (.tail _ (.tail _ (.head _)))), List.forall_mem_cons.mpr ⟨.head _, fun _ h => absurd h List.not_mem_nil⟩⟩⟩⟩⟩, by show List.Nodup [4, 0, 1, 2, 3]; decide⟩ ?_
        have x1 : f.kind = 5 := (vl_I_inj (a := f.kind) (b := 5) (Nat.lt_trans bk (by decide)) (by decide)).mp h1
        have x2 : ¬ f.n = 8 := fun z => h2 ((vl_I_inj (a := f.n) (b := 8) (Nat.lt_trans bn (by decide)) (by decide)).mpr z)
        have x3 : ¬ f.n = 9 := fun z => h3 ((vl_I_inj (a := f.n) (b := 9) (Nat.lt_trans bn (by decide)) (by decide)).mpr z)
        rw [show decide (vf_b4 f) = true from decide_eq_true (by omega)] at cont
        exact cont
  · refine jv_Wp.lift (fun _ Kz => jv_Ev.steps jv_i270 1 (pc' := 42) (l' := [(0, .ref 196), (1, .int (vl_I N)), (2, .int (vl_I p)), (3, .int (vl_I x))]) (st' := [.ref 196]) rfl Kz) ?_
    refine jv_Wp.lift (fun _ Kz => jv_Ev.c jv_i270 (pc' := 45) (S' := [.int (vl_I f.kind)]) jv_i257 [.ref 196] rfl rfl rfl rfl (jv_cal rfl (jv_H_at (jv_rwK hW 196 12 24 (by decide))) rfl rfl) rfl (vq_kind f hW D) rfl rfl Kz) ?_
    refine jv_Wp.lift (fun _ Kz => jv_Ev.steps jv_i270 1 (pc' := 47) (l' := [(0, .ref 196), (1, .int (vl_I N)), (2, .int (vl_I p)), (3, .int (vl_I x))]) (st' := [.int (6 : Int32), .int (vl_I f.kind)]) rfl Kz) ?_
    refine jv_Wp.cnd jv_i270 (pt := 72) (pe := 50) (p := (¬ (vl_I f.kind) = (6 : Int32))) (q := (¬ (vl_I f.kind) = (6 : Int32))) rfl jv_bc_ne rfl rfl Iff.rfl (fun h4 => ?_) (fun h4 => ?_)
    · refine jv_Wp.lift (fun _ Kz => jv_Ev.steps jv_i270 2 (pc' := 75) (l' := [(4, .int (0 : Int32)), (0, .ref 196), (1, .int (vl_I N)), (2, .int (vl_I p)), (3, .int (vl_I x))]) (st' := []) rfl Kz) ?_
      refine jv_Wp.loc (l := [(0, .ref 196), (1, .int (vl_I N)), (2, .int (vl_I p)), (3, .int (vl_I x)), (4, .int (0 : Int32))]) ⟨List.forall_mem_cons.mpr ⟨.tail _ (.head _), List.forall_mem_cons.mpr ⟨.tail _ (.tail _ (.head _)), List.forall_mem_cons.mpr ⟨.tail _ (.tail _ (.tail _ (.head _))), List.forall_mem_cons.mpr ⟨.tail _ (.tail _ (.tail _ (.tail _ (.head _)))), List.forall_mem_cons.mpr ⟨.head _, fun _ h => absurd h List.not_mem_nil⟩⟩⟩⟩⟩, by show List.Nodup [4, 0, 1, 2, 3]; decide⟩ ?_
      have x1 : ¬ f.kind = 5 := fun z => h1 ((vl_I_inj (a := f.kind) (b := 5) (Nat.lt_trans bk (by decide)) (by decide)).mpr z)
      have x2 : ¬ f.kind = 6 := fun z => h4 ((vl_I_inj (a := f.kind) (b := 6) (Nat.lt_trans bk (by decide)) (by decide)).mpr z)
      rw [show decide (vf_b4 f) = false from decide_eq_false (by omega)] at cont
      exact cont
    · refine jv_Wp.lift (fun _ Kz => jv_Ev.steps jv_i270 1 (pc' := 51) (l' := [(0, .ref 196), (1, .int (vl_I N)), (2, .int (vl_I p)), (3, .int (vl_I x))]) (st' := [.ref 196]) rfl Kz) ?_
      refine jv_Wp.lift (fun _ Kz => jv_Ev.c jv_i270 (pc' := 54) (S' := [.int (vl_I f.n)]) jv_i258 [.ref 196] rfl rfl rfl rfl (jv_cal rfl (jv_H_at (jv_rwK hW 196 12 24 (by decide))) rfl rfl) rfl (vq_n f hW D) rfl rfl Kz) ?_
      refine jv_Wp.lift (fun _ Kz => jv_Ev.steps jv_i270 1 (pc' := 56) (l' := [(0, .ref 196), (1, .int (vl_I N)), (2, .int (vl_I p)), (3, .int (vl_I x))]) (st' := [.int (8 : Int32), .int (vl_I f.n)]) rfl Kz) ?_
      refine jv_Wp.cnd jv_i270 (pt := 72) (pe := 59) (p := ((vl_I f.n) = (8 : Int32))) (q := ((vl_I f.n) = (8 : Int32))) rfl jv_bc_eq rfl rfl Iff.rfl (fun h5 => ?_) (fun h5 => ?_)
      · refine jv_Wp.lift (fun _ Kz => jv_Ev.steps jv_i270 2 (pc' := 75) (l' := [(4, .int (0 : Int32)), (0, .ref 196), (1, .int (vl_I N)), (2, .int (vl_I p)), (3, .int (vl_I x))]) (st' := []) rfl Kz) ?_
        refine jv_Wp.loc (l := [(0, .ref 196), (1, .int (vl_I N)), (2, .int (vl_I p)), (3, .int (vl_I x)), (4, .int (0 : Int32))]) ⟨List.forall_mem_cons.mpr ⟨.tail _ (.head _), List.forall_mem_cons.mpr ⟨.tail _ (.tail _ (.head _)), List.forall_mem_cons.mpr ⟨.tail _ (.tail _ (.tail _ (.head _))), List.forall_mem_cons.mpr ⟨.tail _ (.tail _ (.tail _ (.tail _ (.head _)))), List.forall_mem_cons.mpr ⟨.head _, fun _ h => absurd h List.not_mem_nil⟩⟩⟩⟩⟩, by show List.Nodup [4, 0, 1, 2, 3]; decide⟩ ?_
        have x1 : ¬ f.kind = 5 := fun z => h1 ((vl_I_inj (a := f.kind) (b := 5) (Nat.lt_trans bk (by decide)) (by decide)).mpr z)
        have x2 : f.kind = 6 := (vl_I_inj (a := f.kind) (b := 6) (Nat.lt_trans bk (by decide)) (by decide)).mp (Classical.not_not.mp h4)
        have x3 : f.n = 8 := (vl_I_inj (a := f.n) (b := 8) (Nat.lt_trans bn (by decide)) (by decide)).mp h5
        rw [show decide (vf_b4 f) = false from decide_eq_false (by omega)] at cont
        exact cont
      · refine jv_Wp.lift (fun _ Kz => jv_Ev.steps jv_i270 1 (pc' := 60) (l' := [(0, .ref 196), (1, .int (vl_I N)), (2, .int (vl_I p)), (3, .int (vl_I x))]) (st' := [.ref 196]) rfl Kz) ?_
        refine jv_Wp.lift (fun _ Kz => jv_Ev.c jv_i270 (pc' := 63) (S' := [.int (vl_I f.n)]) jv_i258 [.ref 196] rfl rfl rfl rfl (jv_cal rfl (jv_H_at (jv_rwK hW 196 12 24 (by decide))) rfl rfl) rfl (vq_n f hW D) rfl rfl Kz) ?_
        refine jv_Wp.lift (fun _ Kz => jv_Ev.steps jv_i270 1 (pc' := 65) (l' := [(0, .ref 196), (1, .int (vl_I N)), (2, .int (vl_I p)), (3, .int (vl_I x))]) (st' := [.int (9 : Int32), .int (vl_I f.n)]) rfl Kz) ?_
        refine jv_Wp.cnd jv_i270 (pt := 72) (pe := 68) (p := ((vl_I f.n) = (9 : Int32))) (q := ((vl_I f.n) = (9 : Int32))) rfl jv_bc_eq rfl rfl Iff.rfl (fun h6 => ?_) (fun h6 => ?_)
        · refine jv_Wp.lift (fun _ Kz => jv_Ev.steps jv_i270 2 (pc' := 75) (l' := [(4, .int (0 : Int32)), (0, .ref 196), (1, .int (vl_I N)), (2, .int (vl_I p)), (3, .int (vl_I x))]) (st' := []) rfl Kz) ?_
          refine jv_Wp.loc (l := [(0, .ref 196), (1, .int (vl_I N)), (2, .int (vl_I p)), (3, .int (vl_I x)), (4, .int (0 : Int32))]) ⟨List.forall_mem_cons.mpr ⟨.tail _ (.head _), List.forall_mem_cons.mpr ⟨.tail _ (.tail _ (.head _)), List.forall_mem_cons.mpr ⟨.tail _ (.tail _ (.tail _ (.head _))), List.forall_mem_cons.mpr ⟨.tail _ (.tail _ (.tail _ (.tail _ (.head _)))), List.forall_mem_cons.mpr ⟨.head _, fun _ h => absurd h List.not_mem_nil⟩⟩⟩⟩⟩, by show List.Nodup [4, 0, 1, 2, 3]; decide⟩ ?_
          have x1 : ¬ f.kind = 5 := fun z => h1 ((vl_I_inj (a := f.kind) (b := 5) (Nat.lt_trans bk (by decide)) (by decide)).mpr z)
          have x2 : f.kind = 6 := (vl_I_inj (a := f.kind) (b := 6) (Nat.lt_trans bk (by decide)) (by decide)).mp (Classical.not_not.mp h4)
          have x3 : ¬ f.n = 8 := fun z => h5 ((vl_I_inj (a := f.n) (b := 8) (Nat.lt_trans bn (by decide)) (by decide)).mpr z)
          have x4 : f.n = 9 := (vl_I_inj (a := f.n) (b := 9) (Nat.lt_trans bn (by decide)) (by decide)).mp h6
          rw [show decide (vf_b4 f) = false from decide_eq_false (by omega)] at cont
          exact cont
        · refine jv_Wp.lift (fun _ Kz => jv_Ev.steps jv_i270 3 (pc' := 75) (l' := [(4, .int (1 : Int32)), (0, .ref 196), (1, .int (vl_I N)), (2, .int (vl_I p)), (3, .int (vl_I x))]) (st' := []) rfl Kz) ?_
          refine jv_Wp.loc (l := [(0, .ref 196), (1, .int (vl_I N)), (2, .int (vl_I p)), (3, .int (vl_I x)), (4, .int (1 : Int32))]) ⟨List.forall_mem_cons.mpr ⟨.tail _ (.head _), List.forall_mem_cons.mpr ⟨.tail _ (.tail _ (.head _)), List.forall_mem_cons.mpr ⟨.tail _ (.tail _ (.tail _ (.head _))), List.forall_mem_cons.mpr ⟨.tail _ (.tail _ (.tail _ (.tail _ (.head _)))), List.forall_mem_cons.mpr ⟨.head _, fun _ h => absurd h List.not_mem_nil⟩⟩⟩⟩⟩, by show List.Nodup [4, 0, 1, 2, 3]; decide⟩ ?_
          have x1 : ¬ f.kind = 5 := fun z => h1 ((vl_I_inj (a := f.kind) (b := 5) (Nat.lt_trans bk (by decide)) (by decide)).mpr z)
          have x2 : f.kind = 6 := (vl_I_inj (a := f.kind) (b := 6) (Nat.lt_trans bk (by decide)) (by decide)).mp (Classical.not_not.mp h4)
          have x3 : ¬ f.n = 8 := fun z => h5 ((vl_I_inj (a := f.n) (b := 8) (Nat.lt_trans bn (by decide)) (by decide)).mpr z)
          have x4 : ¬ f.n = 9 := fun z => h6 ((vl_I_inj (a := f.n) (b := 9) (Nat.lt_trans bn (by decide)) (by decide)).mpr z)
          rw [show decide (vf_b4 f) = true from decide_eq_true (by omega)] at cont
          exact cont
theorem vq_ww_75 {K : Nat → Option (Nat × Nat)} {I : Nat → Nat → Int32} {L : Nat → Nat → Int64} {R : Nat → Nat → Value} {N p : Nat} (hW : jv_rW K R) {f : vf_F} (D : vr_dec I f) {x : Nat} {t4 : Bool} {n sl : Nat} {Q : jv_R → Prop} (cont : jv_Wp 270 99 [(0, .ref 196), (1, .int (vl_I N)), (2, .int (vl_I p)), (3, .int (vl_I x)), (4, .int (vr_b t4)), (5, .int (vr_b (decide (vf_b5 f))))] [] (jv_H K I L R) n sl Q) : jv_Wp 270 75 [(0, .ref 196), (1, .int (vl_I N)), (2, .int (vl_I p)), (3, .int (vl_I x)), (4, .int (vr_b t4))] [] (jv_H K I L R) n sl Q := by
  have c1 := vr_dc D
  have c2 := vr_dd D
  have c3 := vr_ds D
  have c4 : f.n = f.code / 16 := rfl
  have c5 : f.kind = f.code % 8 := rfl
  have c6 : f.mode = f.code / 32 := rfl
  have c7 := vf_z f
  have bn : f.n < 2147483648 := by omega
  have bk : f.kind < 2147483648 := by omega
  have bm : f.mode < 2147483648 := by omega
  have bz : f.z < 2147483648 := by omega
  have bc : f.code < 2147483648 := by omega
  have bd : f.d < 2147483648 := by omega
  have bs : f.s < 2147483648 := by omega
  refine jv_Wp.lift (fun _ Kz => jv_Ev.steps jv_i270 1 (pc' := 76) (l' := [(0, .ref 196), (1, .int (vl_I N)), (2, .int (vl_I p)), (3, .int (vl_I x)), (4, .int (vr_b t4))]) (st' := [.ref 196]) rfl Kz) ?_
  refine jv_Wp.lift (fun _ Kz => jv_Ev.m jv_i270 (pc' := 79) (st' := [.int (vl_I f.code)]) (G' := (jv_H K I L R)) rfl rfl (jv_m_getI (jv_rwK hW 196 12 24 (by decide)) rfl rfl D.1) Kz) ?_
  refine jv_Wp.lift (fun _ Kz => jv_Ev.steps jv_i270 1 (pc' := 80) (l' := [(0, .ref 196), (1, .int (vl_I N)), (2, .int (vl_I p)), (3, .int (vl_I x)), (4, .int (vr_b t4))]) (st' := [.int (5 : Int32), .int (vl_I f.code)]) rfl Kz) ?_
  refine jv_Wp.cnd jv_i270 (pt := 92) (pe := 83) (p := ((vl_I f.code) = (5 : Int32))) (q := ((vl_I f.code) = (5 : Int32))) rfl jv_bc_eq rfl rfl Iff.rfl (fun h1 => ?_) (fun h1 => ?_)
  · refine jv_Wp.lift (fun _ Kz => jv_Ev.steps jv_i270 3 (pc' := 99) (l' := [(5, .int (1 : Int32)), (0, .ref 196), (1, .int (vl_I N)), (2, .int (vl_I p)), (3, .int (vl_I x)), (4, .int (vr_b t4))]) (st' := []) rfl Kz) ?_
    refine jv_Wp.loc (l := [(0, .ref 196), (1, .int (vl_I N)), (2, .int (vl_I p)), (3, .int (vl_I x)), (4, .int (vr_b t4)), (5, .int (1 : Int32))]) ⟨List.forall_mem_cons.mpr ⟨.tail _ (.head _), List.forall_mem_cons.mpr ⟨.tail _ (.tail _ (.head _)), List.forall_mem_cons.mpr ⟨.tail _ (.tail _ (.tail _ (.head _))), List.forall_mem_cons.mpr ⟨.tail _ (.tail _ (.tail _ (.tail _ (.head _)))), List.forall_mem_cons.mpr ⟨.tail _ (.tail _ (.tail _ (.tail _ (.tail _ (.head _))))), List.forall_mem_cons.mpr ⟨.head _, fun _ h => absurd h List.not_mem_nil⟩⟩⟩⟩⟩⟩, by show List.Nodup [5, 0, 1, 2, 3, 4]; decide⟩ ?_
    have x1 : f.code = 5 := (vl_I_inj (a := f.code) (b := 5) (Nat.lt_trans bc (by decide)) (by decide)).mp h1
    rw [show decide (vf_b5 f) = true from decide_eq_true (by omega)] at cont
    exact cont
  · refine jv_Wp.lift (fun _ Kz => jv_Ev.steps jv_i270 1 (pc' := 84) (l' := [(0, .ref 196), (1, .int (vl_I N)), (2, .int (vl_I p)), (3, .int (vl_I x)), (4, .int (vr_b t4))]) (st' := [.ref 196]) rfl Kz) ?_
    refine jv_Wp.lift (fun _ Kz => jv_Ev.m jv_i270 (pc' := 87) (st' := [.int (vl_I f.code)]) (G' := (jv_H K I L R)) rfl rfl (jv_m_getI (jv_rwK hW 196 12 24 (by decide)) rfl rfl D.1) Kz) ?_
    refine jv_Wp.lift (fun _ Kz => jv_Ev.steps jv_i270 1 (pc' := 89) (l' := [(0, .ref 196), (1, .int (vl_I N)), (2, .int (vl_I p)), (3, .int (vl_I x)), (4, .int (vr_b t4))]) (st' := [.int (6 : Int32), .int (vl_I f.code)]) rfl Kz) ?_
    refine jv_Wp.cnd jv_i270 (pt := 96) (pe := 92) (p := (¬ (vl_I f.code) = (6 : Int32))) (q := (¬ (vl_I f.code) = (6 : Int32))) rfl jv_bc_ne rfl rfl Iff.rfl (fun h2 => ?_) (fun h2 => ?_)
    · refine jv_Wp.lift (fun _ Kz => jv_Ev.steps jv_i270 2 (pc' := 99) (l' := [(5, .int (0 : Int32)), (0, .ref 196), (1, .int (vl_I N)), (2, .int (vl_I p)), (3, .int (vl_I x)), (4, .int (vr_b t4))]) (st' := []) rfl Kz) ?_
      refine jv_Wp.loc (l := [(0, .ref 196), (1, .int (vl_I N)), (2, .int (vl_I p)), (3, .int (vl_I x)), (4, .int (vr_b t4)), (5, .int (0 : Int32))]) ⟨List.forall_mem_cons.mpr ⟨.tail _ (.head _), List.forall_mem_cons.mpr ⟨.tail _ (.tail _ (.head _)), List.forall_mem_cons.mpr ⟨.tail _ (.tail _ (.tail _ (.head _))), List.forall_mem_cons.mpr ⟨.tail _ (.tail _ (.tail _ (.tail _ (.head _)))), List.forall_mem_cons.mpr ⟨.tail _ (.tail _ (.tail _ (.tail _ (.tail _ (.head _))))), List.forall_mem_cons.mpr ⟨.head _, fun _ h => absurd h List.not_mem_nil⟩⟩⟩⟩⟩⟩, by show List.Nodup [5, 0, 1, 2, 3, 4]; decide⟩ ?_
      have x1 : ¬ f.code = 5 := fun z => h1 ((vl_I_inj (a := f.code) (b := 5) (Nat.lt_trans bc (by decide)) (by decide)).mpr z)
      have x2 : ¬ f.code = 6 := fun z => h2 ((vl_I_inj (a := f.code) (b := 6) (Nat.lt_trans bc (by decide)) (by decide)).mpr z)
      rw [show decide (vf_b5 f) = false from decide_eq_false (by omega)] at cont
      exact cont
    · refine jv_Wp.lift (fun _ Kz => jv_Ev.steps jv_i270 3 (pc' := 99) (l' := [(5, .int (1 : Int32)), (0, .ref 196), (1, .int (vl_I N)), (2, .int (vl_I p)), (3, .int (vl_I x)), (4, .int (vr_b t4))]) (st' := []) rfl Kz) ?_
      refine jv_Wp.loc (l := [(0, .ref 196), (1, .int (vl_I N)), (2, .int (vl_I p)), (3, .int (vl_I x)), (4, .int (vr_b t4)), (5, .int (1 : Int32))]) ⟨List.forall_mem_cons.mpr ⟨.tail _ (.head _), List.forall_mem_cons.mpr ⟨.tail _ (.tail _ (.head _)), List.forall_mem_cons.mpr ⟨.tail _ (.tail _ (.tail _ (.head _))), List.forall_mem_cons.mpr ⟨.tail _ (.tail _ (.tail _ (.tail _ (.head _)))), List.forall_mem_cons.mpr ⟨.tail _ (.tail _ (.tail _ (.tail _ (.tail _ (.head _))))), List.forall_mem_cons.mpr ⟨.head _, fun _ h => absurd h List.not_mem_nil⟩⟩⟩⟩⟩⟩, by show List.Nodup [5, 0, 1, 2, 3, 4]; decide⟩ ?_
      have x1 : ¬ f.code = 5 := fun z => h1 ((vl_I_inj (a := f.code) (b := 5) (Nat.lt_trans bc (by decide)) (by decide)).mpr z)
      have x2 : f.code = 6 := (vl_I_inj (a := f.code) (b := 6) (Nat.lt_trans bc (by decide)) (by decide)).mp (Classical.not_not.mp h2)
      rw [show decide (vf_b5 f) = true from decide_eq_true (by omega)] at cont
      exact cont
theorem vq_ww_99 {K : Nat → Option (Nat × Nat)} {I : Nat → Nat → Int32} {L : Nat → Nat → Int64} {R : Nat → Nat → Value} {N p : Nat} (hW : jv_rW K R) (hp : p < 2147483648) {f : vf_F} (D : vr_dec I f) {x : Nat} {t4 t5 : Bool} {n sl : Nat} {Q : jv_R → Prop} (cont : jv_Wp 270 133 [(0, .ref 196), (1, .int (vl_I N)), (2, .int (vl_I p)), (3, .int (vl_I x)), (4, .int (vr_b t4)), (5, .int (vr_b t5)), (6, .long (Int64.ofInt (vf_gl f p)))] [] (jv_H K I L R) n sl Q) : jv_Wp 270 99 [(0, .ref 196), (1, .int (vl_I N)), (2, .int (vl_I p)), (3, .int (vl_I x)), (4, .int (vr_b t4)), (5, .int (vr_b t5))] [] (jv_H K I L R) n sl Q := by
  have c1 := vr_dc D
  have c2 := vr_dd D
  have c3 := vr_ds D
  have c4 : f.n = f.code / 16 := rfl
  have c5 : f.kind = f.code % 8 := rfl
  have c6 : f.mode = f.code / 32 := rfl
  have c7 := vf_z f
  have bn : f.n < 2147483648 := by omega
  have bk : f.kind < 2147483648 := by omega
  have bm : f.mode < 2147483648 := by omega
  have bz : f.z < 2147483648 := by omega
  have bc : f.code < 2147483648 := by omega
  have bd : f.d < 2147483648 := by omega
  have bs : f.s < 2147483648 := by omega
  refine jv_Wp.lift (fun _ Kz => jv_Ev.steps jv_i270 1 (pc' := 100) (l' := [(0, .ref 196), (1, .int (vl_I N)), (2, .int (vl_I p)), (3, .int (vl_I x)), (4, .int (vr_b t4)), (5, .int (vr_b t5))]) (st' := [.ref 196]) rfl Kz) ?_
  refine jv_Wp.lift (fun _ Kz => jv_Ev.m jv_i270 (pc' := 103) (st' := [.int (vl_I f.code)]) (G' := (jv_H K I L R)) rfl rfl (jv_m_getI (jv_rwK hW 196 12 24 (by decide)) rfl rfl D.1) Kz) ?_
  refine jv_Wp.lift (fun _ Kz => jv_Ev.steps jv_i270 1 (pc' := 105) (l' := [(0, .ref 196), (1, .int (vl_I N)), (2, .int (vl_I p)), (3, .int (vl_I x)), (4, .int (vr_b t4)), (5, .int (vr_b t5))]) (st' := [.int (6 : Int32), .int (vl_I f.code)]) rfl Kz) ?_
  refine jv_Wp.cnd jv_i270 (pt := 121) (pe := 108) (p := (¬ (vl_I f.code) = (6 : Int32))) (q := (¬ (vl_I f.code) = (6 : Int32))) rfl jv_bc_ne rfl rfl Iff.rfl (fun h1 => ?_) (fun h1 => ?_)
  · refine jv_Wp.lift (fun _ Kz => jv_Ev.steps jv_i270 5 (pc' := 126) (l' := [(0, .ref 196), (1, .int (vl_I N)), (2, .int (vl_I p)), (3, .int (vl_I x)), (4, .int (vr_b t4)), (5, .int (vr_b t5))]) (st' := [.ref 196, .long ((vl_I p).toInt64 + (1 : Int64))]) rfl Kz) ?_
    refine jv_Wp.lift (fun _ Kz => jv_Ev.m jv_i270 (pc' := 129) (st' := [.int (Int32.ofInt f.o), .long ((vl_I p).toInt64 + (1 : Int64))]) (G' := (jv_H K I L R)) rfl rfl (jv_m_getI (jv_rwK hW 196 12 24 (by decide)) rfl rfl (vr_dI D)) Kz) ?_
    refine jv_Wp.lift (fun _ Kz => jv_Ev.steps jv_i270 3 (pc' := 133) (l' := [(6, .long (((vl_I p).toInt64 + (1 : Int64)) + (Int32.ofInt f.o).toInt64)), (0, .ref 196), (1, .int (vl_I N)), (2, .int (vl_I p)), (3, .int (vl_I x)), (4, .int (vr_b t4)), (5, .int (vr_b t5))]) (st' := []) rfl Kz) ?_
    refine jv_Wp.loc (l := [(0, .ref 196), (1, .int (vl_I N)), (2, .int (vl_I p)), (3, .int (vl_I x)), (4, .int (vr_b t4)), (5, .int (vr_b t5)), (6, .long (((vl_I p).toInt64 + (1 : Int64)) + (Int32.ofInt f.o).toInt64))]) ⟨List.forall_mem_cons.mpr ⟨.tail _ (.head _), List.forall_mem_cons.mpr ⟨.tail _ (.tail _ (.head _)), List.forall_mem_cons.mpr ⟨.tail _ (.tail _ (.tail _ (.head _))), List.forall_mem_cons.mpr ⟨.tail _ (.tail _ (.tail _ (.tail _ (.head _)))), List.forall_mem_cons.mpr ⟨.tail _ (.tail _ (.tail _ (.tail _ (.tail _ (.head _))))), List.forall_mem_cons.mpr ⟨.tail _ (.tail _ (.tail _ (.tail _ (.tail _ (.tail _ (.head _)))))), List.forall_mem_cons.mpr ⟨.head _, fun _ h => absurd h List.not_mem_nil⟩⟩⟩⟩⟩⟩⟩, by show List.Nodup [6, 0, 1, 2, 3, 4, 5]; decide⟩ ?_
    have x1 : ¬ f.code = 6 := fun z => h1 ((vl_I_inj (a := f.code) (b := 6) (Nat.lt_trans bc (by decide)) (by decide)).mpr z)
    rw [show (((vl_I p).toInt64 + (1 : Int64)) + (Int32.ofInt f.o).toInt64) = Int64.ofInt (vf_gl f p) from (vi_gw (by omega) (vr_dO D)).trans (by unfold vf_gl; rw [if_neg (by omega)])]
    exact cont
  · refine jv_Wp.lift (fun _ Kz => jv_Ev.steps jv_i270 5 (pc' := 113) (l' := [(0, .ref 196), (1, .int (vl_I N)), (2, .int (vl_I p)), (3, .int (vl_I x)), (4, .int (vr_b t4)), (5, .int (vr_b t5))]) (st' := [.ref 196, .long ((vl_I p).toInt64 + (1 : Int64))]) rfl Kz) ?_
    refine jv_Wp.lift (fun _ Kz => jv_Ev.m jv_i270 (pc' := 116) (st' := [.int (Int32.ofInt f.i), .long ((vl_I p).toInt64 + (1 : Int64))]) (G' := (jv_H K I L R)) rfl rfl (jv_m_getI (jv_rwK hW 196 12 24 (by decide)) rfl rfl (vr_dJ D)) Kz) ?_
    refine jv_Wp.lift (fun _ Kz => jv_Ev.steps jv_i270 4 (pc' := 133) (l' := [(6, .long (((vl_I p).toInt64 + (1 : Int64)) + (Int32.ofInt f.i).toInt64)), (0, .ref 196), (1, .int (vl_I N)), (2, .int (vl_I p)), (3, .int (vl_I x)), (4, .int (vr_b t4)), (5, .int (vr_b t5))]) (st' := []) rfl Kz) ?_
    refine jv_Wp.loc (l := [(0, .ref 196), (1, .int (vl_I N)), (2, .int (vl_I p)), (3, .int (vl_I x)), (4, .int (vr_b t4)), (5, .int (vr_b t5)), (6, .long (((vl_I p).toInt64 + (1 : Int64)) + (Int32.ofInt f.i).toInt64))]) ⟨List.forall_mem_cons.mpr ⟨.tail _ (.head _), List.forall_mem_cons.mpr ⟨.tail _ (.tail _ (.head _)), List.forall_mem_cons.mpr ⟨.tail _ (.tail _ (.tail _ (.head _))), List.forall_mem_cons.mpr ⟨.tail _ (.tail _ (.tail _ (.tail _ (.head _)))), List.forall_mem_cons.mpr ⟨.tail _ (.tail _ (.tail _ (.tail _ (.tail _ (.head _))))), List.forall_mem_cons.mpr ⟨.tail _ (.tail _ (.tail _ (.tail _ (.tail _ (.tail _ (.head _)))))), List.forall_mem_cons.mpr ⟨.head _, fun _ h => absurd h List.not_mem_nil⟩⟩⟩⟩⟩⟩⟩, by show List.Nodup [6, 0, 1, 2, 3, 4, 5]; decide⟩ ?_
    have x1 : f.code = 6 := (vl_I_inj (a := f.code) (b := 6) (Nat.lt_trans bc (by decide)) (by decide)).mp (Classical.not_not.mp h1)
    rw [show (((vl_I p).toInt64 + (1 : Int64)) + (Int32.ofInt f.i).toInt64) = Int64.ofInt (vf_gl f p) from (vi_gw (by omega) (vr_dQ D)).trans (by unfold vf_gl; rw [if_pos (by omega)])]
    exact cont
theorem vq_ww_133 {K : Nat → Option (Nat × Nat)} {I : Nat → Nat → Int32} {L : Nat → Nat → Int64} {R : Nat → Nat → Value} {N p : Nat} (hW : jv_rW K R) {B : Nat → Nat} {T : Nat} (h : vr_tp I 197 T B) (hl : T ≤ 8192) (hle : 8 * N ≤ T) {f : vf_F} (D : vr_dec I f) {x : Nat} (hx : x ≤ N + 1) (hg : -1099511627776 ≤ vf_gl f p ∧ vf_gl f p ≤ 1099511627776) (ok : ∀ q, q < N → vf_g1 B N q = true) {t4 t5 : Bool} (ht4 : t4 = decide (vf_b4 f)) (ht5 : t5 = decide (vf_b5 f)) {n sl : Nat} {Q : jv_R → Prop}
    (contB : ¬ ((vf_b4 f → vf_go (vf_c B) N (vf_gl f p)) ∧ (vf_b5 f ∨ f.code = 149 ∨ x < N)) → Q (some (.int (vl_I p)), jv_H K I L R, n, sl)) (contG : ((vf_b4 f → vf_go (vf_c B) N (vf_gl f p)) ∧ (vf_b5 f ∨ f.code = 149 ∨ x < N)) → jv_Wp 270 2 [(0, .ref 196), (1, .int (vl_I N)), (2, .int (vl_I x))] [] (jv_H K I L R) n sl Q) : jv_Wp 270 133 [(0, .ref 196), (1, .int (vl_I N)), (2, .int (vl_I p)), (3, .int (vl_I x)), (4, .int (vr_b t4)), (5, .int (vr_b t5)), (6, .long (Int64.ofInt (vf_gl f p)))] [] (jv_H K I L R) n sl Q := by
  have c1 := vr_dc D
  refine jv_Wp.lift (fun _ Kz => jv_Ev.steps jv_i270 1 (pc' := 135) (l' := [(0, .ref 196), (1, .int (vl_I N)), (2, .int (vl_I p)), (3, .int (vl_I x)), (4, .int (vr_b t4)), (5, .int (vr_b t5)), (6, .long (Int64.ofInt (vf_gl f p)))]) (st' := [.int (vr_b t4)]) rfl Kz) ?_
  refine jv_Wp.cnd jv_i270 (pt := 148) (pe := 138) (p := ((vr_b t4) = 0)) (q := ((vr_b t4) = 0)) rfl jv_bi_eq rfl rfl Iff.rfl (fun h1 => ?_) (fun h1 => ?_)
  · refine jv_Wp.lift (fun _ Kz => jv_Ev.steps jv_i270 1 (pc' := 150) (l' := [(0, .ref 196), (1, .int (vl_I N)), (2, .int (vl_I p)), (3, .int (vl_I x)), (4, .int (vr_b t4)), (5, .int (vr_b t5)), (6, .long (Int64.ofInt (vf_gl f p)))]) (st' := [.int (vr_b t5)]) rfl Kz) ?_
    refine jv_Wp.cnd jv_i270 (pt := 170) (pe := 153) (p := (¬ (vr_b t5) = 0)) (q := (¬ (vr_b t5) = 0)) rfl jv_bi_ne rfl rfl Iff.rfl (fun h2 => ?_) (fun h2 => ?_)
    · refine jv_Wp.lift (fun _ Kz => jv_Ev.steps jv_i270 3 (pc' := 2) (l' := [(2, .int (vl_I x)), (0, .ref 196), (1, .int (vl_I N)), (3, .int (vl_I x)), (4, .int (vr_b t4)), (5, .int (vr_b t5)), (6, .long (Int64.ofInt (vf_gl f p)))]) (st' := []) rfl Kz) ?_
      refine jv_Wp.loc (l := [(0, .ref 196), (1, .int (vl_I N)), (2, .int (vl_I x))]) ⟨List.forall_mem_cons.mpr ⟨.tail _ (.head _), List.forall_mem_cons.mpr ⟨.tail _ (.tail _ (.head _)), List.forall_mem_cons.mpr ⟨.head _, fun _ h => absurd h List.not_mem_nil⟩⟩⟩, by show List.Nodup [2, 0, 1, 3, 4, 5, 6]; decide⟩ ?_
      have qt4 : ¬ (vf_b4 f) := of_decide_eq_false (ht4.symm.trans (vr_b_f h1))
      have qt5 : (vf_b5 f) := of_decide_eq_true (ht5.symm.trans (vr_b_t h2))
      exact contG ⟨(fun z => absurd z qt4), (Or.inl qt5)⟩
    · refine jv_Wp.lift (fun _ Kz => jv_Ev.steps jv_i270 1 (pc' := 154) (l' := [(0, .ref 196), (1, .int (vl_I N)), (2, .int (vl_I p)), (3, .int (vl_I x)), (4, .int (vr_b t4)), (5, .int (vr_b t5)), (6, .long (Int64.ofInt (vf_gl f p)))]) (st' := [.ref 196]) rfl Kz) ?_
      refine jv_Wp.lift (fun _ Kz => jv_Ev.m jv_i270 (pc' := 157) (st' := [.int (vl_I f.code)]) (G' := (jv_H K I L R)) rfl rfl (jv_m_getI (jv_rwK hW 196 12 24 (by decide)) rfl rfl D.1) Kz) ?_
      refine jv_Wp.lift (fun _ Kz => jv_Ev.steps jv_i270 1 (pc' := 160) (l' := [(0, .ref 196), (1, .int (vl_I N)), (2, .int (vl_I p)), (3, .int (vl_I x)), (4, .int (vr_b t4)), (5, .int (vr_b t5)), (6, .long (Int64.ofInt (vf_gl f p)))]) (st' := [.int (149 : Int32), .int (vl_I f.code)]) rfl Kz) ?_
      refine jv_Wp.cnd jv_i270 (pt := 170) (pe := 163) (p := ((vl_I f.code) = (149 : Int32))) (q := ((vl_I f.code) = (149 : Int32))) rfl jv_bc_eq rfl rfl Iff.rfl (fun h3 => ?_) (fun h3 => ?_)
      · refine jv_Wp.lift (fun _ Kz => jv_Ev.steps jv_i270 3 (pc' := 2) (l' := [(2, .int (vl_I x)), (0, .ref 196), (1, .int (vl_I N)), (3, .int (vl_I x)), (4, .int (vr_b t4)), (5, .int (vr_b t5)), (6, .long (Int64.ofInt (vf_gl f p)))]) (st' := []) rfl Kz) ?_
        refine jv_Wp.loc (l := [(0, .ref 196), (1, .int (vl_I N)), (2, .int (vl_I x))]) ⟨List.forall_mem_cons.mpr ⟨.tail _ (.head _), List.forall_mem_cons.mpr ⟨.tail _ (.tail _ (.head _)), List.forall_mem_cons.mpr ⟨.head _, fun _ h => absurd h List.not_mem_nil⟩⟩⟩, by show List.Nodup [2, 0, 1, 3, 4, 5, 6]; decide⟩ ?_
        have qt4 : ¬ (vf_b4 f) := of_decide_eq_false (ht4.symm.trans (vr_b_f h1))
        have qt5 : ¬ (vf_b5 f) := of_decide_eq_false (ht5.symm.trans (vr_b_f (Classical.not_not.mp h2)))
        have qc : f.code = 149 := (vl_I_inj (a := f.code) (b := 149) (by omega) (by decide)).mp h3
        exact contG ⟨(fun z => absurd z qt4), (Or.inr (Or.inl qc))⟩
      · refine jv_Wp.lift (fun _ Kz => jv_Ev.steps jv_i270 2 (pc' := 165) (l' := [(0, .ref 196), (1, .int (vl_I N)), (2, .int (vl_I p)), (3, .int (vl_I x)), (4, .int (vr_b t4)), (5, .int (vr_b t5)), (6, .long (Int64.ofInt (vf_gl f p)))]) (st' := [.int (vl_I N), .int (vl_I x)]) rfl Kz) ?_
        refine jv_Wp.cnd jv_i270 (pt := 170) (pe := 168) (p := ((vl_I x) < (vl_I N))) (q := ((vl_I x) < (vl_I N))) rfl jv_bc_lt rfl rfl Iff.rfl (fun h4 => ?_) (fun h4 => ?_)
        · refine jv_Wp.lift (fun _ Kz => jv_Ev.steps jv_i270 3 (pc' := 2) (l' := [(2, .int (vl_I x)), (0, .ref 196), (1, .int (vl_I N)), (3, .int (vl_I x)), (4, .int (vr_b t4)), (5, .int (vr_b t5)), (6, .long (Int64.ofInt (vf_gl f p)))]) (st' := []) rfl Kz) ?_
          refine jv_Wp.loc (l := [(0, .ref 196), (1, .int (vl_I N)), (2, .int (vl_I x))]) ⟨List.forall_mem_cons.mpr ⟨.tail _ (.head _), List.forall_mem_cons.mpr ⟨.tail _ (.tail _ (.head _)), List.forall_mem_cons.mpr ⟨.head _, fun _ h => absurd h List.not_mem_nil⟩⟩⟩, by show List.Nodup [2, 0, 1, 3, 4, 5, 6]; decide⟩ ?_
          have qt4 : ¬ (vf_b4 f) := of_decide_eq_false (ht4.symm.trans (vr_b_f h1))
          have qt5 : ¬ (vf_b5 f) := of_decide_eq_false (ht5.symm.trans (vr_b_f (Classical.not_not.mp h2)))
          have qc : ¬ f.code = 149 := fun z => h3 ((vl_I_inj (a := f.code) (b := 149) (by omega) (by decide)).mpr z)
          have qx : x < N := (vl_I_lt (by omega) (by omega)).mp h4
          exact contG ⟨(fun z => absurd z qt4), (Or.inr (Or.inr qx))⟩
        · refine jv_Wp.lift (fun _ Kz => jv_Ev.steps jv_i270 1 (pc' := 169) (l' := [(0, .ref 196), (1, .int (vl_I N)), (2, .int (vl_I p)), (3, .int (vl_I x)), (4, .int (vr_b t4)), (5, .int (vr_b t5)), (6, .long (Int64.ofInt (vf_gl f p)))]) (st' := [.int (vl_I p)]) rfl Kz) ?_
          refine jv_Wp.loc (l := [(0, .ref 196), (1, .int (vl_I N)), (2, .int (vl_I p))]) ⟨List.forall_mem_cons.mpr ⟨.head _, List.forall_mem_cons.mpr ⟨.tail _ (.head _), List.forall_mem_cons.mpr ⟨.tail _ (.tail _ (.head _)), fun _ h => absurd h List.not_mem_nil⟩⟩⟩, by show List.Nodup [0, 1, 2, 3, 4, 5, 6]; decide⟩ ?_
          refine jv_Wp.of (jv_Ev.ret jv_i270 rfl rfl) ?_
          have qt4 : ¬ (vf_b4 f) := of_decide_eq_false (ht4.symm.trans (vr_b_f h1))
          have qt5 : ¬ (vf_b5 f) := of_decide_eq_false (ht5.symm.trans (vr_b_f (Classical.not_not.mp h2)))
          have qc : ¬ f.code = 149 := fun z => h3 ((vl_I_inj (a := f.code) (b := 149) (by omega) (by decide)).mpr z)
          have qx : ¬ x < N := fun z => h4 ((vl_I_lt (by omega) (by omega)).mpr z)
          exact contB (fun z => z.2.elim (fun y => absurd y qt5) (fun y => y.elim (fun w => absurd w qc) (fun w => absurd w qx)))
  · refine jv_Wp.lift (fun _ Kz => jv_Ev.steps jv_i270 3 (pc' := 142) (l' := [(0, .ref 196), (1, .int (vl_I N)), (2, .int (vl_I p)), (3, .int (vl_I x)), (4, .int (vr_b t4)), (5, .int (vr_b t5)), (6, .long (Int64.ofInt (vf_gl f p)))]) (st' := [.int (vl_I N), .long (Int64.ofInt (vf_gl f p)), .ref 196]) rfl Kz) ?_
    refine jv_Wp.lift (fun _ Kz => jv_Ev.c jv_i270 (pc' := 145) (S' := [.int (vr_b (decide (vf_go (vf_c B) N (vf_gl f p))))]) jv_i269 [.ref 196, .long (Int64.ofInt (vf_gl f p)), .int (vl_I N)] rfl rfl rfl rfl (jv_cal rfl (jv_H_at (jv_rwK hW 196 12 24 (by decide))) rfl rfl) rfl (vq_isGoal hW h hl hle hg ok) rfl rfl Kz) ?_
    refine jv_Wp.cnd jv_i270 (pt := 168) (pe := 148) (p := ((vr_b (decide (vf_go (vf_c B) N (vf_gl f p)))) = 0)) (q := ((vr_b (decide (vf_go (vf_c B) N (vf_gl f p)))) = 0)) rfl jv_bi_eq rfl rfl Iff.rfl (fun h5 => ?_) (fun h5 => ?_)
    · refine jv_Wp.lift (fun _ Kz => jv_Ev.steps jv_i270 1 (pc' := 169) (l' := [(0, .ref 196), (1, .int (vl_I N)), (2, .int (vl_I p)), (3, .int (vl_I x)), (4, .int (vr_b t4)), (5, .int (vr_b t5)), (6, .long (Int64.ofInt (vf_gl f p)))]) (st' := [.int (vl_I p)]) rfl Kz) ?_
      refine jv_Wp.loc (l := [(0, .ref 196), (1, .int (vl_I N)), (2, .int (vl_I p))]) ⟨List.forall_mem_cons.mpr ⟨.head _, List.forall_mem_cons.mpr ⟨.tail _ (.head _), List.forall_mem_cons.mpr ⟨.tail _ (.tail _ (.head _)), fun _ h => absurd h List.not_mem_nil⟩⟩⟩, by show List.Nodup [0, 1, 2, 3, 4, 5, 6]; decide⟩ ?_
      refine jv_Wp.of (jv_Ev.ret jv_i270 rfl rfl) ?_
      have qt4 : (vf_b4 f) := of_decide_eq_true (ht4.symm.trans (vr_b_t h1))
      have qg : ¬ (vf_go (vf_c B) N (vf_gl f p)) := (of_decide_eq_false (vr_b_f h5))
      exact contB (fun z => absurd (z.1 qt4) qg)
    · refine jv_Wp.lift (fun _ Kz => jv_Ev.steps jv_i270 1 (pc' := 150) (l' := [(0, .ref 196), (1, .int (vl_I N)), (2, .int (vl_I p)), (3, .int (vl_I x)), (4, .int (vr_b t4)), (5, .int (vr_b t5)), (6, .long (Int64.ofInt (vf_gl f p)))]) (st' := [.int (vr_b t5)]) rfl Kz) ?_
      refine jv_Wp.cnd jv_i270 (pt := 170) (pe := 153) (p := (¬ (vr_b t5) = 0)) (q := (¬ (vr_b t5) = 0)) rfl jv_bi_ne rfl rfl Iff.rfl (fun h6 => ?_) (fun h6 => ?_)
      · refine jv_Wp.lift (fun _ Kz => jv_Ev.steps jv_i270 3 (pc' := 2) (l' := [(2, .int (vl_I x)), (0, .ref 196), (1, .int (vl_I N)), (3, .int (vl_I x)), (4, .int (vr_b t4)), (5, .int (vr_b t5)), (6, .long (Int64.ofInt (vf_gl f p)))]) (st' := []) rfl Kz) ?_
        refine jv_Wp.loc (l := [(0, .ref 196), (1, .int (vl_I N)), (2, .int (vl_I x))]) ⟨List.forall_mem_cons.mpr ⟨.tail _ (.head _), List.forall_mem_cons.mpr ⟨.tail _ (.tail _ (.head _)), List.forall_mem_cons.mpr ⟨.head _, fun _ h => absurd h List.not_mem_nil⟩⟩⟩, by show List.Nodup [2, 0, 1, 3, 4, 5, 6]; decide⟩ ?_
        have qt4 : (vf_b4 f) := of_decide_eq_true (ht4.symm.trans (vr_b_t h1))
        have qt5 : (vf_b5 f) := of_decide_eq_true (ht5.symm.trans (vr_b_t h6))
        have qg : (vf_go (vf_c B) N (vf_gl f p)) := (of_decide_eq_true (vr_b_t h5))
        exact contG ⟨(fun _ => qg), (Or.inl qt5)⟩
      · refine jv_Wp.lift (fun _ Kz => jv_Ev.steps jv_i270 1 (pc' := 154) (l' := [(0, .ref 196), (1, .int (vl_I N)), (2, .int (vl_I p)), (3, .int (vl_I x)), (4, .int (vr_b t4)), (5, .int (vr_b t5)), (6, .long (Int64.ofInt (vf_gl f p)))]) (st' := [.ref 196]) rfl Kz) ?_
        refine jv_Wp.lift (fun _ Kz => jv_Ev.m jv_i270 (pc' := 157) (st' := [.int (vl_I f.code)]) (G' := (jv_H K I L R)) rfl rfl (jv_m_getI (jv_rwK hW 196 12 24 (by decide)) rfl rfl D.1) Kz) ?_
        refine jv_Wp.lift (fun _ Kz => jv_Ev.steps jv_i270 1 (pc' := 160) (l' := [(0, .ref 196), (1, .int (vl_I N)), (2, .int (vl_I p)), (3, .int (vl_I x)), (4, .int (vr_b t4)), (5, .int (vr_b t5)), (6, .long (Int64.ofInt (vf_gl f p)))]) (st' := [.int (149 : Int32), .int (vl_I f.code)]) rfl Kz) ?_
        refine jv_Wp.cnd jv_i270 (pt := 170) (pe := 163) (p := ((vl_I f.code) = (149 : Int32))) (q := ((vl_I f.code) = (149 : Int32))) rfl jv_bc_eq rfl rfl Iff.rfl (fun h7 => ?_) (fun h7 => ?_)
        · refine jv_Wp.lift (fun _ Kz => jv_Ev.steps jv_i270 3 (pc' := 2) (l' := [(2, .int (vl_I x)), (0, .ref 196), (1, .int (vl_I N)), (3, .int (vl_I x)), (4, .int (vr_b t4)), (5, .int (vr_b t5)), (6, .long (Int64.ofInt (vf_gl f p)))]) (st' := []) rfl Kz) ?_
          refine jv_Wp.loc (l := [(0, .ref 196), (1, .int (vl_I N)), (2, .int (vl_I x))]) ⟨List.forall_mem_cons.mpr ⟨.tail _ (.head _), List.forall_mem_cons.mpr ⟨.tail _ (.tail _ (.head _)), List.forall_mem_cons.mpr ⟨.head _, fun _ h => absurd h List.not_mem_nil⟩⟩⟩, by show List.Nodup [2, 0, 1, 3, 4, 5, 6]; decide⟩ ?_
          have qt4 : (vf_b4 f) := of_decide_eq_true (ht4.symm.trans (vr_b_t h1))
          have qt5 : ¬ (vf_b5 f) := of_decide_eq_false (ht5.symm.trans (vr_b_f (Classical.not_not.mp h6)))
          have qg : (vf_go (vf_c B) N (vf_gl f p)) := (of_decide_eq_true (vr_b_t h5))
          have qc : f.code = 149 := (vl_I_inj (a := f.code) (b := 149) (by omega) (by decide)).mp h7
          exact contG ⟨(fun _ => qg), (Or.inr (Or.inl qc))⟩
        · refine jv_Wp.lift (fun _ Kz => jv_Ev.steps jv_i270 2 (pc' := 165) (l' := [(0, .ref 196), (1, .int (vl_I N)), (2, .int (vl_I p)), (3, .int (vl_I x)), (4, .int (vr_b t4)), (5, .int (vr_b t5)), (6, .long (Int64.ofInt (vf_gl f p)))]) (st' := [.int (vl_I N), .int (vl_I x)]) rfl Kz) ?_
          refine jv_Wp.cnd jv_i270 (pt := 170) (pe := 168) (p := ((vl_I x) < (vl_I N))) (q := ((vl_I x) < (vl_I N))) rfl jv_bc_lt rfl rfl Iff.rfl (fun h8 => ?_) (fun h8 => ?_)
          · refine jv_Wp.lift (fun _ Kz => jv_Ev.steps jv_i270 3 (pc' := 2) (l' := [(2, .int (vl_I x)), (0, .ref 196), (1, .int (vl_I N)), (3, .int (vl_I x)), (4, .int (vr_b t4)), (5, .int (vr_b t5)), (6, .long (Int64.ofInt (vf_gl f p)))]) (st' := []) rfl Kz) ?_
            refine jv_Wp.loc (l := [(0, .ref 196), (1, .int (vl_I N)), (2, .int (vl_I x))]) ⟨List.forall_mem_cons.mpr ⟨.tail _ (.head _), List.forall_mem_cons.mpr ⟨.tail _ (.tail _ (.head _)), List.forall_mem_cons.mpr ⟨.head _, fun _ h => absurd h List.not_mem_nil⟩⟩⟩, by show List.Nodup [2, 0, 1, 3, 4, 5, 6]; decide⟩ ?_
            have qt4 : (vf_b4 f) := of_decide_eq_true (ht4.symm.trans (vr_b_t h1))
            have qt5 : ¬ (vf_b5 f) := of_decide_eq_false (ht5.symm.trans (vr_b_f (Classical.not_not.mp h6)))
            have qg : (vf_go (vf_c B) N (vf_gl f p)) := (of_decide_eq_true (vr_b_t h5))
            have qc : ¬ f.code = 149 := fun z => h7 ((vl_I_inj (a := f.code) (b := 149) (by omega) (by decide)).mpr z)
            have qx : x < N := (vl_I_lt (by omega) (by omega)).mp h8
            exact contG ⟨(fun _ => qg), (Or.inr (Or.inr qx))⟩
          · refine jv_Wp.lift (fun _ Kz => jv_Ev.steps jv_i270 1 (pc' := 169) (l' := [(0, .ref 196), (1, .int (vl_I N)), (2, .int (vl_I p)), (3, .int (vl_I x)), (4, .int (vr_b t4)), (5, .int (vr_b t5)), (6, .long (Int64.ofInt (vf_gl f p)))]) (st' := [.int (vl_I p)]) rfl Kz) ?_
            refine jv_Wp.loc (l := [(0, .ref 196), (1, .int (vl_I N)), (2, .int (vl_I p))]) ⟨List.forall_mem_cons.mpr ⟨.head _, List.forall_mem_cons.mpr ⟨.tail _ (.head _), List.forall_mem_cons.mpr ⟨.tail _ (.tail _ (.head _)), fun _ h => absurd h List.not_mem_nil⟩⟩⟩, by show List.Nodup [0, 1, 2, 3, 4, 5, 6]; decide⟩ ?_
            refine jv_Wp.of (jv_Ev.ret jv_i270 rfl rfl) ?_
            have qt4 : (vf_b4 f) := of_decide_eq_true (ht4.symm.trans (vr_b_t h1))
            have qt5 : ¬ (vf_b5 f) := of_decide_eq_false (ht5.symm.trans (vr_b_f (Classical.not_not.mp h6)))
            have qg : (vf_go (vf_c B) N (vf_gl f p)) := (of_decide_eq_true (vr_b_t h5))
            have qc : ¬ f.code = 149 := fun z => h7 ((vl_I_inj (a := f.code) (b := 149) (by omega) (by decide)).mpr z)
            have qx : ¬ x < N := fun z => h8 ((vl_I_lt (by omega) (by omega)).mpr z)
            exact contB (fun z => z.2.elim (fun y => absurd y qt5) (fun y => y.elim (fun w => absurd w qc) (fun w => absurd w qx)))
theorem vq_ww_loop {K : Nat → Option (Nat × Nat)} {I0 : Nat → Nat → Int32} {L0 : Nat → Nat → Int64} {R : Nat → Nat → Value} {B : Nat → Nat} {N T : Nat} (hW : jv_rW K R) (h : vr_tp I0 197 T B) (hl : T ≤ 8192) (hle : 8 * N ≤ T) (ok1 : ∀ q, q < N → vf_g1 B N q = true) {n sl : Nat} {Q : jv_R → Prop} (HQ : ∀ I1 L1, vr_fr noP vr_E19 I0 L0 I1 L1 → Q (some (.int (if vf_fi (vf_g2 B N) N 0 < N then vl_I (vf_fi (vf_g2 B N) N 0) else -1)), jv_H K I1 L1 R, n, sl)) :
    ∀ (k p : Nat) (I : Nat → Nat → Int32) (L : Nat → Nat → Int64), N ≤ p + k → p ≤ N → vf_fs (vf_c B) p = true → (∀ q, q < p → vf_g2 B N q = true) → vr_fr noP vr_E19 I0 L0 I L → jv_Wp 270 2 [(0, .ref 196), (1, .int (vl_I N)), (2, .int (vl_I p))] [] (jv_H K I L R) n sl Q := by
  have fin : ∀ (p : Nat) (I : Nat → Nat → Int32) (L : Nat → Nat → Int64), p ≤ N → (∀ q, q < p → vf_g2 B N q = true) → vr_fr noP vr_E19 I0 L0 I L → N ≤ p → jv_Wp 270 175 [(0, .ref 196), (1, .int (vl_I N)), (2, .int (vl_I p))] [] (jv_H K I L R) n sl Q := fun p I L hp ok fr z => by
    have e : vf_fi (vf_g2 B N) N 0 = N := vf_fi_at N 0 N (by omega) (by omega) (fun q _ b => ok q (by omega)) (Or.inl (by omega))
    have q := HQ I L fr
    rw [e, if_neg (Nat.lt_irrefl N)] at q
    refine jv_Wp.lift (fun _ Kz => jv_Ev.steps jv_i270 1 (pc' := 176) (l' := [(0, .ref 196), (1, .int (vl_I N)), (2, .int (vl_I p))]) (st' := [.int (-1 : Int32)]) rfl Kz) ?_
    exact jv_Wp.of (jv_Ev.ret jv_i270 rfl rfl) q
  intro k
  induction k with
  | zero =>
    intro p I L hk hp fs ok fr
    exact vq_ww_2 hW (vr_fl_of fr) (vr_tp_fr fr (Or.inl rfl) (fun j z => by omega) h) hl hle (by omega) (fin p I L hp ok fr) (fun z => absurd z (by omega))
  | succ k ih =>
    intro p I L hk hp fs ok fr
    refine vq_ww_2 hW (vr_fl_of fr) (vr_tp_fr fr (Or.inl rfl) (fun j z => by omega) h) hl hle (by omega) (fin p I L hp ok fr) (fun pN I1 L1 D F => ?_)
    have fr1 := vr_fr_trans fr F
    have o1 := (I1 196 22).toInt_lt; have o2 := (I1 196 22).le_toInt; have o3 := (I1 196 23).toInt_lt; have o4 := (I1 196 23).le_toInt
    rw [D.2.2.2.1] at o1 o2; rw [D.2.2.2.2.1] at o3 o4
    have hg : -1099511627776 ≤ vf_gl (vr_F B p) p ∧ vf_gl (vr_F B p) p ≤ 1099511627776 := by
      unfold vf_gl; split <;> omega
    have P : vf_P B N p = true := by have := ok1 p pN; unfold vf_g1 at this; rw [fs] at this; exact this
    have nxl : vf_nx (vr_F B p) p ≤ N ∧ p < vf_nx (vr_F B p) p ∧ vf_fs (vf_c B) (vf_nx (vr_F B p) p) = true ∧ (∀ q, p < q → q < vf_nx (vr_F B p) p → vf_fs (vf_c B) q = false) := by
      unfold vf_nx
      by_cases c : (vr_F B p).code = 24
      · have f2 := vf_fs2 fs c; have := vf_P24 P c
        rw [if_pos c]; exact ⟨by omega, by omega, f2.2, fun q a b => by rw [show q = p + 1 by omega]; exact f2.1⟩
      · rw [if_neg c]; exact ⟨by omega, by omega, vf_fs1 fs c, fun q a b => absurd b (by omega)⟩
    obtain ⟨n1, n2, n3, n4⟩ := nxl
    refine vq_ww_33 hW D (vq_ww_75 hW D (vq_ww_99 hW (by omega) D (vq_ww_133 hW (vr_tp_fr fr1 (Or.inl rfl) (fun j z => by omega) h) hl hle D (by omega) hg ok1 rfl rfl (fun z => ?_) (fun z => ?_))))
    · have e : vf_fi (vf_g2 B N) N 0 = p := vf_fi_at N 0 p (by omega) (by omega) (fun q _ b => ok q (by omega)) (Or.inr (by unfold vf_g2; rw [fs, decide_eq_false z]; rfl))
      have q := HQ I1 L1 fr1
      rw [e, if_pos pN] at q
      exact q
    · exact ih (vf_nx (vr_F B p) p) I1 L1 (by omega) n1 n3 (fun q hq => by
        by_cases e1 : q < p
        · exact ok q e1
        · by_cases e2 : q = p
          · rw [e2]; unfold vf_g2; rw [fs, decide_eq_true z]; rfl
          · unfold vf_g2; rw [n4 q (by omega) hq]; rfl) fr1
theorem vq_wrongWay {K : Nat → Option (Nat × Nat)} {I : Nat → Nat → Int32} {L : Nat → Nat → Int64} {R : Nat → Nat → Value} {B : Nat → Nat} {N T : Nat} (hW : jv_rW K R) (hf : vr_fl I) (h : vr_tp I 197 T B) (hl : T ≤ 8192) (hle : 8 * N ≤ T) (ok1 : ∀ q, q < N → vf_g1 B N q = true) {n sl : Nat} : ∃ I1 L1, jv_Ms 270 [.ref 196, .int (vl_I N)] (jv_H K I L R) n sl (some (.int (if vf_fi (vf_g2 B N) N 0 < N then vl_I (vf_fi (vf_g2 B N) N 0) else -1)), jv_H K I1 L1 R, n, sl) ∧ vr_fr noP vr_E19 I L I1 L1 := by
  obtain ⟨Q, hQ⟩ : ∃ Q : jv_R → Prop, Q = fun X => ∃ I1 L1, X = (some (.int (if vf_fi (vf_g2 B N) N 0 < N then vl_I (vf_fi (vf_g2 B N) N 0) else -1)), jv_H K I1 L1 R, n, sl) ∧ vr_fr noP vr_E19 I L I1 L1 := ⟨_, rfl⟩
  suffices h : jv_Wp 270 0 [(0, .ref 196), (1, .int (vl_I N))] [] (jv_H K I L R) n sl Q by
    rw [hQ] at h
    obtain ⟨X, h, I1, L1, e, h'⟩ := h
    subst e
    exact ⟨I1, L1, h, h'⟩
  refine jv_Wp.lift (fun _ Kz => jv_Ev.steps jv_i270 2 (pc' := 2) (l' := [(2, .int (vl_I 0)), (0, .ref 196), (1, .int (vl_I N))]) (st' := []) rfl Kz) ?_
  refine jv_Wp.loc (l := [(0, .ref 196), (1, .int (vl_I N)), (2, .int (vl_I 0))]) ⟨List.forall_mem_cons.mpr ⟨.tail _ (.head _), List.forall_mem_cons.mpr ⟨.tail _ (.tail _ (.head _)), List.forall_mem_cons.mpr ⟨.head _, fun _ h => absurd h List.not_mem_nil⟩⟩⟩, by show List.Nodup [2, 0, 1]; decide⟩ ?_
  exact vq_ww_loop hW h hl hle ok1 (fun I1 L1 F => by rw [hQ]; exact ⟨I1, L1, rfl, F⟩) N 0 I L (by omega) (by omega) rfl (fun q z => absurd z (by omega)) (vr_fr_refl hf)