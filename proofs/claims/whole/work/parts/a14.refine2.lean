/-! part a14: shared bits, opposite, refine of the class (gen/ta14.py) -/
theorem vl_u0 (L : Nat → Nat → Int64) (o : Nat) (x : Int64) : jv_u L o 0 x = vl_set L o ⟨x.toBitVec, (vl_S L o).ones, (vl_S L o).low, (vl_S L o).high, (vl_S L o).least, (vl_S L o).greatest⟩ := by
  refine vl_eq ?_ (fun q i hq => vl_out hq rfl)
  unfold vl_S
  simp only [vl_at, vl_n01, vl_n02, vl_n03, vl_n04, vl_n05, vl_n10, vl_n12, vl_n13, vl_n14, vl_n15, vl_n20, vl_n21, vl_n23, vl_n24, vl_n25, vl_n30, vl_n31, vl_n32, vl_n34, vl_n35, vl_n40, vl_n41, vl_n42, vl_n43, vl_n45, vl_n50, vl_n51, vl_n52, vl_n53, vl_n54]
theorem vl_u1 (L : Nat → Nat → Int64) (o : Nat) (x : Int64) : jv_u L o 1 x = vl_set L o ⟨(vl_S L o).mask, x.toBitVec, (vl_S L o).low, (vl_S L o).high, (vl_S L o).least, (vl_S L o).greatest⟩ := by
  refine vl_eq ?_ (fun q i hq => vl_out hq rfl)
  unfold vl_S
  simp only [vl_at, vl_n01, vl_n02, vl_n03, vl_n04, vl_n05, vl_n10, vl_n12, vl_n13, vl_n14, vl_n15, vl_n20, vl_n21, vl_n23, vl_n24, vl_n25, vl_n30, vl_n31, vl_n32, vl_n34, vl_n35, vl_n40, vl_n41, vl_n42, vl_n43, vl_n45, vl_n50, vl_n51, vl_n52, vl_n53, vl_n54]
theorem vl_u2 (L : Nat → Nat → Int64) (o : Nat) (x : Int64) : jv_u L o 2 x = vl_set L o ⟨(vl_S L o).mask, (vl_S L o).ones, x.toBitVec, (vl_S L o).high, (vl_S L o).least, (vl_S L o).greatest⟩ := by
  refine vl_eq ?_ (fun q i hq => vl_out hq rfl)
  unfold vl_S
  simp only [vl_at, vl_n01, vl_n02, vl_n03, vl_n04, vl_n05, vl_n10, vl_n12, vl_n13, vl_n14, vl_n15, vl_n20, vl_n21, vl_n23, vl_n24, vl_n25, vl_n30, vl_n31, vl_n32, vl_n34, vl_n35, vl_n40, vl_n41, vl_n42, vl_n43, vl_n45, vl_n50, vl_n51, vl_n52, vl_n53, vl_n54]
theorem vl_u3 (L : Nat → Nat → Int64) (o : Nat) (x : Int64) : jv_u L o 3 x = vl_set L o ⟨(vl_S L o).mask, (vl_S L o).ones, (vl_S L o).low, x.toBitVec, (vl_S L o).least, (vl_S L o).greatest⟩ := by
  refine vl_eq ?_ (fun q i hq => vl_out hq rfl)
  unfold vl_S
  simp only [vl_at, vl_n01, vl_n02, vl_n03, vl_n04, vl_n05, vl_n10, vl_n12, vl_n13, vl_n14, vl_n15, vl_n20, vl_n21, vl_n23, vl_n24, vl_n25, vl_n30, vl_n31, vl_n32, vl_n34, vl_n35, vl_n40, vl_n41, vl_n42, vl_n43, vl_n45, vl_n50, vl_n51, vl_n52, vl_n53, vl_n54]
theorem vl_u4 (L : Nat → Nat → Int64) (o : Nat) (x : Int64) : jv_u L o 4 x = vl_set L o ⟨(vl_S L o).mask, (vl_S L o).ones, (vl_S L o).low, (vl_S L o).high, x.toBitVec, (vl_S L o).greatest⟩ := by
  refine vl_eq ?_ (fun q i hq => vl_out hq rfl)
  unfold vl_S
  simp only [vl_at, vl_n01, vl_n02, vl_n03, vl_n04, vl_n05, vl_n10, vl_n12, vl_n13, vl_n14, vl_n15, vl_n20, vl_n21, vl_n23, vl_n24, vl_n25, vl_n30, vl_n31, vl_n32, vl_n34, vl_n35, vl_n40, vl_n41, vl_n42, vl_n43, vl_n45, vl_n50, vl_n51, vl_n52, vl_n53, vl_n54]
theorem vl_u5 (L : Nat → Nat → Int64) (o : Nat) (x : Int64) : jv_u L o 5 x = vl_set L o ⟨(vl_S L o).mask, (vl_S L o).ones, (vl_S L o).low, (vl_S L o).high, (vl_S L o).least, x.toBitVec⟩ := by
  refine vl_eq ?_ (fun q i hq => vl_out hq rfl)
  unfold vl_S
  simp only [vl_at, vl_n01, vl_n02, vl_n03, vl_n04, vl_n05, vl_n10, vl_n12, vl_n13, vl_n14, vl_n15, vl_n20, vl_n21, vl_n23, vl_n24, vl_n25, vl_n30, vl_n31, vl_n32, vl_n34, vl_n35, vl_n40, vl_n41, vl_n42, vl_n43, vl_n45, vl_n50, vl_n51, vl_n52, vl_n53, vl_n54]
theorem vl_single {K : Nat → Option (Nat × Nat)} {I : Nat → Nat → Int32} {L : Nat → Nat → Int64} {R : Nat → Nat → Value} {o : Nat} (ho : jv_isV K o) {n sl : Nat} : jv_Ms 153 [.ref o] (jv_H K I L R) n sl (some (.int (vr_b (decide ((vl_S L o).low = (vl_S L o).high)))), jv_H K I L R, n, sl) := by
  have H := jv_s153 (I := I) (L := L) (R := R) (n := n) (sl := sl) o ho
  refine (congrArg (fun Z => jv_Ms 153 [.ref o] (jv_H K I L R) n sl (some (.int Z), jv_H K I L R, n, sl)) ?_).mp H
  rw [vr_dec2]
  have e : (L o 2 = L o 3) ↔ (vl_S L o).low = (vl_S L o).high := vl_eqb _ _
  by_cases h : L o 2 = L o 3
  · rw [decide_eq_true h, decide_eq_true (e.mp h)]
  · rw [decide_eq_false h, decide_eq_false (fun z => h (e.mpr z))]
/-- ProgramBox$Value.sayShared(LProgramBox$Value;LProgramBox$Value;)Z -/
theorem jv_x185 {K : Nat → Option (Nat × Nat)} {I : Nat → Nat → Int32} {L : Nat → Nat → Int64} {R : Nat → Nat → Value} (x : Nat) (w : Nat) (hv_x : jv_isV K x) (hv_w : jv_isV K w) (hn_x_w : x ≠ w) {n sl : Nat} : jv_Ms 185 [.ref x, .ref w] (jv_H K I L R) n sl (some (.int (if (¬ ((((L x 0) ^^^ (-1 : Int64)) ||| (L x 1)) &&& (((L w 0) ^^^ (-1 : Int64)) ||| (L w 1))) = (0 : Int64)) then (1 : Int32) else (0 : Int32))), jv_H K I (if (¬ ((((L x 0) ^^^ (-1 : Int64)) ||| (L x 1)) &&& (((L w 0) ^^^ (-1 : Int64)) ||| (L w 1))) = (0 : Int64)) then (jv_u (jv_u (jv_u (jv_u L x 0 ((L x 0) ||| (if ((vr_b (decide ((vl_S L w).low = (vl_S L w).high))) = 0) then (0 : Int64) else (if (¬ (jv_bits (L w 2)) = (1 : Int32)) then (0 : Int64) else (L w 2))))) x 1 ((L x 1) ||| (if ((vr_b (decide ((vl_S L w).low = (vl_S L w).high))) = 0) then (0 : Int64) else (if (¬ (jv_bits (L w 2)) = (1 : Int32)) then (0 : Int64) else (L w 2))))) w 0 ((L w 0) ||| (if ((vr_b (decide ((vl_S L x).low = (vl_S L x).high))) = 0) then (0 : Int64) else (if (¬ (jv_bits (L x 2)) = (1 : Int32)) then (0 : Int64) else (L x 2))))) w 1 ((L w 1) ||| (if ((vr_b (decide ((vl_S L x).low = (vl_S L x).high))) = 0) then (0 : Int64) else (if (¬ (jv_bits (L x 2)) = (1 : Int32)) then (0 : Int64) else (L x 2))))) else L) R, n, sl) := by
  show jv_Ev 185 0 [(0, .ref x), (1, .ref w)] [] (jv_H K I L R) n sl _
  refine jv_Ev.steps jv_i185 1 (pc' := 1) (l' := [(0, .ref x), (1, .ref w)]) (st' := [.ref x]) rfl ?_
  refine jv_Ev.m jv_i185 (pc' := 4) (st' := [.long (L x 0)]) (G' := (jv_H K I L R)) rfl rfl (jv_v_getL hv_x rfl rfl) ?_
  refine jv_Ev.steps jv_i185 3 (pc' := 9) (l' := [(0, .ref x), (1, .ref w)]) (st' := [.ref x, .long ((L x 0) ^^^ (-1 : Int64))]) rfl ?_
  refine jv_Ev.m jv_i185 (pc' := 12) (st' := [.long (L x 1), .long ((L x 0) ^^^ (-1 : Int64))]) (G' := (jv_H K I L R)) rfl rfl (jv_v_getL hv_x rfl rfl) ?_
  refine jv_Ev.steps jv_i185 2 (pc' := 14) (l' := [(0, .ref x), (1, .ref w)]) (st' := [.ref w, .long (((L x 0) ^^^ (-1 : Int64)) ||| (L x 1))]) rfl ?_
  refine jv_Ev.m jv_i185 (pc' := 17) (st' := [.long (L w 0), .long (((L x 0) ^^^ (-1 : Int64)) ||| (L x 1))]) (G' := (jv_H K I L R)) rfl rfl (jv_v_getL hv_w rfl rfl) ?_
  refine jv_Ev.steps jv_i185 3 (pc' := 22) (l' := [(0, .ref x), (1, .ref w)]) (st' := [.ref w, .long ((L w 0) ^^^ (-1 : Int64)), .long (((L x 0) ^^^ (-1 : Int64)) ||| (L x 1))]) rfl ?_
  refine jv_Ev.m jv_i185 (pc' := 25) (st' := [.long (L w 1), .long ((L w 0) ^^^ (-1 : Int64)), .long (((L x 0) ^^^ (-1 : Int64)) ||| (L x 1))]) (G' := (jv_H K I L R)) rfl rfl (jv_v_getL hv_w rfl rfl) ?_
  refine jv_Ev.steps jv_i185 4 (pc' := 29) (l' := [(0, .ref x), (1, .ref w)]) (st' := [.int (lg_cmp ((((L x 0) ^^^ (-1 : Int64)) ||| (L x 1)) &&& (((L w 0) ^^^ (-1 : Int64)) ||| (L w 1))) (0 : Int64))]) rfl ?_
  refine jv_Ev.cnd jv_i185 (pt := 34) (pe := 32) (p := (¬ (lg_cmp ((((L x 0) ^^^ (-1 : Int64)) ||| (L x 1)) &&& (((L w 0) ^^^ (-1 : Int64)) ||| (L w 1))) (0 : Int64)) = 0)) (q := (¬ ((((L x 0) ^^^ (-1 : Int64)) ||| (L x 1)) &&& (((L w 0) ^^^ (-1 : Int64)) ||| (L w 1))) = (0 : Int64))) rfl jv_bi_ne rfl rfl (not_congr (lg_cmp_eq ((((L x 0) ^^^ (-1 : Int64)) ||| (L x 1)) &&& (((L w 0) ^^^ (-1 : Int64)) ||| (L w 1))) (0 : Int64))) (fun h1 => ?_) (fun h1 => ?_)
  · refine jv_Ev.convX (X' := (some (.int (1 : Int32)), jv_H K I (jv_u (jv_u (jv_u (jv_u L x 0 ((L x 0) ||| (if ((vr_b (decide ((vl_S L w).low = (vl_S L w).high))) = 0) then (0 : Int64) else (if (¬ (jv_bits (L w 2)) = (1 : Int32)) then (0 : Int64) else (L w 2))))) x 1 ((L x 1) ||| (if ((vr_b (decide ((vl_S L w).low = (vl_S L w).high))) = 0) then (0 : Int64) else (if (¬ (jv_bits (L w 2)) = (1 : Int32)) then (0 : Int64) else (L w 2))))) w 0 ((L w 0) ||| (if ((vr_b (decide ((vl_S L x).low = (vl_S L x).high))) = 0) then (0 : Int64) else (if (¬ (jv_bits (L x 2)) = (1 : Int32)) then (0 : Int64) else (L x 2))))) w 1 ((L w 1) ||| (if ((vr_b (decide ((vl_S L x).low = (vl_S L x).high))) = 0) then (0 : Int64) else (if (¬ (jv_bits (L x 2)) = (1 : Int32)) then (0 : Int64) else (L x 2))))) R, n, sl)) (by simp only [if_pos h1]) ?_
    refine jv_Ev.steps jv_i185 1 (pc' := 35) (l' := [(0, .ref x), (1, .ref w)]) (st' := [.ref w]) rfl ?_
    refine jv_Ev.c jv_i185 (pc' := 38) (S' := [.int (vr_b (decide ((vl_S L w).low = (vl_S L w).high)))]) jv_i153 [.ref w] rfl rfl rfl rfl (jv_calV hv_w rfl rfl) rfl (vl_single hv_w) rfl rfl ?_
    refine jv_Ev.dia 60 [(0, .ref x), (1, .ref w)] [.long (if ((vr_b (decide ((vl_S L w).low = (vl_S L w).high))) = 0) then (0 : Int64) else (if (¬ (jv_bits (L w 2)) = (1 : Int32)) then (0 : Int64) else (L w 2)))] (jv_H K I L R) (fun Kh2 => ?_) ?_
    · refine jv_Ev.cnd jv_i185 (pt := 59) (pe := 41) (p := ((vr_b (decide ((vl_S L w).low = (vl_S L w).high))) = 0)) (q := ((vr_b (decide ((vl_S L w).low = (vl_S L w).high))) = 0)) rfl jv_bi_eq rfl rfl Iff.rfl (fun h2 => ?_) (fun h2 => ?_)
      · refine jv_Ev.steps jv_i185 1 (pc' := 60) (l' := [(0, .ref x), (1, .ref w)]) (st' := [.long (0 : Int64)]) rfl ?_
        exact jv_Ev.conv rfl (by simp only [if_pos h2]) rfl Kh2
      · refine jv_Ev.steps jv_i185 1 (pc' := 42) (l' := [(0, .ref x), (1, .ref w)]) (st' := [.ref w]) rfl ?_
        refine jv_Ev.m jv_i185 (pc' := 45) (st' := [.long (L w 2)]) (G' := (jv_H K I L R)) rfl rfl (jv_v_getL hv_w rfl rfl) ?_
        refine jv_Ev.c jv_i185 (pc' := 48) (S' := [.int (jv_bits (L w 2))]) jv_i1 [.long (L w 2)] rfl rfl rfl rfl rfl rfl (jv_s1 (L w 2)  ) rfl rfl ?_
        refine jv_Ev.steps jv_i185 1 (pc' := 49) (l' := [(0, .ref x), (1, .ref w)]) (st' := [.int (1 : Int32), .int (jv_bits (L w 2))]) rfl ?_
        refine jv_Ev.dia 60 [(0, .ref x), (1, .ref w)] [.long (if (¬ (jv_bits (L w 2)) = (1 : Int32)) then (0 : Int64) else (L w 2))] (jv_H K I L R) (fun Kh3 => ?_) ?_
        · refine jv_Ev.cnd jv_i185 (pt := 59) (pe := 52) (p := (¬ (jv_bits (L w 2)) = (1 : Int32))) (q := (¬ (jv_bits (L w 2)) = (1 : Int32))) rfl jv_bc_ne rfl rfl Iff.rfl (fun h3 => ?_) (fun h3 => ?_)
          · refine jv_Ev.steps jv_i185 1 (pc' := 60) (l' := [(0, .ref x), (1, .ref w)]) (st' := [.long (0 : Int64)]) rfl ?_
            exact jv_Ev.conv rfl (by simp only [if_pos h3]) rfl Kh3
          · refine jv_Ev.steps jv_i185 1 (pc' := 53) (l' := [(0, .ref x), (1, .ref w)]) (st' := [.ref w]) rfl ?_
            refine jv_Ev.m jv_i185 (pc' := 56) (st' := [.long (L w 2)]) (G' := (jv_H K I L R)) rfl rfl (jv_v_getL hv_w rfl rfl) ?_
            refine jv_Ev.steps jv_i185 1 (pc' := 60) (l' := [(0, .ref x), (1, .ref w)]) (st' := [.long (L w 2)]) rfl ?_
            exact jv_Ev.conv rfl (by simp only [if_neg h3]) rfl Kh3
        exact jv_Ev.conv rfl (by simp only [if_neg h2]) rfl Kh2
    refine jv_Ev.steps jv_i185 2 (pc' := 62) (l' := [(2, .long (if ((vr_b (decide ((vl_S L w).low = (vl_S L w).high))) = 0) then (0 : Int64) else (if (¬ (jv_bits (L w 2)) = (1 : Int32)) then (0 : Int64) else (L w 2)))), (0, .ref x), (1, .ref w)]) (st' := [.ref x]) rfl ?_
    refine jv_Ev.c jv_i185 (pc' := 65) (S' := [.int (vr_b (decide ((vl_S L x).low = (vl_S L x).high)))]) jv_i153 [.ref x] rfl rfl rfl rfl (jv_calV hv_x rfl rfl) rfl (vl_single hv_x) rfl rfl ?_
    refine jv_Ev.dia 87 [(0, .ref x), (1, .ref w), (2, .long (if ((vr_b (decide ((vl_S L w).low = (vl_S L w).high))) = 0) then (0 : Int64) else (if (¬ (jv_bits (L w 2)) = (1 : Int32)) then (0 : Int64) else (L w 2))))] [.long (if ((vr_b (decide ((vl_S L x).low = (vl_S L x).high))) = 0) then (0 : Int64) else (if (¬ (jv_bits (L x 2)) = (1 : Int32)) then (0 : Int64) else (L x 2)))] (jv_H K I L R) (fun Kh4 => ?_) ?_
    · refine jv_Ev.cnd jv_i185 (pt := 86) (pe := 68) (p := ((vr_b (decide ((vl_S L x).low = (vl_S L x).high))) = 0)) (q := ((vr_b (decide ((vl_S L x).low = (vl_S L x).high))) = 0)) rfl jv_bi_eq rfl rfl Iff.rfl (fun h4 => ?_) (fun h4 => ?_)
      · refine jv_Ev.steps jv_i185 1 (pc' := 87) (l' := [(2, .long (if ((vr_b (decide ((vl_S L w).low = (vl_S L w).high))) = 0) then (0 : Int64) else (if (¬ (jv_bits (L w 2)) = (1 : Int32)) then (0 : Int64) else (L w 2)))), (0, .ref x), (1, .ref w)]) (st' := [.long (0 : Int64)]) rfl ?_
        refine jv_Ev.loc (l := [(0, .ref x), (1, .ref w), (2, .long (if ((vr_b (decide ((vl_S L w).low = (vl_S L w).high))) = 0) then (0 : Int64) else (if (¬ (jv_bits (L w 2)) = (1 : Int32)) then (0 : Int64) else (L w 2))))]) ⟨List.forall_mem_cons.mpr ⟨.tail _ (.head _), List.forall_mem_cons.mpr ⟨.tail _ (.tail _ (.head _)), List.forall_mem_cons.mpr ⟨.head _, fun _ h => absurd h List.not_mem_nil⟩⟩⟩, by show List.Nodup [2, 0, 1]; decide⟩ ?_
        exact jv_Ev.conv rfl (by simp only [if_pos h4]) rfl Kh4
      · refine jv_Ev.steps jv_i185 1 (pc' := 69) (l' := [(2, .long (if ((vr_b (decide ((vl_S L w).low = (vl_S L w).high))) = 0) then (0 : Int64) else (if (¬ (jv_bits (L w 2)) = (1 : Int32)) then (0 : Int64) else (L w 2)))), (0, .ref x), (1, .ref w)]) (st' := [.ref x]) rfl ?_
        refine jv_Ev.m jv_i185 (pc' := 72) (st' := [.long (L x 2)]) (G' := (jv_H K I L R)) rfl rfl (jv_v_getL hv_x rfl rfl) ?_
        refine jv_Ev.c jv_i185 (pc' := 75) (S' := [.int (jv_bits (L x 2))]) jv_i1 [.long (L x 2)] rfl rfl rfl rfl rfl rfl (jv_s1 (L x 2)  ) rfl rfl ?_
        refine jv_Ev.steps jv_i185 1 (pc' := 76) (l' := [(2, .long (if ((vr_b (decide ((vl_S L w).low = (vl_S L w).high))) = 0) then (0 : Int64) else (if (¬ (jv_bits (L w 2)) = (1 : Int32)) then (0 : Int64) else (L w 2)))), (0, .ref x), (1, .ref w)]) (st' := [.int (1 : Int32), .int (jv_bits (L x 2))]) rfl ?_
        refine jv_Ev.dia 87 [(0, .ref x), (1, .ref w), (2, .long (if ((vr_b (decide ((vl_S L w).low = (vl_S L w).high))) = 0) then (0 : Int64) else (if (¬ (jv_bits (L w 2)) = (1 : Int32)) then (0 : Int64) else (L w 2))))] [.long (if (¬ (jv_bits (L x 2)) = (1 : Int32)) then (0 : Int64) else (L x 2))] (jv_H K I L R) (fun Kh5 => ?_) ?_
        · refine jv_Ev.cnd jv_i185 (pt := 86) (pe := 79) (p := (¬ (jv_bits (L x 2)) = (1 : Int32))) (q := (¬ (jv_bits (L x 2)) = (1 : Int32))) rfl jv_bc_ne rfl rfl Iff.rfl (fun h5 => ?_) (fun h5 => ?_)
          · refine jv_Ev.steps jv_i185 1 (pc' := 87) (l' := [(2, .long (if ((vr_b (decide ((vl_S L w).low = (vl_S L w).high))) = 0) then (0 : Int64) else (if (¬ (jv_bits (L w 2)) = (1 : Int32)) then (0 : Int64) else (L w 2)))), (0, .ref x), (1, .ref w)]) (st' := [.long (0 : Int64)]) rfl ?_
            refine jv_Ev.loc (l := [(0, .ref x), (1, .ref w), (2, .long (if ((vr_b (decide ((vl_S L w).low = (vl_S L w).high))) = 0) then (0 : Int64) else (if (¬ (jv_bits (L w 2)) = (1 : Int32)) then (0 : Int64) else (L w 2))))]) ⟨List.forall_mem_cons.mpr ⟨.tail _ (.head _), List.forall_mem_cons.mpr ⟨.tail _ (.tail _ (.head _)), List.forall_mem_cons.mpr ⟨.head _, fun _ h => absurd h List.not_mem_nil⟩⟩⟩, by show List.Nodup [2, 0, 1]; decide⟩ ?_
            exact jv_Ev.conv rfl (by simp only [if_pos h5]) rfl Kh5
          · refine jv_Ev.steps jv_i185 1 (pc' := 80) (l' := [(2, .long (if ((vr_b (decide ((vl_S L w).low = (vl_S L w).high))) = 0) then (0 : Int64) else (if (¬ (jv_bits (L w 2)) = (1 : Int32)) then (0 : Int64) else (L w 2)))), (0, .ref x), (1, .ref w)]) (st' := [.ref x]) rfl ?_
            refine jv_Ev.m jv_i185 (pc' := 83) (st' := [.long (L x 2)]) (G' := (jv_H K I L R)) rfl rfl (jv_v_getL hv_x rfl rfl) ?_
            refine jv_Ev.steps jv_i185 1 (pc' := 87) (l' := [(2, .long (if ((vr_b (decide ((vl_S L w).low = (vl_S L w).high))) = 0) then (0 : Int64) else (if (¬ (jv_bits (L w 2)) = (1 : Int32)) then (0 : Int64) else (L w 2)))), (0, .ref x), (1, .ref w)]) (st' := [.long (L x 2)]) rfl ?_
            refine jv_Ev.loc (l := [(0, .ref x), (1, .ref w), (2, .long (if ((vr_b (decide ((vl_S L w).low = (vl_S L w).high))) = 0) then (0 : Int64) else (if (¬ (jv_bits (L w 2)) = (1 : Int32)) then (0 : Int64) else (L w 2))))]) ⟨List.forall_mem_cons.mpr ⟨.tail _ (.head _), List.forall_mem_cons.mpr ⟨.tail _ (.tail _ (.head _)), List.forall_mem_cons.mpr ⟨.head _, fun _ h => absurd h List.not_mem_nil⟩⟩⟩, by show List.Nodup [2, 0, 1]; decide⟩ ?_
            exact jv_Ev.conv rfl (by simp only [if_neg h5]) rfl Kh5
        exact jv_Ev.conv rfl (by simp only [if_neg h4]) rfl Kh4
    refine jv_Ev.steps jv_i185 3 (pc' := 91) (l' := [(4, .long (if ((vr_b (decide ((vl_S L x).low = (vl_S L x).high))) = 0) then (0 : Int64) else (if (¬ (jv_bits (L x 2)) = (1 : Int32)) then (0 : Int64) else (L x 2)))), (0, .ref x), (1, .ref w), (2, .long (if ((vr_b (decide ((vl_S L w).low = (vl_S L w).high))) = 0) then (0 : Int64) else (if (¬ (jv_bits (L w 2)) = (1 : Int32)) then (0 : Int64) else (L w 2))))]) (st' := [.ref x, .ref x]) rfl ?_
    refine jv_Ev.m jv_i185 (pc' := 94) (st' := [.long (L x 0), .ref x]) (G' := (jv_H K I L R)) rfl rfl (jv_v_getL hv_x rfl rfl) ?_
    refine jv_Ev.steps jv_i185 2 (pc' := 96) (l' := [(4, .long (if ((vr_b (decide ((vl_S L x).low = (vl_S L x).high))) = 0) then (0 : Int64) else (if (¬ (jv_bits (L x 2)) = (1 : Int32)) then (0 : Int64) else (L x 2)))), (0, .ref x), (1, .ref w), (2, .long (if ((vr_b (decide ((vl_S L w).low = (vl_S L w).high))) = 0) then (0 : Int64) else (if (¬ (jv_bits (L w 2)) = (1 : Int32)) then (0 : Int64) else (L w 2))))]) (st' := [.long ((L x 0) ||| (if ((vr_b (decide ((vl_S L w).low = (vl_S L w).high))) = 0) then (0 : Int64) else (if (¬ (jv_bits (L w 2)) = (1 : Int32)) then (0 : Int64) else (L w 2)))), .ref x]) rfl ?_
    refine jv_Ev.m jv_i185 (pc' := 99) (st' := []) (G' := (jv_H K I (jv_u L x 0 ((L x 0) ||| (if ((vr_b (decide ((vl_S L w).low = (vl_S L w).high))) = 0) then (0 : Int64) else (if (¬ (jv_bits (L w 2)) = (1 : Int32)) then (0 : Int64) else (L w 2))))) R)) rfl rfl (jv_v_putL hv_x rfl) ?_
    refine jv_Ev.steps jv_i185 2 (pc' := 101) (l' := [(4, .long (if ((vr_b (decide ((vl_S L x).low = (vl_S L x).high))) = 0) then (0 : Int64) else (if (¬ (jv_bits (L x 2)) = (1 : Int32)) then (0 : Int64) else (L x 2)))), (0, .ref x), (1, .ref w), (2, .long (if ((vr_b (decide ((vl_S L w).low = (vl_S L w).high))) = 0) then (0 : Int64) else (if (¬ (jv_bits (L w 2)) = (1 : Int32)) then (0 : Int64) else (L w 2))))]) (st' := [.ref x, .ref x]) rfl ?_
    refine jv_Ev.m jv_i185 (pc' := 104) (st' := [.long (L x 1), .ref x]) (G' := (jv_H K I (jv_u L x 0 ((L x 0) ||| (if ((vr_b (decide ((vl_S L w).low = (vl_S L w).high))) = 0) then (0 : Int64) else (if (¬ (jv_bits (L w 2)) = (1 : Int32)) then (0 : Int64) else (L w 2))))) R)) rfl rfl (jv_v_getL hv_x rfl (jv_u_j _ _ _ _ (by decide))) ?_
    refine jv_Ev.steps jv_i185 2 (pc' := 106) (l' := [(4, .long (if ((vr_b (decide ((vl_S L x).low = (vl_S L x).high))) = 0) then (0 : Int64) else (if (¬ (jv_bits (L x 2)) = (1 : Int32)) then (0 : Int64) else (L x 2)))), (0, .ref x), (1, .ref w), (2, .long (if ((vr_b (decide ((vl_S L w).low = (vl_S L w).high))) = 0) then (0 : Int64) else (if (¬ (jv_bits (L w 2)) = (1 : Int32)) then (0 : Int64) else (L w 2))))]) (st' := [.long ((L x 1) ||| (if ((vr_b (decide ((vl_S L w).low = (vl_S L w).high))) = 0) then (0 : Int64) else (if (¬ (jv_bits (L w 2)) = (1 : Int32)) then (0 : Int64) else (L w 2)))), .ref x]) rfl ?_
    refine jv_Ev.m jv_i185 (pc' := 109) (st' := []) (G' := (jv_H K I (jv_u (jv_u L x 0 ((L x 0) ||| (if ((vr_b (decide ((vl_S L w).low = (vl_S L w).high))) = 0) then (0 : Int64) else (if (¬ (jv_bits (L w 2)) = (1 : Int32)) then (0 : Int64) else (L w 2))))) x 1 ((L x 1) ||| (if ((vr_b (decide ((vl_S L w).low = (vl_S L w).high))) = 0) then (0 : Int64) else (if (¬ (jv_bits (L w 2)) = (1 : Int32)) then (0 : Int64) else (L w 2))))) R)) rfl rfl (jv_v_putL hv_x rfl) ?_
    refine jv_Ev.steps jv_i185 2 (pc' := 111) (l' := [(4, .long (if ((vr_b (decide ((vl_S L x).low = (vl_S L x).high))) = 0) then (0 : Int64) else (if (¬ (jv_bits (L x 2)) = (1 : Int32)) then (0 : Int64) else (L x 2)))), (0, .ref x), (1, .ref w), (2, .long (if ((vr_b (decide ((vl_S L w).low = (vl_S L w).high))) = 0) then (0 : Int64) else (if (¬ (jv_bits (L w 2)) = (1 : Int32)) then (0 : Int64) else (L w 2))))]) (st' := [.ref w, .ref w]) rfl ?_
    refine jv_Ev.m jv_i185 (pc' := 114) (st' := [.long (L w 0), .ref w]) (G' := (jv_H K I (jv_u (jv_u L x 0 ((L x 0) ||| (if ((vr_b (decide ((vl_S L w).low = (vl_S L w).high))) = 0) then (0 : Int64) else (if (¬ (jv_bits (L w 2)) = (1 : Int32)) then (0 : Int64) else (L w 2))))) x 1 ((L x 1) ||| (if ((vr_b (decide ((vl_S L w).low = (vl_S L w).high))) = 0) then (0 : Int64) else (if (¬ (jv_bits (L w 2)) = (1 : Int32)) then (0 : Int64) else (L w 2))))) R)) rfl rfl (jv_v_getL hv_w rfl ((jv_u_j _ _ _ _ (by decide)).trans (jv_u_o _ _ _ _ (Ne.symm hn_x_w)))) ?_
    refine jv_Ev.steps jv_i185 2 (pc' := 117) (l' := [(4, .long (if ((vr_b (decide ((vl_S L x).low = (vl_S L x).high))) = 0) then (0 : Int64) else (if (¬ (jv_bits (L x 2)) = (1 : Int32)) then (0 : Int64) else (L x 2)))), (0, .ref x), (1, .ref w), (2, .long (if ((vr_b (decide ((vl_S L w).low = (vl_S L w).high))) = 0) then (0 : Int64) else (if (¬ (jv_bits (L w 2)) = (1 : Int32)) then (0 : Int64) else (L w 2))))]) (st' := [.long ((L w 0) ||| (if ((vr_b (decide ((vl_S L x).low = (vl_S L x).high))) = 0) then (0 : Int64) else (if (¬ (jv_bits (L x 2)) = (1 : Int32)) then (0 : Int64) else (L x 2)))), .ref w]) rfl ?_
    refine jv_Ev.m jv_i185 (pc' := 120) (st' := []) (G' := (jv_H K I (jv_u (jv_u (jv_u L x 0 ((L x 0) ||| (if ((vr_b (decide ((vl_S L w).low = (vl_S L w).high))) = 0) then (0 : Int64) else (if (¬ (jv_bits (L w 2)) = (1 : Int32)) then (0 : Int64) else (L w 2))))) x 1 ((L x 1) ||| (if ((vr_b (decide ((vl_S L w).low = (vl_S L w).high))) = 0) then (0 : Int64) else (if (¬ (jv_bits (L w 2)) = (1 : Int32)) then (0 : Int64) else (L w 2))))) w 0 ((L w 0) ||| (if ((vr_b (decide ((vl_S L x).low = (vl_S L x).high))) = 0) then (0 : Int64) else (if (¬ (jv_bits (L x 2)) = (1 : Int32)) then (0 : Int64) else (L x 2))))) R)) rfl rfl (jv_v_putL hv_w rfl) ?_
    refine jv_Ev.steps jv_i185 2 (pc' := 122) (l' := [(4, .long (if ((vr_b (decide ((vl_S L x).low = (vl_S L x).high))) = 0) then (0 : Int64) else (if (¬ (jv_bits (L x 2)) = (1 : Int32)) then (0 : Int64) else (L x 2)))), (0, .ref x), (1, .ref w), (2, .long (if ((vr_b (decide ((vl_S L w).low = (vl_S L w).high))) = 0) then (0 : Int64) else (if (¬ (jv_bits (L w 2)) = (1 : Int32)) then (0 : Int64) else (L w 2))))]) (st' := [.ref w, .ref w]) rfl ?_
    refine jv_Ev.m jv_i185 (pc' := 125) (st' := [.long (L w 1), .ref w]) (G' := (jv_H K I (jv_u (jv_u (jv_u L x 0 ((L x 0) ||| (if ((vr_b (decide ((vl_S L w).low = (vl_S L w).high))) = 0) then (0 : Int64) else (if (¬ (jv_bits (L w 2)) = (1 : Int32)) then (0 : Int64) else (L w 2))))) x 1 ((L x 1) ||| (if ((vr_b (decide ((vl_S L w).low = (vl_S L w).high))) = 0) then (0 : Int64) else (if (¬ (jv_bits (L w 2)) = (1 : Int32)) then (0 : Int64) else (L w 2))))) w 0 ((L w 0) ||| (if ((vr_b (decide ((vl_S L x).low = (vl_S L x).high))) = 0) then (0 : Int64) else (if (¬ (jv_bits (L x 2)) = (1 : Int32)) then (0 : Int64) else (L x 2))))) R)) rfl rfl (jv_v_getL hv_w rfl ((jv_u_j _ _ _ _ (by decide)).trans ((jv_u_o _ _ _ _ (Ne.symm hn_x_w)).trans (jv_u_j _ _ _ _ (by decide))))) ?_
    refine jv_Ev.steps jv_i185 2 (pc' := 128) (l' := [(4, .long (if ((vr_b (decide ((vl_S L x).low = (vl_S L x).high))) = 0) then (0 : Int64) else (if (¬ (jv_bits (L x 2)) = (1 : Int32)) then (0 : Int64) else (L x 2)))), (0, .ref x), (1, .ref w), (2, .long (if ((vr_b (decide ((vl_S L w).low = (vl_S L w).high))) = 0) then (0 : Int64) else (if (¬ (jv_bits (L w 2)) = (1 : Int32)) then (0 : Int64) else (L w 2))))]) (st' := [.long ((L w 1) ||| (if ((vr_b (decide ((vl_S L x).low = (vl_S L x).high))) = 0) then (0 : Int64) else (if (¬ (jv_bits (L x 2)) = (1 : Int32)) then (0 : Int64) else (L x 2)))), .ref w]) rfl ?_
    refine jv_Ev.m jv_i185 (pc' := 131) (st' := []) (G' := (jv_H K I (jv_u (jv_u (jv_u (jv_u L x 0 ((L x 0) ||| (if ((vr_b (decide ((vl_S L w).low = (vl_S L w).high))) = 0) then (0 : Int64) else (if (¬ (jv_bits (L w 2)) = (1 : Int32)) then (0 : Int64) else (L w 2))))) x 1 ((L x 1) ||| (if ((vr_b (decide ((vl_S L w).low = (vl_S L w).high))) = 0) then (0 : Int64) else (if (¬ (jv_bits (L w 2)) = (1 : Int32)) then (0 : Int64) else (L w 2))))) w 0 ((L w 0) ||| (if ((vr_b (decide ((vl_S L x).low = (vl_S L x).high))) = 0) then (0 : Int64) else (if (¬ (jv_bits (L x 2)) = (1 : Int32)) then (0 : Int64) else (L x 2))))) w 1 ((L w 1) ||| (if ((vr_b (decide ((vl_S L x).low = (vl_S L x).high))) = 0) then (0 : Int64) else (if (¬ (jv_bits (L x 2)) = (1 : Int32)) then (0 : Int64) else (L x 2))))) R)) rfl rfl (jv_v_putL hv_w rfl) ?_
    refine jv_Ev.steps jv_i185 1 (pc' := 132) (l' := [(4, .long (if ((vr_b (decide ((vl_S L x).low = (vl_S L x).high))) = 0) then (0 : Int64) else (if (¬ (jv_bits (L x 2)) = (1 : Int32)) then (0 : Int64) else (L x 2)))), (0, .ref x), (1, .ref w), (2, .long (if ((vr_b (decide ((vl_S L w).low = (vl_S L w).high))) = 0) then (0 : Int64) else (if (¬ (jv_bits (L w 2)) = (1 : Int32)) then (0 : Int64) else (L w 2))))]) (st' := [.int (1 : Int32)]) rfl ?_
    exact jv_Ev.ret jv_i185 rfl (jv_ret_b (Or.inr rfl))
  · refine jv_Ev.convX (X' := (some (.int (0 : Int32)), jv_H K I L R, n, sl)) (by simp only [if_neg h1]) ?_
    refine jv_Ev.steps jv_i185 1 (pc' := 33) (l' := [(0, .ref x), (1, .ref w)]) (st' := [.int (0 : Int32)]) rfl ?_
    exact jv_Ev.ret jv_i185 rfl (jv_ret_b (Or.inl rfl))

def vb_rShared (x y : vb_S) : Option (vb_S × vb_S) := if (~~~x.mask ||| x.ones) &&& (~~~y.mask ||| y.ones) = 0 then none else some (vb_sure x (if y.low = y.high ∧ vb_oneBit y.low = true then y.low else 0), vb_sure y (if x.low = x.high ∧ vb_oneBit x.low = true then x.low else 0))
theorem vl_pick (v : Int64) (a b : BitVec 64) : (if vr_b (decide (a = b)) = 0 then (0 : Int64) else if ¬ jv_bits v = (1 : Int32) then (0 : Int64) else v).toBitVec = if a = b ∧ vb_oneBit v.toBitVec = true then v.toBitVec else 0 := by
  by_cases h : a = b
  · rw [decide_eq_true h, if_neg (by decide)]
    by_cases hv : vb_oneBit v.toBitVec = true
    · rw [if_neg (fun z => z ((vl_bits_one v).mpr hv)), if_pos ⟨h, hv⟩]
    · rw [if_pos (fun z => hv ((vl_bits_one v).mp z)), if_neg (fun z => hv z.2)]; rfl
  · rw [decide_eq_false h, if_pos (show vr_b false = 0 from rfl), if_neg (fun z => h z.1)]; rfl
theorem vl_set_comm (L : Nat → Nat → Int64) {x w : Nat} (h : x ≠ w) (a b : vb_S) : vl_set (vl_set L x a) w b = vl_set (vl_set L w b) x a := by
  funext q i
  unfold vl_set
  by_cases h1 : q = x ∧ i < 6
  · by_cases h2 : q = w ∧ i < 6
    · exact absurd (h1.1.symm.trans h2.1) h
    · rw [if_neg h2, if_pos h1, if_pos h1]
  · rw [if_neg h1, if_neg h1]
theorem vl_sayShared {K : Nat → Option (Nat × Nat)} {I : Nat → Nat → Int32} {L : Nat → Nat → Int64} {R : Nat → Nat → Value} {x w : Nat} (hx : jv_isV K x) (hw : jv_isV K w) (h1 : x ≠ w) {n sl : Nat} :
    jv_Ms 185 [.ref x, .ref w] (jv_H K I L R) n sl (some (.int (vl_b2 (vb_rShared (vl_S L x) (vl_S L w)))), jv_H K I (vl_set2 L x w (vb_rShared (vl_S L x) (vl_S L w))) R, n, sl) := by
  have H := jv_x185 (L := L) (I := I) (R := R) (n := n) (sl := sl) x w hx hw h1
  have cc : ((((L x 0) ^^^ (-1 : Int64)) ||| (L x 1)) &&& (((L w 0) ^^^ (-1 : Int64)) ||| (L w 1)) = (0 : Int64)) ↔ (~~~(vl_S L x).mask ||| (vl_S L x).ones) &&& (~~~(vl_S L w).mask ||| (vl_S L w).ones) = 0 := by
    rw [vl_eqb, Int64.toBitVec_and, Int64.toBitVec_or, Int64.toBitVec_or, vl_xor1, vl_xor1]; rfl
  unfold vb_rShared
  by_cases c : (~~~(vl_S L x).mask ||| (vl_S L x).ones) &&& (~~~(vl_S L w).mask ||| (vl_S L w).ones) = 0
  · rw [if_neg (fun z => z (cc.mpr c)), if_neg (fun z => z (cc.mpr c))] at H
    rw [if_pos c]; exact H
  · rw [if_pos (fun z => c (cc.mp z)), if_pos (fun z => c (cc.mp z))] at H
    rw [if_neg c]
    refine (congrArg (fun Z => jv_Ms 185 [.ref x, .ref w] (jv_H K I L R) n sl (some (.int 1), jv_H K I Z R, n, sl)) ?_).mp H
    have v1 := vl_pick (L w 2) (vl_S L w).low (vl_S L w).high
    have v2 := vl_pick (L x 2) (vl_S L x).low (vl_S L x).high
    generalize (if vr_b (decide ((vl_S L w).low = (vl_S L w).high)) = 0 then (0 : Int64) else if ¬ jv_bits (L w 2) = (1 : Int32) then (0 : Int64) else L w 2) = a at v1 ⊢
    generalize (if vr_b (decide ((vl_S L x).low = (vl_S L x).high)) = 0 then (0 : Int64) else if ¬ jv_bits (L x 2) = (1 : Int32) then (0 : Int64) else L x 2) = b at v2 ⊢
    rw [vl_u0, vl_u1, vl_set_S, vl_set_set, vl_u0, vl_u1, vl_set_S, vl_set_set, vl_set_o (Ne.symm h1)]
    simp only [Int64.toBitVec_or, v1, v2]
    rfl
theorem vl_set2_swp (L : Nat → Nat → Int64) {x w : Nat} (h : x ≠ w) (o : Option (vb_S × vb_S)) : vl_set2 L w x o = vl_set2 L x w (vb_swp o) := by
  cases o with
  | none => rfl
  | some p => exact vl_set_comm L (Ne.symm h) p.1 p.2
theorem vl_b2_swp (o : Option (vb_S × vb_S)) : vl_b2 o = vl_b2 (vb_swp o) := by cases o <;> rfl
theorem vl_b201 (o : Option (vb_S × vb_S)) : vl_b2 o = 0 ∨ vl_b2 o = 1 := by cases o; exact Or.inl rfl; exact Or.inr rfl
theorem jv_i177 : jv_I 177 4 (some .boolean) 2 73 jv_c177 := ⟨rfl, rfl, rfl, rfl, rfl⟩
theorem jv_b177_c0 {K : Nat → Option (Nat × Nat)} {I : Nat → Nat → Int32} {L : Nat → Nat → Int64} {R : Nat → Nat → Value} {x w : Nat} (hx : jv_isV K x) (hw : jv_isV K w) (h1 : x ≠ w) {n sl : Nat} {X : jv_R} (HK : (jv_Ev 177 165 [(1, .ref x), (2, .ref w), (3, .int (vl_b2 (vb_rSame (vl_S L x) (vl_S L w))))] [] (jv_H K I (vl_set2 L x w (vb_rSame (vl_S L x) (vl_S L w))) R) n sl X)) : jv_Ev 177 0 [(0, .int (0 : Int32)), (1, .ref x), (2, .ref w)] [] (jv_H K I L R) n sl X := by
  refine jv_Ev.steps jv_i177 1 (pc' := 1) (l' := [(0, .int (0 : Int32)), (1, .ref x), (2, .ref w)]) (st' := [.int (0 : Int32)]) rfl ?_
  refine jv_Ev.br jv_i177 (pc' := 60) (st' := []) rfl (by rfl) ?_
  refine jv_Ev.steps jv_i177 2 (pc' := 62) (l' := [(0, .int (0 : Int32)), (1, .ref x), (2, .ref w)]) (st' := [.ref w, .ref x]) rfl ?_
  refine jv_Ev.c jv_i177 (pc' := 65) (S' := [.int (vl_b2 (vb_rSame (vl_S L x) (vl_S L w)))]) (G1 := (jv_H K I (vl_set2 L x w (vb_rSame (vl_S L x) (vl_S L w))) R)) jv_i178 [.ref x, .ref w] rfl rfl rfl rfl rfl rfl (vl_saySame hx hw h1) rfl rfl ?_
  refine jv_Ev.steps jv_i177 2 (pc' := 165) (l' := [(3, .int (vl_b2 (vb_rSame (vl_S L x) (vl_S L w)))), (0, .int (0 : Int32)), (1, .ref x), (2, .ref w)]) (st' := []) rfl ?_
  refine jv_Ev.loc (l := [(1, .ref x), (2, .ref w), (3, .int (vl_b2 (vb_rSame (vl_S L x) (vl_S L w))))]) ⟨List.forall_mem_cons.mpr ⟨.tail _ (.tail _ (.head _)), List.forall_mem_cons.mpr ⟨.tail _ (.tail _ (.tail _ (.head _))), List.forall_mem_cons.mpr ⟨.head _, fun _ h => absurd h List.not_mem_nil⟩⟩⟩, by show List.Nodup [3, 0, 1, 2]; decide⟩ ?_
  exact HK
theorem jv_b177_c1 {K : Nat → Option (Nat × Nat)} {I : Nat → Nat → Int32} {L : Nat → Nat → Int64} {R : Nat → Nat → Value} {x w : Nat} (hx : jv_isV K x) (hw : jv_isV K w) (h1 : x ≠ w) {n sl : Nat} {X : jv_R} (HK : (jv_Ev 177 165 [(1, .ref x), (2, .ref w), (3, .int (vl_b2 (vb_rOther (vl_S L x) (vl_S L w))))] [] (jv_H K I (vl_set2 L x w (vb_rOther (vl_S L x) (vl_S L w))) R) n sl X)) : jv_Ev 177 0 [(0, .int (1 : Int32)), (1, .ref x), (2, .ref w)] [] (jv_H K I L R) n sl X := by
  refine jv_Ev.steps jv_i177 1 (pc' := 1) (l' := [(0, .int (1 : Int32)), (1, .ref x), (2, .ref w)]) (st' := [.int (1 : Int32)]) rfl ?_
  refine jv_Ev.br jv_i177 (pc' := 69) (st' := []) rfl (by rfl) ?_
  refine jv_Ev.steps jv_i177 2 (pc' := 71) (l' := [(0, .int (1 : Int32)), (1, .ref x), (2, .ref w)]) (st' := [.ref w, .ref x]) rfl ?_
  refine jv_Ev.c jv_i177 (pc' := 74) (S' := [.int (vl_b2 (vb_rOther (vl_S L x) (vl_S L w)))]) (G1 := (jv_H K I (vl_set2 L x w (vb_rOther (vl_S L x) (vl_S L w))) R)) jv_i179 [.ref x, .ref w] rfl rfl rfl rfl rfl rfl (vl_sayOther hx hw h1) rfl rfl ?_
  refine jv_Ev.steps jv_i177 2 (pc' := 165) (l' := [(3, .int (vl_b2 (vb_rOther (vl_S L x) (vl_S L w)))), (0, .int (1 : Int32)), (1, .ref x), (2, .ref w)]) (st' := []) rfl ?_
  refine jv_Ev.loc (l := [(1, .ref x), (2, .ref w), (3, .int (vl_b2 (vb_rOther (vl_S L x) (vl_S L w))))]) ⟨List.forall_mem_cons.mpr ⟨.tail _ (.tail _ (.head _)), List.forall_mem_cons.mpr ⟨.tail _ (.tail _ (.tail _ (.head _))), List.forall_mem_cons.mpr ⟨.head _, fun _ h => absurd h List.not_mem_nil⟩⟩⟩, by show List.Nodup [3, 0, 1, 2]; decide⟩ ?_
  exact HK
theorem jv_b177_c2 {K : Nat → Option (Nat × Nat)} {I : Nat → Nat → Int32} {L : Nat → Nat → Int64} {R : Nat → Nat → Value} {x w : Nat} (hx : jv_isV K x) (hw : jv_isV K w) (h1 : x ≠ w) {n sl : Nat} {X : jv_R} (HK : (jv_Ev 177 165 [(1, .ref x), (2, .ref w), (3, .int (vl_b2 (vb_rBelow (vl_S L x) (vl_S L w))))] [] (jv_H K I (vl_set2 L x w (vb_rBelow (vl_S L x) (vl_S L w))) R) n sl X)) : jv_Ev 177 0 [(0, .int (2 : Int32)), (1, .ref x), (2, .ref w)] [] (jv_H K I L R) n sl X := by
  refine jv_Ev.steps jv_i177 1 (pc' := 1) (l' := [(0, .int (2 : Int32)), (1, .ref x), (2, .ref w)]) (st' := [.int (2 : Int32)]) rfl ?_
  refine jv_Ev.br jv_i177 (pc' := 78) (st' := []) rfl (by rfl) ?_
  refine jv_Ev.steps jv_i177 2 (pc' := 80) (l' := [(0, .int (2 : Int32)), (1, .ref x), (2, .ref w)]) (st' := [.ref w, .ref x]) rfl ?_
  refine jv_Ev.c jv_i177 (pc' := 83) (S' := [.int (vl_b2 (vb_rBelow (vl_S L x) (vl_S L w)))]) (G1 := (jv_H K I (vl_set2 L x w (vb_rBelow (vl_S L x) (vl_S L w))) R)) jv_i181 [.ref x, .ref w] rfl rfl rfl rfl rfl rfl (vl_sayBelow hx hw h1) rfl rfl ?_
  refine jv_Ev.steps jv_i177 2 (pc' := 165) (l' := [(3, .int (vl_b2 (vb_rBelow (vl_S L x) (vl_S L w)))), (0, .int (2 : Int32)), (1, .ref x), (2, .ref w)]) (st' := []) rfl ?_
  refine jv_Ev.loc (l := [(1, .ref x), (2, .ref w), (3, .int (vl_b2 (vb_rBelow (vl_S L x) (vl_S L w))))]) ⟨List.forall_mem_cons.mpr ⟨.tail _ (.tail _ (.head _)), List.forall_mem_cons.mpr ⟨.tail _ (.tail _ (.tail _ (.head _))), List.forall_mem_cons.mpr ⟨.head _, fun _ h => absurd h List.not_mem_nil⟩⟩⟩, by show List.Nodup [3, 0, 1, 2]; decide⟩ ?_
  exact HK
theorem jv_b177_c3 {K : Nat → Option (Nat × Nat)} {I : Nat → Nat → Int32} {L : Nat → Nat → Int64} {R : Nat → Nat → Value} {x w : Nat} (hx : jv_isV K x) (hw : jv_isV K w) (h1 : x ≠ w) {n sl : Nat} {X : jv_R} (HK : (jv_Ev 177 165 [(1, .ref x), (2, .ref w), (3, .int (vl_b2 (vb_rNotAbove (vl_S L x) (vl_S L w))))] [] (jv_H K I (vl_set2 L x w (vb_rNotAbove (vl_S L x) (vl_S L w))) R) n sl X)) : jv_Ev 177 0 [(0, .int (3 : Int32)), (1, .ref x), (2, .ref w)] [] (jv_H K I L R) n sl X := by
  refine jv_Ev.steps jv_i177 1 (pc' := 1) (l' := [(0, .int (3 : Int32)), (1, .ref x), (2, .ref w)]) (st' := [.int (3 : Int32)]) rfl ?_
  refine jv_Ev.br jv_i177 (pc' := 87) (st' := []) rfl (by rfl) ?_
  refine jv_Ev.steps jv_i177 2 (pc' := 89) (l' := [(0, .int (3 : Int32)), (1, .ref x), (2, .ref w)]) (st' := [.ref w, .ref x]) rfl ?_
  refine jv_Ev.c jv_i177 (pc' := 92) (S' := [.int (vl_b2 (vb_rNotAbove (vl_S L x) (vl_S L w)))]) (G1 := (jv_H K I (vl_set2 L x w (vb_rNotAbove (vl_S L x) (vl_S L w))) R)) jv_i182 [.ref x, .ref w] rfl rfl rfl rfl rfl rfl (vl_sayNotAbove hx hw h1) rfl rfl ?_
  refine jv_Ev.steps jv_i177 2 (pc' := 165) (l' := [(3, .int (vl_b2 (vb_rNotAbove (vl_S L x) (vl_S L w)))), (0, .int (3 : Int32)), (1, .ref x), (2, .ref w)]) (st' := []) rfl ?_
  refine jv_Ev.loc (l := [(1, .ref x), (2, .ref w), (3, .int (vl_b2 (vb_rNotAbove (vl_S L x) (vl_S L w))))]) ⟨List.forall_mem_cons.mpr ⟨.tail _ (.tail _ (.head _)), List.forall_mem_cons.mpr ⟨.tail _ (.tail _ (.tail _ (.head _))), List.forall_mem_cons.mpr ⟨.head _, fun _ h => absurd h List.not_mem_nil⟩⟩⟩, by show List.Nodup [3, 0, 1, 2]; decide⟩ ?_
  exact HK
theorem jv_b177_c4 {K : Nat → Option (Nat × Nat)} {I : Nat → Nat → Int32} {L : Nat → Nat → Int64} {R : Nat → Nat → Value} {x w : Nat} (hx : jv_isV K x) (hw : jv_isV K w) (h1 : x ≠ w) {n sl : Nat} {X : jv_R} (HK : (jv_Ev 177 165 [(1, .ref x), (2, .ref w), (3, .int (vl_b2 (vb_rBelow (vl_S L w) (vl_S L x))))] [] (jv_H K I (vl_set2 L w x (vb_rBelow (vl_S L w) (vl_S L x))) R) n sl X)) : jv_Ev 177 0 [(0, .int (4 : Int32)), (1, .ref x), (2, .ref w)] [] (jv_H K I L R) n sl X := by
  refine jv_Ev.steps jv_i177 1 (pc' := 1) (l' := [(0, .int (4 : Int32)), (1, .ref x), (2, .ref w)]) (st' := [.int (4 : Int32)]) rfl ?_
  refine jv_Ev.br jv_i177 (pc' := 96) (st' := []) rfl (by rfl) ?_
  refine jv_Ev.steps jv_i177 2 (pc' := 98) (l' := [(0, .int (4 : Int32)), (1, .ref x), (2, .ref w)]) (st' := [.ref x, .ref w]) rfl ?_
  refine jv_Ev.c jv_i177 (pc' := 101) (S' := [.int (vl_b2 (vb_rBelow (vl_S L w) (vl_S L x)))]) (G1 := (jv_H K I (vl_set2 L w x (vb_rBelow (vl_S L w) (vl_S L x))) R)) jv_i181 [.ref w, .ref x] rfl rfl rfl rfl rfl rfl (vl_sayBelow hw hx (Ne.symm h1)) rfl rfl ?_
  refine jv_Ev.steps jv_i177 2 (pc' := 165) (l' := [(3, .int (vl_b2 (vb_rBelow (vl_S L w) (vl_S L x)))), (0, .int (4 : Int32)), (1, .ref x), (2, .ref w)]) (st' := []) rfl ?_
  refine jv_Ev.loc (l := [(1, .ref x), (2, .ref w), (3, .int (vl_b2 (vb_rBelow (vl_S L w) (vl_S L x))))]) ⟨List.forall_mem_cons.mpr ⟨.tail _ (.tail _ (.head _)), List.forall_mem_cons.mpr ⟨.tail _ (.tail _ (.tail _ (.head _))), List.forall_mem_cons.mpr ⟨.head _, fun _ h => absurd h List.not_mem_nil⟩⟩⟩, by show List.Nodup [3, 0, 1, 2]; decide⟩ ?_
  exact HK
theorem jv_b177_c5 {K : Nat → Option (Nat × Nat)} {I : Nat → Nat → Int32} {L : Nat → Nat → Int64} {R : Nat → Nat → Value} {x w : Nat} (hx : jv_isV K x) (hw : jv_isV K w) (h1 : x ≠ w) {n sl : Nat} {X : jv_R} (HK : (jv_Ev 177 165 [(1, .ref x), (2, .ref w), (3, .int (vl_b2 (vb_rNotAbove (vl_S L w) (vl_S L x))))] [] (jv_H K I (vl_set2 L w x (vb_rNotAbove (vl_S L w) (vl_S L x))) R) n sl X)) : jv_Ev 177 0 [(0, .int (5 : Int32)), (1, .ref x), (2, .ref w)] [] (jv_H K I L R) n sl X := by
  refine jv_Ev.steps jv_i177 1 (pc' := 1) (l' := [(0, .int (5 : Int32)), (1, .ref x), (2, .ref w)]) (st' := [.int (5 : Int32)]) rfl ?_
  refine jv_Ev.br jv_i177 (pc' := 105) (st' := []) rfl (by rfl) ?_
  refine jv_Ev.steps jv_i177 2 (pc' := 107) (l' := [(0, .int (5 : Int32)), (1, .ref x), (2, .ref w)]) (st' := [.ref x, .ref w]) rfl ?_
  refine jv_Ev.c jv_i177 (pc' := 110) (S' := [.int (vl_b2 (vb_rNotAbove (vl_S L w) (vl_S L x)))]) (G1 := (jv_H K I (vl_set2 L w x (vb_rNotAbove (vl_S L w) (vl_S L x))) R)) jv_i182 [.ref w, .ref x] rfl rfl rfl rfl rfl rfl (vl_sayNotAbove hw hx (Ne.symm h1)) rfl rfl ?_
  refine jv_Ev.steps jv_i177 2 (pc' := 165) (l' := [(3, .int (vl_b2 (vb_rNotAbove (vl_S L w) (vl_S L x)))), (0, .int (5 : Int32)), (1, .ref x), (2, .ref w)]) (st' := []) rfl ?_
  refine jv_Ev.loc (l := [(1, .ref x), (2, .ref w), (3, .int (vl_b2 (vb_rNotAbove (vl_S L w) (vl_S L x))))]) ⟨List.forall_mem_cons.mpr ⟨.tail _ (.tail _ (.head _)), List.forall_mem_cons.mpr ⟨.tail _ (.tail _ (.tail _ (.head _))), List.forall_mem_cons.mpr ⟨.head _, fun _ h => absurd h List.not_mem_nil⟩⟩⟩, by show List.Nodup [3, 0, 1, 2]; decide⟩ ?_
  exact HK
theorem jv_b177_c6 {K : Nat → Option (Nat × Nat)} {I : Nat → Nat → Int32} {L : Nat → Nat → Int64} {R : Nat → Nat → Value} {x w : Nat} (hx : jv_isV K x) (hw : jv_isV K w) (h1 : x ≠ w) {n sl : Nat} {X : jv_R} (HK : (jv_Ev 177 165 [(1, .ref x), (2, .ref w), (3, .int (vl_b2 (vb_rLess (vl_S L x) (vl_S L w))))] [] (jv_H K I (vl_set2 L x w (vb_rLess (vl_S L x) (vl_S L w))) R) n sl X)) : jv_Ev 177 0 [(0, .int (6 : Int32)), (1, .ref x), (2, .ref w)] [] (jv_H K I L R) n sl X := by
  refine jv_Ev.steps jv_i177 1 (pc' := 1) (l' := [(0, .int (6 : Int32)), (1, .ref x), (2, .ref w)]) (st' := [.int (6 : Int32)]) rfl ?_
  refine jv_Ev.br jv_i177 (pc' := 114) (st' := []) rfl (by rfl) ?_
  refine jv_Ev.steps jv_i177 2 (pc' := 116) (l' := [(0, .int (6 : Int32)), (1, .ref x), (2, .ref w)]) (st' := [.ref w, .ref x]) rfl ?_
  refine jv_Ev.c jv_i177 (pc' := 119) (S' := [.int (vl_b2 (vb_rLess (vl_S L x) (vl_S L w)))]) (G1 := (jv_H K I (vl_set2 L x w (vb_rLess (vl_S L x) (vl_S L w))) R)) jv_i183 [.ref x, .ref w] rfl rfl rfl rfl rfl rfl (vl_sayLess hx hw h1) rfl rfl ?_
  refine jv_Ev.steps jv_i177 2 (pc' := 165) (l' := [(3, .int (vl_b2 (vb_rLess (vl_S L x) (vl_S L w)))), (0, .int (6 : Int32)), (1, .ref x), (2, .ref w)]) (st' := []) rfl ?_
  refine jv_Ev.loc (l := [(1, .ref x), (2, .ref w), (3, .int (vl_b2 (vb_rLess (vl_S L x) (vl_S L w))))]) ⟨List.forall_mem_cons.mpr ⟨.tail _ (.tail _ (.head _)), List.forall_mem_cons.mpr ⟨.tail _ (.tail _ (.tail _ (.head _))), List.forall_mem_cons.mpr ⟨.head _, fun _ h => absurd h List.not_mem_nil⟩⟩⟩, by show List.Nodup [3, 0, 1, 2]; decide⟩ ?_
  exact HK
theorem jv_b177_c7 {K : Nat → Option (Nat × Nat)} {I : Nat → Nat → Int32} {L : Nat → Nat → Int64} {R : Nat → Nat → Value} {x w : Nat} (hx : jv_isV K x) (hw : jv_isV K w) (h1 : x ≠ w) {n sl : Nat} {X : jv_R} (HK : (jv_Ev 177 165 [(1, .ref x), (2, .ref w), (3, .int (vl_b2 (vb_rNotMore (vl_S L x) (vl_S L w))))] [] (jv_H K I (vl_set2 L x w (vb_rNotMore (vl_S L x) (vl_S L w))) R) n sl X)) : jv_Ev 177 0 [(0, .int (7 : Int32)), (1, .ref x), (2, .ref w)] [] (jv_H K I L R) n sl X := by
  refine jv_Ev.steps jv_i177 1 (pc' := 1) (l' := [(0, .int (7 : Int32)), (1, .ref x), (2, .ref w)]) (st' := [.int (7 : Int32)]) rfl ?_
  refine jv_Ev.br jv_i177 (pc' := 123) (st' := []) rfl (by rfl) ?_
  refine jv_Ev.steps jv_i177 2 (pc' := 125) (l' := [(0, .int (7 : Int32)), (1, .ref x), (2, .ref w)]) (st' := [.ref w, .ref x]) rfl ?_
  refine jv_Ev.c jv_i177 (pc' := 128) (S' := [.int (vl_b2 (vb_rNotMore (vl_S L x) (vl_S L w)))]) (G1 := (jv_H K I (vl_set2 L x w (vb_rNotMore (vl_S L x) (vl_S L w))) R)) jv_i184 [.ref x, .ref w] rfl rfl rfl rfl rfl rfl (vl_sayNotMore hx hw h1) rfl rfl ?_
  refine jv_Ev.steps jv_i177 2 (pc' := 165) (l' := [(3, .int (vl_b2 (vb_rNotMore (vl_S L x) (vl_S L w)))), (0, .int (7 : Int32)), (1, .ref x), (2, .ref w)]) (st' := []) rfl ?_
  refine jv_Ev.loc (l := [(1, .ref x), (2, .ref w), (3, .int (vl_b2 (vb_rNotMore (vl_S L x) (vl_S L w))))]) ⟨List.forall_mem_cons.mpr ⟨.tail _ (.tail _ (.head _)), List.forall_mem_cons.mpr ⟨.tail _ (.tail _ (.tail _ (.head _))), List.forall_mem_cons.mpr ⟨.head _, fun _ h => absurd h List.not_mem_nil⟩⟩⟩, by show List.Nodup [3, 0, 1, 2]; decide⟩ ?_
  exact HK
theorem jv_b177_c8 {K : Nat → Option (Nat × Nat)} {I : Nat → Nat → Int32} {L : Nat → Nat → Int64} {R : Nat → Nat → Value} {x w : Nat} (hx : jv_isV K x) (hw : jv_isV K w) (h1 : x ≠ w) {n sl : Nat} {X : jv_R} (HK : (jv_Ev 177 165 [(1, .ref x), (2, .ref w), (3, .int (vl_b2 (vb_rLess (vl_S L w) (vl_S L x))))] [] (jv_H K I (vl_set2 L w x (vb_rLess (vl_S L w) (vl_S L x))) R) n sl X)) : jv_Ev 177 0 [(0, .int (8 : Int32)), (1, .ref x), (2, .ref w)] [] (jv_H K I L R) n sl X := by
  refine jv_Ev.steps jv_i177 1 (pc' := 1) (l' := [(0, .int (8 : Int32)), (1, .ref x), (2, .ref w)]) (st' := [.int (8 : Int32)]) rfl ?_
  refine jv_Ev.br jv_i177 (pc' := 132) (st' := []) rfl (by rfl) ?_
  refine jv_Ev.steps jv_i177 2 (pc' := 134) (l' := [(0, .int (8 : Int32)), (1, .ref x), (2, .ref w)]) (st' := [.ref x, .ref w]) rfl ?_
  refine jv_Ev.c jv_i177 (pc' := 137) (S' := [.int (vl_b2 (vb_rLess (vl_S L w) (vl_S L x)))]) (G1 := (jv_H K I (vl_set2 L w x (vb_rLess (vl_S L w) (vl_S L x))) R)) jv_i183 [.ref w, .ref x] rfl rfl rfl rfl rfl rfl (vl_sayLess hw hx (Ne.symm h1)) rfl rfl ?_
  refine jv_Ev.steps jv_i177 2 (pc' := 165) (l' := [(3, .int (vl_b2 (vb_rLess (vl_S L w) (vl_S L x)))), (0, .int (8 : Int32)), (1, .ref x), (2, .ref w)]) (st' := []) rfl ?_
  refine jv_Ev.loc (l := [(1, .ref x), (2, .ref w), (3, .int (vl_b2 (vb_rLess (vl_S L w) (vl_S L x))))]) ⟨List.forall_mem_cons.mpr ⟨.tail _ (.tail _ (.head _)), List.forall_mem_cons.mpr ⟨.tail _ (.tail _ (.tail _ (.head _))), List.forall_mem_cons.mpr ⟨.head _, fun _ h => absurd h List.not_mem_nil⟩⟩⟩, by show List.Nodup [3, 0, 1, 2]; decide⟩ ?_
  exact HK
theorem jv_b177_c9 {K : Nat → Option (Nat × Nat)} {I : Nat → Nat → Int32} {L : Nat → Nat → Int64} {R : Nat → Nat → Value} {x w : Nat} (hx : jv_isV K x) (hw : jv_isV K w) (h1 : x ≠ w) {n sl : Nat} {X : jv_R} (HK : (jv_Ev 177 165 [(1, .ref x), (2, .ref w), (3, .int (vl_b2 (vb_rNotMore (vl_S L w) (vl_S L x))))] [] (jv_H K I (vl_set2 L w x (vb_rNotMore (vl_S L w) (vl_S L x))) R) n sl X)) : jv_Ev 177 0 [(0, .int (9 : Int32)), (1, .ref x), (2, .ref w)] [] (jv_H K I L R) n sl X := by
  refine jv_Ev.steps jv_i177 1 (pc' := 1) (l' := [(0, .int (9 : Int32)), (1, .ref x), (2, .ref w)]) (st' := [.int (9 : Int32)]) rfl ?_
  refine jv_Ev.br jv_i177 (pc' := 141) (st' := []) rfl (by rfl) ?_
  refine jv_Ev.steps jv_i177 2 (pc' := 143) (l' := [(0, .int (9 : Int32)), (1, .ref x), (2, .ref w)]) (st' := [.ref x, .ref w]) rfl ?_
  refine jv_Ev.c jv_i177 (pc' := 146) (S' := [.int (vl_b2 (vb_rNotMore (vl_S L w) (vl_S L x)))]) (G1 := (jv_H K I (vl_set2 L w x (vb_rNotMore (vl_S L w) (vl_S L x))) R)) jv_i184 [.ref w, .ref x] rfl rfl rfl rfl rfl rfl (vl_sayNotMore hw hx (Ne.symm h1)) rfl rfl ?_
  refine jv_Ev.steps jv_i177 2 (pc' := 165) (l' := [(3, .int (vl_b2 (vb_rNotMore (vl_S L w) (vl_S L x)))), (0, .int (9 : Int32)), (1, .ref x), (2, .ref w)]) (st' := []) rfl ?_
  refine jv_Ev.loc (l := [(1, .ref x), (2, .ref w), (3, .int (vl_b2 (vb_rNotMore (vl_S L w) (vl_S L x))))]) ⟨List.forall_mem_cons.mpr ⟨.tail _ (.tail _ (.head _)), List.forall_mem_cons.mpr ⟨.tail _ (.tail _ (.tail _ (.head _))), List.forall_mem_cons.mpr ⟨.head _, fun _ h => absurd h List.not_mem_nil⟩⟩⟩, by show List.Nodup [3, 0, 1, 2]; decide⟩ ?_
  exact HK
theorem jv_b177_c10 {K : Nat → Option (Nat × Nat)} {I : Nat → Nat → Int32} {L : Nat → Nat → Int64} {R : Nat → Nat → Value} {x w : Nat} (hx : jv_isV K x) (hw : jv_isV K w) (h1 : x ≠ w) {n sl : Nat} {X : jv_R} (HK : (jv_Ev 177 165 [(1, .ref x), (2, .ref w), (3, .int (vl_b2 (vb_rShared (vl_S L x) (vl_S L w))))] [] (jv_H K I (vl_set2 L x w (vb_rShared (vl_S L x) (vl_S L w))) R) n sl X)) : jv_Ev 177 0 [(0, .int (10 : Int32)), (1, .ref x), (2, .ref w)] [] (jv_H K I L R) n sl X := by
  refine jv_Ev.steps jv_i177 1 (pc' := 1) (l' := [(0, .int (10 : Int32)), (1, .ref x), (2, .ref w)]) (st' := [.int (10 : Int32)]) rfl ?_
  refine jv_Ev.br jv_i177 (pc' := 150) (st' := []) rfl (by rfl) ?_
  refine jv_Ev.steps jv_i177 2 (pc' := 152) (l' := [(0, .int (10 : Int32)), (1, .ref x), (2, .ref w)]) (st' := [.ref w, .ref x]) rfl ?_
  refine jv_Ev.c jv_i177 (pc' := 155) (S' := [.int (vl_b2 (vb_rShared (vl_S L x) (vl_S L w)))]) (G1 := (jv_H K I (vl_set2 L x w (vb_rShared (vl_S L x) (vl_S L w))) R)) jv_i185 [.ref x, .ref w] rfl rfl rfl rfl rfl rfl (vl_sayShared hx hw h1) rfl rfl ?_
  refine jv_Ev.steps jv_i177 2 (pc' := 165) (l' := [(3, .int (vl_b2 (vb_rShared (vl_S L x) (vl_S L w)))), (0, .int (10 : Int32)), (1, .ref x), (2, .ref w)]) (st' := []) rfl ?_
  refine jv_Ev.loc (l := [(1, .ref x), (2, .ref w), (3, .int (vl_b2 (vb_rShared (vl_S L x) (vl_S L w))))]) ⟨List.forall_mem_cons.mpr ⟨.tail _ (.tail _ (.head _)), List.forall_mem_cons.mpr ⟨.tail _ (.tail _ (.tail _ (.head _))), List.forall_mem_cons.mpr ⟨.head _, fun _ h => absurd h List.not_mem_nil⟩⟩⟩, by show List.Nodup [3, 0, 1, 2]; decide⟩ ?_
  exact HK
theorem jv_b177_c11 {K : Nat → Option (Nat × Nat)} {I : Nat → Nat → Int32} {L : Nat → Nat → Int64} {R : Nat → Nat → Value} {x w : Nat} (hx : jv_isV K x) (hw : jv_isV K w) (h1 : x ≠ w) {n sl : Nat} {X : jv_R} (HK : (jv_Ev 177 165 [(1, .ref x), (2, .ref w), (3, .int (vl_b2 (vb_rApart (vl_S L x) (vl_S L w))))] [] (jv_H K I (vl_set2 L x w (vb_rApart (vl_S L x) (vl_S L w))) R) n sl X)) : jv_Ev 177 0 [(0, .int (11 : Int32)), (1, .ref x), (2, .ref w)] [] (jv_H K I L R) n sl X := by
  refine jv_Ev.steps jv_i177 1 (pc' := 1) (l' := [(0, .int (11 : Int32)), (1, .ref x), (2, .ref w)]) (st' := [.int (11 : Int32)]) rfl ?_
  refine jv_Ev.br jv_i177 (pc' := 159) (st' := []) rfl (by rfl) ?_
  refine jv_Ev.steps jv_i177 2 (pc' := 161) (l' := [(0, .int (11 : Int32)), (1, .ref x), (2, .ref w)]) (st' := [.ref w, .ref x]) rfl ?_
  refine jv_Ev.c jv_i177 (pc' := 164) (S' := [.int (vl_b2 (vb_rApart (vl_S L x) (vl_S L w)))]) (G1 := (jv_H K I (vl_set2 L x w (vb_rApart (vl_S L x) (vl_S L w))) R)) jv_i186 [.ref x, .ref w] rfl rfl rfl rfl rfl rfl (vl_sayApart hx hw h1) rfl rfl ?_
  refine jv_Ev.steps jv_i177 1 (pc' := 165) (l' := [(3, .int (vl_b2 (vb_rApart (vl_S L x) (vl_S L w)))), (0, .int (11 : Int32)), (1, .ref x), (2, .ref w)]) (st' := []) rfl ?_
  refine jv_Ev.loc (l := [(1, .ref x), (2, .ref w), (3, .int (vl_b2 (vb_rApart (vl_S L x) (vl_S L w))))]) ⟨List.forall_mem_cons.mpr ⟨.tail _ (.tail _ (.head _)), List.forall_mem_cons.mpr ⟨.tail _ (.tail _ (.tail _ (.head _))), List.forall_mem_cons.mpr ⟨.head _, fun _ h => absurd h List.not_mem_nil⟩⟩⟩, by show List.Nodup [3, 0, 1, 2]; decide⟩ ?_
  exact HK
theorem vl_say_c {K : Nat → Option (Nat × Nat)} {I : Nat → Nat → Int32} {L : Nat → Nat → Int64} {R : Nat → Nat → Value} {x w : Nat} (hx : jv_isV K x) (hw : jv_isV K w) (h1 : x ≠ w) (c : Nat) (hc : c ≤ 11) {n sl : Nat} {X : jv_R} (HK : jv_Ev 177 165 [(1, .ref x), (2, .ref w), (3, .int (vl_b2 (vb_say c (vl_S L x) (vl_S L w))))] [] (jv_H K I (vl_set2 L x w (vb_say c (vl_S L x) (vl_S L w))) R) n sl X) : jv_Ev 177 0 [(0, .int (vl_I c)), (1, .ref x), (2, .ref w)] [] (jv_H K I L R) n sl X := by
  match c, hc, HK with
  | 0, _, HK =>
    refine jv_b177_c0 hx hw h1 ?_
    exact HK
  | 1, _, HK =>
    refine jv_b177_c1 hx hw h1 ?_
    exact HK
  | 2, _, HK =>
    refine jv_b177_c2 hx hw h1 ?_
    exact HK
  | 3, _, HK =>
    refine jv_b177_c3 hx hw h1 ?_
    exact HK
  | 4, _, HK =>
    refine jv_b177_c4 hx hw h1 ?_
    rw [vl_set2_swp L h1, vl_b2_swp]
    exact HK
  | 5, _, HK =>
    refine jv_b177_c5 hx hw h1 ?_
    rw [vl_set2_swp L h1, vl_b2_swp]
    exact HK
  | 6, _, HK =>
    refine jv_b177_c6 hx hw h1 ?_
    exact HK
  | 7, _, HK =>
    refine jv_b177_c7 hx hw h1 ?_
    exact HK
  | 8, _, HK =>
    refine jv_b177_c8 hx hw h1 ?_
    rw [vl_set2_swp L h1, vl_b2_swp]
    exact HK
  | 9, _, HK =>
    refine jv_b177_c9 hx hw h1 ?_
    rw [vl_set2_swp L h1, vl_b2_swp]
    exact HK
  | 10, _, HK =>
    refine jv_b177_c10 hx hw h1 ?_
    exact HK
  | 11, _, HK =>
    refine jv_b177_c11 hx hw h1 ?_
    exact HK
  | k + 12, hc, _ => omega
theorem vl_reftail0 {K : Nat → Option (Nat × Nat)} {I : Nat → Nat → Int32} {L : Nat → Nat → Int64} {R : Nat → Nat → Value} {x w : Nat} {n sl : Nat} : jv_Ev 177 165 [(1, .ref x), (2, .ref w), (3, .int 0)] [] (jv_H K I L R) n sl (some (.int 0), jv_H K I L R, n, sl) := by
  refine jv_Ev.steps jv_i177 1 (pc' := 166) (l' := [(1, .ref x), (2, .ref w), (3, .int 0)]) (st' := [.int 0]) rfl ?_
  refine jv_Ev.br jv_i177 (pc' := 187) (st' := []) rfl (by rfl) ?_
  refine jv_Ev.steps jv_i177 1 (pc' := 188) (l' := [(1, .ref x), (2, .ref w), (3, .int 0)]) (st' := [.int 0]) rfl ?_
  exact jv_Ev.ret jv_i177 rfl (jv_ret_b (Or.inl rfl))
theorem vl_reftail1 {K : Nat → Option (Nat × Nat)} {I : Nat → Nat → Int32} {L : Nat → Nat → Int64} {R : Nat → Nat → Value} {x w : Nat} (hx : jv_isV K x) (hw : jv_isV K w) (h1 : x ≠ w) (a b : vb_S) {n sl : Nat} : ∃ L1, jv_Ev 177 165 [(1, .ref x), (2, .ref w), (3, .int 1)] [] (jv_H K I (vl_set (vl_set L x a) w b) R) n sl (some (.int (vr_b (vb_can a && vb_can b))), jv_H K I L1 R, n, sl) ∧ (vb_can a = true ∧ vb_can b = true → L1 = vl_set (vl_set L x (vb_ctight a)) w (vb_ctight b)) ∧ ∀ q i, ¬ (q = x ∧ i < 6) → ¬ (q = w ∧ i < 6) → L1 q i = L q i := by
  have t1 : ∀ n sl, jv_Ms 155 [.ref x] (jv_H K I (vl_set (vl_set L x a) w b) R) n sl (some (.int (vr_b (vb_can a))), jv_H K I (vl_set (vl_set L x (vb_tt a)) w b) R, n, sl) := fun n sl => by
    have H := vl_tight1 (I := I) (L := vl_set (vl_set L x a) w b) (R := R) (n := n) (sl := sl) hx
    have e : vl_set (vl_set (vl_set L x a) w b) x (vb_tt a) = vl_set (vl_set L x (vb_tt a)) w b := by
      rw [vl_set_comm L h1 a b, vl_set_set, vl_set_comm L h1 (vb_tt a) b]
    rw [vl_set_o h1, vl_set_S, e] at H
    exact H
  have t2 : ∀ n sl, jv_Ms 155 [.ref w] (jv_H K I (vl_set (vl_set L x (vb_tt a)) w b) R) n sl (some (.int (vr_b (vb_can b))), jv_H K I (vl_set (vl_set L x (vb_tt a)) w (vb_tt b)) R, n, sl) := fun n sl => by
    have H := vl_tight2 (I := I) (L := vl_set L x (vb_tt a)) (R := R) (v := b) (n := n) (sl := sl) hw
    exact H
  have o1 : ∀ (u v : vb_S) q i, ¬ (q = x ∧ i < 6) → ¬ (q = w ∧ i < 6) → vl_set (vl_set L x u) w v q i = L q i := fun u v q i g1 g2 => by
    rw [vl_set_out g2, vl_set_out g1]
  cases ha : vb_can a
  · refine ⟨vl_set (vl_set L x (vb_tt a)) w b, ?_, fun z => absurd z.1 (by decide), o1 _ _⟩
    rw [Bool.false_and]
    refine jv_Ev.steps jv_i177 1 (pc' := 166) (l' := [(1, .ref x), (2, .ref w), (3, .int 1)]) (st' := [.int 1]) rfl ?_
    refine jv_Ev.br jv_i177 (pc' := 169) (st' := []) rfl (by rfl) ?_
    refine jv_Ev.steps jv_i177 1 (pc' := 170) (l' := [(1, .ref x), (2, .ref w), (3, .int 1)]) (st' := [.ref x]) rfl ?_
    refine jv_Ev.c jv_i177 (pc' := 173) (S' := [.int (vr_b (vb_can a))]) jv_i155 [.ref x] rfl rfl rfl rfl (jv_calV hx rfl rfl) rfl (t1 n sl) rfl rfl ?_
    rw [ha]
    refine jv_Ev.br jv_i177 (pc' := 187) (st' := []) rfl (by rfl) ?_
    refine jv_Ev.steps jv_i177 1 (pc' := 188) (l' := [(1, .ref x), (2, .ref w), (3, .int 1)]) (st' := [.int 0]) rfl ?_
    exact jv_Ev.ret jv_i177 rfl (jv_ret_b (Or.inl rfl))
  · rw [Bool.true_and]
    refine ⟨vl_set (vl_set L x (vb_tt a)) w (vb_tt b), ?_, fun z => ?_, o1 _ _⟩
    · refine jv_Ev.steps jv_i177 1 (pc' := 166) (l' := [(1, .ref x), (2, .ref w), (3, .int 1)]) (st' := [.int 1]) rfl ?_
      refine jv_Ev.br jv_i177 (pc' := 169) (st' := []) rfl (by rfl) ?_
      refine jv_Ev.steps jv_i177 1 (pc' := 170) (l' := [(1, .ref x), (2, .ref w), (3, .int 1)]) (st' := [.ref x]) rfl ?_
      refine jv_Ev.c jv_i177 (pc' := 173) (S' := [.int (vr_b (vb_can a))]) jv_i155 [.ref x] rfl rfl rfl rfl (jv_calV hx rfl rfl) rfl (t1 n sl) rfl rfl ?_
      rw [ha]
      refine jv_Ev.br jv_i177 (pc' := 176) (st' := []) rfl (by rfl) ?_
      refine jv_Ev.steps jv_i177 1 (pc' := 177) (l' := [(1, .ref x), (2, .ref w), (3, .int 1)]) (st' := [.ref w]) rfl ?_
      refine jv_Ev.c jv_i177 (pc' := 180) (S' := [.int (vr_b (vb_can b))]) jv_i155 [.ref w] rfl rfl rfl rfl (jv_calV hw rfl rfl) rfl (t2 n sl) rfl rfl ?_
      cases vb_can b
      · refine jv_Ev.br jv_i177 (pc' := 187) (st' := []) rfl (by rfl) ?_
        refine jv_Ev.steps jv_i177 1 (pc' := 188) (l' := [(1, .ref x), (2, .ref w), (3, .int 1)]) (st' := [.int 0]) rfl ?_
        exact jv_Ev.ret jv_i177 rfl (jv_ret_b (Or.inl rfl))
      · refine jv_Ev.br jv_i177 (pc' := 183) (st' := []) rfl (by rfl) ?_
        refine jv_Ev.steps jv_i177 2 (pc' := 188) (l' := [(1, .ref x), (2, .ref w), (3, .int 1)]) (st' := [.int 1]) rfl ?_
        exact jv_Ev.ret jv_i177 rfl (jv_ret_b (Or.inr rfl))
    · unfold vb_tt
      rw [if_pos ha, if_pos z.2]
theorem vl_refine {K : Nat → Option (Nat × Nat)} {I : Nat → Nat → Int32} {L : Nat → Nat → Int64} {R : Nat → Nat → Value} {x w : Nat} (hx : jv_isV K x) (hw : jv_isV K w) (h1 : x ≠ w) (c : Nat) (hc : c ≤ 11) {n sl : Nat} : ∃ L1, jv_Ms 177 [.int (vl_I c), .ref x, .ref w] (jv_H K I L R) n sl (some (.int (vr_b (vb_refine c (vl_S L x) (vl_S L w)).isSome)), jv_H K I L1 R, n, sl) ∧ (∀ p, vb_refine c (vl_S L x) (vl_S L w) = some p → L1 = vl_set (vl_set L x p.1) w p.2) ∧ ∀ q i, ¬ (q = x ∧ i < 6) → ¬ (q = w ∧ i < 6) → L1 q i = L q i := by
  unfold vb_refine
  cases hs : vb_say c (vl_S L x) (vl_S L w) with
  | none =>
    refine ⟨L, ?_, (fun p h => by cases h), fun _ _ _ _ => rfl⟩
    refine vl_say_c hx hw h1 c hc ?_
    rw [hs]
    exact vl_reftail0
  | some p =>
    obtain ⟨a, b⟩ := p
    obtain ⟨L1, e1, e2, e3⟩ := vl_reftail1 (I := I) (L := L) (R := R) hx hw h1 a b (n := n) (sl := sl)
    refine ⟨L1, ?_, ?_, e3⟩
    · refine vl_say_c hx hw h1 c hc ?_
      rw [hs]
      have er : vr_b (if vb_can a = true ∧ vb_can b = true then some (vb_ctight a, vb_ctight b) else none).isSome = vr_b (vb_can a && vb_can b) := by
        cases vb_can a <;> cases vb_can b <;> rfl
      dsimp only
      rw [er]
      exact e1
    · intro p h
      dsimp only at h
      by_cases z : vb_can a = true ∧ vb_can b = true
      · rw [if_pos z] at h; cases h; exact e2 z
      · rw [if_neg z] at h; cases h