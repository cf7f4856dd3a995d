/-! part 9p: turns of lowest and swapped (gen/t9p.py) -/
theorem jv_i227 : jv_I 227 4 (some .int) 0 0 jv_c227 := ⟨rfl, rfl, rfl, rfl, rfl⟩
/-- a turn of ProgramBoxModel$Check$Sets.lowest(IZ)I at 2 -/
theorem jv_b227_2 {K : Nat → Option (Nat × Nat)} {I : Nat → Nat → Int32} {L : Nat → Nat → Int64} {R : Nat → Nat → Value} (p zs nn : Int32) (hW : jv_rW K R) (hx_p : jv_ix p 77200)  {n sl : Nat} {X : jv_R} (HK : (if ((64 : Int32) ≤ nn) then (jv_Ev 227 48 [(0, .ref 208), (1, .int p), (2, .int zs), (3, .int nn)] [] (jv_H K I L R) n sl X) else (if (¬ ((((L 210 p.toNatClampNeg).toUInt64 >>> (nn.toInt64.toUInt64 &&& Int64.toUInt64 63)).toInt64) &&& (1 : Int64)) = (0 : Int64)) then (jv_Ev 227 48 [(0, .ref 208), (1, .int p), (2, .int zs), (3, .int nn)] [] (jv_H K I L R) n sl X) else (if (zs = 0) then (jv_Ev 227 2 [(0, .ref 208), (1, .int p), (2, .int zs), (3, .int (nn + Int32.ofInt 1))] [] (jv_H K I L R) n sl X) else (if (¬ ((((L 209 p.toNatClampNeg).toUInt64 >>> (nn.toInt64.toUInt64 &&& Int64.toUInt64 63)).toInt64) &&& (1 : Int64)) = (0 : Int64)) then (jv_Ev 227 48 [(0, .ref 208), (1, .int p), (2, .int zs), (3, .int nn)] [] (jv_H K I L R) n sl X) else (jv_Ev 227 2 [(0, .ref 208), (1, .int p), (2, .int zs), (3, .int (nn + Int32.ofInt 1))] [] (jv_H K I L R) n sl X)))))) : jv_Ev 227 2 [(0, .ref 208), (1, .int p), (2, .int zs), (3, .int nn)] [] (jv_H K I L R) n sl X := by
  refine jv_Ev.steps jv_i227 2 (pc' := 5) (l' := [(0, .ref 208), (1, .int p), (2, .int zs), (3, .int nn)]) (st' := [.int (64 : Int32), .int nn]) rfl ?_
  refine jv_Ev.cnd jv_i227 (pt := 48) (pe := 8) (p := ((64 : Int32) ≤ nn)) (q := ((64 : Int32) ≤ nn)) rfl jv_bc_ge rfl rfl Iff.rfl (fun h1 => ?_) (fun h1 => ?_)
  · rw [if_pos h1] at HK
    exact HK
  · rw [if_neg h1] at HK
    refine jv_Ev.steps jv_i227 1 (pc' := 9) (l' := [(0, .ref 208), (1, .int p), (2, .int zs), (3, .int nn)]) (st' := [.ref 208]) rfl ?_
    refine jv_Ev.m jv_i227 (pc' := 12) (st' := [.ref 210]) (G' := (jv_H K I L R)) rfl rfl (jv_m_getR (jv_rwK hW 208 11 7 (by decide)) rfl rfl (jv_rwR hW 208 1 210 (by decide))) ?_
    refine jv_Ev.steps jv_i227 1 (pc' := 13) (l' := [(0, .ref 208), (1, .int p), (2, .int zs), (3, .int nn)]) (st' := [.int p, .ref 210]) rfl ?_
    refine jv_Ev.m jv_i227 (pc' := 14) (st' := [.long (L 210 p.toNatClampNeg)]) (G' := (jv_H K I L R)) rfl rfl (jv_m_laldv (jv_rwK hW 210 103 77200 (by decide)) rfl hx_p rfl rfl) ?_
    refine jv_Ev.steps jv_i227 6 (pc' := 20) (l' := [(0, .ref 208), (1, .int p), (2, .int zs), (3, .int nn)]) (st' := [.int (lg_cmp ((((L 210 p.toNatClampNeg).toUInt64 >>> (nn.toInt64.toUInt64 &&& Int64.toUInt64 63)).toInt64) &&& (1 : Int64)) (0 : Int64))]) rfl ?_
    refine jv_Ev.cnd jv_i227 (pt := 48) (pe := 23) (p := (¬ (lg_cmp ((((L 210 p.toNatClampNeg).toUInt64 >>> (nn.toInt64.toUInt64 &&& Int64.toUInt64 63)).toInt64) &&& (1 : Int64)) (0 : Int64)) = 0)) (q := (¬ ((((L 210 p.toNatClampNeg).toUInt64 >>> (nn.toInt64.toUInt64 &&& Int64.toUInt64 63)).toInt64) &&& (1 : Int64)) = (0 : Int64))) rfl jv_bi_ne rfl rfl (not_congr (lg_cmp_eq ((((L 210 p.toNatClampNeg).toUInt64 >>> (nn.toInt64.toUInt64 &&& Int64.toUInt64 63)).toInt64) &&& (1 : Int64)) (0 : Int64))) (fun h2 => ?_) (fun h2 => ?_)
    · rw [if_pos h2] at HK
      exact HK
    · rw [if_neg h2] at HK
      refine jv_Ev.steps jv_i227 1 (pc' := 24) (l' := [(0, .ref 208), (1, .int p), (2, .int zs), (3, .int nn)]) (st' := [.int zs]) rfl ?_
      refine jv_Ev.cnd jv_i227 (pt := 42) (pe := 27) (p := (zs = 0)) (q := (zs = 0)) rfl jv_bi_eq rfl rfl Iff.rfl (fun h3 => ?_) (fun h3 => ?_)
      · rw [if_pos h3] at HK
        refine jv_Ev.steps jv_i227 2 (pc' := 2) (l' := [(3, .int (nn + Int32.ofInt 1)), (0, .ref 208), (1, .int p), (2, .int zs)]) (st' := []) rfl ?_
        refine jv_Ev.loc (l := [(0, .ref 208), (1, .int p), (2, .int zs), (3, .int (nn + Int32.ofInt 1))]) ⟨List.forall_mem_cons.mpr ⟨.tail _ (.head _), List.forall_mem_cons.mpr ⟨.tail _ (.tail _ (.head _)), List.forall_mem_cons.mpr ⟨.tail _ (.tail _ (.tail _ (.head _))), List.forall_mem_cons.mpr ⟨.head _, fun _ h => absurd h List.not_mem_nil⟩⟩⟩⟩, by show List.Nodup [3, 0, 1, 2]; decide⟩ ?_
        exact HK
      · rw [if_neg h3] at HK
        refine jv_Ev.steps jv_i227 1 (pc' := 28) (l' := [(0, .ref 208), (1, .int p), (2, .int zs), (3, .int nn)]) (st' := [.ref 208]) rfl ?_
        refine jv_Ev.m jv_i227 (pc' := 31) (st' := [.ref 209]) (G' := (jv_H K I L R)) rfl rfl (jv_m_getR (jv_rwK hW 208 11 7 (by decide)) rfl rfl (jv_rwR hW 208 0 209 (by decide))) ?_
        refine jv_Ev.steps jv_i227 1 (pc' := 32) (l' := [(0, .ref 208), (1, .int p), (2, .int zs), (3, .int nn)]) (st' := [.int p, .ref 209]) rfl ?_
        refine jv_Ev.m jv_i227 (pc' := 33) (st' := [.long (L 209 p.toNatClampNeg)]) (G' := (jv_H K I L R)) rfl rfl (jv_m_laldv (jv_rwK hW 209 103 77200 (by decide)) rfl hx_p rfl rfl) ?_
        refine jv_Ev.steps jv_i227 6 (pc' := 39) (l' := [(0, .ref 208), (1, .int p), (2, .int zs), (3, .int nn)]) (st' := [.int (lg_cmp ((((L 209 p.toNatClampNeg).toUInt64 >>> (nn.toInt64.toUInt64 &&& Int64.toUInt64 63)).toInt64) &&& (1 : Int64)) (0 : Int64))]) rfl ?_
        refine jv_Ev.cnd jv_i227 (pt := 48) (pe := 42) (p := (¬ (lg_cmp ((((L 209 p.toNatClampNeg).toUInt64 >>> (nn.toInt64.toUInt64 &&& Int64.toUInt64 63)).toInt64) &&& (1 : Int64)) (0 : Int64)) = 0)) (q := (¬ ((((L 209 p.toNatClampNeg).toUInt64 >>> (nn.toInt64.toUInt64 &&& Int64.toUInt64 63)).toInt64) &&& (1 : Int64)) = (0 : Int64))) rfl jv_bi_ne rfl rfl (not_congr (lg_cmp_eq ((((L 209 p.toNatClampNeg).toUInt64 >>> (nn.toInt64.toUInt64 &&& Int64.toUInt64 63)).toInt64) &&& (1 : Int64)) (0 : Int64))) (fun h4 => ?_) (fun h4 => ?_)
        · rw [if_pos h4] at HK
          exact HK
        · rw [if_neg h4] at HK
          refine jv_Ev.steps jv_i227 2 (pc' := 2) (l' := [(3, .int (nn + Int32.ofInt 1)), (0, .ref 208), (1, .int p), (2, .int zs)]) (st' := []) rfl ?_
          refine jv_Ev.loc (l := [(0, .ref 208), (1, .int p), (2, .int zs), (3, .int (nn + Int32.ofInt 1))]) ⟨List.forall_mem_cons.mpr ⟨.tail _ (.head _), List.forall_mem_cons.mpr ⟨.tail _ (.tail _ (.head _)), List.forall_mem_cons.mpr ⟨.tail _ (.tail _ (.tail _ (.head _))), List.forall_mem_cons.mpr ⟨.head _, fun _ h => absurd h List.not_mem_nil⟩⟩⟩⟩, by show List.Nodup [3, 0, 1, 2]; decide⟩ ?_
          exact HK

theorem jv_i221 : jv_I 221 6 (some .long) 0 0 jv_c221 := ⟨rfl, rfl, rfl, rfl, rfl⟩
/-- a turn of ProgramBoxModel$Check$Sets.swapped(JI)J at 5 -/
theorem jv_b221_5 {G : jv_G} (v : Int64) (nb : Int32) (o : Int64) (k : Int32)  (v1 : Int64) (hv1 : v1 = ((o <<< ((8 : Int32).toInt64 &&& 63)) ||| (((v.toUInt64 >>> (k.toInt64.toUInt64 &&& Int64.toUInt64 63)).toInt64) &&& (255 : Int64)))) {n sl : Nat} {X : jv_R} (HK : (if (nb ≤ k) then (jv_Ev 221 31 [(0, .long v), (2, .int nb), (3, .long o), (5, .int k)] [] G n sl X) else (jv_Ev 221 5 [(0, .long v), (2, .int nb), (3, .long v1), (5, .int (k + Int32.ofInt 8))] [] G n sl X))) : jv_Ev 221 5 [(0, .long v), (2, .int nb), (3, .long o), (5, .int k)] [] G n sl X := by
  refine jv_Ev.steps jv_i221 2 (pc' := 8) (l' := [(0, .long v), (2, .int nb), (3, .long o), (5, .int k)]) (st' := [.int nb, .int k]) rfl ?_
  refine jv_Ev.cnd jv_i221 (pt := 31) (pe := 11) (p := (nb ≤ k)) (q := (nb ≤ k)) rfl jv_bc_ge rfl rfl Iff.rfl (fun h1 => ?_) (fun h1 => ?_)
  · rw [if_pos h1] at HK
    exact HK
  · rw [if_neg h1] at HK
    refine jv_Ev.steps jv_i221 12 (pc' := 5) (l' := [(5, .int (k + Int32.ofInt 8)), (3, .long v1), (0, .long v), (2, .int nb)]) (st' := []) (by rw [hv1] <;> rfl) ?_
    refine jv_Ev.loc (l := [(0, .long v), (2, .int nb), (3, .long v1), (5, .int (k + Int32.ofInt 8))]) ⟨List.forall_mem_cons.mpr ⟨.tail _ (.tail _ (.head _)), List.forall_mem_cons.mpr ⟨.tail _ (.tail _ (.tail _ (.head _))), List.forall_mem_cons.mpr ⟨.tail _ (.head _), List.forall_mem_cons.mpr ⟨.head _, fun _ h => absurd h List.not_mem_nil⟩⟩⟩⟩, by show List.Nodup [5, 3, 0, 2]; decide⟩ ?_
    exact HK
