/-! part 9t: swapped; a turn of turned (gen/t9t.py) -/
theorem jv_i9 : jv_I 9 6 (some .long) 0 0 jv_c9 := ⟨rfl, rfl, rfl, rfl, rfl⟩
/-- a turn of ProgramBox$Bits.turned(JI)J at 5 -/
theorem jv_b9_5 {G : jv_G} (v : Int64) (nb : Int32) (o : Int64) (k : Int32)  (v1 : Int64) (hv1 : v1 = ((o <<< ((8 : Int32).toInt64 &&& 63)) ||| (((v.toUInt64 >>> (k.toInt64.toUInt64 &&& Int64.toUInt64 63)).toInt64) &&& (255 : Int64)))) {n sl : Nat} {X : jv_R} (HK : (if (nb ≤ k) then (jv_Ev 9 38 [(0, .long v), (2, .int nb), (3, .long o), (5, .int k)] [] G n sl X) else (if ((64 : Int32) ≤ k) then (jv_Ev 9 38 [(0, .long v), (2, .int nb), (3, .long o), (5, .int k)] [] G n sl X) else (jv_Ev 9 5 [(0, .long v), (2, .int nb), (3, .long v1), (5, .int (k + Int32.ofInt 8))] [] G n sl X)))) : jv_Ev 9 5 [(0, .long v), (2, .int nb), (3, .long o), (5, .int k)] [] G n sl X := by
  refine jv_Ev.steps jv_i9 2 (pc' := 8) (l' := [(0, .long v), (2, .int nb), (3, .long o), (5, .int k)]) (st' := [.int nb, .int k]) rfl ?_
  refine jv_Ev.cnd jv_i9 (pt := 38) (pe := 11) (p := (nb ≤ k)) (q := (nb ≤ k)) rfl jv_bc_ge rfl rfl Iff.rfl (fun h1 => ?_) (fun h1 => ?_)
  · rw [if_pos h1] at HK
    exact HK
  · rw [if_neg h1] at HK
    refine jv_Ev.steps jv_i9 2 (pc' := 15) (l' := [(0, .long v), (2, .int nb), (3, .long o), (5, .int k)]) (st' := [.int (64 : Int32), .int k]) rfl ?_
    refine jv_Ev.cnd jv_i9 (pt := 38) (pe := 18) (p := ((64 : Int32) ≤ k)) (q := ((64 : Int32) ≤ k)) rfl jv_bc_ge rfl rfl Iff.rfl (fun h2 => ?_) (fun h2 => ?_)
    · rw [if_pos h2] at HK
      exact HK
    · rw [if_neg h2] at HK
      refine jv_Ev.steps jv_i9 12 (pc' := 5) (l' := [(5, .int (k + Int32.ofInt 8)), (3, .long v1), (0, .long v), (2, .int nb)]) (st' := []) (by rw [hv1] <;> rfl) ?_
      refine jv_Ev.loc (l := [(0, .long v), (2, .int nb), (3, .long v1), (5, .int (k + Int32.ofInt 8))]) ⟨List.forall_mem_cons.mpr ⟨.tail _ (.tail _ (.head _)), List.forall_mem_cons.mpr ⟨.tail _ (.tail _ (.tail _ (.head _))), List.forall_mem_cons.mpr ⟨.tail _ (.head _), List.forall_mem_cons.mpr ⟨.head _, fun _ h => absurd h List.not_mem_nil⟩⟩⟩⟩, by show List.Nodup [5, 3, 0, 2]; decide⟩ ?_
      exact HK
