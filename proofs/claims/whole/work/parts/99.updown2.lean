/-! part 99: upFrom, downFrom (gen/t99.py) -/
/-- ProgramBoxModel$Check$Sets.upFrom(JJJ)J -/
theorem jv_s210 {G : jv_G} (v : Int64) (u : Int64) (b : Int64)  (v1 : Int64) (hv1 : v1 = (Int64.ofBitVec (vb_upL 64 v.toBitVec u.toBitVec b.toBitVec))) {n sl : Nat} : jv_Ms 210 [.long v, .long u, .long b] G n sl (some (.long v1), G, n, sl) := by
  show jv_Ev 210 0 [(0, .long v), (2, .long u), (4, .long b)] [] G n sl _
  refine jv_Ev.steps jv_i210 6 (pc' := 10) (l' := [(10, .int (63 : Int32)), (8, .long u), (6, .long v), (0, .long v), (2, .long u), (4, .long b)]) (st' := []) rfl ?_
  refine jv_Ev.loc (l := [(0, .long v), (2, .long u), (4, .long b), (6, .long v), (8, .long u), (10, .int (63 : Int32))]) ⟨List.forall_mem_cons.mpr ⟨.tail _ (.tail _ (.tail _ (.head _))), List.forall_mem_cons.mpr ⟨.tail _ (.tail _ (.tail _ (.tail _ (.head _)))), List.forall_mem_cons.mpr ⟨.tail _ (.tail _ (.tail _ (.tail _ (.tail _ (.head _))))), List.forall_mem_cons.mpr ⟨.tail _ (.tail _ (.head _)), List.forall_mem_cons.mpr ⟨.tail _ (.head _), List.forall_mem_cons.mpr ⟨.head _, fun _ h => absurd h List.not_mem_nil⟩⟩⟩⟩⟩⟩, by show List.Nodup [10, 8, 6, 0, 2, 4]; decide⟩ (vr_up v u b 64 (by decide) v u (fun le' => ?_))
  refine jv_Ev.steps jv_i210 1 (pc' := 75) (l' := [(0, .long v), (2, .long u), (4, .long b), (6, .long v1), (8, .long le'), (10, .int (vr_kk 0))]) (st' := [.long v1]) (by rw [hv1] <;> rfl) ?_
  exact jv_Ev.ret jv_i210 rfl rfl

/-- ProgramBoxModel$Check$Sets.downFrom(JJJ)J -/
theorem jv_s211 {G : jv_G} (v : Int64) (u : Int64) (b : Int64)  (v1 : Int64) (hv1 : v1 = (Int64.ofBitVec (vb_downL 64 (v ||| u).toBitVec u.toBitVec b.toBitVec))) {n sl : Nat} : jv_Ms 211 [.long v, .long u, .long b] G n sl (some (.long v1), G, n, sl) := by
  show jv_Ev 211 0 [(0, .long v), (2, .long u), (4, .long b)] [] G n sl _
  refine jv_Ev.steps jv_i211 8 (pc' := 12) (l' := [(10, .int (63 : Int32)), (8, .long u), (6, .long (v ||| u)), (0, .long v), (2, .long u), (4, .long b)]) (st' := []) rfl ?_
  refine jv_Ev.loc (l := [(0, .long v), (2, .long u), (4, .long b), (6, .long (v ||| u)), (8, .long u), (10, .int (63 : Int32))]) ⟨List.forall_mem_cons.mpr ⟨.tail _ (.tail _ (.tail _ (.head _))), List.forall_mem_cons.mpr ⟨.tail _ (.tail _ (.tail _ (.tail _ (.head _)))), List.forall_mem_cons.mpr ⟨.tail _ (.tail _ (.tail _ (.tail _ (.tail _ (.head _))))), List.forall_mem_cons.mpr ⟨.tail _ (.tail _ (.head _)), List.forall_mem_cons.mpr ⟨.tail _ (.head _), List.forall_mem_cons.mpr ⟨.head _, fun _ h => absurd h List.not_mem_nil⟩⟩⟩⟩⟩⟩, by show List.Nodup [10, 8, 6, 0, 2, 4]; decide⟩ (vr_down v u b 64 (by decide) (v ||| u) u (fun le' => ?_))
  refine jv_Ev.steps jv_i211 1 (pc' := 85) (l' := [(0, .long v), (2, .long u), (4, .long b), (6, .long v1), (8, .long le'), (10, .int (vr_kk 0))]) (st' := [.long v1]) (by rw [hv1] <;> rfl) ?_
  exact jv_Ev.ret jv_i211 rfl rfl
