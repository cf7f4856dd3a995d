/-! part 9r: lowest (gen/t9r.py) -/
/-- ProgramBoxModel$Check$Sets.lowest(IZ)I -/
theorem jv_s227 {K : Nat → Option (Nat × Nat)} {I : Nat → Nat → Int32} {L : Nat → Nat → Int64} {R : Nat → Nat → Value} (p : Int32) (zs : Bool) (hW : jv_rW K R) (hx_p : jv_ix p 77200) {n sl : Nat} : jv_Ms 227 [.ref 208, .int p, .int (vr_b zs)] (jv_H K I L R) n sl (some (.int (vl_I (vb_tr (vr_lowz (vr_S L p.toNatClampNeg) zs)))), jv_H K I L R, n, sl) := by
  show jv_Ev 227 0 [(0, .ref 208), (1, .int p), (2, .int (vr_b zs))] [] (jv_H K I L R) n sl _
  refine jv_Ev.steps jv_i227 2 (pc' := 2) (l' := [(3, .int (0 : Int32)), (0, .ref 208), (1, .int p), (2, .int (vr_b zs))]) (st' := []) rfl ?_
  refine jv_Ev.loc (l := [(0, .ref 208), (1, .int p), (2, .int (vr_b zs)), (3, .int (0 : Int32))]) ⟨List.forall_mem_cons.mpr ⟨.tail _ (.head _), List.forall_mem_cons.mpr ⟨.tail _ (.tail _ (.head _)), List.forall_mem_cons.mpr ⟨.tail _ (.tail _ (.tail _ (.head _))), List.forall_mem_cons.mpr ⟨.head _, fun _ h => absurd h List.not_mem_nil⟩⟩⟩⟩, by show List.Nodup [3, 0, 1, 2]; decide⟩ (vr_lowl p zs hW hx_p 64 0 rfl ?_)
  refine jv_Ev.steps jv_i227 1 (pc' := 49) (l' := [(0, .ref 208), (1, .int p), (2, .int (vr_b zs)), (3, .int (vl_I (vb_tr (vr_lowz (vr_S L p.toNatClampNeg) zs))))]) (st' := [.int (vl_I (vb_tr (vr_lowz (vr_S L p.toNatClampNeg) zs)))]) rfl ?_
  exact jv_Ev.ret jv_i227 rfl rfl
