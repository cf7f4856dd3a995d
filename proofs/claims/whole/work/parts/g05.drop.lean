/-! part g05: a key is taken out of a table; the key behind (gen/tg05.py) -/
/-- an entry is taken out of its chain -/
theorem vk_cut {N : Nat → Int32} {en p e : Nat} {r : List Nat} : ∀ (l1 : List Nat) (h : Int32), vk_ch N en h (l1 ++ p :: e :: r) → (l1 ++ p :: e :: r).Nodup → vk_ch (fun i => if i = p then N e else N i) en h (l1 ++ p :: r)
  | [], h, c, d => by
    obtain ⟨c1, c2, c3, c4, c5⟩ := c
    refine ⟨c1, c2, ?_⟩
    have d := List.nodup_cons.mp d
    have np : p ∉ r := fun z => d.1 (List.mem_cons_of_mem _ z)
    show vk_ch _ en (if p = p then N e else N p) r
    rw [if_pos rfl]
    exact vk_ch_eq (N := N) r (N e) (fun x hx => by
      show (if x = p then N e else N x) = N x
      exact if_neg (fun z => np (by rw [← z]; exact hx))) c5
  | x :: s, h, c, d => by
    obtain ⟨c1, c2, c3⟩ := c
    have d := List.nodup_cons.mp d
    have nx : x ≠ p := fun z => d.1 (z ▸ List.mem_append_right _ List.mem_cons_self)
    refine ⟨c1, c2, ?_⟩
    show vk_ch _ en (if x = p then N e else N x) (s ++ p :: r)
    rw [if_neg nx]
    exact vk_cut s (N x) c3 d.2
theorem vk_cut_mem {l1 r : List Nat} {p e x : Nat} (d : (l1 ++ p :: e :: r).Nodup) : (l1 ++ p :: r).Nodup ∧ (x ∈ l1 ++ p :: r ↔ x ∈ l1 ++ p :: e :: r ∧ x ≠ e) := by
  have d2 := List.nodup_append.mp d
  have d3 := List.nodup_cons.mp d2.2.1
  have d4 := List.nodup_cons.mp d3.2
  refine ⟨List.nodup_append.mpr ⟨d2.1, List.nodup_cons.mpr ⟨fun z => d3.1 (List.mem_cons_of_mem _ z), d4.2⟩, fun a ha b hb => d2.2.2 a ha b (by
    rcases List.mem_cons.mp hb with z | z
    · rw [z]; exact List.mem_cons_self
    · exact List.mem_cons_of_mem _ (List.mem_cons_of_mem _ z))⟩, ?_⟩
  constructor
  · intro h
    rcases List.mem_append.mp h with z | z
    · exact ⟨List.mem_append_left _ z, d2.2.2 x z e (List.mem_cons_of_mem _ List.mem_cons_self)⟩
    · rcases List.mem_cons.mp z with z | z
      · exact ⟨List.mem_append_right _ (z ▸ List.mem_cons_self), fun y => d3.1 ((z ▸ y) ▸ List.mem_cons_self)⟩
      · exact ⟨List.mem_append_right _ (List.mem_cons_of_mem _ (List.mem_cons_of_mem _ z)), fun y => d4.1 (y ▸ z)⟩
  · intro h
    rcases List.mem_append.mp h.1 with z | z
    · exact List.mem_append_left _ z
    · rcases List.mem_cons.mp z with z | z
      · exact List.mem_append_right _ (z ▸ List.mem_cons_self)
      · rcases List.mem_cons.mp z with z | z
        · exact absurd z h.2
        · exact List.mem_append_right _ (List.mem_cons_of_mem _ z)
/-- what unchain makes: the chain l of c without e -/
def vk_U (I I1 : Nat → Nat → Int32) (o en c e : Nat) (l : List Nat) : Prop := (∀ q i, q ≠ o + 3 → q ≠ o + 4 → I1 q i = I q i) ∧ (∀ i, i ≠ c → I1 (o + 3) i = I (o + 3) i) ∧ (∀ x, x ∉ l → I1 (o + 4) x = I (o + 4) x) ∧ ∃ l', vk_ch (I1 (o + 4)) en (I1 (o + 3) c) l' ∧ l'.Nodup ∧ ∀ x, x ∈ l' ↔ x ∈ l ∧ x ≠ e
theorem jv_i137 : jv_I 137 5 none 0 0 jv_c137 := ⟨rfl, rfl, rfl, rfl, rfl⟩
theorem vk_unc_0 {K : Nat → Option (Nat × Nat)} {I : Nat → Nat → Int32} {L : Nat → Nat → Int64} {R : Nat → Nat → Value} {o ks en ch e c : Nat} (hT : vk_TW K R o ks en ch) (e3 : I o 3 = vl_I en) (he : e < en) (hc : c < ch) {n sl : Nat} {Q : jv_R → Prop} (hA : I (o + 3) c = vl_I e + 1 → Q (none, jv_H K (jv_u I (o + 3) c (I (o + 4) e)) L R, n, sl)) (hN : ¬ I (o + 3) c = vl_I e + 1 → jv_Wp 137 35 [(0, .ref o), (1, .int (vl_I e)), (2, .int (vl_I c)), (3, .int (I (o + 3) c)), (4, .int (0 : Int32))] [] (jv_H K I L R) n sl Q) : jv_Wp 137 0 [(0, .ref o), (1, .int (vl_I e)), (2, .int (vl_I c))] [] (jv_H K I L R) n sl Q := by
  obtain ⟨hK0, hK1, hK2, hK3, hK4, hR7, hR8, hR9, hR10, hks, hen, hch⟩ := id hT
  refine jv_Wp.lift (fun _ Kz => jv_Ev.steps jv_i137 1 (pc' := 1) (l' := [(0, .ref o), (1, .int (vl_I e)), (2, .int (vl_I c))]) (st' := [.ref o]) rfl Kz) ?_
  refine jv_Wp.lift (fun _ Kz => jv_Ev.m jv_i137 (pc' := 4) (st' := [.ref (o + 3)]) (G' := (jv_H K I L R)) rfl rfl (jv_m_getR hK0 rfl rfl hR9) Kz) ?_
  refine jv_Wp.lift (fun _ Kz => jv_Ev.steps jv_i137 1 (pc' := 5) (l' := [(0, .ref o), (1, .int (vl_I e)), (2, .int (vl_I c))]) (st' := [.int (vl_I c), .ref (o + 3)]) rfl Kz) ?_
  refine jv_Wp.lift (fun _ Kz => jv_Ev.m jv_i137 (pc' := 6) (st' := [.int (I (o + 3) c)]) (G' := (jv_H K I L R)) rfl rfl (jv_m_ialdv hK3 rfl (vl_I_ix hc (by omega)) rfl ((congrArg (I (o + 3)) (vl_I_nat (by omega))).trans rfl)) Kz) ?_
  refine jv_Wp.lift (fun _ Kz => jv_Ev.steps jv_i137 3 (pc' := 9) (l' := [(0, .ref o), (1, .int (vl_I e)), (2, .int (vl_I c))]) (st' := [.int ((vl_I e) + (1 : Int32)), .int (I (o + 3) c)]) rfl Kz) ?_
  refine jv_Wp.cnd jv_i137 (pt := 25) (pe := 12) (p := (¬ (I (o + 3) c) = ((vl_I e) + (1 : Int32)))) (q := (¬ (I (o + 3) c) = ((vl_I e) + (1 : Int32)))) rfl jv_bc_ne rfl rfl Iff.rfl (fun h1 => ?_) (fun h1 => ?_)
  · refine jv_Wp.lift (fun _ Kz => jv_Ev.steps jv_i137 1 (pc' := 26) (l' := [(0, .ref o), (1, .int (vl_I e)), (2, .int (vl_I c))]) (st' := [.ref o]) rfl Kz) ?_
    refine jv_Wp.lift (fun _ Kz => jv_Ev.m jv_i137 (pc' := 29) (st' := [.ref (o + 3)]) (G' := (jv_H K I L R)) rfl rfl (jv_m_getR hK0 rfl rfl hR9) Kz) ?_
    refine jv_Wp.lift (fun _ Kz => jv_Ev.steps jv_i137 1 (pc' := 30) (l' := [(0, .ref o), (1, .int (vl_I e)), (2, .int (vl_I c))]) (st' := [.int (vl_I c), .ref (o + 3)]) rfl Kz) ?_
    refine jv_Wp.lift (fun _ Kz => jv_Ev.m jv_i137 (pc' := 31) (st' := [.int (I (o + 3) c)]) (G' := (jv_H K I L R)) rfl rfl (jv_m_ialdv hK3 rfl (vl_I_ix hc (by omega)) rfl ((congrArg (I (o + 3)) (vl_I_nat (by omega))).trans rfl)) Kz) ?_
    refine jv_Wp.lift (fun _ Kz => jv_Ev.steps jv_i137 3 (pc' := 35) (l' := [(4, .int (0 : Int32)), (3, .int (I (o + 3) c)), (0, .ref o), (1, .int (vl_I e)), (2, .int (vl_I c))]) (st' := []) rfl Kz) ?_
    refine jv_Wp.loc (l := [(0, .ref o), (1, .int (vl_I e)), (2, .int (vl_I c)), (3, .int (I (o + 3) c)), (4, .int (0 : Int32))]) ⟨List.forall_mem_cons.mpr ⟨.tail _ (.tail _ (.head _)), List.forall_mem_cons.mpr ⟨.tail _ (.tail _ (.tail _ (.head _))), List.forall_mem_cons.mpr ⟨.tail _ (.tail _ (.tail _ (.tail _ (.head _)))), List.forall_mem_cons.mpr ⟨.tail _ (.head _), List.forall_mem_cons.mpr ⟨.head _, fun _ h => absurd h List.not_mem_nil⟩⟩⟩⟩⟩, by show List.Nodup [4, 3, 0, 1, 2]; decide⟩ ?_
    exact hN h1
  · refine jv_Wp.lift (fun _ Kz => jv_Ev.steps jv_i137 1 (pc' := 13) (l' := [(0, .ref o), (1, .int (vl_I e)), (2, .int (vl_I c))]) (st' := [.ref o]) rfl Kz) ?_
    refine jv_Wp.lift (fun _ Kz => jv_Ev.m jv_i137 (pc' := 16) (st' := [.ref (o + 3)]) (G' := (jv_H K I L R)) rfl rfl (jv_m_getR hK0 rfl rfl hR9) Kz) ?_
    refine jv_Wp.lift (fun _ Kz => jv_Ev.steps jv_i137 2 (pc' := 18) (l' := [(0, .ref o), (1, .int (vl_I e)), (2, .int (vl_I c))]) (st' := [.ref o, .int (vl_I c), .ref (o + 3)]) rfl Kz) ?_
    refine jv_Wp.lift (fun _ Kz => jv_Ev.m jv_i137 (pc' := 21) (st' := [.ref (o + 4), .int (vl_I c), .ref (o + 3)]) (G' := (jv_H K I L R)) rfl rfl (jv_m_getR hK0 rfl rfl hR10) Kz) ?_
    refine jv_Wp.lift (fun _ Kz => jv_Ev.steps jv_i137 1 (pc' := 22) (l' := [(0, .ref o), (1, .int (vl_I e)), (2, .int (vl_I c))]) (st' := [.int (vl_I e), .ref (o + 4), .int (vl_I c), .ref (o + 3)]) rfl Kz) ?_
    refine jv_Wp.lift (fun _ Kz => jv_Ev.m jv_i137 (pc' := 23) (st' := [.int (I (o + 4) e), .int (vl_I c), .ref (o + 3)]) (G' := (jv_H K I L R)) rfl rfl (jv_m_ialdv hK4 rfl (vl_I_ix (by omega) (by first | omega | decide)) rfl ((congrArg (I (o + 4)) (vl_I_nat (by omega))).trans rfl)) Kz) ?_
    refine jv_Wp.lift (fun _ Kz => jv_Ev.m jv_i137 (pc' := 24) (st' := []) (G' := (jv_H K (jv_u I (o + 3) c (I (o + 4) e)) L R)) rfl rfl (by rw [jv_m_iast hK3 (vl_I_ix hc (by omega)), (vl_I_nat (by omega))]) Kz) ?_
    refine jv_Wp.of (jv_Ev.ret jv_i137 rfl rfl) ?_
    exact hA (Classical.not_not.mp h1)
theorem vk_unc_t {K : Nat → Option (Nat × Nat)} {I : Nat → Nat → Int32} {L : Nat → Nat → Int64} {R : Nat → Nat → Value} {o ks en ch e c : Nat} (hT : vk_TW K R o ks en ch) (e3 : I o 3 = vl_I en) (he : e < en) (hc : c < ch) {n sl : Nat} {Q : jv_R → Prop} {i p : Nat} {lk : Int32} (hp : p < en) (hi : i < en) (hlk : lk - (1 : Int32) = vl_I p) (hl0 : ¬ lk = 0) (hno : ¬ I (o + 4) p = vl_I e + 1 → jv_Wp 137 35 [(0, .ref o), (1, .int (vl_I e)), (2, .int (vl_I c)), (3, .int (I (o + 4) p)), (4, .int (vl_I (i + 1)))] [] (jv_H K I L R) n sl Q) (hyes : I (o + 4) p = vl_I e + 1 → Q (none, jv_H K (jv_u I (o + 4) p (I (o + 4) e)) L R, n, sl)) : jv_Wp 137 35 [(0, .ref o), (1, .int (vl_I e)), (2, .int (vl_I c)), (3, .int lk), (4, .int (vl_I i))] [] (jv_H K I L R) n sl Q := by
  obtain ⟨hK0, hK1, hK2, hK3, hK4, hR7, hR8, hR9, hR10, hks, hen, hch⟩ := id hT
  refine jv_Wp.lift (fun _ Kz => jv_Ev.steps jv_i137 2 (pc' := 38) (l' := [(0, .ref o), (1, .int (vl_I e)), (2, .int (vl_I c)), (3, .int lk), (4, .int (vl_I i))]) (st' := [.ref o, .int (vl_I i)]) rfl Kz) ?_
  refine jv_Wp.lift (fun _ Kz => jv_Ev.m jv_i137 (pc' := 41) (st' := [.int (vl_I en), .int (vl_I i)]) (G' := (jv_H K I L R)) rfl rfl (jv_m_getI hK0 rfl rfl e3) Kz) ?_
  refine jv_Wp.cnd jv_i137 (pt := 92) (pe := 44) (p := ((vl_I en) ≤ (vl_I i))) (q := ((vl_I en) ≤ (vl_I i))) rfl jv_bc_ge rfl rfl Iff.rfl (fun hz => absurd hz (fun z => absurd ((vl_I_le (by omega) (by omega)).mp z) (by omega))) (fun _ => ?_)
  refine jv_Wp.lift (fun _ Kz => jv_Ev.steps jv_i137 1 (pc' := 45) (l' := [(0, .ref o), (1, .int (vl_I e)), (2, .int (vl_I c)), (3, .int lk), (4, .int (vl_I i))]) (st' := [.int lk]) rfl Kz) ?_
  refine jv_Wp.cnd jv_i137 (pt := 92) (pe := 48) (p := (lk = 0)) (q := (lk = 0)) rfl jv_bi_eq rfl rfl Iff.rfl (fun hz => absurd hz hl0) (fun _ => ?_)
  refine jv_Wp.lift (fun _ Kz => jv_Ev.steps jv_i137 1 (pc' := 49) (l' := [(0, .ref o), (1, .int (vl_I e)), (2, .int (vl_I c)), (3, .int lk), (4, .int (vl_I i))]) (st' := [.ref o]) rfl Kz) ?_
  refine jv_Wp.lift (fun _ Kz => jv_Ev.m jv_i137 (pc' := 52) (st' := [.ref (o + 4)]) (G' := (jv_H K I L R)) rfl rfl (jv_m_getR hK0 rfl rfl hR10) Kz) ?_
  refine jv_Wp.lift (fun _ Kz => jv_Ev.steps jv_i137 3 (pc' := 55) (l' := [(0, .ref o), (1, .int (vl_I e)), (2, .int (vl_I c)), (3, .int lk), (4, .int (vl_I i))]) (st' := [.int (lk - (1 : Int32)), .ref (o + 4)]) rfl Kz) ?_
  refine jv_Wp.lift (fun _ Kz => jv_Ev.m jv_i137 (pc' := 56) (st' := [.int (I (o + 4) p)]) (G' := (jv_H K I L R)) rfl rfl (jv_m_ialdv hK4 rfl (by rw [show (lk - (1 : Int32)) = vl_I (p) from hlk]; exact vl_I_ix (by omega) (by first | omega | decide)) rfl ((congrArg (I (o + 4)) (show (lk - (1 : Int32)).toNatClampNeg = p from by rw [show (lk - (1 : Int32)) = vl_I (p) from hlk]; exact vl_I_nat (by omega))).trans rfl)) Kz) ?_
  refine jv_Wp.lift (fun _ Kz => jv_Ev.steps jv_i137 3 (pc' := 59) (l' := [(0, .ref o), (1, .int (vl_I e)), (2, .int (vl_I c)), (3, .int lk), (4, .int (vl_I i))]) (st' := [.int ((vl_I e) + (1 : Int32)), .int (I (o + 4) p)]) rfl Kz) ?_
  refine jv_Wp.cnd jv_i137 (pt := 77) (pe := 62) (p := (¬ (I (o + 4) p) = ((vl_I e) + (1 : Int32)))) (q := (¬ (I (o + 4) p) = ((vl_I e) + (1 : Int32)))) rfl jv_bc_ne rfl rfl Iff.rfl (fun h1 => ?_) (fun h1 => ?_)
  · refine jv_Wp.lift (fun _ Kz => jv_Ev.steps jv_i137 1 (pc' := 78) (l' := [(0, .ref o), (1, .int (vl_I e)), (2, .int (vl_I c)), (3, .int lk), (4, .int (vl_I i))]) (st' := [.ref o]) rfl Kz) ?_
    refine jv_Wp.lift (fun _ Kz => jv_Ev.m jv_i137 (pc' := 81) (st' := [.ref (o + 4)]) (G' := (jv_H K I L R)) rfl rfl (jv_m_getR hK0 rfl rfl hR10) Kz) ?_
    refine jv_Wp.lift (fun _ Kz => jv_Ev.steps jv_i137 3 (pc' := 84) (l' := [(0, .ref o), (1, .int (vl_I e)), (2, .int (vl_I c)), (3, .int lk), (4, .int (vl_I i))]) (st' := [.int (lk - (1 : Int32)), .ref (o + 4)]) rfl Kz) ?_
    refine jv_Wp.lift (fun _ Kz => jv_Ev.m jv_i137 (pc' := 85) (st' := [.int (I (o + 4) p)]) (G' := (jv_H K I L R)) rfl rfl (jv_m_ialdv hK4 rfl (by rw [show (lk - (1 : Int32)) = vl_I (p) from hlk]; exact vl_I_ix (by omega) (by first | omega | decide)) rfl ((congrArg (I (o + 4)) (show (lk - (1 : Int32)).toNatClampNeg = p from by rw [show (lk - (1 : Int32)) = vl_I (p) from hlk]; exact vl_I_nat (by omega))).trans rfl)) Kz) ?_
    refine jv_Wp.lift (fun _ Kz => jv_Ev.steps jv_i137 3 (pc' := 35) (l' := [(4, .int ((vl_I i) + Int32.ofInt 1)), (3, .int (I (o + 4) p)), (0, .ref o), (1, .int (vl_I e)), (2, .int (vl_I c))]) (st' := []) rfl Kz) ?_
    refine jv_Wp.loc (l := [(0, .ref o), (1, .int (vl_I e)), (2, .int (vl_I c)), (3, .int (I (o + 4) p)), (4, .int ((vl_I i) + Int32.ofInt 1))]) ⟨List.forall_mem_cons.mpr ⟨.tail _ (.tail _ (.head _)), List.forall_mem_cons.mpr ⟨.tail _ (.tail _ (.tail _ (.head _))), List.forall_mem_cons.mpr ⟨.tail _ (.tail _ (.tail _ (.tail _ (.head _)))), List.forall_mem_cons.mpr ⟨.tail _ (.head _), List.forall_mem_cons.mpr ⟨.head _, fun _ h => absurd h List.not_mem_nil⟩⟩⟩⟩⟩, by show List.Nodup [4, 3, 0, 1, 2]; decide⟩ ?_
    rw [vk_p1 i]
    exact hno h1
  · refine jv_Wp.lift (fun _ Kz => jv_Ev.steps jv_i137 1 (pc' := 63) (l' := [(0, .ref o), (1, .int (vl_I e)), (2, .int (vl_I c)), (3, .int lk), (4, .int (vl_I i))]) (st' := [.ref o]) rfl Kz) ?_
    refine jv_Wp.lift (fun _ Kz => jv_Ev.m jv_i137 (pc' := 66) (st' := [.ref (o + 4)]) (G' := (jv_H K I L R)) rfl rfl (jv_m_getR hK0 rfl rfl hR10) Kz) ?_
    refine jv_Wp.lift (fun _ Kz => jv_Ev.steps jv_i137 4 (pc' := 70) (l' := [(0, .ref o), (1, .int (vl_I e)), (2, .int (vl_I c)), (3, .int lk), (4, .int (vl_I i))]) (st' := [.ref o, .int (lk - (1 : Int32)), .ref (o + 4)]) rfl Kz) ?_
    refine jv_Wp.lift (fun _ Kz => jv_Ev.m jv_i137 (pc' := 73) (st' := [.ref (o + 4), .int (lk - (1 : Int32)), .ref (o + 4)]) (G' := (jv_H K I L R)) rfl rfl (jv_m_getR hK0 rfl rfl hR10) Kz) ?_
    refine jv_Wp.lift (fun _ Kz => jv_Ev.steps jv_i137 1 (pc' := 74) (l' := [(0, .ref o), (1, .int (vl_I e)), (2, .int (vl_I c)), (3, .int lk), (4, .int (vl_I i))]) (st' := [.int (vl_I e), .ref (o + 4), .int (lk - (1 : Int32)), .ref (o + 4)]) rfl Kz) ?_
    refine jv_Wp.lift (fun _ Kz => jv_Ev.m jv_i137 (pc' := 75) (st' := [.int (I (o + 4) e), .int (lk - (1 : Int32)), .ref (o + 4)]) (G' := (jv_H K I L R)) rfl rfl (jv_m_ialdv hK4 rfl (vl_I_ix (by omega) (by first | omega | decide)) rfl ((congrArg (I (o + 4)) (vl_I_nat (by omega))).trans rfl)) Kz) ?_
    refine jv_Wp.lift (fun _ Kz => jv_Ev.m jv_i137 (pc' := 76) (st' := []) (G' := (jv_H K (jv_u I (o + 4) p (I (o + 4) e)) L R)) rfl rfl (by rw [jv_m_iast hK4 (by rw [show (lk - (1 : Int32)) = vl_I (p) from hlk]; exact vl_I_ix (by omega) (by first | omega | decide)), (show (lk - (1 : Int32)).toNatClampNeg = p from by rw [show (lk - (1 : Int32)) = vl_I (p) from hlk]; exact vl_I_nat (by omega))]) Kz) ?_
    refine jv_Wp.of (jv_Ev.ret jv_i137 rfl rfl) ?_
    exact hyes (Classical.not_not.mp h1)
theorem vk_unc_l {K : Nat → Option (Nat × Nat)} {I : Nat → Nat → Int32} {L : Nat → Nat → Int64} {R : Nat → Nat → Value} {o ks en ch e c : Nat} (hT : vk_TW K R o ks en ch) (e3 : I o 3 = vl_I en) (he : e < en) (hc : c < ch) {n sl : Nat} {Q : jv_R → Prop} {p : Nat} {r : List Nat} (hQ : Q (none, jv_H K (jv_u I (o + 4) p (I (o + 4) e)) L R, n, sl)) : ∀ (l2 : List Nat) (i : Nat) (lk : Int32), i + (l2 ++ p :: e :: r).length ≤ en → (l2 ++ p :: e :: r).Nodup → vk_ch (I (o + 4)) en lk (l2 ++ p :: e :: r) → jv_Wp 137 35 [(0, .ref o), (1, .int (vl_I e)), (2, .int (vl_I c)), (3, .int lk), (4, .int (vl_I i))] [] (jv_H K I L R) n sl Q
  | [], i, lk, hi, d, hcl => by
    have hen := hT.2.2.2.2.2.2.2.2.2.2.1
    have hi : i + (r.length + 1 + 1) ≤ en := hi
    obtain ⟨c1, c2, c3, -⟩ := hcl
    exact vk_unc_t hT e3 he hc c2 (by omega) (by rw [c1]; exact vk_lk) (by rw [c1]; exact vk_lk0 (by omega)) (fun z => absurd (c3.trans (vl_I_p1 e).symm) z) (fun _ => hQ)
  | x :: l3, i, lk, hi, d, hcl => by
    have hen := hT.2.2.2.2.2.2.2.2.2.2.1
    have hi : i + ((l3 ++ p :: e :: r).length + 1) ≤ en := hi
    obtain ⟨c1, c2, c3⟩ := hcl
    have d3 := List.nodup_cons.mp d
    refine vk_unc_t hT e3 he hc c2 (by omega) (by rw [c1]; exact vk_lk) (by rw [c1]; exact vk_lk0 (by omega)) (fun z => vk_unc_l hT e3 he hc hQ l3 (i + 1) _ (by omega) d3.2 c3) (fun z => ?_)
    exfalso
    rw [vl_I_p1] at z
    cases l3 with
    | nil =>
      have y := (vl_I_inj (a := e + 1) (b := p + 1) (by omega) (by have := c3.2.1; omega)).mp (z.symm.trans c3.1)
      have d4 := List.nodup_cons.mp d3.2
      exact d4.1 (by rw [show p = e by omega]; exact List.mem_cons_self)
    | cons w l4 =>
      have y := (vl_I_inj (a := e + 1) (b := w + 1) (by omega) (by have := c3.2.1; omega)).mp (z.symm.trans c3.1)
      have d4 := List.nodup_cons.mp d3.2
      exact d4.1 (by rw [show w = e by omega]; exact List.mem_append_right _ (List.mem_cons_of_mem _ List.mem_cons_self))
theorem vk_split {e : Nat} : ∀ (l : List Nat), e ∈ l → (∃ r, l = e :: r) ∨ ∃ l1 p r, l = l1 ++ p :: e :: r
  | [], h => absurd h List.not_mem_nil
  | x :: s, h => by
    rcases List.mem_cons.mp h with c | c
    · exact Or.inl ⟨s, by rw [c]⟩
    · rcases vk_split s c with ⟨r, y⟩ | ⟨l1, p, r, y⟩
      · exact Or.inr ⟨[], x, r, by rw [y]; rfl⟩
      · exact Or.inr ⟨x :: l1, p, r, by rw [y]; rfl⟩
theorem vk_chlt {N : Nat → Int32} {en : Nat} : ∀ (l : List Nat) (h : Int32), vk_ch N en h l → ∀ x ∈ l, x < en
  | [], _, _, x, hx => absurd hx List.not_mem_nil
  | a :: s, h, g, x, hx => (List.mem_cons.mp hx).elim (fun z => z ▸ g.2.1) (fun z => vk_chlt s _ g.2.2 x z)
theorem vk_unchain {K : Nat → Option (Nat × Nat)} {I : Nat → Nat → Int32} {L : Nat → Nat → Int64} {R : Nat → Nat → Value} {o ks en ch e c : Nat} (hT : vk_TW K R o ks en ch) (e3 : I o 3 = vl_I en) (he : e < en) (hc : c < ch) {l : List Nat} (d : l.Nodup) (cl : vk_ch (I (o + 4)) en (I (o + 3) c) l) (hm : e ∈ l) : ∃ I1, (∀ n sl, jv_Ms 137 [.ref o, .int (vl_I e), .int (vl_I c)] (jv_H K I L R) n sl (none, jv_H K I1 L R, n, sl)) ∧ vk_U I I1 o en c e l := by
  have hen := hT.2.2.2.2.2.2.2.2.2.2.1
  have ln := vk_len en l d (vk_chlt l _ cl)
  have key : ∀ (I1 : Nat → Nat → Int32), (∀ n sl, jv_Wp 137 0 [(0, .ref o), (1, .int (vl_I e)), (2, .int (vl_I c))] [] (jv_H K I L R) n sl (fun X => X = (none, jv_H K I1 L R, n, sl))) → ∀ n sl, jv_Ms 137 [.ref o, .int (vl_I e), .int (vl_I c)] (jv_H K I L R) n sl (none, jv_H K I1 L R, n, sl) := fun I1 h n sl => by
    obtain ⟨X, k, e⟩ := h n sl
    subst e
    exact k
  rcases vk_split l hm with ⟨r, el⟩ | ⟨l1, p, r, el⟩
  · subst el
    have d2 := List.nodup_cons.mp d
    refine ⟨(jv_u I (o + 3) c (I (o + 4) e)), key _ (fun n sl => vk_unc_0 hT e3 he hc (fun _ => rfl) (fun z => absurd (cl.1.trans (vl_I_p1 e).symm) z)), fun q i a b => vk_ux (fun z => a z.1), fun i hi => vk_ux (fun z => hi z.2), fun y hy => vk_ux (fun z => absurd z.1 (by omega)), r, ?_, d2.2, fun x => ?_⟩
    · rw [jv_u_self]
      exact vk_ch_eq r _ (fun x hx => vk_ux (fun z => absurd z.1 (by omega))) cl.2.2
    · constructor
      · intro h; exact ⟨List.mem_cons_of_mem _ h, fun q => d2.1 (q ▸ h)⟩
      · intro h; exact (List.mem_cons.mp h.1).elim (fun q => absurd q h.2) id
  · subst el
    have hp : p ∈ l1 ++ p :: e :: r := List.mem_append_right _ List.mem_cons_self
    refine ⟨(jv_u I (o + 4) p (I (o + 4) e)), key _ (fun n sl => vk_unc_0 hT e3 he hc (fun z => ?_) (fun _ => vk_unc_l (Q := fun X => X = (none, jv_H K (jv_u I (o + 4) p (I (o + 4) e)) L R, n, sl)) hT e3 he hc rfl l1 0 _ (by omega) d cl)), fun q i a b => vk_ux (fun z => b z.1), fun i hi => vk_ux (fun z => absurd z.1 (by omega)), fun y hy => vk_ux (fun z => hy (z.2 ▸ hp)), l1 ++ p :: r, ?_, (vk_cut_mem (x := 0) d).1, fun y => (vk_cut_mem d).2⟩
    · exfalso
      rw [vl_I_p1] at z
      cases l1 with
      | nil =>
        have y := (vl_I_inj (a := e + 1) (b := p + 1) (by omega) (by have := cl.2.1; omega)).mp (z.symm.trans cl.1)
        exact (List.nodup_cons.mp d).1 (by rw [show p = e by omega]; exact List.mem_cons_self)
      | cons w l4 =>
        have y := (vl_I_inj (a := e + 1) (b := w + 1) (by omega) (by have := cl.2.1; omega)).mp (z.symm.trans cl.1)
        exact (List.nodup_cons.mp d).1 (by rw [show w = e by omega]; exact List.mem_append_right _ (List.mem_cons_of_mem _ List.mem_cons_self))
    · have y := vk_cut l1 _ cl d
      rw [show (jv_u I (o + 4) p (I (o + 4) e)) (o + 4) = (fun i => if i = p then I (o + 4) e else I (o + 4) i) from funext (fun i => by
        by_cases q : i = p
        · rw [if_pos q, q, jv_u_self]
        · rw [if_neg q, vk_ux (fun z => q z.2)]), vk_ux (fun z => absurd z.1 (by omega))]
      exact y
theorem jv_i136 : jv_I 136 4 (some .int) 2 48 jv_c136 := ⟨rfl, rfl, rfl, rfl, rfl⟩
theorem vk_drop_n0 {K : Nat → Option (Nat × Nat)} {I : Nat → Nat → Int32} {L : Nat → Nat → Int64} {R : Nat → Nat → Value} {o ks en ch r a : Nat} (hT : vk_TW K R o ks en ch) {n sl : Nat} (hE : jv_Ms 134 [.ref o, .ref r, .int (vl_I a)] (jv_H K I L R) n sl (some (.int (-1 : Int32)), jv_H K I L R, n, sl)) {Q : jv_R → Prop} (hQ : Q (some (.int (-2 : Int32)), jv_H K I L R, n, sl)) : jv_Wp 136 0 [(0, .ref o), (1, .ref r), (2, .int (vl_I a))] [] (jv_H K I L R) n sl Q := by
  obtain ⟨hK0, hK1, hK2, hK3, hK4, hR7, hR8, hR9, hR10, hks, hen, hch⟩ := id hT
  refine jv_Wp.lift (fun _ Kz => jv_Ev.steps jv_i136 3 (pc' := 3) (l' := [(0, .ref o), (1, .ref r), (2, .int (vl_I a))]) (st' := [.int (vl_I a), .ref r, .ref o]) rfl Kz) ?_
  refine jv_Wp.lift (fun _ Kz => jv_Ev.c jv_i136 (pc' := 6) (S' := [.int (-1 : Int32)]) jv_i134 [.ref o, .ref r, .int (vl_I a)] rfl rfl rfl rfl (jv_cal rfl (jv_H_at hK0) rfl rfl) rfl hE rfl rfl Kz) ?_
  refine jv_Wp.lift (fun _ Kz => jv_Ev.steps jv_i136 3 (pc' := 9) (l' := [(3, .int (-1 : Int32)), (0, .ref o), (1, .ref r), (2, .int (vl_I a))]) (st' := [.int (-1 : Int32), .int (-1 : Int32)]) rfl Kz) ?_
  refine jv_Wp.lift (fun _ Kz => jv_Ev.br jv_i136 (pc' := 12) (st' := []) rfl (by rfl) Kz) ?_
  refine jv_Wp.lift (fun _ Kz => jv_Ev.steps jv_i136 1 (pc' := 14) (l' := [(3, .int (-1 : Int32)), (0, .ref o), (1, .ref r), (2, .int (vl_I a))]) (st' := [.int (-2 : Int32)]) rfl Kz) ?_
  refine jv_Wp.of (jv_Ev.ret jv_i136 rfl rfl) ?_
  exact hQ
/-- the heap's ints when an entry was dropped -/
def vk_drpI (I1 : Nat → Nat → Int32) (o e cnt ff : Nat) : Nat → Nat → Int32 := (jv_u (jv_u (jv_u I1 (o + 2) e ((0 : Int32) &&& 1)) o 11 ((vl_I cnt) - (1 : Int32))) o 12 (if (vl_I e) < (vl_I ff) then (vl_I e) else (vl_I ff)))
theorem vk_drop_e0 {K : Nat → Option (Nat × Nat)} {I : Nat → Nat → Int32} {L : Nat → Nat → Int64} {R : Nat → Nat → Value} {o ks en ch r a : Nat} (hT : vk_TW K R o ks en ch) {n sl : Nat} {e c cnt ff : Nat} {I1 : Nat → Nat → Int32} (he : e < en) (g11 : I1 o 11 = vl_I cnt) (g12 : I1 o 12 = vl_I ff) (hE : jv_Ms 134 [.ref o, .ref r, .int (vl_I a)] (jv_H K I L R) n sl (some (.int (vl_I e)), jv_H K I L R, n, sl)) (hC : jv_Ms 131 [.ref o, .ref r, .int (vl_I a)] (jv_H K I L R) n sl (some (.int (vl_I c)), jv_H K I L R, n, sl)) (hU : jv_Ms 137 [.ref o, .int (vl_I e), .int (vl_I c)] (jv_H K I L R) n sl (none, jv_H K I1 L R, n, sl)) {Q : jv_R → Prop} (hQ : Q (some (.int (0 : Int32)), jv_H K (vk_drpI I1 o e cnt ff) L R, n, sl)) : jv_Wp 136 0 [(0, .ref o), (1, .ref r), (2, .int (vl_I a))] [] (jv_H K I L R) n sl Q := by
  obtain ⟨hK0, hK1, hK2, hK3, hK4, hR7, hR8, hR9, hR10, hks, hen, hch⟩ := id hT
  refine jv_Wp.lift (fun _ Kz => jv_Ev.steps jv_i136 3 (pc' := 3) (l' := [(0, .ref o), (1, .ref r), (2, .int (vl_I a))]) (st' := [.int (vl_I a), .ref r, .ref o]) rfl Kz) ?_
  refine jv_Wp.lift (fun _ Kz => jv_Ev.c jv_i136 (pc' := 6) (S' := [.int (vl_I e)]) jv_i134 [.ref o, .ref r, .int (vl_I a)] rfl rfl rfl rfl (jv_cal rfl (jv_H_at hK0) rfl rfl) rfl hE rfl rfl Kz) ?_
  refine jv_Wp.lift (fun _ Kz => jv_Ev.steps jv_i136 3 (pc' := 9) (l' := [(3, .int (vl_I e)), (0, .ref o), (1, .ref r), (2, .int (vl_I a))]) (st' := [.int (-1 : Int32), .int (vl_I e)]) rfl Kz) ?_
  refine jv_Wp.cnd jv_i136 (pt := 15) (pe := 12) (p := (¬ (vl_I e) = (-1 : Int32))) (q := (¬ (vl_I e) = (-1 : Int32))) rfl jv_bc_ne rfl rfl Iff.rfl (fun _ => ?_) (fun hz => absurd (vl_I_n1 (by omega)) hz)
  refine jv_Wp.lift (fun _ Kz => jv_Ev.steps jv_i136 5 (pc' := 20) (l' := [(3, .int (vl_I e)), (0, .ref o), (1, .ref r), (2, .int (vl_I a))]) (st' := [.int (vl_I a), .ref r, .ref o, .int (vl_I e), .ref o]) rfl Kz) ?_
  refine jv_Wp.lift (fun _ Kz => jv_Ev.c jv_i136 (pc' := 23) (S' := [.int (vl_I c), .int (vl_I e), .ref o]) jv_i131 [.ref o, .ref r, .int (vl_I a)] rfl rfl rfl rfl (jv_cal rfl (jv_H_at hK0) rfl rfl) rfl hC rfl rfl Kz) ?_
  refine jv_Wp.lift (fun _ Kz => jv_Ev.c jv_i136 (pc' := 26) (S' := []) (G1 := (jv_H K I1 L R)) jv_i137 [.ref o, .int (vl_I e), .int (vl_I c)] rfl rfl rfl rfl (jv_cal rfl (jv_H_at hK0) rfl rfl) rfl hU rfl rfl Kz) ?_
  refine jv_Wp.lift (fun _ Kz => jv_Ev.steps jv_i136 1 (pc' := 27) (l' := [(3, .int (vl_I e)), (0, .ref o), (1, .ref r), (2, .int (vl_I a))]) (st' := [.ref o]) rfl Kz) ?_
  refine jv_Wp.lift (fun _ Kz => jv_Ev.m jv_i136 (pc' := 30) (st' := [.ref (o + 2)]) (G' := (jv_H K I1 L R)) rfl rfl (jv_m_getR hK0 rfl rfl hR8) Kz) ?_
  refine jv_Wp.lift (fun _ Kz => jv_Ev.steps jv_i136 2 (pc' := 32) (l' := [(3, .int (vl_I e)), (0, .ref o), (1, .ref r), (2, .int (vl_I a))]) (st' := [.int (0 : Int32), .int (vl_I e), .ref (o + 2)]) rfl Kz) ?_
  refine jv_Wp.lift (fun _ Kz => jv_Ev.m jv_i136 (pc' := 33) (st' := []) (G' := (jv_H K (jv_u I1 (o + 2) e ((0 : Int32) &&& 1)) L R)) rfl rfl (by rw [jv_m_zast hK2 (vl_I_ix (by omega) (by first | omega | decide)), (vl_I_nat (by omega))]) Kz) ?_
  refine jv_Wp.lift (fun _ Kz => jv_Ev.steps jv_i136 2 (pc' := 35) (l' := [(3, .int (vl_I e)), (0, .ref o), (1, .ref r), (2, .int (vl_I a))]) (st' := [.ref o, .ref o]) rfl Kz) ?_
  refine jv_Wp.lift (fun _ Kz => jv_Ev.m jv_i136 (pc' := 38) (st' := [.int (vl_I cnt), .ref o]) (G' := (jv_H K (jv_u I1 (o + 2) e ((0 : Int32) &&& 1)) L R)) rfl rfl (jv_m_getI hK0 rfl rfl ((jv_u_o _ _ _ _ (by omega)).trans g11)) Kz) ?_
  refine jv_Wp.lift (fun _ Kz => jv_Ev.steps jv_i136 2 (pc' := 40) (l' := [(3, .int (vl_I e)), (0, .ref o), (1, .ref r), (2, .int (vl_I a))]) (st' := [.int ((vl_I cnt) - (1 : Int32)), .ref o]) rfl Kz) ?_
  refine jv_Wp.lift (fun _ Kz => jv_Ev.m jv_i136 (pc' := 43) (st' := []) (G' := (jv_H K (jv_u (jv_u I1 (o + 2) e ((0 : Int32) &&& 1)) o 11 ((vl_I cnt) - (1 : Int32))) L R)) rfl rfl (jv_m_putI hK0 rfl rfl rfl rfl) Kz) ?_
  refine jv_Wp.lift (fun _ Kz => jv_Ev.steps jv_i136 2 (pc' := 45) (l' := [(3, .int (vl_I e)), (0, .ref o), (1, .ref r), (2, .int (vl_I a))]) (st' := [.ref o, .ref o]) rfl Kz) ?_
  refine jv_Wp.lift (fun _ Kz => jv_Ev.m jv_i136 (pc' := 48) (st' := [.int (vl_I ff), .ref o]) (G' := (jv_H K (jv_u (jv_u I1 (o + 2) e ((0 : Int32) &&& 1)) o 11 ((vl_I cnt) - (1 : Int32))) L R)) rfl rfl (jv_m_getI hK0 rfl rfl ((jv_u_j _ _ _ _ (by decide)).trans ((jv_u_o _ _ _ _ (by omega)).trans g12))) Kz) ?_
  refine jv_Wp.lift (fun _ Kz => jv_Ev.steps jv_i136 2 (pc' := 52) (l' := [(3, .int (vl_I e)), (0, .ref o), (1, .ref r), (2, .int (vl_I a))]) (st' := [.int (if (vl_I e) < (vl_I ff) then (vl_I e) else (vl_I ff)), .ref o]) rfl Kz) ?_
  refine jv_Wp.lift (fun _ Kz => jv_Ev.m jv_i136 (pc' := 55) (st' := []) (G' := (jv_H K (jv_u (jv_u (jv_u I1 (o + 2) e ((0 : Int32) &&& 1)) o 11 ((vl_I cnt) - (1 : Int32))) o 12 (if (vl_I e) < (vl_I ff) then (vl_I e) else (vl_I ff))) L R)) rfl rfl (jv_m_putI hK0 rfl rfl rfl rfl) Kz) ?_
  refine jv_Wp.lift (fun _ Kz => jv_Ev.steps jv_i136 1 (pc' := 56) (l' := [(3, .int (vl_I e)), (0, .ref o), (1, .ref r), (2, .int (vl_I a))]) (st' := [.int (0 : Int32)]) rfl Kz) ?_
  refine jv_Wp.of (jv_Ev.ret jv_i136 rfl rfl) ?_
  exact hQ
theorem vk_dI_x {I : Nat → Nat → Int32} {o e cnt ff q i : Nat} (h0 : ¬ (q = o ∧ (i = 11 ∨ i = 12))) (h2 : ¬ (q = o + 2 ∧ i = e)) : vk_drpI I o e cnt ff q i = I q i := by
  unfold vk_drpI
  rw [vk_ux (fun z => h0 ⟨z.1, Or.inr z.2⟩), vk_ux (fun z => h0 ⟨z.1, Or.inl z.2⟩), vk_ux h2]
theorem vk_drop_n {K : Nat → Option (Nat × Nat)} {I : Nat → Nat → Int32} {L : Nat → Nat → Int64} {R : Nat → Nat → Value} {o ks en ch r a : Nat} {tk : Nat → Nat} {ky : Nat → Nat → Nat} (hT : vk_TW K R o ks en ch) (h : vk_T I o ks en ch tk ky) {len : Nat} {B : Nat → Nat} (hKr : K r = some (101, len)) (hlen : len < 2147483648) (hro : r < o) (ha : a + ks ≤ len) (hB : vk_by I r a ks B) (hno : ∀ e, e < en → tk e = 1 → vk_eq (ky e) B ks = false) {n sl : Nat} : jv_Ms 136 [.ref o, .ref r, .int (vl_I a)] (jv_H K I L R) n sl (some (.int (-2 : Int32)), jv_H K I L R, n, sl) := by
  have hE := vk_entryOf (n := n) (sl := sl) (L := L) (x := -1) hT h hKr hlen ha hB (fun e he t z => absurd (hno e he t) (by rw [z]; decide)) (fun _ => rfl)
  obtain ⟨X, k, e⟩ := vk_drop_n0 (Q := fun X => X = (some (.int (-2 : Int32)), jv_H K I L R, n, sl)) hT hE rfl
  subst e
  exact k
/-- the entry e has the key and is let go -/
theorem vk_drop_e {K : Nat → Option (Nat × Nat)} {I : Nat → Nat → Int32} {L : Nat → Nat → Int64} {R : Nat → Nat → Value} {o ks en ch r a e : Nat} {tk tk' : Nat → Nat} {ky : Nat → Nat → Nat} (hT : vk_TW K R o ks en ch) (h : vk_T I o ks en ch tk ky) {len : Nat} {B : Nat → Nat} (hKr : K r = some (101, len)) (hlen : len < 2147483648) (hro : r < o) (ha : a + ks ≤ len) (hB : vk_by I r a ks B) (he : e < en) (t1 : tk e = 1) (hk : vk_eq (ky e) B ks = true) (hu : ∀ x, x < en → tk x = 1 → vk_eq (ky x) B ks = true → x = e) (s1 : tk' e = 0) (s2 : ∀ x, x < en → x ≠ e → tk' x = tk x) : ∃ I1, (∀ n sl, jv_Ms 136 [.ref o, .ref r, .int (vl_I a)] (jv_H K I L R) n sl (some (.int (0 : Int32)), jv_H K I1 L R, n, sl)) ∧ vk_T I1 o ks en ch tk' ky ∧ vk_fr I I1 o := by
  obtain ⟨e1, e3, htk, hky, hc, e11, ff, e12, hff, hfa⟩ := id h
  have hch := hT.2.2.2.2.2.2.2.2.2.2.2
  have hen := hT.2.2.2.2.2.2.2.2.2.2.1
  have hE := fun n sl => vk_entryOf (n := n) (sl := sl) (L := L) (x := vl_I e) hT h hKr hlen ha hB (fun x hx t z => by rw [hu x hx t z]) (fun z => absurd (z e he t1) (by rw [hk]; decide))
  have hC := fun n sl => vk_chainOf (n := n) (sl := sl) (I := I) (L := L) hT e1 hKr hlen ha hB
  have hcl := vk_c_lt hch.1 hch.2 B ks
  obtain ⟨l, c1, c2, c3⟩ := hc _ hcl
  have hm : e ∈ l := (c3 e).mpr ⟨he, t1, vk_c_eq (vk_eq_t.mp hk)⟩
  obtain ⟨I1, hU, u1, u2, u3, l', u4, u5, u6⟩ := vk_unchain (L := L) hT e3 he hcl c2 c1 hm
  have k : ∀ n sl, jv_Ms 136 [.ref o, .ref r, .int (vl_I a)] (jv_H K I L R) n sl (some (.int (0 : Int32)), jv_H K (vk_drpI I1 o e (vk_n tk en) ff) L R, n, sl) := fun n sl => by
    have key := vk_drop_e0 (n := n) (sl := sl) (Q := fun X => X = (some (.int (0 : Int32)), jv_H K (vk_drpI I1 o e (vk_n tk en) ff) L R, n, sl)) hT he ((u1 o 11 (by omega) (by omega)).trans e11) ((u1 o 12 (by omega) (by omega)).trans e12) (hE n sl) (hC n sl) (hU n sl) rfl
    obtain ⟨X, k, eX⟩ := key
    subst eX
    exact k
  have ny := vk_n_1 (tk := tk) (tk' := tk') en he s2
  have nl := vk_n_le en (fun x hx => (htk x hx).2)
  refine ⟨_, k, ⟨(vk_dI_x (by omega) (by omega)).trans ((u1 o 1 (by omega) (by omega)).trans e1), (vk_dI_x (by omega) (by omega)).trans ((u1 o 3 (by omega) (by omega)).trans e3), fun x hx => ?_, fun x j hx hj => ?_, fun c hc' => ?_, ?_, min ff e, ?_, by omega, fun x hx => ?_⟩, fun q i a1 a2 => ?_⟩
  · by_cases y : x = e
    · subst y
      rw [s1]
      refine ⟨?_, by omega⟩
      unfold vk_drpI
      rw [vk_ux (by omega), vk_ux (by omega), jv_u_self]; rfl
    · rw [vk_dI_x (by omega) (by omega), u1 _ _ (by omega) (by omega), s2 x hx y]; exact htk x hx
  · rw [vk_dI_x (by omega) (by omega), u1 _ _ (by omega) (by omega)]; exact hky x j hx hj
  · have f4 : ∀ i, vk_drpI I1 o e (vk_n tk en) ff (o + 4) i = I1 (o + 4) i := fun i => vk_dI_x (by omega) (by omega)
    have f3 : ∀ i, vk_drpI I1 o e (vk_n tk en) ff (o + 3) i = I1 (o + 3) i := fun i => vk_dI_x (by omega) (by omega)
    by_cases y : c = vk_c ch B ks
    · subst y
      refine ⟨l', ?_, u5, fun x => ?_⟩
      · rw [f3]; exact vk_ch_eq l' _ (fun x _ => f4 x) u4
      · rw [u6 x, c3 x]
        constructor
        · intro z; exact ⟨z.1.1, by rw [s2 x z.1.1 z.2]; exact z.1.2.1, z.1.2.2⟩
        · intro z
          have nx : x ≠ e := fun q => by rw [q, s1] at z; exact absurd z.2.1 (by decide)
          exact ⟨⟨z.1, by rw [← s2 x z.1 nx]; exact z.2.1, z.2.2⟩, nx⟩
    · obtain ⟨m, m1, m2, m3⟩ := hc c hc'
      have em : e ∉ m := fun z => y (((m3 e).mp z).2.2.symm.trans (vk_c_eq (vk_eq_t.mp hk)))
      refine ⟨m, ?_, m2, fun x => ?_⟩
      · rw [f3, u2 c y]
        refine vk_ch_eq m _ (fun x hx => ?_) m1
        rw [f4, u3 x (fun z => y (((m3 x).mp hx).2.2.symm.trans ((c3 x).mp z).2.2))]
      · rw [m3 x]
        constructor
        · intro z
          have nx : x ≠ e := fun q => em (q ▸ (m3 x).mpr z)
          exact ⟨z.1, by rw [s2 x z.1 nx]; exact z.2.1, z.2.2⟩
        · intro z
          have nx : x ≠ e := fun q => by rw [q, s1] at z; exact absurd z.2.1 (by decide)
          exact ⟨z.1, by rw [← s2 x z.1 nx]; exact z.2.1, z.2.2⟩
  · unfold vk_drpI
    rw [vk_ux (by omega), jv_u_self]
    exact vi_s2 (x := vk_n tk en) (z := 1) rfl rfl (by omega) (by omega)
  · unfold vk_drpI
    rw [jv_u_self, vk_min (by omega) (by omega)]
  · rw [s2 x (by omega) (by omega)]; exact hfa x (by omega)
  · rw [vk_dI_x (by omega) (by omega), u1 q i (by omega) (by omega)]
theorem jv_i138 : jv_I 138 5 (some .int) 1 26 jv_c138 := ⟨rfl, rfl, rfl, rfl, rfl⟩
theorem vk_fol_t {K : Nat → Option (Nat × Nat)} {I : Nat → Nat → Int32} {L : Nat → Nat → Int64} {R : Nat → Nat → Value} {o ks en ch r a : Nat} {tk : Nat → Nat} {e0 : Int32} {len : Nat} (hT : vk_TW K R o ks en ch) (e1 : I o 1 = vl_I ks) (e3 : I o 3 = vl_I en) (htk : ∀ e, e < en → I (o + 2) e = vl_I (tk e) ∧ tk e ≤ 1) (hKr : K r = some (101, len)) (hlen : len < 2147483648) (ha : a + ks ≤ len) {n sl : Nat} {Q : jv_R → Prop} {e : Nat} (he : e < en) (h0 : tk e = 0) (cont : jv_Wp 138 5 [(0, .ref o), (1, .int e0), (2, .ref r), (3, .int (vl_I a)), (4, .int (vl_I (e + 1)))] [] (jv_H K I L R) n sl Q) : jv_Wp 138 5 [(0, .ref o), (1, .int e0), (2, .ref r), (3, .int (vl_I a)), (4, .int (vl_I e))] [] (jv_H K I L R) n sl Q := by
  obtain ⟨hK0, hK1, hK2, hK3, hK4, hR7, hR8, hR9, hR10, hks, hen, hch⟩ := id hT
  refine jv_Wp.lift (fun _ Kz => jv_Ev.steps jv_i138 2 (pc' := 8) (l' := [(0, .ref o), (1, .int e0), (2, .ref r), (3, .int (vl_I a)), (4, .int (vl_I e))]) (st' := [.ref o, .int (vl_I e)]) rfl Kz) ?_
  refine jv_Wp.lift (fun _ Kz => jv_Ev.m jv_i138 (pc' := 11) (st' := [.int (vl_I en), .int (vl_I e)]) (G' := (jv_H K I L R)) rfl rfl (jv_m_getI hK0 rfl rfl e3) Kz) ?_
  refine jv_Wp.cnd jv_i138 (pt := 53) (pe := 14) (p := ((vl_I en) ≤ (vl_I e))) (q := ((vl_I en) ≤ (vl_I e))) rfl jv_bc_ge rfl rfl Iff.rfl (fun hz => absurd hz (fun z => absurd ((vl_I_le (by omega) (by omega)).mp z) (by omega))) (fun _ => ?_)
  refine jv_Wp.lift (fun _ Kz => jv_Ev.steps jv_i138 1 (pc' := 15) (l' := [(0, .ref o), (1, .int e0), (2, .ref r), (3, .int (vl_I a)), (4, .int (vl_I e))]) (st' := [.ref o]) rfl Kz) ?_
  refine jv_Wp.lift (fun _ Kz => jv_Ev.m jv_i138 (pc' := 18) (st' := [.ref (o + 2)]) (G' := (jv_H K I L R)) rfl rfl (jv_m_getR hK0 rfl rfl hR8) Kz) ?_
  refine jv_Wp.lift (fun _ Kz => jv_Ev.steps jv_i138 1 (pc' := 20) (l' := [(0, .ref o), (1, .int e0), (2, .ref r), (3, .int (vl_I a)), (4, .int (vl_I e))]) (st' := [.int (vl_I e), .ref (o + 2)]) rfl Kz) ?_
  refine jv_Wp.lift (fun _ Kz => jv_Ev.m jv_i138 (pc' := 21) (st' := [.int (vl_I (tk e))]) (G' := (jv_H K I L R)) rfl rfl (jv_m_baldv hK2 rfl (vl_I_ix (by omega) (by first | omega | decide)) rfl ((congrArg (I (o + 2)) (vl_I_nat (by omega))).trans (htk e (by omega)).1)) Kz) ?_
  refine jv_Wp.cnd jv_i138 (pt := 47) (pe := 24) (p := ((vl_I (tk e)) = 0)) (q := ((vl_I (tk e)) = 0)) rfl jv_bi_eq rfl rfl Iff.rfl (fun _ => ?_) (fun hz => absurd (by rw [h0]; decide) hz)
  refine jv_Wp.lift (fun _ Kz => jv_Ev.steps jv_i138 2 (pc' := 5) (l' := [(4, .int ((vl_I e) + Int32.ofInt 1)), (0, .ref o), (1, .int e0), (2, .ref r), (3, .int (vl_I a))]) (st' := []) rfl Kz) ?_
  refine jv_Wp.loc (l := [(0, .ref o), (1, .int e0), (2, .ref r), (3, .int (vl_I a)), (4, .int ((vl_I e) + Int32.ofInt 1))]) ⟨List.forall_mem_cons.mpr ⟨.tail _ (.head _), List.forall_mem_cons.mpr ⟨.tail _ (.tail _ (.head _)), List.forall_mem_cons.mpr ⟨.tail _ (.tail _ (.tail _ (.head _))), List.forall_mem_cons.mpr ⟨.tail _ (.tail _ (.tail _ (.tail _ (.head _)))), List.forall_mem_cons.mpr ⟨.head _, fun _ h => absurd h List.not_mem_nil⟩⟩⟩⟩⟩, by show List.Nodup [4, 0, 1, 2, 3]; decide⟩ ?_
  rw [vk_p1 e]
  exact cont
theorem vk_fol_f {K : Nat → Option (Nat × Nat)} {I : Nat → Nat → Int32} {L : Nat → Nat → Int64} {R : Nat → Nat → Value} {o ks en ch r a : Nat} {tk : Nat → Nat} {e0 : Int32} {len : Nat} (hT : vk_TW K R o ks en ch) (e1 : I o 1 = vl_I ks) (e3 : I o 3 = vl_I en) (htk : ∀ e, e < en → I (o + 2) e = vl_I (tk e) ∧ tk e ≤ 1) (hKr : K r = some (101, len)) (hlen : len < 2147483648) (ha : a + ks ≤ len) {n sl : Nat} {Q : jv_R → Prop} {e : Nat} (he : e < en) (h1 : tk e = 1) (hQ : Q (some (.int (vl_I e)), jv_H K (vm_wr I r a ks (fun j => I (o + 1) (e * ks + j))) L R, n, sl)) : jv_Wp 138 5 [(0, .ref o), (1, .int e0), (2, .ref r), (3, .int (vl_I a)), (4, .int (vl_I e))] [] (jv_H K I L R) n sl Q := by
  obtain ⟨hK0, hK1, hK2, hK3, hK4, hR7, hR8, hR9, hR10, hks, hen, hch⟩ := id hT
  have hix2 : e * ks + ks ≤ ks * en := by
    have y := Nat.mul_le_mul_right ks (show e + 1 ≤ en from he)
    rw [Nat.add_mul, Nat.one_mul] at y
    rw [Nat.mul_comm ks en]; exact y
  have hsz := vk_sz hks.2 hen.2
  refine jv_Wp.lift (fun _ Kz => jv_Ev.steps jv_i138 2 (pc' := 8) (l' := [(0, .ref o), (1, .int e0), (2, .ref r), (3, .int (vl_I a)), (4, .int (vl_I e))]) (st' := [.ref o, .int (vl_I e)]) rfl Kz) ?_
  refine jv_Wp.lift (fun _ Kz => jv_Ev.m jv_i138 (pc' := 11) (st' := [.int (vl_I en), .int (vl_I e)]) (G' := (jv_H K I L R)) rfl rfl (jv_m_getI hK0 rfl rfl e3) Kz) ?_
  refine jv_Wp.cnd jv_i138 (pt := 53) (pe := 14) (p := ((vl_I en) ≤ (vl_I e))) (q := ((vl_I en) ≤ (vl_I e))) rfl jv_bc_ge rfl rfl Iff.rfl (fun hz => absurd hz (fun z => absurd ((vl_I_le (by omega) (by omega)).mp z) (by omega))) (fun _ => ?_)
  refine jv_Wp.lift (fun _ Kz => jv_Ev.steps jv_i138 1 (pc' := 15) (l' := [(0, .ref o), (1, .int e0), (2, .ref r), (3, .int (vl_I a)), (4, .int (vl_I e))]) (st' := [.ref o]) rfl Kz) ?_
  refine jv_Wp.lift (fun _ Kz => jv_Ev.m jv_i138 (pc' := 18) (st' := [.ref (o + 2)]) (G' := (jv_H K I L R)) rfl rfl (jv_m_getR hK0 rfl rfl hR8) Kz) ?_
  refine jv_Wp.lift (fun _ Kz => jv_Ev.steps jv_i138 1 (pc' := 20) (l' := [(0, .ref o), (1, .int e0), (2, .ref r), (3, .int (vl_I a)), (4, .int (vl_I e))]) (st' := [.int (vl_I e), .ref (o + 2)]) rfl Kz) ?_
  refine jv_Wp.lift (fun _ Kz => jv_Ev.m jv_i138 (pc' := 21) (st' := [.int (vl_I (tk e))]) (G' := (jv_H K I L R)) rfl rfl (jv_m_baldv hK2 rfl (vl_I_ix (by omega) (by first | omega | decide)) rfl ((congrArg (I (o + 2)) (vl_I_nat (by omega))).trans (htk e (by omega)).1)) Kz) ?_
  refine jv_Wp.cnd jv_i138 (pt := 47) (pe := 24) (p := ((vl_I (tk e)) = 0)) (q := ((vl_I (tk e)) = 0)) rfl jv_bi_eq rfl rfl Iff.rfl (fun hz => absurd hz (by rw [h1]; decide)) (fun _ => ?_)
  refine jv_Wp.lift (fun _ Kz => jv_Ev.steps jv_i138 1 (pc' := 25) (l' := [(0, .ref o), (1, .int e0), (2, .ref r), (3, .int (vl_I a)), (4, .int (vl_I e))]) (st' := [.ref o]) rfl Kz) ?_
  refine jv_Wp.lift (fun _ Kz => jv_Ev.m jv_i138 (pc' := 28) (st' := [.ref (o + 1)]) (G' := (jv_H K I L R)) rfl rfl (jv_m_getR hK0 rfl rfl hR7) Kz) ?_
  refine jv_Wp.lift (fun _ Kz => jv_Ev.steps jv_i138 2 (pc' := 31) (l' := [(0, .ref o), (1, .int e0), (2, .ref r), (3, .int (vl_I a)), (4, .int (vl_I e))]) (st' := [.ref o, .int (vl_I e), .ref (o + 1)]) rfl Kz) ?_
  refine jv_Wp.lift (fun _ Kz => jv_Ev.m jv_i138 (pc' := 34) (st' := [.int (vl_I ks), .int (vl_I e), .ref (o + 1)]) (G' := (jv_H K I L R)) rfl rfl (jv_m_getI hK0 rfl rfl e1) Kz) ?_
  refine jv_Wp.lift (fun _ Kz => jv_Ev.steps jv_i138 4 (pc' := 38) (l' := [(0, .ref o), (1, .int e0), (2, .ref r), (3, .int (vl_I a)), (4, .int (vl_I e))]) (st' := [.ref o, .int (vl_I a), .ref r, .int ((vl_I e) * (vl_I ks)), .ref (o + 1)]) rfl Kz) ?_
  refine jv_Wp.lift (fun _ Kz => jv_Ev.m jv_i138 (pc' := 41) (st' := [.int (vl_I ks), .int (vl_I a), .ref r, .int ((vl_I e) * (vl_I ks)), .ref (o + 1)]) (G' := (jv_H K I L R)) rfl rfl (jv_m_getI hK0 rfl rfl e1) Kz) ?_
  refine jv_Wp.lift (fun _ Kz => jv_Ev.op jv_i138 (pc' := 44) (l' := [(0, .ref o), (1, .int e0), (2, .ref r), (3, .int (vl_I a)), (4, .int (vl_I e))]) (st' := []) (G' := (jv_H K (vm_wr I r a ks (fun j => I (o + 1) (e * ks + j))) L R)) rfl (vm_cp hK1 hKr rfl (vi_m2 rfl rfl rfl) rfl rfl (by omega) (by omega) (by omega) (by omega)) Kz) ?_
  refine jv_Wp.lift (fun _ Kz => jv_Ev.steps jv_i138 1 (pc' := 46) (l' := [(0, .ref o), (1, .int e0), (2, .ref r), (3, .int (vl_I a)), (4, .int (vl_I e))]) (st' := [.int (vl_I e)]) rfl Kz) ?_
  refine jv_Wp.of (jv_Ev.ret jv_i138 rfl rfl) ?_
  exact hQ
theorem vk_fol_e {K : Nat → Option (Nat × Nat)} {I : Nat → Nat → Int32} {L : Nat → Nat → Int64} {R : Nat → Nat → Value} {o ks en ch r a : Nat} {tk : Nat → Nat} {e0 : Int32} {len : Nat} (hT : vk_TW K R o ks en ch) (e1 : I o 1 = vl_I ks) (e3 : I o 3 = vl_I en) (htk : ∀ e, e < en → I (o + 2) e = vl_I (tk e) ∧ tk e ≤ 1) (hKr : K r = some (101, len)) (hlen : len < 2147483648) (ha : a + ks ≤ len) {n sl : Nat} {Q : jv_R → Prop} (hQ : Q (some (.int (-1 : Int32)), jv_H K I L R, n, sl)) : jv_Wp 138 5 [(0, .ref o), (1, .int e0), (2, .ref r), (3, .int (vl_I a)), (4, .int (vl_I en))] [] (jv_H K I L R) n sl Q := by
  obtain ⟨hK0, hK1, hK2, hK3, hK4, hR7, hR8, hR9, hR10, hks, hen, hch⟩ := id hT
  refine jv_Wp.lift (fun _ Kz => jv_Ev.steps jv_i138 2 (pc' := 8) (l' := [(0, .ref o), (1, .int e0), (2, .ref r), (3, .int (vl_I a)), (4, .int (vl_I en))]) (st' := [.ref o, .int (vl_I en)]) rfl Kz) ?_
  refine jv_Wp.lift (fun _ Kz => jv_Ev.m jv_i138 (pc' := 11) (st' := [.int (vl_I en), .int (vl_I en)]) (G' := (jv_H K I L R)) rfl rfl (jv_m_getI hK0 rfl rfl e3) Kz) ?_
  refine jv_Wp.cnd jv_i138 (pt := 53) (pe := 14) (p := ((vl_I en) ≤ (vl_I en))) (q := ((vl_I en) ≤ (vl_I en))) rfl jv_bc_ge rfl rfl Iff.rfl (fun _ => ?_) (fun hz => absurd ((vl_I_le (by omega) (by omega)).mpr (by omega)) hz)
  refine jv_Wp.lift (fun _ Kz => jv_Ev.steps jv_i138 1 (pc' := 54) (l' := [(0, .ref o), (1, .int e0), (2, .ref r), (3, .int (vl_I a)), (4, .int (vl_I en))]) (st' := [.int (-1 : Int32)]) rfl Kz) ?_
  refine jv_Wp.of (jv_Ev.ret jv_i138 rfl rfl) ?_
  exact hQ
theorem vk_fol_0 {K : Nat → Option (Nat × Nat)} {I : Nat → Nat → Int32} {L : Nat → Nat → Int64} {R : Nat → Nat → Value} {o ks en ch r a : Nat} {tk : Nat → Nat} {e0 : Int32} {len : Nat} (hT : vk_TW K R o ks en ch) (e1 : I o 1 = vl_I ks) (e3 : I o 3 = vl_I en) (htk : ∀ e, e < en → I (o + 2) e = vl_I (tk e) ∧ tk e ≤ 1) (hKr : K r = some (101, len)) (hlen : len < 2147483648) (ha : a + ks ≤ len) {n sl : Nat} {Q : jv_R → Prop} {e : Nat} (he0 : e0 + 1 = vl_I e) (cont : jv_Wp 138 5 [(0, .ref o), (1, .int e0), (2, .ref r), (3, .int (vl_I a)), (4, .int (vl_I e))] [] (jv_H K I L R) n sl Q) : jv_Wp 138 0 [(0, .ref o), (1, .int e0), (2, .ref r), (3, .int (vl_I a))] [] (jv_H K I L R) n sl Q := by
  obtain ⟨hK0, hK1, hK2, hK3, hK4, hR7, hR8, hR9, hR10, hks, hen, hch⟩ := id hT
  refine jv_Wp.lift (fun _ Kz => jv_Ev.steps jv_i138 4 (pc' := 5) (l' := [(4, .int (e0 + (1 : Int32))), (0, .ref o), (1, .int e0), (2, .ref r), (3, .int (vl_I a))]) (st' := []) rfl Kz) ?_
  refine jv_Wp.loc (l := [(0, .ref o), (1, .int e0), (2, .ref r), (3, .int (vl_I a)), (4, .int (e0 + (1 : Int32)))]) ⟨List.forall_mem_cons.mpr ⟨.tail _ (.head _), List.forall_mem_cons.mpr ⟨.tail _ (.tail _ (.head _)), List.forall_mem_cons.mpr ⟨.tail _ (.tail _ (.tail _ (.head _))), List.forall_mem_cons.mpr ⟨.tail _ (.tail _ (.tail _ (.tail _ (.head _)))), List.forall_mem_cons.mpr ⟨.head _, fun _ h => absurd h List.not_mem_nil⟩⟩⟩⟩⟩, by show List.Nodup [4, 0, 1, 2, 3]; decide⟩ ?_
  rw [he0]
  exact cont
theorem vk_fol_l {K : Nat → Option (Nat × Nat)} {I : Nat → Nat → Int32} {L : Nat → Nat → Int64} {R : Nat → Nat → Value} {o ks en ch r a : Nat} {tk : Nat → Nat} {e0 : Int32} {len : Nat} (hT : vk_TW K R o ks en ch) (e1 : I o 1 = vl_I ks) (e3 : I o 3 = vl_I en) (htk : ∀ e, e < en → I (o + 2) e = vl_I (tk e) ∧ tk e ≤ 1) (hKr : K r = some (101, len)) (hlen : len < 2147483648) (ha : a + ks ≤ len) {n sl : Nat} {Q : jv_R → Prop} {e : Nat} (h1 : ∀ x, e ≤ x → x < en → tk x = 1 → (∀ z, e ≤ z → z < x → tk z = 0) → Q (some (.int (vl_I x)), jv_H K (vm_wr I r a ks (fun j => I (o + 1) (x * ks + j))) L R, n, sl)) (h2 : (∀ x, e ≤ x → x < en → tk x = 0) → Q (some (.int (-1 : Int32)), jv_H K I L R, n, sl)) : ∀ d x, x + d = en → e ≤ x → (∀ z, e ≤ z → z < x → tk z = 0) → jv_Wp 138 5 [(0, .ref o), (1, .int e0), (2, .ref r), (3, .int (vl_I a)), (4, .int (vl_I x))] [] (jv_H K I L R) n sl Q
  | 0, x, g, hx, hz => by
    have g : x = en := g
    subst g
    exact vk_fol_e hT e1 e3 htk hKr hlen ha (h2 hz)
  | d + 1, x, g, hx, hz => by
    by_cases c : tk x = 1
    · exact vk_fol_f hT e1 e3 htk hKr hlen ha (by omega) c (h1 x hx (by omega) c hz)
    · have c0 : tk x = 0 := by have := (htk x (by omega)).2; omega
      exact vk_fol_t hT e1 e3 htk hKr hlen ha (by omega) c0 (vk_fol_l hT e1 e3 htk hKr hlen ha h1 h2 d (x + 1) (by omega) (by omega) (fun z a b => by
        by_cases y : z = x
        · rw [y]; exact c0
        · exact hz z a (by omega)))
/-- the first entry that is taken, from e on -/
theorem vk_follow {K : Nat → Option (Nat × Nat)} {I : Nat → Nat → Int32} {L : Nat → Nat → Int64} {R : Nat → Nat → Value} {o ks en ch r a : Nat} {tk : Nat → Nat} {e0 : Int32} {len : Nat} (hT : vk_TW K R o ks en ch) (e1 : I o 1 = vl_I ks) (e3 : I o 3 = vl_I en) (htk : ∀ e, e < en → I (o + 2) e = vl_I (tk e) ∧ tk e ≤ 1) (hKr : K r = some (101, len)) (hlen : len < 2147483648) (ha : a + ks ≤ len) {n sl : Nat} {e : Nat} (he : e ≤ en) (he0 : e0 + 1 = vl_I e) {P : jv_R → Prop} (h1 : ∀ x, e ≤ x → x < en → tk x = 1 → (∀ z, e ≤ z → z < x → tk z = 0) → P (some (.int (vl_I x)), jv_H K (vm_wr I r a ks (fun j => I (o + 1) (x * ks + j))) L R, n, sl)) (h2 : (∀ x, e ≤ x → x < en → tk x = 0) → P (some (.int (-1 : Int32)), jv_H K I L R, n, sl)) : ∃ X, jv_Ms 138 [.ref o, .int e0, .ref r, .int (vl_I a)] (jv_H K I L R) n sl X ∧ P X :=
  vk_fol_0 hT e1 e3 htk hKr hlen ha he0 (vk_fol_l hT e1 e3 htk hKr hlen ha h1 h2 (en - e) e (by omega) (Nat.le_refl e) (fun z a b => by omega))