/-! part g03: a key gets an entry, of the class (gen/tg03.py) -/
theorem vk_n_le {tk : Nat → Nat} : ∀ n, (∀ e, e < n → tk e ≤ 1) → vk_n tk n ≤ n
  | 0, _ => Nat.le_refl 0
  | n + 1, h => by
    have a := vk_n_le n (fun e he => h e (by omega))
    have b := h n (by omega)
    show vk_n tk n + tk n ≤ n + 1; omega
theorem vk_n_eq {tk tk' : Nat → Nat} : ∀ n, (∀ e, e < n → tk' e = tk e) → vk_n tk' n = vk_n tk n
  | 0, _ => rfl
  | n + 1, h => by
    show vk_n tk' n + tk' n = vk_n tk n + tk n
    rw [vk_n_eq n (fun e he => h e (by omega)), h n (by omega)]
/-- one entry is changed -/
theorem vk_n_1 {tk tk' : Nat → Nat} {f : Nat} : ∀ n, f < n → (∀ e, e < n → e ≠ f → tk' e = tk e) → vk_n tk' n + tk f = vk_n tk n + tk' f
  | 0, h, _ => absurd h (Nat.not_lt_zero f)
  | n + 1, hf, h => by
    show vk_n tk' n + tk' n + tk f = vk_n tk n + tk n + tk' f
    by_cases c : f = n
    · subst c
      have := vk_n_eq (tk := tk) (tk' := tk') f (fun e he => h e (by omega) (by omega))
      omega
    · have a := vk_n_1 n (by omega) (fun e he => h e (by omega))
      have b := h n (by omega) (fun z => c z.symm)
      omega
theorem vk_n_full {tk : Nat → Nat} : ∀ n, (∀ e, e < n → tk e ≤ 1) → n ≤ vk_n tk n → ∀ e, e < n → tk e = 1
  | 0, _, _, e, he => absurd he (Nat.not_lt_zero e)
  | n + 1, h, g, e, he => by
    have g : n + 1 ≤ vk_n tk n + tk n := g
    have a := vk_n_le n (fun e he => h e (by omega))
    have b := h n (by omega)
    by_cases c : e = n
    · rw [c]; omega
    · exact vk_n_full n (fun e he => h e (by omega)) (by omega) e (by omega)
theorem vk_n_all {tk : Nat → Nat} : ∀ n, (∀ e, e < n → tk e = 1) → vk_n tk n = n
  | 0, _ => rfl
  | n + 1, h => by
    show vk_n tk n + tk n = n + 1
    rw [vk_n_all n (fun e he => h e (by omega)), h n (by omega)]
theorem vk_min {a b : Nat} (ha : a < 2147483648) (hb : b < 2147483648) : (if vl_I b < vl_I a then vl_I b else vl_I a) = vl_I (min a b) := by
  by_cases c : b < a
  · rw [if_pos ((vl_I_lt hb ha).mpr c), Nat.min_eq_right (by omega)]
  · rw [if_neg (fun z => c ((vl_I_lt hb ha).mp z)), Nat.min_eq_left (by omega)]
theorem vk_b01 {x : Nat} (h : x ≤ 1) : vl_I x = 0 ∨ vl_I x = 1 := by
  rcases Nat.le_one_iff_eq_zero_or_eq_one.mp h with c | c <;> subst c <;> decide
theorem jv_i135 : jv_I 135 5 (some .int) 1 26 jv_c135 := ⟨rfl, rfl, rfl, rfl, rfl⟩
theorem vk_occ_t {K : Nat → Option (Nat × Nat)} {I : Nat → Nat → Int32} {L : Nat → Nat → Int64} {R : Nat → Nat → Value} {o ks en ch r a : Nat} {tk : Nat → Nat} (hT : vk_TW K R o ks en ch) (e1 : I o 1 = vl_I ks) (e3 : I o 3 = vl_I en) (htk : ∀ e, e < en → I (o + 2) e = vl_I (tk e) ∧ tk e ≤ 1) {n sl : Nat} {Q : jv_R → Prop} {e : Nat} (he : e + 1 < en) (h1 : tk e = 1) (cont : jv_Wp 135 14 [(0, .ref o), (1, .ref r), (2, .int (vl_I a)), (3, .int (vl_I (e + 1)))] [] (jv_H K I L R) n sl Q) : jv_Wp 135 14 [(0, .ref o), (1, .ref r), (2, .int (vl_I a)), (3, .int (vl_I e))] [] (jv_H K I L R) n sl Q := by
  obtain ⟨hK0, hK1, hK2, hK3, hK4, hR7, hR8, hR9, hR10, hks, hen, hch⟩ := id hT
  refine jv_Wp.lift (fun _ Kz => jv_Ev.steps jv_i135 2 (pc' := 16) (l' := [(0, .ref o), (1, .ref r), (2, .int (vl_I a)), (3, .int (vl_I e))]) (st' := [.ref o, .int (vl_I e)]) rfl Kz) ?_
  refine jv_Wp.lift (fun _ Kz => jv_Ev.m jv_i135 (pc' := 19) (st' := [.int (vl_I en), .int (vl_I e)]) (G' := (jv_H K I L R)) rfl rfl (jv_m_getI hK0 rfl rfl e3) Kz) ?_
  refine jv_Wp.lift (fun _ Kz => jv_Ev.steps jv_i135 2 (pc' := 21) (l' := [(0, .ref o), (1, .ref r), (2, .int (vl_I a)), (3, .int (vl_I e))]) (st' := [.int ((vl_I en) - (1 : Int32)), .int (vl_I e)]) rfl Kz) ?_
  refine jv_Wp.cnd jv_i135 (pt := 39) (pe := 24) (p := (((vl_I en) - (1 : Int32)) ≤ (vl_I e))) (q := (((vl_I en) - (1 : Int32)) ≤ (vl_I e))) rfl jv_bc_ge rfl rfl Iff.rfl (fun hz => absurd hz (fun z => absurd ((vl_I_le (by omega) (by omega)).mp ((vi_s2 (x := en) (z := 1) (a := vl_I en) (b := 1) rfl rfl (by omega) rfl) ▸ z)) (by omega))) (fun _ => ?_)
  refine jv_Wp.lift (fun _ Kz => jv_Ev.steps jv_i135 1 (pc' := 25) (l' := [(0, .ref o), (1, .ref r), (2, .int (vl_I a)), (3, .int (vl_I e))]) (st' := [.ref o]) rfl Kz) ?_
  refine jv_Wp.lift (fun _ Kz => jv_Ev.m jv_i135 (pc' := 28) (st' := [.ref (o + 2)]) (G' := (jv_H K I L R)) rfl rfl (jv_m_getR hK0 rfl rfl hR8) Kz) ?_
  refine jv_Wp.lift (fun _ Kz => jv_Ev.steps jv_i135 1 (pc' := 29) (l' := [(0, .ref o), (1, .ref r), (2, .int (vl_I a)), (3, .int (vl_I e))]) (st' := [.int (vl_I e), .ref (o + 2)]) rfl Kz) ?_
  refine jv_Wp.lift (fun _ Kz => jv_Ev.m jv_i135 (pc' := 30) (st' := [.int (vl_I (tk e))]) (G' := (jv_H K I L R)) rfl rfl (jv_m_baldv hK2 rfl (vl_I_ix (by omega) (by first | omega | decide)) rfl ((congrArg (I (o + 2)) (vl_I_nat (by omega))).trans (htk e (by omega)).1)) Kz) ?_
  refine jv_Wp.cnd jv_i135 (pt := 39) (pe := 33) (p := ((vl_I (tk e)) = 0)) (q := ((vl_I (tk e)) = 0)) rfl jv_bi_eq rfl rfl Iff.rfl (fun hz => absurd hz (by rw [h1]; decide)) (fun _ => ?_)
  refine jv_Wp.lift (fun _ Kz => jv_Ev.steps jv_i135 2 (pc' := 14) (l' := [(3, .int ((vl_I e) + Int32.ofInt 1)), (0, .ref o), (1, .ref r), (2, .int (vl_I a))]) (st' := []) rfl Kz) ?_
  refine jv_Wp.loc (l := [(0, .ref o), (1, .ref r), (2, .int (vl_I a)), (3, .int ((vl_I e) + Int32.ofInt 1))]) ⟨List.forall_mem_cons.mpr ⟨.tail _ (.head _), List.forall_mem_cons.mpr ⟨.tail _ (.tail _ (.head _)), List.forall_mem_cons.mpr ⟨.tail _ (.tail _ (.tail _ (.head _))), List.forall_mem_cons.mpr ⟨.head _, fun _ h => absurd h List.not_mem_nil⟩⟩⟩⟩, by show List.Nodup [3, 0, 1, 2]; decide⟩ ?_
  rw [vk_p1 e]
  exact cont
theorem vk_occ_e {K : Nat → Option (Nat × Nat)} {I : Nat → Nat → Int32} {L : Nat → Nat → Int64} {R : Nat → Nat → Value} {o ks en ch r a : Nat} {tk : Nat → Nat} (hT : vk_TW K R o ks en ch) (e1 : I o 1 = vl_I ks) (e3 : I o 3 = vl_I en) (htk : ∀ e, e < en → I (o + 2) e = vl_I (tk e) ∧ tk e ≤ 1) {n sl : Nat} {Q : jv_R → Prop} {e : Nat} (he : e < en) (h0 : tk e = 0) (cont : jv_Wp 135 39 [(0, .ref o), (1, .ref r), (2, .int (vl_I a)), (3, .int (vl_I e))] [] (jv_H K I L R) n sl Q) : jv_Wp 135 14 [(0, .ref o), (1, .ref r), (2, .int (vl_I a)), (3, .int (vl_I e))] [] (jv_H K I L R) n sl Q := by
  obtain ⟨hK0, hK1, hK2, hK3, hK4, hR7, hR8, hR9, hR10, hks, hen, hch⟩ := id hT
  refine jv_Wp.lift (fun _ Kz => jv_Ev.steps jv_i135 2 (pc' := 16) (l' := [(0, .ref o), (1, .ref r), (2, .int (vl_I a)), (3, .int (vl_I e))]) (st' := [.ref o, .int (vl_I e)]) rfl Kz) ?_
  refine jv_Wp.lift (fun _ Kz => jv_Ev.m jv_i135 (pc' := 19) (st' := [.int (vl_I en), .int (vl_I e)]) (G' := (jv_H K I L R)) rfl rfl (jv_m_getI hK0 rfl rfl e3) Kz) ?_
  refine jv_Wp.lift (fun _ Kz => jv_Ev.steps jv_i135 2 (pc' := 21) (l' := [(0, .ref o), (1, .ref r), (2, .int (vl_I a)), (3, .int (vl_I e))]) (st' := [.int ((vl_I en) - (1 : Int32)), .int (vl_I e)]) rfl Kz) ?_
  refine jv_Wp.cnd jv_i135 (pt := 39) (pe := 24) (p := (((vl_I en) - (1 : Int32)) ≤ (vl_I e))) (q := (((vl_I en) - (1 : Int32)) ≤ (vl_I e))) rfl jv_bc_ge rfl rfl Iff.rfl (fun h1 => ?_) (fun h1 => ?_)
  · exact cont
  · refine jv_Wp.lift (fun _ Kz => jv_Ev.steps jv_i135 1 (pc' := 25) (l' := [(0, .ref o), (1, .ref r), (2, .int (vl_I a)), (3, .int (vl_I e))]) (st' := [.ref o]) rfl Kz) ?_
    refine jv_Wp.lift (fun _ Kz => jv_Ev.m jv_i135 (pc' := 28) (st' := [.ref (o + 2)]) (G' := (jv_H K I L R)) rfl rfl (jv_m_getR hK0 rfl rfl hR8) Kz) ?_
    refine jv_Wp.lift (fun _ Kz => jv_Ev.steps jv_i135 1 (pc' := 29) (l' := [(0, .ref o), (1, .ref r), (2, .int (vl_I a)), (3, .int (vl_I e))]) (st' := [.int (vl_I e), .ref (o + 2)]) rfl Kz) ?_
    refine jv_Wp.lift (fun _ Kz => jv_Ev.m jv_i135 (pc' := 30) (st' := [.int (vl_I (tk e))]) (G' := (jv_H K I L R)) rfl rfl (jv_m_baldv hK2 rfl (vl_I_ix (by omega) (by first | omega | decide)) rfl ((congrArg (I (o + 2)) (vl_I_nat (by omega))).trans (htk e (by omega)).1)) Kz) ?_
    refine jv_Wp.cnd jv_i135 (pt := 39) (pe := 33) (p := ((vl_I (tk e)) = 0)) (q := ((vl_I (tk e)) = 0)) rfl jv_bi_eq rfl rfl Iff.rfl (fun _ => ?_) (fun hz => absurd (by rw [h0]; decide) hz)
    exact cont
theorem vk_occ_l {K : Nat → Option (Nat × Nat)} {I : Nat → Nat → Int32} {L : Nat → Nat → Int64} {R : Nat → Nat → Value} {o ks en ch r a : Nat} {tk : Nat → Nat} (hT : vk_TW K R o ks en ch) (e1 : I o 1 = vl_I ks) (e3 : I o 3 = vl_I en) (htk : ∀ e, e < en → I (o + 2) e = vl_I (tk e) ∧ tk e ≤ 1) {n sl : Nat} {Q : jv_R → Prop} {f : Nat} (hf : f < en) (h0 : tk f = 0) (h1 : ∀ e, e < f → tk e = 1) (cont : jv_Wp 135 39 [(0, .ref o), (1, .ref r), (2, .int (vl_I a)), (3, .int (vl_I f))] [] (jv_H K I L R) n sl Q) : ∀ d e, e + d = f → jv_Wp 135 14 [(0, .ref o), (1, .ref r), (2, .int (vl_I a)), (3, .int (vl_I e))] [] (jv_H K I L R) n sl Q
  | 0, e, g => by
    have g : e = f := g
    subst g
    exact vk_occ_e hT e1 e3 htk hf h0 cont
  | d + 1, e, g => vk_occ_t hT e1 e3 htk (by omega) (h1 e (by omega)) (vk_occ_l hT e1 e3 htk hf h0 h1 cont d (e + 1) (by omega))
theorem vk_occ_0 {K : Nat → Option (Nat × Nat)} {I : Nat → Nat → Int32} {L : Nat → Nat → Int64} {R : Nat → Nat → Value} {o ks en ch r a : Nat} {tk : Nat → Nat} (hT : vk_TW K R o ks en ch) (e1 : I o 1 = vl_I ks) (e3 : I o 3 = vl_I en) (htk : ∀ e, e < en → I (o + 2) e = vl_I (tk e) ∧ tk e ≤ 1) {n sl : Nat} {Q : jv_R → Prop} {ff : Nat} (hff : ff ≤ en) (e12 : I o 12 = vl_I ff) (cont : jv_Wp 135 14 [(0, .ref o), (1, .ref r), (2, .int (vl_I a)), (3, .int (vl_I (min ff (en - 1))))] [] (jv_H K I L R) n sl Q) : jv_Wp 135 0 [(0, .ref o), (1, .ref r), (2, .int (vl_I a))] [] (jv_H K I L R) n sl Q := by
  obtain ⟨hK0, hK1, hK2, hK3, hK4, hR7, hR8, hR9, hR10, hks, hen, hch⟩ := id hT
  refine jv_Wp.lift (fun _ Kz => jv_Ev.steps jv_i135 1 (pc' := 1) (l' := [(0, .ref o), (1, .ref r), (2, .int (vl_I a))]) (st' := [.ref o]) rfl Kz) ?_
  refine jv_Wp.lift (fun _ Kz => jv_Ev.m jv_i135 (pc' := 4) (st' := [.int (vl_I ff)]) (G' := (jv_H K I L R)) rfl rfl (jv_m_getI hK0 rfl rfl e12) Kz) ?_
  refine jv_Wp.lift (fun _ Kz => jv_Ev.steps jv_i135 1 (pc' := 5) (l' := [(0, .ref o), (1, .ref r), (2, .int (vl_I a))]) (st' := [.ref o, .int (vl_I ff)]) rfl Kz) ?_
  refine jv_Wp.lift (fun _ Kz => jv_Ev.m jv_i135 (pc' := 8) (st' := [.int (vl_I en), .int (vl_I ff)]) (G' := (jv_H K I L R)) rfl rfl (jv_m_getI hK0 rfl rfl e3) Kz) ?_
  refine jv_Wp.lift (fun _ Kz => jv_Ev.steps jv_i135 4 (pc' := 14) (l' := [(3, .int (if ((vl_I en) - (1 : Int32)) < (vl_I ff) then ((vl_I en) - (1 : Int32)) else (vl_I ff))), (0, .ref o), (1, .ref r), (2, .int (vl_I a))]) (st' := []) rfl Kz) ?_
  refine jv_Wp.loc (l := [(0, .ref o), (1, .ref r), (2, .int (vl_I a)), (3, .int (if ((vl_I en) - (1 : Int32)) < (vl_I ff) then ((vl_I en) - (1 : Int32)) else (vl_I ff)))]) ⟨List.forall_mem_cons.mpr ⟨.tail _ (.head _), List.forall_mem_cons.mpr ⟨.tail _ (.tail _ (.head _)), List.forall_mem_cons.mpr ⟨.tail _ (.tail _ (.tail _ (.head _))), List.forall_mem_cons.mpr ⟨.head _, fun _ h => absurd h List.not_mem_nil⟩⟩⟩⟩, by show List.Nodup [3, 0, 1, 2]; decide⟩ ?_
  rw [show vl_I en - (1 : Int32) = vl_I (en - 1) from vi_s2 (x := en) (z := 1) rfl rfl (by omega) rfl, vk_min (by omega) (by omega)]
  exact cont
/-- the heap's ints when entry e has got the key at a of row r (c: its chain) -/
def vk_occI (I : Nat → Nat → Int32) (o ks r a e cnt c : Nat) : Nat → Nat → Int32 := (jv_u (jv_u (vm_wr (jv_u (jv_u (jv_u I o 12 ((vl_I e) + (1 : Int32))) o 11 ((vl_I cnt) + (1 : Int32))) (o + 2) e ((1 : Int32) &&& 1)) (o + 1) (e * ks) ks (fun j => (jv_u (jv_u (jv_u I o 12 ((vl_I e) + (1 : Int32))) o 11 ((vl_I cnt) + (1 : Int32))) (o + 2) e ((1 : Int32) &&& 1)) r (a + j))) (o + 4) e (I (o + 3) c)) (o + 3) c ((vl_I e) + (1 : Int32)))
theorem vk_occ_w {K : Nat → Option (Nat × Nat)} {I : Nat → Nat → Int32} {L : Nat → Nat → Int64} {R : Nat → Nat → Value} {o ks en ch r a : Nat} {tk : Nat → Nat} (hT : vk_TW K R o ks en ch) (e1 : I o 1 = vl_I ks) (e3 : I o 3 = vl_I en) (htk : ∀ e, e < en → I (o + 2) e = vl_I (tk e) ∧ tk e ≤ 1) {n sl : Nat} {Q : jv_R → Prop} {len : Nat} {B : Nat → Nat} (hKr : K r = some (101, len)) (hlen : len < 2147483648) (hro : r < o) (ha : a + ks ≤ len) (hB : vk_by I r a ks B) {e cnt : Nat} (he : e < en) (e11 : I o 11 = vl_I cnt) (hQ : Q (some (.int (vl_I e)), jv_H K (vk_occI I o ks r a e cnt (vk_c ch B ks)) L R, n, sl)) : jv_Wp 135 39 [(0, .ref o), (1, .ref r), (2, .int (vl_I a)), (3, .int (vl_I e))] [] (jv_H K I L R) n sl Q := by
  obtain ⟨hK0, hK1, hK2, hK3, hK4, hR7, hR8, hR9, hR10, hks, hen, hch⟩ := id hT
  have hcl := vk_c_lt hch.1 hch.2 B ks
  have hix := vk_ix he (show 0 < ks by omega)
  have hix2 : e * ks + ks ≤ ks * en := by
    have y := Nat.mul_le_mul_right ks (show e + 1 ≤ en from he)
    rw [Nat.add_mul, Nat.one_mul] at y
    rw [Nat.mul_comm ks en]; exact y
  have hsz := vk_sz hks.2 hen.2
  have f1 : ∀ q i, q ≠ o → q ≠ o + 1 → q ≠ o + 2 → (vm_wr (jv_u (jv_u (jv_u I o 12 ((vl_I e) + (1 : Int32))) o 11 ((vl_I cnt) + (1 : Int32))) (o + 2) e ((1 : Int32) &&& 1)) (o + 1) (e * ks) ks (fun j => (jv_u (jv_u (jv_u I o 12 ((vl_I e) + (1 : Int32))) o 11 ((vl_I cnt) + (1 : Int32))) (o + 2) e ((1 : Int32) &&& 1)) r (a + j))) q i = I q i := fun q i y0 y1 y2 => by
    rw [vm_wr_o (fun z => y1 z.1), jv_u_o _ _ _ _ y2, jv_u_o _ _ _ _ y0, jv_u_o _ _ _ _ y0]
  have g1 : (vm_wr (jv_u (jv_u (jv_u I o 12 ((vl_I e) + (1 : Int32))) o 11 ((vl_I cnt) + (1 : Int32))) (o + 2) e ((1 : Int32) &&& 1)) (o + 1) (e * ks) ks (fun j => (jv_u (jv_u (jv_u I o 12 ((vl_I e) + (1 : Int32))) o 11 ((vl_I cnt) + (1 : Int32))) (o + 2) e ((1 : Int32) &&& 1)) r (a + j))) o 1 = vl_I ks := by
    rw [vm_wr_o (fun z => absurd z.1 (by omega)), jv_u_o _ _ _ _ (by omega), jv_u_j _ _ _ _ (by decide), jv_u_j _ _ _ _ (by decide)]; exact e1
  have hCH := vk_chainOf (n := n) (sl := sl) (I := (vm_wr (jv_u (jv_u (jv_u I o 12 ((vl_I e) + (1 : Int32))) o 11 ((vl_I cnt) + (1 : Int32))) (o + 2) e ((1 : Int32) &&& 1)) (o + 1) (e * ks) ks (fun j => (jv_u (jv_u (jv_u I o 12 ((vl_I e) + (1 : Int32))) o 11 ((vl_I cnt) + (1 : Int32))) (o + 2) e ((1 : Int32) &&& 1)) r (a + j)))) (L := L) hT g1 hKr hlen ha (fun j hj => by rw [f1 r _ (by omega) (by omega) (by omega)]; exact hB j hj)
  refine jv_Wp.lift (fun _ Kz => jv_Ev.steps jv_i135 4 (pc' := 43) (l' := [(0, .ref o), (1, .ref r), (2, .int (vl_I a)), (3, .int (vl_I e))]) (st' := [.int ((vl_I e) + (1 : Int32)), .ref o]) rfl Kz) ?_
  refine jv_Wp.lift (fun _ Kz => jv_Ev.m jv_i135 (pc' := 46) (st' := []) (G' := (jv_H K (jv_u I o 12 ((vl_I e) + (1 : Int32))) L R)) rfl rfl (jv_m_putI hK0 rfl rfl rfl rfl) Kz) ?_
  refine jv_Wp.lift (fun _ Kz => jv_Ev.steps jv_i135 2 (pc' := 48) (l' := [(0, .ref o), (1, .ref r), (2, .int (vl_I a)), (3, .int (vl_I e))]) (st' := [.ref o, .ref o]) rfl Kz) ?_
  refine jv_Wp.lift (fun _ Kz => jv_Ev.m jv_i135 (pc' := 51) (st' := [.int (vl_I cnt), .ref o]) (G' := (jv_H K (jv_u I o 12 ((vl_I e) + (1 : Int32))) L R)) rfl rfl (jv_m_getI hK0 rfl rfl ((jv_u_j _ _ _ _ (by decide)).trans e11)) Kz) ?_
  refine jv_Wp.lift (fun _ Kz => jv_Ev.steps jv_i135 2 (pc' := 53) (l' := [(0, .ref o), (1, .ref r), (2, .int (vl_I a)), (3, .int (vl_I e))]) (st' := [.int ((vl_I cnt) + (1 : Int32)), .ref o]) rfl Kz) ?_
  refine jv_Wp.lift (fun _ Kz => jv_Ev.m jv_i135 (pc' := 56) (st' := []) (G' := (jv_H K (jv_u (jv_u I o 12 ((vl_I e) + (1 : Int32))) o 11 ((vl_I cnt) + (1 : Int32))) L R)) rfl rfl (jv_m_putI hK0 rfl rfl rfl rfl) Kz) ?_
  refine jv_Wp.lift (fun _ Kz => jv_Ev.steps jv_i135 1 (pc' := 57) (l' := [(0, .ref o), (1, .ref r), (2, .int (vl_I a)), (3, .int (vl_I e))]) (st' := [.ref o]) rfl Kz) ?_
  refine jv_Wp.lift (fun _ Kz => jv_Ev.m jv_i135 (pc' := 60) (st' := [.ref (o + 2)]) (G' := (jv_H K (jv_u (jv_u I o 12 ((vl_I e) + (1 : Int32))) o 11 ((vl_I cnt) + (1 : Int32))) L R)) rfl rfl (jv_m_getR hK0 rfl rfl hR8) Kz) ?_
  refine jv_Wp.lift (fun _ Kz => jv_Ev.steps jv_i135 2 (pc' := 62) (l' := [(0, .ref o), (1, .ref r), (2, .int (vl_I a)), (3, .int (vl_I e))]) (st' := [.int (1 : Int32), .int (vl_I e), .ref (o + 2)]) rfl Kz) ?_
  refine jv_Wp.lift (fun _ Kz => jv_Ev.m jv_i135 (pc' := 63) (st' := []) (G' := (jv_H K (jv_u (jv_u (jv_u I o 12 ((vl_I e) + (1 : Int32))) o 11 ((vl_I cnt) + (1 : Int32))) (o + 2) e ((1 : Int32) &&& 1)) L R)) rfl rfl (by rw [jv_m_zast hK2 (vl_I_ix (by omega) (by first | omega | decide)), (vl_I_nat (by omega))]) Kz) ?_
  refine jv_Wp.lift (fun _ Kz => jv_Ev.steps jv_i135 3 (pc' := 66) (l' := [(0, .ref o), (1, .ref r), (2, .int (vl_I a)), (3, .int (vl_I e))]) (st' := [.ref o, .int (vl_I a), .ref r]) rfl Kz) ?_
  refine jv_Wp.lift (fun _ Kz => jv_Ev.m jv_i135 (pc' := 69) (st' := [.ref (o + 1), .int (vl_I a), .ref r]) (G' := (jv_H K (jv_u (jv_u (jv_u I o 12 ((vl_I e) + (1 : Int32))) o 11 ((vl_I cnt) + (1 : Int32))) (o + 2) e ((1 : Int32) &&& 1)) L R)) rfl rfl (jv_m_getR hK0 rfl rfl hR7) Kz) ?_
  refine jv_Wp.lift (fun _ Kz => jv_Ev.steps jv_i135 2 (pc' := 71) (l' := [(0, .ref o), (1, .ref r), (2, .int (vl_I a)), (3, .int (vl_I e))]) (st' := [.ref o, .int (vl_I e), .ref (o + 1), .int (vl_I a), .ref r]) rfl Kz) ?_
  refine jv_Wp.lift (fun _ Kz => jv_Ev.m jv_i135 (pc' := 74) (st' := [.int (vl_I ks), .int (vl_I e), .ref (o + 1), .int (vl_I a), .ref r]) (G' := (jv_H K (jv_u (jv_u (jv_u I o 12 ((vl_I e) + (1 : Int32))) o 11 ((vl_I cnt) + (1 : Int32))) (o + 2) e ((1 : Int32) &&& 1)) L R)) rfl rfl (jv_m_getI hK0 rfl rfl ((jv_u_o _ _ _ _ (by omega)).trans ((jv_u_j _ _ _ _ (by decide)).trans ((jv_u_j _ _ _ _ (by decide)).trans e1)))) Kz) ?_
  refine jv_Wp.lift (fun _ Kz => jv_Ev.steps jv_i135 2 (pc' := 76) (l' := [(0, .ref o), (1, .ref r), (2, .int (vl_I a)), (3, .int (vl_I e))]) (st' := [.ref o, .int ((vl_I e) * (vl_I ks)), .ref (o + 1), .int (vl_I a), .ref r]) rfl Kz) ?_
  refine jv_Wp.lift (fun _ Kz => jv_Ev.m jv_i135 (pc' := 79) (st' := [.int (vl_I ks), .int ((vl_I e) * (vl_I ks)), .ref (o + 1), .int (vl_I a), .ref r]) (G' := (jv_H K (jv_u (jv_u (jv_u I o 12 ((vl_I e) + (1 : Int32))) o 11 ((vl_I cnt) + (1 : Int32))) (o + 2) e ((1 : Int32) &&& 1)) L R)) rfl rfl (jv_m_getI hK0 rfl rfl ((jv_u_o _ _ _ _ (by omega)).trans ((jv_u_j _ _ _ _ (by decide)).trans ((jv_u_j _ _ _ _ (by decide)).trans e1)))) Kz) ?_
  refine jv_Wp.lift (fun _ Kz => jv_Ev.op jv_i135 (pc' := 82) (l' := [(0, .ref o), (1, .ref r), (2, .int (vl_I a)), (3, .int (vl_I e))]) (st' := []) (G' := (jv_H K (vm_wr (jv_u (jv_u (jv_u I o 12 ((vl_I e) + (1 : Int32))) o 11 ((vl_I cnt) + (1 : Int32))) (o + 2) e ((1 : Int32) &&& 1)) (o + 1) (e * ks) ks (fun j => (jv_u (jv_u (jv_u I o 12 ((vl_I e) + (1 : Int32))) o 11 ((vl_I cnt) + (1 : Int32))) (o + 2) e ((1 : Int32) &&& 1)) r (a + j))) L R)) rfl (vm_cp hKr hK1 rfl rfl (vi_m2 rfl rfl rfl) rfl (by omega) (by omega) (by omega) (by omega)) Kz) ?_
  refine jv_Wp.lift (fun _ Kz => jv_Ev.steps jv_i135 3 (pc' := 85) (l' := [(0, .ref o), (1, .ref r), (2, .int (vl_I a)), (3, .int (vl_I e))]) (st' := [.int (vl_I a), .ref r, .ref o]) rfl Kz) ?_
  refine jv_Wp.lift (fun _ Kz => jv_Ev.c jv_i135 (pc' := 88) (S' := [.int (vl_I (vk_c ch B ks))]) jv_i131 [.ref o, .ref r, .int (vl_I a)] rfl rfl rfl rfl (jv_cal rfl (jv_H_at hK0) rfl rfl) rfl hCH rfl rfl Kz) ?_
  refine jv_Wp.lift (fun _ Kz => jv_Ev.steps jv_i135 2 (pc' := 91) (l' := [(4, .int (vl_I (vk_c ch B ks))), (0, .ref o), (1, .ref r), (2, .int (vl_I a)), (3, .int (vl_I e))]) (st' := [.ref o]) rfl Kz) ?_
  refine jv_Wp.lift (fun _ Kz => jv_Ev.m jv_i135 (pc' := 94) (st' := [.ref (o + 4)]) (G' := (jv_H K (vm_wr (jv_u (jv_u (jv_u I o 12 ((vl_I e) + (1 : Int32))) o 11 ((vl_I cnt) + (1 : Int32))) (o + 2) e ((1 : Int32) &&& 1)) (o + 1) (e * ks) ks (fun j => (jv_u (jv_u (jv_u I o 12 ((vl_I e) + (1 : Int32))) o 11 ((vl_I cnt) + (1 : Int32))) (o + 2) e ((1 : Int32) &&& 1)) r (a + j))) L R)) rfl rfl (jv_m_getR hK0 rfl rfl hR10) Kz) ?_
  refine jv_Wp.lift (fun _ Kz => jv_Ev.steps jv_i135 2 (pc' := 96) (l' := [(4, .int (vl_I (vk_c ch B ks))), (0, .ref o), (1, .ref r), (2, .int (vl_I a)), (3, .int (vl_I e))]) (st' := [.ref o, .int (vl_I e), .ref (o + 4)]) rfl Kz) ?_
  refine jv_Wp.lift (fun _ Kz => jv_Ev.m jv_i135 (pc' := 99) (st' := [.ref (o + 3), .int (vl_I e), .ref (o + 4)]) (G' := (jv_H K (vm_wr (jv_u (jv_u (jv_u I o 12 ((vl_I e) + (1 : Int32))) o 11 ((vl_I cnt) + (1 : Int32))) (o + 2) e ((1 : Int32) &&& 1)) (o + 1) (e * ks) ks (fun j => (jv_u (jv_u (jv_u I o 12 ((vl_I e) + (1 : Int32))) o 11 ((vl_I cnt) + (1 : Int32))) (o + 2) e ((1 : Int32) &&& 1)) r (a + j))) L R)) rfl rfl (jv_m_getR hK0 rfl rfl hR9) Kz) ?_
  refine jv_Wp.lift (fun _ Kz => jv_Ev.steps jv_i135 1 (pc' := 101) (l' := [(4, .int (vl_I (vk_c ch B ks))), (0, .ref o), (1, .ref r), (2, .int (vl_I a)), (3, .int (vl_I e))]) (st' := [.int (vl_I (vk_c ch B ks)), .ref (o + 3), .int (vl_I e), .ref (o + 4)]) rfl Kz) ?_
  refine jv_Wp.lift (fun _ Kz => jv_Ev.m jv_i135 (pc' := 102) (st' := [.int (I (o + 3) (vk_c ch B ks)), .int (vl_I e), .ref (o + 4)]) (G' := (jv_H K (vm_wr (jv_u (jv_u (jv_u I o 12 ((vl_I e) + (1 : Int32))) o 11 ((vl_I cnt) + (1 : Int32))) (o + 2) e ((1 : Int32) &&& 1)) (o + 1) (e * ks) ks (fun j => (jv_u (jv_u (jv_u I o 12 ((vl_I e) + (1 : Int32))) o 11 ((vl_I cnt) + (1 : Int32))) (o + 2) e ((1 : Int32) &&& 1)) r (a + j))) L R)) rfl rfl (jv_m_ialdv hK3 rfl (vl_I_ix hcl (by omega)) rfl ((congrArg ((vm_wr (jv_u (jv_u (jv_u I o 12 ((vl_I e) + (1 : Int32))) o 11 ((vl_I cnt) + (1 : Int32))) (o + 2) e ((1 : Int32) &&& 1)) (o + 1) (e * ks) ks (fun j => (jv_u (jv_u (jv_u I o 12 ((vl_I e) + (1 : Int32))) o 11 ((vl_I cnt) + (1 : Int32))) (o + 2) e ((1 : Int32) &&& 1)) r (a + j))) (o + 3)) (vl_I_nat (by omega))).trans ((vm_wr_o (fun z => absurd z.1 (by omega))).trans ((jv_u_o _ _ _ _ (by omega)).trans ((jv_u_o _ _ _ _ (by omega)).trans (jv_u_o _ _ _ _ (by omega))))))) Kz) ?_
  refine jv_Wp.lift (fun _ Kz => jv_Ev.m jv_i135 (pc' := 103) (st' := []) (G' := (jv_H K (jv_u (vm_wr (jv_u (jv_u (jv_u I o 12 ((vl_I e) + (1 : Int32))) o 11 ((vl_I cnt) + (1 : Int32))) (o + 2) e ((1 : Int32) &&& 1)) (o + 1) (e * ks) ks (fun j => (jv_u (jv_u (jv_u I o 12 ((vl_I e) + (1 : Int32))) o 11 ((vl_I cnt) + (1 : Int32))) (o + 2) e ((1 : Int32) &&& 1)) r (a + j))) (o + 4) e (I (o + 3) (vk_c ch B ks))) L R)) rfl rfl (by rw [jv_m_iast hK4 (vl_I_ix (by omega) (by first | omega | decide)), (vl_I_nat (by omega))]) Kz) ?_
  refine jv_Wp.lift (fun _ Kz => jv_Ev.steps jv_i135 1 (pc' := 104) (l' := [(4, .int (vl_I (vk_c ch B ks))), (0, .ref o), (1, .ref r), (2, .int (vl_I a)), (3, .int (vl_I e))]) (st' := [.ref o]) rfl Kz) ?_
  refine jv_Wp.lift (fun _ Kz => jv_Ev.m jv_i135 (pc' := 107) (st' := [.ref (o + 3)]) (G' := (jv_H K (jv_u (vm_wr (jv_u (jv_u (jv_u I o 12 ((vl_I e) + (1 : Int32))) o 11 ((vl_I cnt) + (1 : Int32))) (o + 2) e ((1 : Int32) &&& 1)) (o + 1) (e * ks) ks (fun j => (jv_u (jv_u (jv_u I o 12 ((vl_I e) + (1 : Int32))) o 11 ((vl_I cnt) + (1 : Int32))) (o + 2) e ((1 : Int32) &&& 1)) r (a + j))) (o + 4) e (I (o + 3) (vk_c ch B ks))) L R)) rfl rfl (jv_m_getR hK0 rfl rfl hR9) Kz) ?_
  refine jv_Wp.lift (fun _ Kz => jv_Ev.steps jv_i135 4 (pc' := 112) (l' := [(4, .int (vl_I (vk_c ch B ks))), (0, .ref o), (1, .ref r), (2, .int (vl_I a)), (3, .int (vl_I e))]) (st' := [.int ((vl_I e) + (1 : Int32)), .int (vl_I (vk_c ch B ks)), .ref (o + 3)]) rfl Kz) ?_
  refine jv_Wp.lift (fun _ Kz => jv_Ev.m jv_i135 (pc' := 113) (st' := []) (G' := (jv_H K (jv_u (jv_u (vm_wr (jv_u (jv_u (jv_u I o 12 ((vl_I e) + (1 : Int32))) o 11 ((vl_I cnt) + (1 : Int32))) (o + 2) e ((1 : Int32) &&& 1)) (o + 1) (e * ks) ks (fun j => (jv_u (jv_u (jv_u I o 12 ((vl_I e) + (1 : Int32))) o 11 ((vl_I cnt) + (1 : Int32))) (o + 2) e ((1 : Int32) &&& 1)) r (a + j))) (o + 4) e (I (o + 3) (vk_c ch B ks))) (o + 3) (vk_c ch B ks) ((vl_I e) + (1 : Int32))) L R)) rfl rfl (by rw [jv_m_iast hK3 (vl_I_ix hcl (by omega)), (vl_I_nat (by omega))]) Kz) ?_
  refine jv_Wp.lift (fun _ Kz => jv_Ev.steps jv_i135 1 (pc' := 114) (l' := [(4, .int (vl_I (vk_c ch B ks))), (0, .ref o), (1, .ref r), (2, .int (vl_I a)), (3, .int (vl_I e))]) (st' := [.int (vl_I e)]) rfl Kz) ?_
  refine jv_Wp.of (jv_Ev.ret jv_i135 rfl rfl) ?_
  exact hQ