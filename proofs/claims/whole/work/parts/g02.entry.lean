/-! part g02: the entry of a key, of the class (gen/tg02.py) -/
theorem vk_len : ∀ (n : Nat) (l : List Nat), l.Nodup → (∀ e ∈ l, e < n) → l.length ≤ n
  | 0, l, _, h => by
    cases l with
    | nil => exact Nat.le_refl 0
    | cons x r => exact absurd (h x List.mem_cons_self) (Nat.not_lt_zero x)
  | n + 1, l, d, h => by
    have a := vk_len n (l.erase n) (d.erase n) (fun e he => by
      have y := (List.Nodup.mem_erase_iff d).mp he
      have := h e y.2
      omega)
    have b : l.length ≤ (l.erase n).length + 1 := by
      rw [List.length_erase]; split <;> omega
    omega
theorem vk_ch_eq {N M : Nat → Int32} {en : Nat} : ∀ (l : List Nat) (h : Int32), (∀ e ∈ l, M e = N e) → vk_ch N en h l → vk_ch M en h l
  | [], _, _, c => c
  | e :: r, h, q, c => ⟨c.1, c.2.1, by rw [q e List.mem_cons_self]; exact vk_ch_eq r (N e) (fun x hx => q x (List.mem_cons_of_mem _ hx)) c.2.2⟩
theorem vk_lk {e : Nat} : vl_I (e + 1) - (1 : Int32) = vl_I e := vi_s2 (x := e + 1) (z := 1) rfl rfl (by omega) rfl
theorem vk_lk0 {e : Nat} (h : e < 4096) : vl_I (e + 1) ≠ 0 := fun z => absurd ((vl_I_inj (a := e + 1) (b := 0) (by omega) (by decide)).mp z) (by omega)
theorem jv_i134 : jv_I 134 5 (some .int) 1 24 jv_c134 := ⟨rfl, rfl, rfl, rfl, rfl⟩
theorem vk_ent_t {K : Nat → Option (Nat × Nat)} {I : Nat → Nat → Int32} {L : Nat → Nat → Int64} {R : Nat → Nat → Value} {o ks en ch r len a : Nat} {B : Nat → Nat} {ky : Nat → Nat → Nat} (hT : vk_TW K R o ks en ch) (e1 : I o 1 = vl_I ks) (e3 : I o 3 = vl_I en) (hky : ∀ e j, e < en → j < ks → I (o + 1) (e * ks + j) = vl_sb (ky e j) ∧ ky e j < 256) (hKr : K r = some (101, len)) (hlen : len < 2147483648) (ha : a + ks ≤ len) (hB : vk_by I r a ks B) {n sl : Nat} {Q : jv_R → Prop} {i e : Nat} {lk : Int32} {t : Bool} (he : e < en) (hi : i < en) (hlk : lk - (1 : Int32) = vl_I e) (hl0 : ¬ lk = 0) (ht : vk_eq (ky e) B ks = t) (hno : t = false → jv_Wp 134 15 [(0, .ref o), (1, .ref r), (2, .int (vl_I a)), (3, .int (I (o + 4) e)), (4, .int (vl_I (i + 1)))] [] (jv_H K I L R) n sl Q) (hyes : t = true → Q (some (.int (vl_I e)), jv_H K I L R, n, sl)) : jv_Wp 134 15 [(0, .ref o), (1, .ref r), (2, .int (vl_I a)), (3, .int lk), (4, .int (vl_I i))] [] (jv_H K I L R) n sl Q := by
  obtain ⟨hK0, hK1, hK2, hK3, hK4, hR7, hR8, hR9, hR10, hks, hen, hch⟩ := id hT
  have hHK := vk_hasKey (n := n) (sl := sl) (L := L) hT e1 hky he hKr hlen ha hB
  rw [← hlk, ht] at hHK
  refine jv_Wp.lift (fun _ Kz => jv_Ev.steps jv_i134 2 (pc' := 18) (l' := [(0, .ref o), (1, .ref r), (2, .int (vl_I a)), (3, .int lk), (4, .int (vl_I i))]) (st' := [.ref o, .int (vl_I i)]) rfl Kz) ?_
  refine jv_Wp.lift (fun _ Kz => jv_Ev.m jv_i134 (pc' := 21) (st' := [.int (vl_I en), .int (vl_I i)]) (G' := (jv_H K I L R)) rfl rfl (jv_m_getI hK0 rfl rfl e3) Kz) ?_
  refine jv_Wp.cnd jv_i134 (pt := 59) (pe := 24) (p := ((vl_I en) ≤ (vl_I i))) (q := ((vl_I en) ≤ (vl_I i))) rfl jv_bc_ge rfl rfl Iff.rfl (fun hz => absurd hz (fun z => absurd ((vl_I_le (by omega) (by omega)).mp z) (by omega))) (fun _ => ?_)
  refine jv_Wp.lift (fun _ Kz => jv_Ev.steps jv_i134 1 (pc' := 25) (l' := [(0, .ref o), (1, .ref r), (2, .int (vl_I a)), (3, .int lk), (4, .int (vl_I i))]) (st' := [.int lk]) rfl Kz) ?_
  refine jv_Wp.cnd jv_i134 (pt := 59) (pe := 28) (p := (lk = 0)) (q := (lk = 0)) rfl jv_bi_eq rfl rfl Iff.rfl (fun hz => absurd hz hl0) (fun _ => ?_)
  refine jv_Wp.lift (fun _ Kz => jv_Ev.steps jv_i134 6 (pc' := 34) (l' := [(0, .ref o), (1, .ref r), (2, .int (vl_I a)), (3, .int lk), (4, .int (vl_I i))]) (st' := [.int (vl_I a), .ref r, .int (lk - (1 : Int32)), .ref o]) rfl Kz) ?_
  refine jv_Wp.lift (fun _ Kz => jv_Ev.c jv_i134 (pc' := 37) (S' := [.int (vr_b t)]) jv_i132 [.ref o, .int (lk - (1 : Int32)), .ref r, .int (vl_I a)] rfl rfl rfl rfl (jv_cal rfl (jv_H_at hK0) rfl rfl) rfl hHK rfl rfl Kz) ?_
  refine jv_Wp.cnd jv_i134 (pt := 44) (pe := 40) (p := ((vr_b t) = 0)) (q := ((vr_b t) = 0)) rfl jv_bi_eq rfl rfl Iff.rfl (fun h1 => ?_) (fun h1 => ?_)
  · refine jv_Wp.lift (fun _ Kz => jv_Ev.steps jv_i134 1 (pc' := 45) (l' := [(0, .ref o), (1, .ref r), (2, .int (vl_I a)), (3, .int lk), (4, .int (vl_I i))]) (st' := [.ref o]) rfl Kz) ?_
    refine jv_Wp.lift (fun _ Kz => jv_Ev.m jv_i134 (pc' := 48) (st' := [.ref (o + 4)]) (G' := (jv_H K I L R)) rfl rfl (jv_m_getR hK0 rfl rfl hR10) Kz) ?_
    refine jv_Wp.lift (fun _ Kz => jv_Ev.steps jv_i134 3 (pc' := 51) (l' := [(0, .ref o), (1, .ref r), (2, .int (vl_I a)), (3, .int lk), (4, .int (vl_I i))]) (st' := [.int (lk - (1 : Int32)), .ref (o + 4)]) rfl Kz) ?_
    refine jv_Wp.lift (fun _ Kz => jv_Ev.m jv_i134 (pc' := 52) (st' := [.int (I (o + 4) e)]) (G' := (jv_H K I L R)) rfl rfl (jv_m_ialdv hK4 rfl (by rw [show (lk - (1 : Int32)) = vl_I (e) from hlk]; exact vl_I_ix (by omega) (by first | omega | decide)) rfl ((congrArg (I (o + 4)) (show (lk - (1 : Int32)).toNatClampNeg = e from by rw [show (lk - (1 : Int32)) = vl_I (e) from hlk]; exact vl_I_nat (by omega))).trans rfl)) Kz) ?_
    refine jv_Wp.lift (fun _ Kz => jv_Ev.steps jv_i134 3 (pc' := 15) (l' := [(4, .int ((vl_I i) + Int32.ofInt 1)), (3, .int (I (o + 4) e)), (0, .ref o), (1, .ref r), (2, .int (vl_I a))]) (st' := []) rfl Kz) ?_
    refine jv_Wp.loc (l := [(0, .ref o), (1, .ref r), (2, .int (vl_I a)), (3, .int (I (o + 4) e)), (4, .int ((vl_I i) + Int32.ofInt 1))]) ⟨List.forall_mem_cons.mpr ⟨.tail _ (.tail _ (.head _)), List.forall_mem_cons.mpr ⟨.tail _ (.tail _ (.tail _ (.head _))), List.forall_mem_cons.mpr ⟨.tail _ (.tail _ (.tail _ (.tail _ (.head _)))), List.forall_mem_cons.mpr ⟨.tail _ (.head _), List.forall_mem_cons.mpr ⟨.head _, fun _ h => absurd h List.not_mem_nil⟩⟩⟩⟩⟩, by show List.Nodup [4, 3, 0, 1, 2]; decide⟩ ?_
    rw [vk_p1 i]
    exact hno (vr_b_f h1)
  · refine jv_Wp.lift (fun _ Kz => jv_Ev.steps jv_i134 3 (pc' := 43) (l' := [(0, .ref o), (1, .ref r), (2, .int (vl_I a)), (3, .int lk), (4, .int (vl_I i))]) (st' := [.int (lk - (1 : Int32))]) rfl Kz) ?_
    refine jv_Wp.of (jv_Ev.ret jv_i134 rfl rfl) ?_
    rw [hlk]
    exact hyes (vr_b_t h1)
theorem vk_ent_e {K : Nat → Option (Nat × Nat)} {I : Nat → Nat → Int32} {L : Nat → Nat → Int64} {R : Nat → Nat → Value} {o ks en ch r len a : Nat} {B : Nat → Nat} {ky : Nat → Nat → Nat} (hT : vk_TW K R o ks en ch) (e1 : I o 1 = vl_I ks) (e3 : I o 3 = vl_I en) (hky : ∀ e j, e < en → j < ks → I (o + 1) (e * ks + j) = vl_sb (ky e j) ∧ ky e j < 256) (hKr : K r = some (101, len)) (hlen : len < 2147483648) (ha : a + ks ≤ len) (hB : vk_by I r a ks B) {n sl : Nat} {Q : jv_R → Prop} {i : Nat} (hQ : Q (some (.int (-1 : Int32)), jv_H K I L R, n, sl)) : jv_Wp 134 15 [(0, .ref o), (1, .ref r), (2, .int (vl_I a)), (3, .int (0 : Int32)), (4, .int (vl_I i))] [] (jv_H K I L R) n sl Q := by
  obtain ⟨hK0, hK1, hK2, hK3, hK4, hR7, hR8, hR9, hR10, hks, hen, hch⟩ := id hT
  refine jv_Wp.lift (fun _ Kz => jv_Ev.steps jv_i134 2 (pc' := 18) (l' := [(0, .ref o), (1, .ref r), (2, .int (vl_I a)), (3, .int (0 : Int32)), (4, .int (vl_I i))]) (st' := [.ref o, .int (vl_I i)]) rfl Kz) ?_
  refine jv_Wp.lift (fun _ Kz => jv_Ev.m jv_i134 (pc' := 21) (st' := [.int (vl_I en), .int (vl_I i)]) (G' := (jv_H K I L R)) rfl rfl (jv_m_getI hK0 rfl rfl e3) Kz) ?_
  refine jv_Wp.cnd jv_i134 (pt := 59) (pe := 24) (p := ((vl_I en) ≤ (vl_I i))) (q := ((vl_I en) ≤ (vl_I i))) rfl jv_bc_ge rfl rfl Iff.rfl (fun h1 => ?_) (fun h1 => ?_)
  · refine jv_Wp.lift (fun _ Kz => jv_Ev.steps jv_i134 1 (pc' := 60) (l' := [(0, .ref o), (1, .ref r), (2, .int (vl_I a)), (3, .int (0 : Int32)), (4, .int (vl_I i))]) (st' := [.int (-1 : Int32)]) rfl Kz) ?_
    refine jv_Wp.of (jv_Ev.ret jv_i134 rfl rfl) ?_
    exact hQ
  · refine jv_Wp.lift (fun _ Kz => jv_Ev.steps jv_i134 1 (pc' := 25) (l' := [(0, .ref o), (1, .ref r), (2, .int (vl_I a)), (3, .int (0 : Int32)), (4, .int (vl_I i))]) (st' := [.int (0 : Int32)]) rfl Kz) ?_
    refine jv_Wp.cnd jv_i134 (pt := 59) (pe := 28) (p := ((0 : Int32) = 0)) (q := ((0 : Int32) = 0)) rfl jv_bi_eq rfl rfl Iff.rfl (fun _ => ?_) (fun hz => absurd rfl hz)
    refine jv_Wp.lift (fun _ Kz => jv_Ev.steps jv_i134 1 (pc' := 60) (l' := [(0, .ref o), (1, .ref r), (2, .int (vl_I a)), (3, .int (0 : Int32)), (4, .int (vl_I i))]) (st' := [.int (-1 : Int32)]) rfl Kz) ?_
    refine jv_Wp.of (jv_Ev.ret jv_i134 rfl rfl) ?_
    exact hQ
theorem vk_ent_l {K : Nat → Option (Nat × Nat)} {I : Nat → Nat → Int32} {L : Nat → Nat → Int64} {R : Nat → Nat → Value} {o ks en ch r len a : Nat} {B : Nat → Nat} {ky : Nat → Nat → Nat} (hT : vk_TW K R o ks en ch) (e1 : I o 1 = vl_I ks) (e3 : I o 3 = vl_I en) (hky : ∀ e j, e < en → j < ks → I (o + 1) (e * ks + j) = vl_sb (ky e j) ∧ ky e j < 256) (hKr : K r = some (101, len)) (hlen : len < 2147483648) (ha : a + ks ≤ len) (hB : vk_by I r a ks B) {n sl : Nat} {Q : jv_R → Prop} : ∀ (l : List Nat) (i : Nat) (lk : Int32), i + l.length ≤ en → vk_ch (I (o + 4)) en lk l → (∀ e ∈ l, vk_eq (ky e) B ks = true → Q (some (.int (vl_I e)), jv_H K I L R, n, sl)) → ((∀ e ∈ l, vk_eq (ky e) B ks = false) → Q (some (.int (-1 : Int32)), jv_H K I L R, n, sl)) → jv_Wp 134 15 [(0, .ref o), (1, .ref r), (2, .int (vl_I a)), (3, .int lk), (4, .int (vl_I i))] [] (jv_H K I L R) n sl Q
  | [], i, lk, hi, c, q1, q2 => by
    have c : lk = 0 := c
    subst c
    exact vk_ent_e hT e1 e3 hky hKr hlen ha hB (q2 (fun e he => absurd he List.not_mem_nil))
  | e :: s, i, lk, hi, c, q1, q2 => by
    have hen := hT.2.2.2.2.2.2.2.2.2.2.1
    have hi : i + (s.length + 1) ≤ en := hi
    obtain ⟨c1, c2, c3⟩ := c
    refine vk_ent_t hT e1 e3 hky hKr hlen ha hB c2 (by omega) (by rw [c1]; exact vk_lk) (by rw [c1]; exact vk_lk0 (by omega)) rfl (fun z => ?_) (fun z => q1 e List.mem_cons_self z)
    exact vk_ent_l hT e1 e3 hky hKr hlen ha hB s (i + 1) (I (o + 4) e) (by omega) c3 (fun x hx => q1 x (List.mem_cons_of_mem _ hx)) (fun g => q2 (fun x hx => by
      rcases List.mem_cons.mp hx with c | c
      · rw [c]; exact z
      · exact g x c))
theorem vk_ent_0 {K : Nat → Option (Nat × Nat)} {I : Nat → Nat → Int32} {L : Nat → Nat → Int64} {R : Nat → Nat → Value} {o ks en ch r len a : Nat} {B : Nat → Nat} {ky : Nat → Nat → Nat} (hT : vk_TW K R o ks en ch) (e1 : I o 1 = vl_I ks) (e3 : I o 3 = vl_I en) (hky : ∀ e j, e < en → j < ks → I (o + 1) (e * ks + j) = vl_sb (ky e j) ∧ ky e j < 256) (hKr : K r = some (101, len)) (hlen : len < 2147483648) (ha : a + ks ≤ len) (hB : vk_by I r a ks B) {n sl : Nat} {Q : jv_R → Prop} (cont : jv_Wp 134 15 [(0, .ref o), (1, .ref r), (2, .int (vl_I a)), (3, .int (I (o + 3) (vk_c ch B ks))), (4, .int (0 : Int32))] [] (jv_H K I L R) n sl Q) : jv_Wp 134 0 [(0, .ref o), (1, .ref r), (2, .int (vl_I a))] [] (jv_H K I L R) n sl Q := by
  obtain ⟨hK0, hK1, hK2, hK3, hK4, hR7, hR8, hR9, hR10, hks, hen, hch⟩ := id hT
  have hCH := vk_chainOf (n := n) (sl := sl) (I := I) (L := L) hT e1 hKr hlen ha hB
  have hcl := vk_c_lt hch.1 hch.2 B ks
  refine jv_Wp.lift (fun _ Kz => jv_Ev.steps jv_i134 1 (pc' := 1) (l' := [(0, .ref o), (1, .ref r), (2, .int (vl_I a))]) (st' := [.ref o]) rfl Kz) ?_
  refine jv_Wp.lift (fun _ Kz => jv_Ev.m jv_i134 (pc' := 4) (st' := [.ref (o + 3)]) (G' := (jv_H K I L R)) rfl rfl (jv_m_getR hK0 rfl rfl hR9) Kz) ?_
  refine jv_Wp.lift (fun _ Kz => jv_Ev.steps jv_i134 3 (pc' := 7) (l' := [(0, .ref o), (1, .ref r), (2, .int (vl_I a))]) (st' := [.int (vl_I a), .ref r, .ref o, .ref (o + 3)]) rfl Kz) ?_
  refine jv_Wp.lift (fun _ Kz => jv_Ev.c jv_i134 (pc' := 10) (S' := [.int (vl_I (vk_c ch B ks)), .ref (o + 3)]) jv_i131 [.ref o, .ref r, .int (vl_I a)] rfl rfl rfl rfl (jv_cal rfl (jv_H_at hK0) rfl rfl) rfl hCH rfl rfl Kz) ?_
  refine jv_Wp.lift (fun _ Kz => jv_Ev.m jv_i134 (pc' := 11) (st' := [.int (I (o + 3) (vk_c ch B ks))]) (G' := (jv_H K I L R)) rfl rfl (jv_m_ialdv hK3 rfl (vl_I_ix hcl (by omega)) rfl ((congrArg (I (o + 3)) (vl_I_nat (by omega))).trans rfl)) Kz) ?_
  refine jv_Wp.lift (fun _ Kz => jv_Ev.steps jv_i134 3 (pc' := 15) (l' := [(4, .int (0 : Int32)), (3, .int (I (o + 3) (vk_c ch B ks))), (0, .ref o), (1, .ref r), (2, .int (vl_I a))]) (st' := []) rfl Kz) ?_
  refine jv_Wp.loc (l := [(0, .ref o), (1, .ref r), (2, .int (vl_I a)), (3, .int (I (o + 3) (vk_c ch B ks))), (4, .int (0 : Int32))]) ⟨List.forall_mem_cons.mpr ⟨.tail _ (.tail _ (.head _)), List.forall_mem_cons.mpr ⟨.tail _ (.tail _ (.tail _ (.head _))), List.forall_mem_cons.mpr ⟨.tail _ (.tail _ (.tail _ (.tail _ (.head _)))), List.forall_mem_cons.mpr ⟨.tail _ (.head _), List.forall_mem_cons.mpr ⟨.head _, fun _ h => absurd h List.not_mem_nil⟩⟩⟩⟩⟩, by show List.Nodup [4, 3, 0, 1, 2]; decide⟩ ?_
  exact cont
/-- the entry of the key B, or -1 -/
theorem vk_entryOf {K : Nat → Option (Nat × Nat)} {I : Nat → Nat → Int32} {L : Nat → Nat → Int64} {R : Nat → Nat → Value} {o ks en ch r len a : Nat} {B tk : Nat → Nat} {ky : Nat → Nat → Nat} (hT : vk_TW K R o ks en ch) (h : vk_T I o ks en ch tk ky) (hKr : K r = some (101, len)) (hlen : len < 2147483648) (ha : a + ks ≤ len) (hB : vk_by I r a ks B) {x : Int32} (h1 : ∀ e, e < en → tk e = 1 → vk_eq (ky e) B ks = true → x = vl_I e) (h2 : (∀ e, e < en → tk e = 1 → vk_eq (ky e) B ks = false) → x = -1) {n sl : Nat} : jv_Ms 134 [.ref o, .ref r, .int (vl_I a)] (jv_H K I L R) n sl (some (.int x), jv_H K I L R, n, sl) := by
  obtain ⟨e1, e3, htk, hky, hc, -⟩ := id h
  have hch := hT.2.2.2.2.2.2.2.2.2.2.2
  obtain ⟨l, c1, c2, c3⟩ := hc (vk_c ch B ks) (vk_c_lt hch.1 hch.2 B ks)
  have k := vk_ent_l (n := n) (sl := sl) (L := L) (Q := fun X => X = (some (.int x), jv_H K I L R, n, sl)) hT e1 e3 hky hKr hlen ha hB l 0 _ (by have := vk_len en l c2 (fun e he => ((c3 e).mp he).1); omega) c1 (fun e he z => by
    have y := (c3 e).mp he
    rw [h1 e y.1 y.2.1 z]) (fun z => by
    rw [h2 (fun e he t => by
      cases q : vk_eq (ky e) B ks with
      | false => rfl
      | true => exact absurd (z e ((c3 e).mpr ⟨he, t, vk_c_eq (vk_eq_t.mp q)⟩)) (by rw [q]; decide))])
  obtain ⟨X, k, e⟩ := vk_ent_0 hT e1 e3 hky hKr hlen ha hB k
  subst e
  exact k