/-! part g10: the class's machine: bytes are copied, values are led to; its maps against a state (gen/tg10.py) -/
/-- the cells that the class's machine has a state in -/
def vm_cell (q i : Nat) : Prop := (q = 2 ∧ i = 1) ∨ (q = 171 ∧ (i = 2 ∨ i = 7)) ∨ q = 3 ∨ q = 4 ∨ q = 6 ∨ q = 8 ∨ q = 9 ∨ q = 173 ∨ q = 174
theorem vm_c_ext {I I1 : Nat → Nat → Int32} {L L1 : Nat → Nat → Int64} {S : vm_S} (hI : ∀ q i, vm_cell q i → I1 q i = I q i) (hL : ∀ q i, (q = 172 ∨ (q = 2 ∧ i = 8)) → L1 q i = L q i) (h : vm_c I L S) : vm_c I1 L1 S := by
  obtain ⟨h1, h2, h3, h4, h5, h6, h7, h8, h9⟩ := h
  have c : ∀ q i, (q = 3 ∨ q = 4 ∨ q = 6 ∨ q = 8 ∨ q = 9 ∨ q = 173 ∨ q = 174) → I1 q i = I q i := fun q i z => hI q i (Or.inr (Or.inr z))
  refine ⟨⟨(hI 2 1 (Or.inl ⟨rfl, rfl⟩)).trans h1.1, h1.2⟩, fun r hr => ?_, fun r hr g => ?_, fun k hk => ?_, fun j hj => ?_, fun j hj => ?_, fun j hj => ?_, fun q hq => ?_, (hL 2 8 (Or.inr ⟨rfl, rfl⟩)).trans h9⟩
  · rw [hI 171 2 (Or.inr (Or.inl ⟨rfl, Or.inl rfl⟩))]; exact h2 r hr
  · rw [hL 172 r (Or.inl rfl)]; exact h3 r hr g
  · rw [c 174 k (by omega), c 173 k (by omega)]; exact h4 k hk
  · rw [c 3 j (by omega)]; exact h5 j hj
  · rw [c 4 j (by omega)]; exact h6 j hj
  · rw [c 6 j (by omega)]; exact h7 j hj
  · unfold vc_led
    rw [c 8 _ (by omega), c 9 _ (by omega), hI 171 7 (Or.inr (Or.inl ⟨rfl, Or.inr rfl⟩))]; exact h8 q hq
theorem vm_c_wr {I : Nat → Nat → Int32} {L : Nat → Nat → Int64} {S : vm_S} {r a n : Nat} {f : Nat → Int32} (hr : r = 175 ∨ r = 176) (h : vm_c I L S) : vm_c (vm_wr I r a n f) L S := vm_c_ext (fun q i z => vm_wr_o (fun y => by unfold vm_cell at z; omega)) (fun _ _ _ => rfl) h
theorem jv_i70 : jv_I 70 6 none 2 47 jv_c70 := ⟨rfl, rfl, rfl, rfl, rfl⟩
theorem vc_copy_t {K : Nat → Option (Nat × Nat)} {I : Nat → Nat → Int32} {L : Nat → Nat → Int64} {R : Nat → Nat → Value} (hC : vm_CW K R) {S : vm_S} {a : Int64} {m r len : Nat} {B : Nat → Nat} (hB : vc_rbs S a m B) (hr : r = 175 ∨ r = 176) (hKr : K r = some (101, len)) (hm : m ≤ len) (hlen : len < 2147483648) {n sl : Nat} (h : vm_c I L S) {Q : jv_R → Prop} {k : Nat} (hk : k < m) (cont : jv_Wp 70 3 [(0, .ref 171), (1, .long a), (3, .ref r), (4, .int (vl_I m)), (5, .int (vl_I (k + 1)))] [] (jv_H K (jv_u I r k (vl_sb (B k))) L R) n sl Q) : jv_Wp 70 3 [(0, .ref 171), (1, .long a), (3, .ref r), (4, .int (vl_I m)), (5, .int (vl_I k))] [] (jv_H K I L R) n sl Q := by
  obtain ⟨hRB, hb⟩ := vc_readByte (n := n) (sl := sl) hC h (hB k hk)
  have hb : True ∧ B k < 256 := ⟨trivial, hb⟩
  unfold vm_nx at hRB
  rw [← vi_nx (by omega)] at hRB
  refine jv_Wp.lift (fun _ Kz => jv_Ev.steps jv_i70 2 (pc' := 7) (l' := [(0, .ref 171), (1, .long a), (3, .ref r), (4, .int (vl_I m)), (5, .int (vl_I k))]) (st' := [.int (vl_I m), .int (vl_I k)]) rfl Kz) ?_
  refine jv_Wp.cnd jv_i70 (pt := 36) (pe := 10) (p := ((vl_I m) ≤ (vl_I k))) (q := ((vl_I m) ≤ (vl_I k))) rfl jv_bc_ge rfl rfl Iff.rfl (fun hz => absurd hz (fun z => absurd ((vl_I_le (by omega) (by omega)).mp z) (by omega))) (fun _ => ?_)
  refine jv_Wp.lift (fun _ Kz => jv_Ev.steps jv_i70 2 (pc' := 13) (l' := [(0, .ref 171), (1, .long a), (3, .ref r), (4, .int (vl_I m)), (5, .int (vl_I k))]) (st' := [.ref r, .int (vl_I k)]) rfl Kz) ?_
  refine jv_Wp.lift (fun _ Kz => jv_Ev.m jv_i70 (pc' := 14) (st' := [.int (Int32.ofNat len), .int (vl_I k)]) (G' := (jv_H K I L R)) rfl rfl (jv_m_len hKr rfl) Kz) ?_
  refine jv_Wp.cnd jv_i70 (pt := 36) (pe := 17) (p := ((Int32.ofNat len) ≤ (vl_I k))) (q := ((Int32.ofNat len) ≤ (vl_I k))) rfl jv_bc_ge rfl rfl Iff.rfl (fun hz => absurd hz (fun z => absurd ((vl_I_le (a := len) (by omega) (by omega)).mp z) (by omega))) (fun _ => ?_)
  refine jv_Wp.lift (fun _ Kz => jv_Ev.steps jv_i70 7 (pc' := 26) (l' := [(0, .ref 171), (1, .long a), (3, .ref r), (4, .int (vl_I m)), (5, .int (vl_I k))]) (st' := [.long (a + (vl_I k).toInt64), .ref 171, .int (vl_I k), .ref r]) rfl Kz) ?_
  refine jv_Wp.lift (fun _ Kz => jv_Ev.c jv_i70 (pc' := 29) (S' := [.int (vl_sb (B k)), .int (vl_I k), .ref r]) jv_i59 [.ref 171, .long (a + (vl_I k).toInt64)] rfl rfl rfl rfl (jv_cal rfl (jv_H_at (vm_cK hC 171 2 13 (by decide))) rfl rfl) rfl hRB rfl rfl Kz) ?_
  refine jv_Wp.lift (fun _ Kz => jv_Ev.m jv_i70 (pc' := 30) (st' := []) (G' := (jv_H K (jv_u I r k (vl_sb (B k)).toInt8.toInt32) L R)) rfl rfl (by rw [jv_m_bast hKr (vl_I_ix (by omega) (by omega)), (vl_I_nat (by omega))]) Kz) ?_
  refine jv_Wp.lift (fun _ Kz => jv_Ev.steps jv_i70 2 (pc' := 3) (l' := [(5, .int ((vl_I k) + Int32.ofInt 1)), (0, .ref 171), (1, .long a), (3, .ref r), (4, .int (vl_I m))]) (st' := []) rfl Kz) ?_
  refine jv_Wp.loc (l := [(0, .ref 171), (1, .long a), (3, .ref r), (4, .int (vl_I m)), (5, .int ((vl_I k) + Int32.ofInt 1))]) ⟨List.forall_mem_cons.mpr ⟨.tail _ (.head _), List.forall_mem_cons.mpr ⟨.tail _ (.tail _ (.head _)), List.forall_mem_cons.mpr ⟨.tail _ (.tail _ (.tail _ (.head _))), List.forall_mem_cons.mpr ⟨.tail _ (.tail _ (.tail _ (.tail _ (.head _)))), List.forall_mem_cons.mpr ⟨.head _, fun _ h => absurd h List.not_mem_nil⟩⟩⟩⟩⟩, by show List.Nodup [5, 0, 1, 3, 4]; decide⟩ ?_
  rw [vl_sb_sb hb.2, vk_p1 k]
  exact cont
theorem vc_copy_e {K : Nat → Option (Nat × Nat)} {I : Nat → Nat → Int32} {L : Nat → Nat → Int64} {R : Nat → Nat → Value} (hC : vm_CW K R) {S : vm_S} {a : Int64} {m r len : Nat} {B : Nat → Nat} (hB : vc_rbs S a m B) (hr : r = 175 ∨ r = 176) (hKr : K r = some (101, len)) (hm : m ≤ len) (hlen : len < 2147483648) {n sl : Nat} {Q : jv_R → Prop} (hQ : Q (none, jv_H K I L R, n, sl)) : jv_Wp 70 3 [(0, .ref 171), (1, .long a), (3, .ref r), (4, .int (vl_I m)), (5, .int (vl_I m))] [] (jv_H K I L R) n sl Q := by
  refine jv_Wp.lift (fun _ Kz => jv_Ev.steps jv_i70 2 (pc' := 7) (l' := [(0, .ref 171), (1, .long a), (3, .ref r), (4, .int (vl_I m)), (5, .int (vl_I m))]) (st' := [.int (vl_I m), .int (vl_I m)]) rfl Kz) ?_
  refine jv_Wp.cnd jv_i70 (pt := 36) (pe := 10) (p := ((vl_I m) ≤ (vl_I m))) (q := ((vl_I m) ≤ (vl_I m))) rfl jv_bc_ge rfl rfl Iff.rfl (fun _ => ?_) (fun hz => absurd ((vl_I_le (by omega) (by omega)).mpr (by omega)) hz)
  refine jv_Wp.of (jv_Ev.ret jv_i70 rfl rfl) ?_
  exact hQ
theorem vc_copy_l {K : Nat → Option (Nat × Nat)} {I : Nat → Nat → Int32} {L : Nat → Nat → Int64} {R : Nat → Nat → Value} (hC : vm_CW K R) {S : vm_S} {a : Int64} {m r len : Nat} {B : Nat → Nat} (hB : vc_rbs S a m B) (hr : r = 175 ∨ r = 176) (hKr : K r = some (101, len)) (hm : m ≤ len) (hlen : len < 2147483648) {n sl : Nat} (h : vm_c I L S) {Q : jv_R → Prop} (hQ : Q (none, jv_H K (vm_wr I r 0 m (fun j => vl_sb (B j))) L R, n, sl)) : ∀ d k, k + d = m → jv_Wp 70 3 [(0, .ref 171), (1, .long a), (3, .ref r), (4, .int (vl_I m)), (5, .int (vl_I k))] [] (jv_H K (vm_wr I r 0 k (fun j => vl_sb (B j))) L R) n sl Q
  | 0, k, g => by
    have g : k = m := g
    subst g
    exact vc_copy_e hC hB hr hKr hm hlen hQ
  | d + 1, k, g => by
    refine vc_copy_t hC hB hr hKr hm hlen (vm_c_wr hr h) (by omega) ?_
    have y := vm_wr_s I r 0 k (fun j => vl_sb (B j))
    rw [Nat.zero_add] at y
    rw [y]
    exact vc_copy_l hC hB hr hKr hm hlen h hQ d (k + 1) (by omega)
theorem vc_copy_0 {K : Nat → Option (Nat × Nat)} {I : Nat → Nat → Int32} {L : Nat → Nat → Int64} {R : Nat → Nat → Value} (hC : vm_CW K R) {S : vm_S} {a : Int64} {m r len : Nat} {B : Nat → Nat} (hB : vc_rbs S a m B) (hr : r = 175 ∨ r = 176) (hKr : K r = some (101, len)) (hm : m ≤ len) (hlen : len < 2147483648) {n sl : Nat} {Q : jv_R → Prop} (cont : jv_Wp 70 3 [(0, .ref 171), (1, .long a), (3, .ref r), (4, .int (vl_I m)), (5, .int (0 : Int32))] [] (jv_H K I L R) n sl Q) : jv_Wp 70 0 [(0, .ref 171), (1, .long a), (3, .ref r), (4, .int (vl_I m))] [] (jv_H K I L R) n sl Q := by
  refine jv_Wp.lift (fun _ Kz => jv_Ev.steps jv_i70 2 (pc' := 3) (l' := [(5, .int (0 : Int32)), (0, .ref 171), (1, .long a), (3, .ref r), (4, .int (vl_I m))]) (st' := []) rfl Kz) ?_
  refine jv_Wp.loc (l := [(0, .ref 171), (1, .long a), (3, .ref r), (4, .int (vl_I m)), (5, .int (0 : Int32))]) ⟨List.forall_mem_cons.mpr ⟨.tail _ (.head _), List.forall_mem_cons.mpr ⟨.tail _ (.tail _ (.head _)), List.forall_mem_cons.mpr ⟨.tail _ (.tail _ (.tail _ (.head _))), List.forall_mem_cons.mpr ⟨.tail _ (.tail _ (.tail _ (.tail _ (.head _)))), List.forall_mem_cons.mpr ⟨.head _, fun _ h => absurd h List.not_mem_nil⟩⟩⟩⟩⟩, by show List.Nodup [5, 0, 1, 3, 4]; decide⟩ ?_
  exact cont
/-- m bytes from an address on stand in the row r then -/
theorem vc_copy {K : Nat → Option (Nat × Nat)} {I : Nat → Nat → Int32} {L : Nat → Nat → Int64} {R : Nat → Nat → Value} (hC : vm_CW K R) {S : vm_S} {a : Int64} {m r len : Nat} {B : Nat → Nat} (hB : vc_rbs S a m B) (hr : r = 175 ∨ r = 176) (hKr : K r = some (101, len)) (hm : m ≤ len) (hlen : len < 2147483648) {n sl : Nat} (h : vm_c I L S) : jv_Ms 70 [.ref 171, .long a, .ref r, .int (vl_I m)] (jv_H K I L R) n sl (none, jv_H K (vm_wr I r 0 m (fun j => vl_sb (B j))) L R, n, sl) := by
  have k := vc_copy_l (n := n) (sl := sl) (Q := fun X => X = (none, jv_H K (vm_wr I r 0 m (fun j => vl_sb (B j))) L R, n, sl)) hC hB hr hKr hm hlen h rfl m 0 (Nat.zero_add m)
  rw [vm_wr_0] at k
  obtain ⟨X, k, e⟩ := vc_copy_0 hC hB hr hKr hm hlen k
  subst e
  exact k
theorem jv_i128 : jv_I 128 5 none 1 21 jv_c128 := ⟨rfl, rfl, rfl, rfl, rfl⟩
theorem vk_B_wr {K : Nat → Option (Nat × Nat)} {I : Nat → Nat → Int32} {R : Nat → Nat → Value} {o st sd vs en q a n : Nat} {f : Nat → Int32} (h : vk_B K I R o st sd vs en) (ho : o ≠ q) : vk_B K (vm_wr I q a n f) R o st sd vs en := by
  have y : ∀ i, vm_wr I q a n f o i = I o i := fun i => vm_wr_o (fun z => ho z.1)
  exact ⟨h.1, h.2.1, (y 5).trans h.2.2.1, (y 6).trans h.2.2.2.1, (y 2).trans h.2.2.2.2.1, h.2.2.2.2.2⟩
theorem vc_lead_t {K : Nat → Option (Nat × Nat)} {I : Nat → Nat → Int32} {L : Nat → Nat → Int64} {R : Nat → Nat → Value} (hC : vm_CW K R) {o e st sd vs en g0 : Nat} {run : Int32} (hK0 : K o = some (7, 13)) (hT : vk_B K I R o st sd vs en) (e0 : I o 0 = vl_I 1) (ho : o ≠ 9) (he : e < en) (hg : st + e * sd = 8 * g0) (hv : 1 ≤ vs ∧ vs ≤ 256) {n sl : Nat} {Q : jv_R → Prop} {k : Nat} (hk : 8 * k < vs) (cont : jv_Wp 128 3 [(0, .ref 2), (1, .ref o), (2, .int (vl_I e)), (3, .int run), (4, .int (vl_I (8 * (k + 1))))] [] (jv_H K (jv_u I 9 (g0 + k) run) L R) n sl Q) : jv_Wp 128 3 [(0, .ref 2), (1, .ref o), (2, .int (vl_I e)), (3, .int run), (4, .int (vl_I (8 * k)))] [] (jv_H K I L R) n sl Q := by
  obtain ⟨hK6, hR4, e5, e6, e2, hvs, hen⟩ := id hT
  have hix := vk_eix he hen.2 hvs
  have hWI := vk_where7 (n := n) (sl := sl) (L := L) (e := e) hK0 hT
  rw [hg] at hWI
  have hdv : ((vl_I (8 * g0)) + (vl_I (8 * k))) / (8 : Int32) = vl_I (g0 + k) := by
    rw [vl_I_add, vi_d8 (x := 8 * g0 + 8 * k) rfl (by omega)]; congr 1; omega
  refine jv_Wp.lift (fun _ Kz => jv_Ev.steps jv_i128 2 (pc' := 6) (l' := [(0, .ref 2), (1, .ref o), (2, .int (vl_I e)), (3, .int run), (4, .int (vl_I (8 * k)))]) (st' := [.ref o, .int (vl_I (8 * k))]) rfl Kz) ?_
  refine jv_Wp.lift (fun _ Kz => jv_Ev.m jv_i128 (pc' := 9) (st' := [.int (vl_I vs), .int (vl_I (8 * k))]) (G' := (jv_H K I L R)) rfl rfl (jv_m_getI hK0 rfl rfl e2) Kz) ?_
  refine jv_Wp.cnd jv_i128 (pt := 43) (pe := 12) (p := ((vl_I vs) ≤ (vl_I (8 * k)))) (q := ((vl_I vs) ≤ (vl_I (8 * k)))) rfl jv_bc_ge rfl rfl Iff.rfl (fun hz => absurd hz (fun z => absurd ((vl_I_le (by omega) (by omega)).mp z) (by omega))) (fun _ => ?_)
  refine jv_Wp.lift (fun _ Kz => jv_Ev.steps jv_i128 1 (pc' := 13) (l' := [(0, .ref 2), (1, .ref o), (2, .int (vl_I e)), (3, .int run), (4, .int (vl_I (8 * k)))]) (st' := [.ref o]) rfl Kz) ?_
  refine jv_Wp.lift (fun _ Kz => jv_Ev.m jv_i128 (pc' := 16) (st' := [.int (vl_I 1)]) (G' := (jv_H K I L R)) rfl rfl (jv_m_getI hK0 rfl rfl e0) Kz) ?_
  refine jv_Wp.lift (fun _ Kz => jv_Ev.steps jv_i128 1 (pc' := 17) (l' := [(0, .ref 2), (1, .ref o), (2, .int (vl_I e)), (3, .int run), (4, .int (vl_I (8 * k)))]) (st' := [.int (1 : Int32), .int (vl_I 1)]) rfl Kz) ?_
  refine jv_Wp.cnd jv_i128 (pt := 43) (pe := 20) (p := (¬ (vl_I 1) = (1 : Int32))) (q := (¬ (vl_I 1) = (1 : Int32))) rfl jv_bc_ne rfl rfl Iff.rfl (fun hz => absurd hz (fun z => z rfl)) (fun _ => ?_)
  refine jv_Wp.lift (fun _ Kz => jv_Ev.steps jv_i128 1 (pc' := 21) (l' := [(0, .ref 2), (1, .ref o), (2, .int (vl_I e)), (3, .int run), (4, .int (vl_I (8 * k)))]) (st' := [.ref 2]) rfl Kz) ?_
  refine jv_Wp.lift (fun _ Kz => jv_Ev.m jv_i128 (pc' := 24) (st' := [.ref 9]) (G' := (jv_H K I L R)) rfl rfl (jv_m_getR (vm_cK hC 2 6 11 (by decide)) rfl rfl (vm_cR hC 2 10 9 (by decide))) Kz) ?_
  refine jv_Wp.lift (fun _ Kz => jv_Ev.steps jv_i128 2 (pc' := 26) (l' := [(0, .ref 2), (1, .ref o), (2, .int (vl_I e)), (3, .int run), (4, .int (vl_I (8 * k)))]) (st' := [.int (vl_I e), .ref o, .ref 9]) rfl Kz) ?_
  refine jv_Wp.lift (fun _ Kz => jv_Ev.c jv_i128 (pc' := 29) (S' := [.int (vl_I (8 * g0)), .ref 9]) jv_i11 [.ref o, .int (vl_I e)] rfl rfl rfl rfl (jv_cal rfl (jv_H_at hK0) rfl rfl) rfl hWI rfl rfl Kz) ?_
  refine jv_Wp.lift (fun _ Kz => jv_Ev.steps jv_i128 3 (pc' := 34) (l' := [(0, .ref 2), (1, .ref o), (2, .int (vl_I e)), (3, .int run), (4, .int (vl_I (8 * k)))]) (st' := [.int (8 : Int32), .int ((vl_I (8 * g0)) + (vl_I (8 * k))), .ref 9]) rfl Kz) ?_
  refine jv_Wp.lift (fun _ Kz => jv_Ev.op jv_i128 (pc' := 35) (l' := [(0, .ref 2), (1, .ref o), (2, .int (vl_I e)), (3, .int run), (4, .int (vl_I (8 * k)))]) (st' := [.int (((vl_I (8 * g0)) + (vl_I (8 * k))) / (8 : Int32)), .ref 9]) rfl (jv_op_idiv (by decide)) Kz) ?_
  refine jv_Wp.lift (fun _ Kz => jv_Ev.steps jv_i128 1 (pc' := 36) (l' := [(0, .ref 2), (1, .ref o), (2, .int (vl_I e)), (3, .int run), (4, .int (vl_I (8 * k)))]) (st' := [.int run, .int (((vl_I (8 * g0)) + (vl_I (8 * k))) / (8 : Int32)), .ref 9]) rfl Kz) ?_
  refine jv_Wp.lift (fun _ Kz => jv_Ev.m jv_i128 (pc' := 37) (st' := []) (G' := (jv_H K (jv_u I 9 (g0 + k) run) L R)) rfl rfl (by rw [jv_m_iast (vm_cK hC 9 102 8192 (by decide)) (by rw [show (((vl_I (8 * g0)) + (vl_I (8 * k))) / (8 : Int32)) = vl_I (g0 + k) from hdv]; exact vl_I_ix (by omega) (by decide)), (show (((vl_I (8 * g0)) + (vl_I (8 * k))) / (8 : Int32)).toNatClampNeg = g0 + k from by rw [show (((vl_I (8 * g0)) + (vl_I (8 * k))) / (8 : Int32)) = vl_I (g0 + k) from hdv]; exact vl_I_nat (by omega))]) Kz) ?_
  refine jv_Wp.lift (fun _ Kz => jv_Ev.steps jv_i128 2 (pc' := 3) (l' := [(4, .int ((vl_I (8 * k)) + Int32.ofInt 8)), (0, .ref 2), (1, .ref o), (2, .int (vl_I e)), (3, .int run)]) (st' := []) rfl Kz) ?_
  refine jv_Wp.loc (l := [(0, .ref 2), (1, .ref o), (2, .int (vl_I e)), (3, .int run), (4, .int ((vl_I (8 * k)) + Int32.ofInt 8))]) ⟨List.forall_mem_cons.mpr ⟨.tail _ (.head _), List.forall_mem_cons.mpr ⟨.tail _ (.tail _ (.head _)), List.forall_mem_cons.mpr ⟨.tail _ (.tail _ (.tail _ (.head _))), List.forall_mem_cons.mpr ⟨.tail _ (.tail _ (.tail _ (.tail _ (.head _)))), List.forall_mem_cons.mpr ⟨.head _, fun _ h => absurd h List.not_mem_nil⟩⟩⟩⟩⟩, by show List.Nodup [4, 0, 1, 2, 3]; decide⟩ ?_
  rw [show vl_I (8 * k) + Int32.ofInt 8 = vl_I (8 * (k + 1)) from vl_I_add (8 * k) 8]
  exact cont
theorem vc_lead_e {K : Nat → Option (Nat × Nat)} {I : Nat → Nat → Int32} {L : Nat → Nat → Int64} {R : Nat → Nat → Value} (hC : vm_CW K R) {o e st sd vs en g0 : Nat} {run : Int32} (hK0 : K o = some (7, 13)) (hT : vk_B K I R o st sd vs en) (e0 : I o 0 = vl_I 1) (ho : o ≠ 9) (he : e < en) (hg : st + e * sd = 8 * g0) (hv : 1 ≤ vs ∧ vs ≤ 256) {n sl : Nat} {Q : jv_R → Prop} {k : Nat} (hk : vs ≤ 8 * k) (hk2 : k ≤ 32) (hQ : Q (none, jv_H K I L R, n, sl)) : jv_Wp 128 3 [(0, .ref 2), (1, .ref o), (2, .int (vl_I e)), (3, .int run), (4, .int (vl_I (8 * k)))] [] (jv_H K I L R) n sl Q := by
  obtain ⟨hK6, hR4, e5, e6, e2, hvs, hen⟩ := id hT
  refine jv_Wp.lift (fun _ Kz => jv_Ev.steps jv_i128 2 (pc' := 6) (l' := [(0, .ref 2), (1, .ref o), (2, .int (vl_I e)), (3, .int run), (4, .int (vl_I (8 * k)))]) (st' := [.ref o, .int (vl_I (8 * k))]) rfl Kz) ?_
  refine jv_Wp.lift (fun _ Kz => jv_Ev.m jv_i128 (pc' := 9) (st' := [.int (vl_I vs), .int (vl_I (8 * k))]) (G' := (jv_H K I L R)) rfl rfl (jv_m_getI hK0 rfl rfl e2) Kz) ?_
  refine jv_Wp.cnd jv_i128 (pt := 43) (pe := 12) (p := ((vl_I vs) ≤ (vl_I (8 * k)))) (q := ((vl_I vs) ≤ (vl_I (8 * k)))) rfl jv_bc_ge rfl rfl Iff.rfl (fun _ => ?_) (fun hz => absurd ((vl_I_le (by omega) (by omega)).mpr (by omega)) hz)
  refine jv_Wp.of (jv_Ev.ret jv_i128 rfl rfl) ?_
  exact hQ
theorem vc_lead_l {K : Nat → Option (Nat × Nat)} {I : Nat → Nat → Int32} {L : Nat → Nat → Int64} {R : Nat → Nat → Value} (hC : vm_CW K R) {o e st sd vs en g0 : Nat} {run : Int32} (hK0 : K o = some (7, 13)) (hT : vk_B K I R o st sd vs en) (e0 : I o 0 = vl_I 1) (ho : o ≠ 9) (he : e < en) (hg : st + e * sd = 8 * g0) (hv : 1 ≤ vs ∧ vs ≤ 256) {n sl : Nat} {Q : jv_R → Prop} (hQ : Q (none, jv_H K (vm_wr I 9 g0 ((vs + 7) / 8) (fun _ => run)) L R, n, sl)) : ∀ d k, k + d = (vs + 7) / 8 → jv_Wp 128 3 [(0, .ref 2), (1, .ref o), (2, .int (vl_I e)), (3, .int run), (4, .int (vl_I (8 * k)))] [] (jv_H K (vm_wr I 9 g0 k (fun _ => run)) L R) n sl Q
  | 0, k, g => by
    have g : k = (vs + 7) / 8 := g
    rw [← g] at hQ
    exact vc_lead_e hC hK0 (vk_B_wr hT ho) ((vm_wr_o (fun z => ho z.1)).trans e0) ho he hg hv (by omega) (by omega) hQ
  | d + 1, k, g => by
    refine vc_lead_t hC hK0 (vk_B_wr hT ho) ((vm_wr_o (fun z => ho z.1)).trans e0) ho he hg hv (by omega) ?_
    rw [vm_wr_s I 9 g0 k (fun _ => run)]
    exact vc_lead_l hC hK0 hT e0 ho he hg hv hQ d (k + 1) (by omega)
theorem vc_lead_0 {K : Nat → Option (Nat × Nat)} {I : Nat → Nat → Int32} {L : Nat → Nat → Int64} {R : Nat → Nat → Value} (hC : vm_CW K R) {o e st sd vs en g0 : Nat} {run : Int32} (hK0 : K o = some (7, 13)) (hT : vk_B K I R o st sd vs en) (e0 : I o 0 = vl_I 1) (ho : o ≠ 9) (he : e < en) (hg : st + e * sd = 8 * g0) (hv : 1 ≤ vs ∧ vs ≤ 256) {n sl : Nat} {Q : jv_R → Prop} (cont : jv_Wp 128 3 [(0, .ref 2), (1, .ref o), (2, .int (vl_I e)), (3, .int run), (4, .int (0 : Int32))] [] (jv_H K I L R) n sl Q) : jv_Wp 128 0 [(0, .ref 2), (1, .ref o), (2, .int (vl_I e)), (3, .int run)] [] (jv_H K I L R) n sl Q := by
  refine jv_Wp.lift (fun _ Kz => jv_Ev.steps jv_i128 2 (pc' := 3) (l' := [(4, .int (0 : Int32)), (0, .ref 2), (1, .ref o), (2, .int (vl_I e)), (3, .int run)]) (st' := []) rfl Kz) ?_
  refine jv_Wp.loc (l := [(0, .ref 2), (1, .ref o), (2, .int (vl_I e)), (3, .int run), (4, .int (0 : Int32))]) ⟨List.forall_mem_cons.mpr ⟨.tail _ (.head _), List.forall_mem_cons.mpr ⟨.tail _ (.tail _ (.head _)), List.forall_mem_cons.mpr ⟨.tail _ (.tail _ (.tail _ (.head _))), List.forall_mem_cons.mpr ⟨.tail _ (.tail _ (.tail _ (.tail _ (.head _)))), List.forall_mem_cons.mpr ⟨.head _, fun _ h => absurd h List.not_mem_nil⟩⟩⟩⟩⟩, by show List.Nodup [4, 0, 1, 2, 3]; decide⟩ ?_
  exact cont
theorem vc_lead7 {K : Nat → Option (Nat × Nat)} {I : Nat → Nat → Int32} {L : Nat → Nat → Int64} {R : Nat → Nat → Value} (hC : vm_CW K R) {o e st sd vs en g0 : Nat} {run : Int32} (hK0 : K o = some (7, 13)) (hT : vk_B K I R o st sd vs en) (e0 : I o 0 = vl_I 1) (ho : o ≠ 9) (he : e < en) (hg : st + e * sd = 8 * g0) (hv : 1 ≤ vs ∧ vs ≤ 256) {n sl : Nat} : jv_Ms 128 [.ref 2, .ref o, .int (vl_I e), .int run] (jv_H K I L R) n sl (none, jv_H K (vm_wr I 9 g0 ((vs + 7) / 8) (fun _ => run)) L R, n, sl) := by
  have k := vc_lead_l (n := n) (sl := sl) (L := L) (Q := fun X => X = (none, jv_H K (vm_wr I 9 g0 ((vs + 7) / 8) (fun _ => run)) L R, n, sl)) hC hK0 hT e0 ho he hg hv rfl ((vs + 7) / 8) 0 (Nat.zero_add _)
  rw [vm_wr_0] at k
  obtain ⟨X, k, e⟩ := vc_lead_0 hC hK0 hT e0 ho he hg hv k
  subst e
  exact k
theorem vc_lead0_0 {K : Nat → Option (Nat × Nat)} {I : Nat → Nat → Int32} {L : Nat → Nat → Int64} {R : Nat → Nat → Value} (hC : vm_CW K R) {o e vs : Nat} {run : Int32} (hK0 : K o = some (0, 7)) (e0 : I o 0 = vl_I 0) (e2 : I o 2 = vl_I vs) (hv : 1 ≤ vs ∧ vs ≤ 256) {n sl : Nat} {Q : jv_R → Prop} (hQ : Q (none, jv_H K I L R, n, sl)) : jv_Wp 128 0 [(0, .ref 2), (1, .ref o), (2, .int (vl_I e)), (3, .int run)] [] (jv_H K I L R) n sl Q := by
  refine jv_Wp.lift (fun _ Kz => jv_Ev.steps jv_i128 4 (pc' := 6) (l' := [(4, .int (0 : Int32)), (0, .ref 2), (1, .ref o), (2, .int (vl_I e)), (3, .int run)]) (st' := [.ref o, .int (0 : Int32)]) rfl Kz) ?_
  refine jv_Wp.lift (fun _ Kz => jv_Ev.m jv_i128 (pc' := 9) (st' := [.int (vl_I vs), .int (0 : Int32)]) (G' := (jv_H K I L R)) rfl rfl (jv_m_getI hK0 rfl rfl e2) Kz) ?_
  refine jv_Wp.cnd jv_i128 (pt := 43) (pe := 12) (p := ((vl_I vs) ≤ (0 : Int32))) (q := ((vl_I vs) ≤ (0 : Int32))) rfl jv_bc_ge rfl rfl Iff.rfl (fun hz => absurd hz (fun z => absurd ((vl_I_le (b := 0) (by omega) (by decide)).mp z) (by omega))) (fun _ => ?_)
  refine jv_Wp.lift (fun _ Kz => jv_Ev.steps jv_i128 1 (pc' := 13) (l' := [(4, .int (0 : Int32)), (0, .ref 2), (1, .ref o), (2, .int (vl_I e)), (3, .int run)]) (st' := [.ref o]) rfl Kz) ?_
  refine jv_Wp.lift (fun _ Kz => jv_Ev.m jv_i128 (pc' := 16) (st' := [.int (vl_I 0)]) (G' := (jv_H K I L R)) rfl rfl (jv_m_getI hK0 rfl rfl e0) Kz) ?_
  refine jv_Wp.lift (fun _ Kz => jv_Ev.steps jv_i128 1 (pc' := 17) (l' := [(4, .int (0 : Int32)), (0, .ref 2), (1, .ref o), (2, .int (vl_I e)), (3, .int run)]) (st' := [.int (1 : Int32), .int (vl_I 0)]) rfl Kz) ?_
  refine jv_Wp.cnd jv_i128 (pt := 43) (pe := 20) (p := (¬ (vl_I 0) = (1 : Int32))) (q := (¬ (vl_I 0) = (1 : Int32))) rfl jv_bc_ne rfl rfl Iff.rfl (fun _ => ?_) (fun hz => absurd (by decide) hz)
  refine jv_Wp.of (jv_Ev.ret jv_i128 rfl rfl) ?_
  exact hQ
theorem vc_lead0 {K : Nat → Option (Nat × Nat)} {I : Nat → Nat → Int32} {L : Nat → Nat → Int64} {R : Nat → Nat → Value} (hC : vm_CW K R) {o e vs : Nat} {run : Int32} (hK0 : K o = some (0, 7)) (e0 : I o 0 = vl_I 0) (e2 : I o 2 = vl_I vs) (hv : 1 ≤ vs ∧ vs ≤ 256) {n sl : Nat} : jv_Ms 128 [.ref 2, .ref o, .int (vl_I e), .int run] (jv_H K I L R) n sl (none, jv_H K I L R, n, sl) := by
  obtain ⟨X, k, e⟩ := vc_lead0_0 (n := n) (sl := sl) (I := I) (L := L) (R := R) (Q := fun X => X = (none, jv_H K I L R, n, sl)) hC hK0 e0 e2 hv rfl
  subst e
  exact k