/-! part g09: values of the class's maps, arrays (gen/tg09.py) -/
/-- what a map's cell tells: where it begins, how far its entries are from one another, how many bytes a value has -/
def vk_B (K : Nat → Option (Nat × Nat)) (I : Nat → Nat → Int32) (R : Nat → Nat → Value) (o st sd vs en : Nat) : Prop := K 6 = some (101, 65536) ∧ R o 4 = .ref 6 ∧ I o 5 = vl_I st ∧ I o 6 = vl_I sd ∧ I o 2 = vl_I vs ∧ vs ≤ sd ∧ (1 ≤ en ∧ st + en * sd ≤ 65536)
theorem vm_le_sh {B : Nat → Nat} {a : Nat} : ∀ (n k : Nat), vm_le (fun i => B (i - a)) (a + k) n = vm_le B k n
  | 0, _ => rfl
  | n + 1, k => by
    show B (a + k - a) + 256 * vm_le (fun i => B (i - a)) (a + k + 1) n = B k + 256 * vm_le B (k + 1) n
    rw [Nat.add_sub_cancel_left, Nat.add_assoc, vm_le_sh n (k + 1)]
theorem vk_eix {e en sd st vs : Nat} (he : e < en) (h : st + en * sd ≤ 65536) (hv : vs ≤ sd) : st + e * sd + vs ≤ 65536 := by
  have y : (e + 1) * sd ≤ en * sd := Nat.mul_le_mul_right _ he
  rw [Nat.add_mul, Nat.one_mul] at y; omega
theorem jv_i11 : jv_I 11 2 (some .int) 0 0 jv_c11 := ⟨rfl, rfl, rfl, rfl, rfl⟩
theorem vk_where0_0 {K : Nat → Option (Nat × Nat)} {I : Nat → Nat → Int32} {L : Nat → Nat → Int64} {R : Nat → Nat → Value} {o st sd vs en e : Nat} (hK0 : K o = some (0, 7)) (hT : vk_B K I R o st sd vs en) {n sl : Nat} {Q : jv_R → Prop} (hQ : Q (some (.int (vl_I (st + e * sd))), jv_H K I L R, n, sl)) : jv_Wp 11 0 [(0, .ref o), (1, .int (vl_I e))] [] (jv_H K I L R) n sl Q := by
  obtain ⟨hK6, hR4, e5, e6, e2, hvs, hen⟩ := id hT
  refine jv_Wp.lift (fun _ Kz => jv_Ev.steps jv_i11 1 (pc' := 1) (l' := [(0, .ref o), (1, .int (vl_I e))]) (st' := [.ref o]) rfl Kz) ?_
  refine jv_Wp.lift (fun _ Kz => jv_Ev.m jv_i11 (pc' := 4) (st' := [.int (vl_I st)]) (G' := (jv_H K I L R)) rfl rfl (jv_m_getI hK0 rfl rfl e5) Kz) ?_
  refine jv_Wp.lift (fun _ Kz => jv_Ev.steps jv_i11 2 (pc' := 6) (l' := [(0, .ref o), (1, .int (vl_I e))]) (st' := [.ref o, .int (vl_I e), .int (vl_I st)]) rfl Kz) ?_
  refine jv_Wp.lift (fun _ Kz => jv_Ev.m jv_i11 (pc' := 9) (st' := [.int (vl_I sd), .int (vl_I e), .int (vl_I st)]) (G' := (jv_H K I L R)) rfl rfl (jv_m_getI hK0 rfl rfl e6) Kz) ?_
  refine jv_Wp.lift (fun _ Kz => jv_Ev.steps jv_i11 2 (pc' := 11) (l' := [(0, .ref o), (1, .int (vl_I e))]) (st' := [.int ((vl_I st) + ((vl_I e) * (vl_I sd)))]) rfl Kz) ?_
  refine jv_Wp.of (jv_Ev.ret jv_i11 rfl rfl) ?_
  rw [show ((vl_I st) + ((vl_I e) * (vl_I sd))) = vl_I (st + e * sd) from vi_a2 rfl (vi_m2 rfl rfl rfl) rfl]
  exact hQ
theorem vk_where0 {K : Nat → Option (Nat × Nat)} {I : Nat → Nat → Int32} {L : Nat → Nat → Int64} {R : Nat → Nat → Value} {o st sd vs en e : Nat} (hK0 : K o = some (0, 7)) (hT : vk_B K I R o st sd vs en) {n sl : Nat} : jv_Ms 11 [.ref o, .int (vl_I e)] (jv_H K I L R) n sl (some (.int (vl_I (st + e * sd))), jv_H K I L R, n, sl) := by
  obtain ⟨X, k, e⟩ := vk_where0_0 (n := n) (sl := sl) (I := I) (L := L) (R := R) (Q := fun X => X = (some (.int (vl_I (st + e * sd))), jv_H K I L R, n, sl)) hK0 hT rfl
  subst e
  exact k
theorem vk_where7_0 {K : Nat → Option (Nat × Nat)} {I : Nat → Nat → Int32} {L : Nat → Nat → Int64} {R : Nat → Nat → Value} {o st sd vs en e : Nat} (hK0 : K o = some (7, 13)) (hT : vk_B K I R o st sd vs en) {n sl : Nat} {Q : jv_R → Prop} (hQ : Q (some (.int (vl_I (st + e * sd))), jv_H K I L R, n, sl)) : jv_Wp 11 0 [(0, .ref o), (1, .int (vl_I e))] [] (jv_H K I L R) n sl Q := by
  obtain ⟨hK6, hR4, e5, e6, e2, hvs, hen⟩ := id hT
  refine jv_Wp.lift (fun _ Kz => jv_Ev.steps jv_i11 1 (pc' := 1) (l' := [(0, .ref o), (1, .int (vl_I e))]) (st' := [.ref o]) rfl Kz) ?_
  refine jv_Wp.lift (fun _ Kz => jv_Ev.m jv_i11 (pc' := 4) (st' := [.int (vl_I st)]) (G' := (jv_H K I L R)) rfl rfl (jv_m_getI hK0 rfl rfl e5) Kz) ?_
  refine jv_Wp.lift (fun _ Kz => jv_Ev.steps jv_i11 2 (pc' := 6) (l' := [(0, .ref o), (1, .int (vl_I e))]) (st' := [.ref o, .int (vl_I e), .int (vl_I st)]) rfl Kz) ?_
  refine jv_Wp.lift (fun _ Kz => jv_Ev.m jv_i11 (pc' := 9) (st' := [.int (vl_I sd), .int (vl_I e), .int (vl_I st)]) (G' := (jv_H K I L R)) rfl rfl (jv_m_getI hK0 rfl rfl e6) Kz) ?_
  refine jv_Wp.lift (fun _ Kz => jv_Ev.steps jv_i11 2 (pc' := 11) (l' := [(0, .ref o), (1, .int (vl_I e))]) (st' := [.int ((vl_I st) + ((vl_I e) * (vl_I sd)))]) rfl Kz) ?_
  refine jv_Wp.of (jv_Ev.ret jv_i11 rfl rfl) ?_
  rw [show ((vl_I st) + ((vl_I e) * (vl_I sd))) = vl_I (st + e * sd) from vi_a2 rfl (vi_m2 rfl rfl rfl) rfl]
  exact hQ
theorem vk_where7 {K : Nat → Option (Nat × Nat)} {I : Nat → Nat → Int32} {L : Nat → Nat → Int64} {R : Nat → Nat → Value} {o st sd vs en e : Nat} (hK0 : K o = some (7, 13)) (hT : vk_B K I R o st sd vs en) {n sl : Nat} : jv_Ms 11 [.ref o, .int (vl_I e)] (jv_H K I L R) n sl (some (.int (vl_I (st + e * sd))), jv_H K I L R, n, sl) := by
  obtain ⟨X, k, e⟩ := vk_where7_0 (n := n) (sl := sl) (I := I) (L := L) (R := R) (Q := fun X => X = (some (.int (vl_I (st + e * sd))), jv_H K I L R, n, sl)) hK0 hT rfl
  subst e
  exact k
theorem jv_i12 : jv_I 12 4 none 1 26 jv_c12 := ⟨rfl, rfl, rfl, rfl, rfl⟩
theorem vk_wval0_0 {K : Nat → Option (Nat × Nat)} {I : Nat → Nat → Int32} {L : Nat → Nat → Int64} {R : Nat → Nat → Value} {o st sd vs en e r a len : Nat} (hK0 : K o = some (0, 7)) (hT : vk_B K I R o st sd vs en) (he : e < en) (hKr : K r = some (101, len)) (hlen : len < 2147483648) (ha : a + vs ≤ len) {n sl : Nat} {Q : jv_R → Prop} (hQ : Q (none, jv_H K (vm_wr I 6 (st + e * sd) vs (fun j => I r (a + j))) L R, n, sl)) : jv_Wp 12 0 [(0, .ref o), (1, .int (vl_I e)), (2, .ref r), (3, .int (vl_I a))] [] (jv_H K I L R) n sl Q := by
  obtain ⟨hK6, hR4, e5, e6, e2, hvs, hen⟩ := id hT
  have hix := vk_eix he hen.2 hvs
  have hWI := vk_where0 (n := n) (sl := sl) (L := L) (e := e) hK0 hT
  refine jv_Wp.lift (fun _ Kz => jv_Ev.steps jv_i12 3 (pc' := 3) (l' := [(0, .ref o), (1, .int (vl_I e)), (2, .ref r), (3, .int (vl_I a))]) (st' := [.ref o, .int (vl_I a), .ref r]) rfl Kz) ?_
  refine jv_Wp.lift (fun _ Kz => jv_Ev.m jv_i12 (pc' := 6) (st' := [.ref 6, .int (vl_I a), .ref r]) (G' := (jv_H K I L R)) rfl rfl (jv_m_getR hK0 rfl rfl hR4) Kz) ?_
  refine jv_Wp.lift (fun _ Kz => jv_Ev.steps jv_i12 2 (pc' := 8) (l' := [(0, .ref o), (1, .int (vl_I e)), (2, .ref r), (3, .int (vl_I a))]) (st' := [.int (vl_I e), .ref o, .ref 6, .int (vl_I a), .ref r]) rfl Kz) ?_
  refine jv_Wp.lift (fun _ Kz => jv_Ev.c jv_i12 (pc' := 11) (S' := [.int (vl_I (st + e * sd)), .ref 6, .int (vl_I a), .ref r]) jv_i11 [.ref o, .int (vl_I e)] rfl rfl rfl rfl (jv_cal rfl (jv_H_at hK0) rfl rfl) rfl hWI rfl rfl Kz) ?_
  refine jv_Wp.lift (fun _ Kz => jv_Ev.steps jv_i12 1 (pc' := 12) (l' := [(0, .ref o), (1, .int (vl_I e)), (2, .ref r), (3, .int (vl_I a))]) (st' := [.ref o, .int (vl_I (st + e * sd)), .ref 6, .int (vl_I a), .ref r]) rfl Kz) ?_
  refine jv_Wp.lift (fun _ Kz => jv_Ev.m jv_i12 (pc' := 15) (st' := [.int (vl_I vs), .int (vl_I (st + e * sd)), .ref 6, .int (vl_I a), .ref r]) (G' := (jv_H K I L R)) rfl rfl (jv_m_getI hK0 rfl rfl e2) Kz) ?_
  refine jv_Wp.lift (fun _ Kz => jv_Ev.op jv_i12 (pc' := 18) (l' := [(0, .ref o), (1, .int (vl_I e)), (2, .ref r), (3, .int (vl_I a))]) (st' := []) (G' := (jv_H K (vm_wr I 6 (st + e * sd) vs (fun j => I r (a + j))) L R)) rfl (vm_cp hKr hK6 rfl rfl rfl rfl (by omega) (by omega) (by omega) (by omega)) Kz) ?_
  refine jv_Wp.of (jv_Ev.ret jv_i12 rfl rfl) ?_
  exact hQ
theorem vk_wval0 {K : Nat → Option (Nat × Nat)} {I : Nat → Nat → Int32} {L : Nat → Nat → Int64} {R : Nat → Nat → Value} {o st sd vs en e r a len : Nat} (hK0 : K o = some (0, 7)) (hT : vk_B K I R o st sd vs en) (he : e < en) (hKr : K r = some (101, len)) (hlen : len < 2147483648) (ha : a + vs ≤ len) {n sl : Nat} : jv_Ms 12 [.ref o, .int (vl_I e), .ref r, .int (vl_I a)] (jv_H K I L R) n sl (none, jv_H K (vm_wr I 6 (st + e * sd) vs (fun j => I r (a + j))) L R, n, sl) := by
  obtain ⟨X, k, e⟩ := vk_wval0_0 (n := n) (sl := sl) (I := I) (L := L) (R := R) (Q := fun X => X = (none, jv_H K (vm_wr I 6 (st + e * sd) vs (fun j => I r (a + j))) L R, n, sl)) hK0 hT he hKr hlen ha rfl
  subst e
  exact k
theorem vk_wval7_0 {K : Nat → Option (Nat × Nat)} {I : Nat → Nat → Int32} {L : Nat → Nat → Int64} {R : Nat → Nat → Value} {o st sd vs en e r a len : Nat} (hK0 : K o = some (7, 13)) (hT : vk_B K I R o st sd vs en) (he : e < en) (hKr : K r = some (101, len)) (hlen : len < 2147483648) (ha : a + vs ≤ len) {n sl : Nat} {Q : jv_R → Prop} (hQ : Q (none, jv_H K (vm_wr I 6 (st + e * sd) vs (fun j => I r (a + j))) L R, n, sl)) : jv_Wp 12 0 [(0, .ref o), (1, .int (vl_I e)), (2, .ref r), (3, .int (vl_I a))] [] (jv_H K I L R) n sl Q := by
  obtain ⟨hK6, hR4, e5, e6, e2, hvs, hen⟩ := id hT
  have hix := vk_eix he hen.2 hvs
  have hWI := vk_where7 (n := n) (sl := sl) (L := L) (e := e) hK0 hT
  refine jv_Wp.lift (fun _ Kz => jv_Ev.steps jv_i12 3 (pc' := 3) (l' := [(0, .ref o), (1, .int (vl_I e)), (2, .ref r), (3, .int (vl_I a))]) (st' := [.ref o, .int (vl_I a), .ref r]) rfl Kz) ?_
  refine jv_Wp.lift (fun _ Kz => jv_Ev.m jv_i12 (pc' := 6) (st' := [.ref 6, .int (vl_I a), .ref r]) (G' := (jv_H K I L R)) rfl rfl (jv_m_getR hK0 rfl rfl hR4) Kz) ?_
  refine jv_Wp.lift (fun _ Kz => jv_Ev.steps jv_i12 2 (pc' := 8) (l' := [(0, .ref o), (1, .int (vl_I e)), (2, .ref r), (3, .int (vl_I a))]) (st' := [.int (vl_I e), .ref o, .ref 6, .int (vl_I a), .ref r]) rfl Kz) ?_
  refine jv_Wp.lift (fun _ Kz => jv_Ev.c jv_i12 (pc' := 11) (S' := [.int (vl_I (st + e * sd)), .ref 6, .int (vl_I a), .ref r]) jv_i11 [.ref o, .int (vl_I e)] rfl rfl rfl rfl (jv_cal rfl (jv_H_at hK0) rfl rfl) rfl hWI rfl rfl Kz) ?_
  refine jv_Wp.lift (fun _ Kz => jv_Ev.steps jv_i12 1 (pc' := 12) (l' := [(0, .ref o), (1, .int (vl_I e)), (2, .ref r), (3, .int (vl_I a))]) (st' := [.ref o, .int (vl_I (st + e * sd)), .ref 6, .int (vl_I a), .ref r]) rfl Kz) ?_
  refine jv_Wp.lift (fun _ Kz => jv_Ev.m jv_i12 (pc' := 15) (st' := [.int (vl_I vs), .int (vl_I (st + e * sd)), .ref 6, .int (vl_I a), .ref r]) (G' := (jv_H K I L R)) rfl rfl (jv_m_getI hK0 rfl rfl e2) Kz) ?_
  refine jv_Wp.lift (fun _ Kz => jv_Ev.op jv_i12 (pc' := 18) (l' := [(0, .ref o), (1, .int (vl_I e)), (2, .ref r), (3, .int (vl_I a))]) (st' := []) (G' := (jv_H K (vm_wr I 6 (st + e * sd) vs (fun j => I r (a + j))) L R)) rfl (vm_cp hKr hK6 rfl rfl rfl rfl (by omega) (by omega) (by omega) (by omega)) Kz) ?_
  refine jv_Wp.of (jv_Ev.ret jv_i12 rfl rfl) ?_
  exact hQ
theorem vk_wval7 {K : Nat → Option (Nat × Nat)} {I : Nat → Nat → Int32} {L : Nat → Nat → Int64} {R : Nat → Nat → Value} {o st sd vs en e r a len : Nat} (hK0 : K o = some (7, 13)) (hT : vk_B K I R o st sd vs en) (he : e < en) (hKr : K r = some (101, len)) (hlen : len < 2147483648) (ha : a + vs ≤ len) {n sl : Nat} : jv_Ms 12 [.ref o, .int (vl_I e), .ref r, .int (vl_I a)] (jv_H K I L R) n sl (none, jv_H K (vm_wr I 6 (st + e * sd) vs (fun j => I r (a + j))) L R, n, sl) := by
  obtain ⟨X, k, e⟩ := vk_wval7_0 (n := n) (sl := sl) (I := I) (L := L) (R := R) (Q := fun X => X = (none, jv_H K (vm_wr I 6 (st + e * sd) vs (fun j => I r (a + j))) L R, n, sl)) hK0 hT he hKr hlen ha rfl
  subst e
  exact k
theorem jv_i13 : jv_I 13 1 (some .boolean) 0 0 jv_c13 := ⟨rfl, rfl, rfl, rfl, rfl⟩
theorem vk_areFlags_0 {K : Nat → Option (Nat × Nat)} {I : Nat → Nat → Int32} {L : Nat → Nat → Int64} {R : Nat → Nat → Value} (fl : Int32) {n sl : Nat} {Q : jv_R → Prop} (hQ : Q (some (.int (vr_b (decide (0 ≤ fl.toInt ∧ fl.toInt ≤ 2)))), jv_H K I L R, n, sl)) : jv_Wp 13 0 [(0, .int fl)] [] (jv_H K I L R) n sl Q := by
  refine jv_Wp.lift (fun _ Kz => jv_Ev.steps jv_i13 1 (pc' := 1) (l' := [(0, .int fl)]) (st' := [.int fl]) rfl Kz) ?_
  refine jv_Wp.cnd jv_i13 (pt := 13) (pe := 4) (p := (fl < 0)) (q := (fl < 0)) rfl jv_bi_lt rfl rfl Iff.rfl (fun h1 => ?_) (fun h1 => ?_)
  · refine jv_Wp.lift (fun _ Kz => jv_Ev.steps jv_i13 1 (pc' := 14) (l' := [(0, .int fl)]) (st' := [.int (0 : Int32)]) rfl Kz) ?_
    refine jv_Wp.of (jv_Ev.ret jv_i13 rfl (jv_ret_b (Or.inl rfl))) ?_
    have z := Int32.lt_iff_toInt_lt.mp h1
    rw [decide_eq_false (show ¬ (0 ≤ fl.toInt ∧ fl.toInt ≤ 2) from fun y => by have : (0 : Int32).toInt = 0 := rfl; omega)] at hQ
    exact hQ
  · refine jv_Wp.lift (fun _ Kz => jv_Ev.steps jv_i13 2 (pc' := 6) (l' := [(0, .int fl)]) (st' := [.int (2 : Int32), .int fl]) rfl Kz) ?_
    refine jv_Wp.cnd jv_i13 (pt := 13) (pe := 9) (p := ((2 : Int32) < fl)) (q := ((2 : Int32) < fl)) rfl jv_bc_gt rfl rfl Iff.rfl (fun h2 => ?_) (fun h2 => ?_)
    · refine jv_Wp.lift (fun _ Kz => jv_Ev.steps jv_i13 1 (pc' := 14) (l' := [(0, .int fl)]) (st' := [.int (0 : Int32)]) rfl Kz) ?_
      refine jv_Wp.of (jv_Ev.ret jv_i13 rfl (jv_ret_b (Or.inl rfl))) ?_
      have z := Int32.lt_iff_toInt_lt.mp h2
      rw [decide_eq_false (show ¬ (0 ≤ fl.toInt ∧ fl.toInt ≤ 2) from fun y => by have : (2 : Int32).toInt = 2 := rfl; omega)] at hQ
      exact hQ
    · refine jv_Wp.lift (fun _ Kz => jv_Ev.steps jv_i13 2 (pc' := 14) (l' := [(0, .int fl)]) (st' := [.int (1 : Int32)]) rfl Kz) ?_
      refine jv_Wp.of (jv_Ev.ret jv_i13 rfl (jv_ret_b (Or.inr rfl))) ?_
      have z1 := mt Int32.lt_iff_toInt_lt.mpr h1
      have z2 := mt Int32.lt_iff_toInt_lt.mpr h2
      have y1 : (0 : Int32).toInt = 0 := rfl
      have y2 : (2 : Int32).toInt = 2 := rfl
      rw [decide_eq_true (show 0 ≤ fl.toInt ∧ fl.toInt ≤ 2 from by omega)] at hQ
      exact hQ
theorem vk_areFlags {K : Nat → Option (Nat × Nat)} {I : Nat → Nat → Int32} {L : Nat → Nat → Int64} {R : Nat → Nat → Value} (fl : Int32) {n sl : Nat} : jv_Ms 13 [.int fl] (jv_H K I L R) n sl (some (.int (vr_b (decide (0 ≤ fl.toInt ∧ fl.toInt ≤ 2)))), jv_H K I L R, n, sl) := by
  obtain ⟨X, k, e⟩ := vk_areFlags_0 (n := n) (sl := sl) (I := I) (L := L) (R := R) (Q := fun X => X = (some (.int (vr_b (decide (0 ≤ fl.toInt ∧ fl.toInt ≤ 2)))), jv_H K I L R, n, sl)) fl rfl
  subst e
  exact k
theorem vk_read_t {K : Nat → Option (Nat × Nat)} {I : Nat → Nat → Int32} {L : Nat → Nat → Int64} {R : Nat → Nat → Value} {r len a m : Nat} {B : Nat → Nat} (hK : K r = some (101, len)) (hlen : len < 2147483648) (h : ∀ j, a ≤ j → j < a + m → I r j = vl_sb (B j) ∧ B j < 256) (ha : a + m ≤ len) {n sl : Nat} {Q : jv_R → Prop} {i : Nat} (hi : i < m) {v : Int64} {x : Nat} (hv : v = vm_J x) (cont : jv_Wp 121 7 [(0, .ref r), (1, .int (vl_I a)), (2, .int (vl_I m)), (3, .long (vm_J (256 * x + B (a + i)))), (5, .int (vl_I i + Int32.ofInt (-1)))] [] (jv_H K I L R) n sl Q) : jv_Wp 121 7 [(0, .ref r), (1, .int (vl_I a)), (2, .int (vl_I m)), (3, .long v), (5, .int (vl_I i))] [] (jv_H K I L R) n sl Q := by
  refine jv_Wp.lift (fun _ Kz => jv_Ev.steps jv_i121 1 (pc' := 9) (l' := [(0, .ref r), (1, .int (vl_I a)), (2, .int (vl_I m)), (3, .long v), (5, .int (vl_I i))]) (st' := [.int (vl_I i)]) rfl Kz) ?_
  refine jv_Wp.cnd jv_i121 (pt := 35) (pe := 12) (p := ((vl_I i) < 0)) (q := ((vl_I i) < 0)) rfl jv_bi_lt rfl rfl Iff.rfl (fun hz => absurd hz (vl_I_n0 (by omega))) (fun _ => ?_)
  refine jv_Wp.lift (fun _ Kz => jv_Ev.steps jv_i121 7 (pc' := 21) (l' := [(0, .ref r), (1, .int (vl_I a)), (2, .int (vl_I m)), (3, .long v), (5, .int (vl_I i))]) (st' := [.int ((vl_I a) + (vl_I i)), .ref r, .long (v <<< ((8 : Int32).toInt64 &&& 63))]) rfl Kz) ?_
  refine jv_Wp.lift (fun _ Kz => jv_Ev.m jv_i121 (pc' := 22) (st' := [.int (I r (a + i)), .long (v <<< ((8 : Int32).toInt64 &&& 63))]) (G' := (jv_H K I L R)) rfl rfl (jv_m_baldv hK rfl (by rw [show ((vl_I a) + (vl_I i)) = vl_I (a + i) from (vi_a2 rfl rfl rfl)]; exact vl_I_ix (by omega) (by first | omega | decide)) rfl ((congrArg (I r) (show ((vl_I a) + (vl_I i)).toNatClampNeg = a + i from by rw [show ((vl_I a) + (vl_I i)) = vl_I (a + i) from (vi_a2 rfl rfl rfl)]; exact vl_I_nat (by omega))).trans rfl)) Kz) ?_
  refine jv_Wp.lift (fun _ Kz => jv_Ev.steps jv_i121 7 (pc' := 7) (l' := [(5, .int ((vl_I i) + Int32.ofInt (-1))), (3, .long ((v <<< ((8 : Int32).toInt64 &&& 63)) ||| ((I r (a + i)) &&& (255 : Int32)).toInt64)), (0, .ref r), (1, .int (vl_I a)), (2, .int (vl_I m))]) (st' := []) rfl Kz) ?_
  refine jv_Wp.loc (l := [(0, .ref r), (1, .int (vl_I a)), (2, .int (vl_I m)), (3, .long ((v <<< ((8 : Int32).toInt64 &&& 63)) ||| ((I r (a + i)) &&& (255 : Int32)).toInt64)), (5, .int ((vl_I i) + Int32.ofInt (-1)))]) ⟨List.forall_mem_cons.mpr ⟨.tail _ (.tail _ (.head _)), List.forall_mem_cons.mpr ⟨.tail _ (.tail _ (.tail _ (.head _))), List.forall_mem_cons.mpr ⟨.tail _ (.tail _ (.tail _ (.tail _ (.head _)))), List.forall_mem_cons.mpr ⟨.tail _ (.head _), List.forall_mem_cons.mpr ⟨.head _, fun _ h => absurd h List.not_mem_nil⟩⟩⟩⟩⟩, by show List.Nodup [5, 3, 0, 1, 2]; decide⟩ ?_
  have b := h (a + i) (by omega) (by omega)
  rw [b.1, vl_sb_and b.2, hv, vm_sh8 b.2]
  exact cont
theorem vk_read_e {K : Nat → Option (Nat × Nat)} {I : Nat → Nat → Int32} {L : Nat → Nat → Int64} {R : Nat → Nat → Value} {r len a m : Nat} {B : Nat → Nat} (hK : K r = some (101, len)) (hlen : len < 2147483648) (h : ∀ j, a ≤ j → j < a + m → I r j = vl_sb (B j) ∧ B j < 256) (ha : a + m ≤ len) {n sl : Nat} {Q : jv_R → Prop} {v : Int64} (hQ : Q (some (.long v), jv_H K I L R, n, sl)) : jv_Wp 121 7 [(0, .ref r), (1, .int (vl_I a)), (2, .int (vl_I m)), (3, .long v), (5, .int (-1 : Int32))] [] (jv_H K I L R) n sl Q := by
  refine jv_Wp.lift (fun _ Kz => jv_Ev.steps jv_i121 1 (pc' := 9) (l' := [(0, .ref r), (1, .int (vl_I a)), (2, .int (vl_I m)), (3, .long v), (5, .int (-1 : Int32))]) (st' := [.int (-1 : Int32)]) rfl Kz) ?_
  refine jv_Wp.lift (fun _ Kz => jv_Ev.br jv_i121 (pc' := 35) (st' := []) rfl (by rfl) Kz) ?_
  refine jv_Wp.lift (fun _ Kz => jv_Ev.steps jv_i121 1 (pc' := 36) (l' := [(0, .ref r), (1, .int (vl_I a)), (2, .int (vl_I m)), (3, .long v), (5, .int (-1 : Int32))]) (st' := [.long v]) rfl Kz) ?_
  refine jv_Wp.of (jv_Ev.ret jv_i121 rfl rfl) ?_
  exact hQ
theorem vk_read_l {K : Nat → Option (Nat × Nat)} {I : Nat → Nat → Int32} {L : Nat → Nat → Int64} {R : Nat → Nat → Value} {r len a m : Nat} {B : Nat → Nat} (hK : K r = some (101, len)) (hlen : len < 2147483648) (h : ∀ j, a ≤ j → j < a + m → I r j = vl_sb (B j) ∧ B j < 256) (ha : a + m ≤ len) {n sl : Nat} {Q : jv_R → Prop} (hQ : Q (some (.long (vm_J (vm_le B a m))), jv_H K I L R, n, sl)) : ∀ j, j ≤ m → jv_Wp 121 7 [(0, .ref r), (1, .int (vl_I a)), (2, .int (vl_I m)), (3, .long (vm_J (vm_le B (a + j) (m - j)))), (5, .int (vm_K j))] [] (jv_H K I L R) n sl Q
  | 0, _ => vk_read_e hK hlen h ha hQ
  | j + 1, hj => by
    rw [vm_K_s]
    refine vk_read_t hK hlen h ha (by omega) rfl ?_
    rw [vm_K_p, show 256 * vm_le B (a + (j + 1)) (m - (j + 1)) + B (a + j) = vm_le B (a + j) (m - j) from by rw [show m - j = (m - (j + 1)) + 1 by omega]; exact Nat.add_comm _ _]
    exact vk_read_l hK hlen h ha hQ j (by omega)
theorem vk_read_0 {K : Nat → Option (Nat × Nat)} {I : Nat → Nat → Int32} {L : Nat → Nat → Int64} {R : Nat → Nat → Value} {r len a m : Nat} {B : Nat → Nat} (hK : K r = some (101, len)) (hlen : len < 2147483648) (h : ∀ j, a ≤ j → j < a + m → I r j = vl_sb (B j) ∧ B j < 256) (ha : a + m ≤ len) {n sl : Nat} {Q : jv_R → Prop} (cont : jv_Wp 121 7 [(0, .ref r), (1, .int (vl_I a)), (2, .int (vl_I m)), (3, .long (0 : Int64)), (5, .int (vm_K m))] [] (jv_H K I L R) n sl Q) : jv_Wp 121 0 [(0, .ref r), (1, .int (vl_I a)), (2, .int (vl_I m))] [] (jv_H K I L R) n sl Q := by
  refine jv_Wp.lift (fun _ Kz => jv_Ev.steps jv_i121 6 (pc' := 7) (l' := [(5, .int ((vl_I m) - (1 : Int32))), (3, .long (0 : Int64)), (0, .ref r), (1, .int (vl_I a)), (2, .int (vl_I m))]) (st' := []) rfl Kz) ?_
  refine jv_Wp.loc (l := [(0, .ref r), (1, .int (vl_I a)), (2, .int (vl_I m)), (3, .long (0 : Int64)), (5, .int ((vl_I m) - (1 : Int32)))]) ⟨List.forall_mem_cons.mpr ⟨.tail _ (.tail _ (.head _)), List.forall_mem_cons.mpr ⟨.tail _ (.tail _ (.tail _ (.head _))), List.forall_mem_cons.mpr ⟨.tail _ (.tail _ (.tail _ (.tail _ (.head _)))), List.forall_mem_cons.mpr ⟨.tail _ (.head _), List.forall_mem_cons.mpr ⟨.head _, fun _ h => absurd h List.not_mem_nil⟩⟩⟩⟩⟩, by show List.Nodup [5, 3, 0, 1, 2]; decide⟩ ?_
  rw [show (vl_I m - (1 : Int32)) = vm_K m from rfl]
  exact cont
theorem vk_read {K : Nat → Option (Nat × Nat)} {I : Nat → Nat → Int32} {L : Nat → Nat → Int64} {R : Nat → Nat → Value} {r len a m : Nat} {B : Nat → Nat} (hK : K r = some (101, len)) (hlen : len < 2147483648) (h : ∀ j, a ≤ j → j < a + m → I r j = vl_sb (B j) ∧ B j < 256) (ha : a + m ≤ len) {n sl : Nat} : jv_Ms 121 [.ref r, .int (vl_I a), .int (vl_I m)] (jv_H K I L R) n sl (some (.long (vm_J (vm_le B a m))), jv_H K I L R, n, sl) := by
  have k := vk_read_l (n := n) (sl := sl) (L := L) (R := R) (Q := fun X => X = (some (.long (vm_J (vm_le B a m))), jv_H K I L R, n, sl)) hK hlen h ha rfl m (Nat.le_refl m)
  rw [Nat.sub_self] at k
  obtain ⟨X, k, e⟩ := vk_read_0 hK hlen h ha k
  subst e
  exact k
theorem jv_i15 : jv_I 15 5 (some .int) 1 25 jv_c15 := ⟨rfl, rfl, rfl, rfl, rfl⟩
theorem vk_aent {K : Nat → Option (Nat × Nat)} {I : Nat → Nat → Int32} {L : Nat → Nat → Int64} {R : Nat → Nat → Value} {o en r a len : Nat} {B : Nat → Nat} (hK0 : K o = some (0, 7)) (e3 : I o 3 = vl_I en) (hen : en ≤ 4096) (hKr : K r = some (101, len)) (hlen : len < 2147483648) (ha : a + 4 ≤ len) (hB : vk_by I r a 4 B) {n sl : Nat} {P : jv_R → Prop} (hS : vm_le B 0 4 < en → P (some (.int (vl_I (vm_le B 0 4))), jv_H K I L R, n, sl)) (hN : en ≤ vm_le B 0 4 → P (some (.int (-1 : Int32)), jv_H K I L R, n, sl)) : ∃ X, jv_Ms 15 [.ref o, .ref r, .int (vl_I a)] (jv_H K I L R) n sl X ∧ P X := by
  have hRD := vk_read (n := n) (sl := sl) (L := L) (R := R) (a := a) (m := 4) (B := fun i => B (i - a)) hKr hlen (fun j j1 j2 => by
    have y := hB (j - a) (by omega)
    rw [show a + (j - a) = j by omega] at y; exact y) ha
  have e4 := vm_le_sh (B := B) (a := a) 4 0
  rw [show a + 0 = a from rfl] at e4
  rw [e4] at hRD
  have hl : vm_le B 0 4 < 4294967296 := vm_le_lt 4 0 (fun i hi => by rw [Nat.zero_add]; exact (hB i hi).2)
  obtain ⟨x, hx⟩ : ∃ x, x = vm_J (vm_le B 0 4) := ⟨_, rfl⟩
  rw [← hx] at hRD
  show jv_Wp 15 0 [(0, .ref o), (1, .ref r), (2, .int (vl_I a))] [] (jv_H K I L R) n sl P
  refine jv_Wp.lift (fun _ Kz => jv_Ev.steps jv_i15 3 (pc' := 3) (l' := [(0, .ref o), (1, .ref r), (2, .int (vl_I a))]) (st' := [.int (4 : Int32), .int (vl_I a), .ref r]) rfl Kz) ?_
  refine jv_Wp.lift (fun _ Kz => jv_Ev.c jv_i15 (pc' := 6) (S' := [.long x]) jv_i121 [.ref r, .int (vl_I a), .int (4 : Int32)] rfl rfl rfl rfl rfl rfl hRD rfl rfl Kz) ?_
  refine jv_Wp.lift (fun _ Kz => jv_Ev.steps jv_i15 3 (pc' := 9) (l' := [(3, .long x), (0, .ref o), (1, .ref r), (2, .int (vl_I a))]) (st' := [.ref o, .long x]) rfl Kz) ?_
  refine jv_Wp.lift (fun _ Kz => jv_Ev.m jv_i15 (pc' := 12) (st' := [.int (vl_I en), .long x]) (G' := (jv_H K I L R)) rfl rfl (jv_m_getI hK0 rfl rfl e3) Kz) ?_
  refine jv_Wp.lift (fun _ Kz => jv_Ev.steps jv_i15 2 (pc' := 14) (l' := [(3, .long x), (0, .ref o), (1, .ref r), (2, .int (vl_I a))]) (st' := [.int (lg_cmp x (vl_I en).toInt64)]) rfl Kz) ?_
  refine jv_Wp.cnd jv_i15 (pt := 22) (pe := 17) (p := (0 ≤ (lg_cmp x (vl_I en).toInt64))) (q := ((vl_I en).toInt64 ≤ x)) rfl jv_bi_ge rfl rfl (lg_cmp_ge x (vl_I en).toInt64) (fun h1 => ?_) (fun h1 => ?_)
  · refine jv_Wp.lift (fun _ Kz => jv_Ev.steps jv_i15 1 (pc' := 23) (l' := [(3, .long x), (0, .ref o), (1, .ref r), (2, .int (vl_I a))]) (st' := [.int (-1 : Int32)]) rfl Kz) ?_
    refine jv_Wp.of (jv_Ev.ret jv_i15 rfl rfl) ?_
    have z := (vm_J_le (a := en) (b := vm_le B 0 4) (by omega) (by omega)).mp (by rw [← vm_J_I (by omega), ← hx]; exact h1)
    exact hN z
  · refine jv_Wp.lift (fun _ Kz => jv_Ev.steps jv_i15 3 (pc' := 23) (l' := [(3, .long x), (0, .ref o), (1, .ref r), (2, .int (vl_I a))]) (st' := [.int x.toInt32]) rfl Kz) ?_
    refine jv_Wp.of (jv_Ev.ret jv_i15 rfl rfl) ?_
    have hlt : vm_le B 0 4 < en := Nat.lt_of_not_le (fun z => h1 (by rw [hx, vm_J_I (by omega)]; exact (vm_J_le (by omega) (by omega)).mpr z))
    rw [hx, vm_J_32 (by omega)]
    exact hS hlt
theorem jv_i16 : jv_I 16 7 (some .int) 2 49 jv_c16 := ⟨rfl, rfl, rfl, rfl, rfl⟩
theorem vk_aput_f_0 {K : Nat → Option (Nat × Nat)} {I : Nat → Nat → Int32} {L : Nat → Nat → Int64} {R : Nat → Nat → Value} {o r a v b : Nat} {fl : Int32} (hK0 : K o = some (0, 7)) (hf : ¬ (0 ≤ fl.toInt ∧ fl.toInt ≤ 2)) {n sl : Nat} {Q : jv_R → Prop} (hQ : Q (some (.int (-22 : Int32)), jv_H K I L R, n, sl)) : jv_Wp 16 0 [(0, .ref o), (1, .ref r), (2, .int (vl_I a)), (3, .ref v), (4, .int (vl_I b)), (5, .int fl)] [] (jv_H K I L R) n sl Q := by
  refine jv_Wp.lift (fun _ Kz => jv_Ev.steps jv_i16 1 (pc' := 2) (l' := [(0, .ref o), (1, .ref r), (2, .int (vl_I a)), (3, .ref v), (4, .int (vl_I b)), (5, .int fl)]) (st' := [.int fl]) rfl Kz) ?_
  refine jv_Wp.lift (fun _ Kz => jv_Ev.c jv_i16 (pc' := 5) (S' := [.int (vr_b (decide (0 ≤ fl.toInt ∧ fl.toInt ≤ 2)))]) jv_i13 [.int fl] rfl rfl rfl rfl rfl rfl (vk_areFlags fl) rfl rfl Kz) ?_
  refine jv_Wp.cnd jv_i16 (pt := 11) (pe := 8) (p := (¬ (vr_b (decide (0 ≤ fl.toInt ∧ fl.toInt ≤ 2))) = 0)) (q := (¬ (vr_b (decide (0 ≤ fl.toInt ∧ fl.toInt ≤ 2))) = 0)) rfl jv_bi_ne rfl rfl Iff.rfl (fun hz => absurd hz (fun z => z (by rw [decide_eq_false hf]; rfl))) (fun _ => ?_)
  refine jv_Wp.lift (fun _ Kz => jv_Ev.steps jv_i16 1 (pc' := 10) (l' := [(0, .ref o), (1, .ref r), (2, .int (vl_I a)), (3, .ref v), (4, .int (vl_I b)), (5, .int fl)]) (st' := [.int (-22 : Int32)]) rfl Kz) ?_
  refine jv_Wp.of (jv_Ev.ret jv_i16 rfl rfl) ?_
  exact hQ
theorem vk_aput_f {K : Nat → Option (Nat × Nat)} {I : Nat → Nat → Int32} {L : Nat → Nat → Int64} {R : Nat → Nat → Value} {o r a v b : Nat} {fl : Int32} (hK0 : K o = some (0, 7)) (hf : ¬ (0 ≤ fl.toInt ∧ fl.toInt ≤ 2)) {n sl : Nat} : jv_Ms 16 [.ref o, .ref r, .int (vl_I a), .ref v, .int (vl_I b), .int fl] (jv_H K I L R) n sl (some (.int (-22 : Int32)), jv_H K I L R, n, sl) := by
  obtain ⟨X, k, e⟩ := vk_aput_f_0 (n := n) (sl := sl) (I := I) (L := L) (R := R) (Q := fun X => X = (some (.int (-22 : Int32)), jv_H K I L R, n, sl)) hK0 hf rfl
  subst e
  exact k
theorem vk_aput_n_0 {K : Nat → Option (Nat × Nat)} {I : Nat → Nat → Int32} {L : Nat → Nat → Int64} {R : Nat → Nat → Value} {o r a v b : Nat} {fl : Int32} (hK0 : K o = some (0, 7)) (hf : 0 ≤ fl.toInt ∧ fl.toInt ≤ 2) (hE : ∀ n sl, jv_Ms 15 [.ref o, .ref r, .int (vl_I a)] (jv_H K I L R) n sl (some (.int (-1 : Int32)), jv_H K I L R, n, sl)) {n sl : Nat} {Q : jv_R → Prop} (hQ : Q (some (.int (-7 : Int32)), jv_H K I L R, n, sl)) : jv_Wp 16 0 [(0, .ref o), (1, .ref r), (2, .int (vl_I a)), (3, .ref v), (4, .int (vl_I b)), (5, .int fl)] [] (jv_H K I L R) n sl Q := by
  refine jv_Wp.lift (fun _ Kz => jv_Ev.steps jv_i16 1 (pc' := 2) (l' := [(0, .ref o), (1, .ref r), (2, .int (vl_I a)), (3, .ref v), (4, .int (vl_I b)), (5, .int fl)]) (st' := [.int fl]) rfl Kz) ?_
  refine jv_Wp.lift (fun _ Kz => jv_Ev.c jv_i16 (pc' := 5) (S' := [.int (vr_b (decide (0 ≤ fl.toInt ∧ fl.toInt ≤ 2)))]) jv_i13 [.int fl] rfl rfl rfl rfl rfl rfl (vk_areFlags fl) rfl rfl Kz) ?_
  refine jv_Wp.cnd jv_i16 (pt := 11) (pe := 8) (p := (¬ (vr_b (decide (0 ≤ fl.toInt ∧ fl.toInt ≤ 2))) = 0)) (q := (¬ (vr_b (decide (0 ≤ fl.toInt ∧ fl.toInt ≤ 2))) = 0)) rfl jv_bi_ne rfl rfl Iff.rfl (fun _ => ?_) (fun hz => absurd (by rw [decide_eq_true hf]; decide) hz)
  refine jv_Wp.lift (fun _ Kz => jv_Ev.steps jv_i16 3 (pc' := 14) (l' := [(0, .ref o), (1, .ref r), (2, .int (vl_I a)), (3, .ref v), (4, .int (vl_I b)), (5, .int fl)]) (st' := [.int (vl_I a), .ref r, .ref o]) rfl Kz) ?_
  refine jv_Wp.lift (fun _ Kz => jv_Ev.c jv_i16 (pc' := 17) (S' := [.int (-1 : Int32)]) jv_i15 [.ref o, .ref r, .int (vl_I a)] rfl rfl rfl rfl (jv_cal rfl (jv_H_at hK0) rfl rfl) rfl (hE n sl) rfl rfl Kz) ?_
  refine jv_Wp.lift (fun _ Kz => jv_Ev.steps jv_i16 3 (pc' := 22) (l' := [(6, .int (-1 : Int32)), (0, .ref o), (1, .ref r), (2, .int (vl_I a)), (3, .ref v), (4, .int (vl_I b)), (5, .int fl)]) (st' := [.int (-1 : Int32), .int (-1 : Int32)]) rfl Kz) ?_
  refine jv_Wp.lift (fun _ Kz => jv_Ev.br jv_i16 (pc' := 25) (st' := []) rfl (by rfl) Kz) ?_
  refine jv_Wp.lift (fun _ Kz => jv_Ev.steps jv_i16 1 (pc' := 27) (l' := [(6, .int (-1 : Int32)), (0, .ref o), (1, .ref r), (2, .int (vl_I a)), (3, .ref v), (4, .int (vl_I b)), (5, .int fl)]) (st' := [.int (-7 : Int32)]) rfl Kz) ?_
  refine jv_Wp.of (jv_Ev.ret jv_i16 rfl rfl) ?_
  exact hQ
theorem vk_aput_n {K : Nat → Option (Nat × Nat)} {I : Nat → Nat → Int32} {L : Nat → Nat → Int64} {R : Nat → Nat → Value} {o r a v b : Nat} {fl : Int32} (hK0 : K o = some (0, 7)) (hf : 0 ≤ fl.toInt ∧ fl.toInt ≤ 2) (hE : ∀ n sl, jv_Ms 15 [.ref o, .ref r, .int (vl_I a)] (jv_H K I L R) n sl (some (.int (-1 : Int32)), jv_H K I L R, n, sl)) {n sl : Nat} : jv_Ms 16 [.ref o, .ref r, .int (vl_I a), .ref v, .int (vl_I b), .int fl] (jv_H K I L R) n sl (some (.int (-7 : Int32)), jv_H K I L R, n, sl) := by
  obtain ⟨X, k, e⟩ := vk_aput_n_0 (n := n) (sl := sl) (I := I) (L := L) (R := R) (Q := fun X => X = (some (.int (-7 : Int32)), jv_H K I L R, n, sl)) hK0 hf hE rfl
  subst e
  exact k
theorem vk_aput_1_0 {K : Nat → Option (Nat × Nat)} {I : Nat → Nat → Int32} {L : Nat → Nat → Int64} {R : Nat → Nat → Value} {o r a v b : Nat} {fl : Int32} (hK0 : K o = some (0, 7)) (hf : 0 ≤ fl.toInt ∧ fl.toInt ≤ 2) {e : Nat} (he : e < 4096) (hE : ∀ n sl, jv_Ms 15 [.ref o, .ref r, .int (vl_I a)] (jv_H K I L R) n sl (some (.int (vl_I e)), jv_H K I L R, n, sl)) (h1 : fl = (1 : Int32)) {n sl : Nat} {Q : jv_R → Prop} (hQ : Q (some (.int (-17 : Int32)), jv_H K I L R, n, sl)) : jv_Wp 16 0 [(0, .ref o), (1, .ref r), (2, .int (vl_I a)), (3, .ref v), (4, .int (vl_I b)), (5, .int fl)] [] (jv_H K I L R) n sl Q := by
  refine jv_Wp.lift (fun _ Kz => jv_Ev.steps jv_i16 1 (pc' := 2) (l' := [(0, .ref o), (1, .ref r), (2, .int (vl_I a)), (3, .ref v), (4, .int (vl_I b)), (5, .int fl)]) (st' := [.int fl]) rfl Kz) ?_
  refine jv_Wp.lift (fun _ Kz => jv_Ev.c jv_i16 (pc' := 5) (S' := [.int (vr_b (decide (0 ≤ fl.toInt ∧ fl.toInt ≤ 2)))]) jv_i13 [.int fl] rfl rfl rfl rfl rfl rfl (vk_areFlags fl) rfl rfl Kz) ?_
  refine jv_Wp.cnd jv_i16 (pt := 11) (pe := 8) (p := (¬ (vr_b (decide (0 ≤ fl.toInt ∧ fl.toInt ≤ 2))) = 0)) (q := (¬ (vr_b (decide (0 ≤ fl.toInt ∧ fl.toInt ≤ 2))) = 0)) rfl jv_bi_ne rfl rfl Iff.rfl (fun _ => ?_) (fun hz => absurd (by rw [decide_eq_true hf]; decide) hz)
  refine jv_Wp.lift (fun _ Kz => jv_Ev.steps jv_i16 3 (pc' := 14) (l' := [(0, .ref o), (1, .ref r), (2, .int (vl_I a)), (3, .ref v), (4, .int (vl_I b)), (5, .int fl)]) (st' := [.int (vl_I a), .ref r, .ref o]) rfl Kz) ?_
  refine jv_Wp.lift (fun _ Kz => jv_Ev.c jv_i16 (pc' := 17) (S' := [.int (vl_I e)]) jv_i15 [.ref o, .ref r, .int (vl_I a)] rfl rfl rfl rfl (jv_cal rfl (jv_H_at hK0) rfl rfl) rfl (hE n sl) rfl rfl Kz) ?_
  refine jv_Wp.lift (fun _ Kz => jv_Ev.steps jv_i16 3 (pc' := 22) (l' := [(6, .int (vl_I e)), (0, .ref o), (1, .ref r), (2, .int (vl_I a)), (3, .ref v), (4, .int (vl_I b)), (5, .int fl)]) (st' := [.int (-1 : Int32), .int (vl_I e)]) rfl Kz) ?_
  refine jv_Wp.cnd jv_i16 (pt := 28) (pe := 25) (p := (¬ (vl_I e) = (-1 : Int32))) (q := (¬ (vl_I e) = (-1 : Int32))) rfl jv_bc_ne rfl rfl Iff.rfl (fun _ => ?_) (fun hz => absurd (vl_I_n1 (by omega)) hz)
  refine jv_Wp.lift (fun _ Kz => jv_Ev.steps jv_i16 2 (pc' := 31) (l' := [(6, .int (vl_I e)), (0, .ref o), (1, .ref r), (2, .int (vl_I a)), (3, .ref v), (4, .int (vl_I b)), (5, .int fl)]) (st' := [.int (1 : Int32), .int fl]) rfl Kz) ?_
  refine jv_Wp.cnd jv_i16 (pt := 37) (pe := 34) (p := (¬ fl = (1 : Int32))) (q := (¬ fl = (1 : Int32))) rfl jv_bc_ne rfl rfl Iff.rfl (fun hz => absurd hz (fun z => z h1)) (fun _ => ?_)
  refine jv_Wp.lift (fun _ Kz => jv_Ev.steps jv_i16 1 (pc' := 36) (l' := [(6, .int (vl_I e)), (0, .ref o), (1, .ref r), (2, .int (vl_I a)), (3, .ref v), (4, .int (vl_I b)), (5, .int fl)]) (st' := [.int (-17 : Int32)]) rfl Kz) ?_
  refine jv_Wp.of (jv_Ev.ret jv_i16 rfl rfl) ?_
  exact hQ
theorem vk_aput_1 {K : Nat → Option (Nat × Nat)} {I : Nat → Nat → Int32} {L : Nat → Nat → Int64} {R : Nat → Nat → Value} {o r a v b : Nat} {fl : Int32} (hK0 : K o = some (0, 7)) (hf : 0 ≤ fl.toInt ∧ fl.toInt ≤ 2) {e : Nat} (he : e < 4096) (hE : ∀ n sl, jv_Ms 15 [.ref o, .ref r, .int (vl_I a)] (jv_H K I L R) n sl (some (.int (vl_I e)), jv_H K I L R, n, sl)) (h1 : fl = (1 : Int32)) {n sl : Nat} : jv_Ms 16 [.ref o, .ref r, .int (vl_I a), .ref v, .int (vl_I b), .int fl] (jv_H K I L R) n sl (some (.int (-17 : Int32)), jv_H K I L R, n, sl) := by
  obtain ⟨X, k, e⟩ := vk_aput_1_0 (n := n) (sl := sl) (I := I) (L := L) (R := R) (Q := fun X => X = (some (.int (-17 : Int32)), jv_H K I L R, n, sl)) hK0 hf he hE h1 rfl
  subst e
  exact k
theorem vk_aput_w_0 {K : Nat → Option (Nat × Nat)} {I : Nat → Nat → Int32} {L : Nat → Nat → Int64} {R : Nat → Nat → Value} {o r a v b : Nat} {fl : Int32} (hK0 : K o = some (0, 7)) (hf : 0 ≤ fl.toInt ∧ fl.toInt ≤ 2) {e : Nat} (he : e < 4096) (hE : ∀ n sl, jv_Ms 15 [.ref o, .ref r, .int (vl_I a)] (jv_H K I L R) n sl (some (.int (vl_I e)), jv_H K I L R, n, sl)) (h1 : ¬ fl = (1 : Int32)) {I1 : Nat → Nat → Int32} (hW : ∀ n sl, jv_Ms 12 [.ref o, .int (vl_I e), .ref v, .int (vl_I b)] (jv_H K I L R) n sl (none, jv_H K I1 L R, n, sl)) {n sl : Nat} {Q : jv_R → Prop} (hQ : Q (some (.int (0 : Int32)), jv_H K I1 L R, n, sl)) : jv_Wp 16 0 [(0, .ref o), (1, .ref r), (2, .int (vl_I a)), (3, .ref v), (4, .int (vl_I b)), (5, .int fl)] [] (jv_H K I L R) n sl Q := by
  refine jv_Wp.lift (fun _ Kz => jv_Ev.steps jv_i16 1 (pc' := 2) (l' := [(0, .ref o), (1, .ref r), (2, .int (vl_I a)), (3, .ref v), (4, .int (vl_I b)), (5, .int fl)]) (st' := [.int fl]) rfl Kz) ?_
  refine jv_Wp.lift (fun _ Kz => jv_Ev.c jv_i16 (pc' := 5) (S' := [.int (vr_b (decide (0 ≤ fl.toInt ∧ fl.toInt ≤ 2)))]) jv_i13 [.int fl] rfl rfl rfl rfl rfl rfl (vk_areFlags fl) rfl rfl Kz) ?_
  refine jv_Wp.cnd jv_i16 (pt := 11) (pe := 8) (p := (¬ (vr_b (decide (0 ≤ fl.toInt ∧ fl.toInt ≤ 2))) = 0)) (q := (¬ (vr_b (decide (0 ≤ fl.toInt ∧ fl.toInt ≤ 2))) = 0)) rfl jv_bi_ne rfl rfl Iff.rfl (fun _ => ?_) (fun hz => absurd (by rw [decide_eq_true hf]; decide) hz)
  refine jv_Wp.lift (fun _ Kz => jv_Ev.steps jv_i16 3 (pc' := 14) (l' := [(0, .ref o), (1, .ref r), (2, .int (vl_I a)), (3, .ref v), (4, .int (vl_I b)), (5, .int fl)]) (st' := [.int (vl_I a), .ref r, .ref o]) rfl Kz) ?_
  refine jv_Wp.lift (fun _ Kz => jv_Ev.c jv_i16 (pc' := 17) (S' := [.int (vl_I e)]) jv_i15 [.ref o, .ref r, .int (vl_I a)] rfl rfl rfl rfl (jv_cal rfl (jv_H_at hK0) rfl rfl) rfl (hE n sl) rfl rfl Kz) ?_
  refine jv_Wp.lift (fun _ Kz => jv_Ev.steps jv_i16 3 (pc' := 22) (l' := [(6, .int (vl_I e)), (0, .ref o), (1, .ref r), (2, .int (vl_I a)), (3, .ref v), (4, .int (vl_I b)), (5, .int fl)]) (st' := [.int (-1 : Int32), .int (vl_I e)]) rfl Kz) ?_
  refine jv_Wp.cnd jv_i16 (pt := 28) (pe := 25) (p := (¬ (vl_I e) = (-1 : Int32))) (q := (¬ (vl_I e) = (-1 : Int32))) rfl jv_bc_ne rfl rfl Iff.rfl (fun _ => ?_) (fun hz => absurd (vl_I_n1 (by omega)) hz)
  refine jv_Wp.lift (fun _ Kz => jv_Ev.steps jv_i16 2 (pc' := 31) (l' := [(6, .int (vl_I e)), (0, .ref o), (1, .ref r), (2, .int (vl_I a)), (3, .ref v), (4, .int (vl_I b)), (5, .int fl)]) (st' := [.int (1 : Int32), .int fl]) rfl Kz) ?_
  refine jv_Wp.cnd jv_i16 (pt := 37) (pe := 34) (p := (¬ fl = (1 : Int32))) (q := (¬ fl = (1 : Int32))) rfl jv_bc_ne rfl rfl Iff.rfl (fun _ => ?_) (fun hz => absurd h1 hz)
  refine jv_Wp.lift (fun _ Kz => jv_Ev.steps jv_i16 4 (pc' := 43) (l' := [(6, .int (vl_I e)), (0, .ref o), (1, .ref r), (2, .int (vl_I a)), (3, .ref v), (4, .int (vl_I b)), (5, .int fl)]) (st' := [.int (vl_I b), .ref v, .int (vl_I e), .ref o]) rfl Kz) ?_
  refine jv_Wp.lift (fun _ Kz => jv_Ev.c jv_i16 (pc' := 46) (S' := []) (G1 := (jv_H K I1 L R)) jv_i12 [.ref o, .int (vl_I e), .ref v, .int (vl_I b)] rfl rfl rfl rfl (jv_cal rfl (jv_H_at hK0) rfl rfl) rfl (hW n sl) rfl rfl Kz) ?_
  refine jv_Wp.lift (fun _ Kz => jv_Ev.steps jv_i16 1 (pc' := 47) (l' := [(6, .int (vl_I e)), (0, .ref o), (1, .ref r), (2, .int (vl_I a)), (3, .ref v), (4, .int (vl_I b)), (5, .int fl)]) (st' := [.int (0 : Int32)]) rfl Kz) ?_
  refine jv_Wp.of (jv_Ev.ret jv_i16 rfl rfl) ?_
  exact hQ
theorem vk_aput_w {K : Nat → Option (Nat × Nat)} {I : Nat → Nat → Int32} {L : Nat → Nat → Int64} {R : Nat → Nat → Value} {o r a v b : Nat} {fl : Int32} (hK0 : K o = some (0, 7)) (hf : 0 ≤ fl.toInt ∧ fl.toInt ≤ 2) {e : Nat} (he : e < 4096) (hE : ∀ n sl, jv_Ms 15 [.ref o, .ref r, .int (vl_I a)] (jv_H K I L R) n sl (some (.int (vl_I e)), jv_H K I L R, n, sl)) (h1 : ¬ fl = (1 : Int32)) {I1 : Nat → Nat → Int32} (hW : ∀ n sl, jv_Ms 12 [.ref o, .int (vl_I e), .ref v, .int (vl_I b)] (jv_H K I L R) n sl (none, jv_H K I1 L R, n, sl)) {n sl : Nat} : jv_Ms 16 [.ref o, .ref r, .int (vl_I a), .ref v, .int (vl_I b), .int fl] (jv_H K I L R) n sl (some (.int (0 : Int32)), jv_H K I1 L R, n, sl) := by
  obtain ⟨X, k, e⟩ := vk_aput_w_0 (n := n) (sl := sl) (I := I) (L := L) (R := R) (Q := fun X => X = (some (.int (0 : Int32)), jv_H K I1 L R, n, sl)) hK0 hf he hE h1 hW rfl
  subst e
  exact k