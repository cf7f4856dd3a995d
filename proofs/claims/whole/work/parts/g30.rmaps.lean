/-! part g30: maps of the reference: asking, numbers, keys (gen/tg30.py) -/
/-- what the reference's rows tell of a map -/
def vr_mk (I : Nat → Nat → Int32) (k kd ks vs en bg fe fk : Nat) : Prop := k < 8 ∧ I 183 k = vl_I kd ∧ I 184 k = vl_I ks ∧ I 185 k = vl_I vs ∧ I 186 k = vl_I en ∧ I 187 k = vl_I bg ∧ I 188 k = vl_I fe ∧ I 189 k = vl_I fk
theorem vr_mk_ext {I I1 : Nat → Nat → Int32} {k kd ks vs en bg fe fk : Nat} (h : vr_mk I k kd ks vs en bg fe fk) (o : ∀ q i, 183 ≤ q → q ≤ 189 → I1 q i = I q i) : vr_mk I1 k kd ks vs en bg fe fk :=
  ⟨h.1, (o _ _ (by decide) (by decide)).trans h.2.1, (o _ _ (by decide) (by decide)).trans h.2.2.1, (o _ _ (by decide) (by decide)).trans h.2.2.2.1, (o _ _ (by decide) (by decide)).trans h.2.2.2.2.1, (o _ _ (by decide) (by decide)).trans h.2.2.2.2.2.1, (o _ _ (by decide) (by decide)).trans h.2.2.2.2.2.2.1, (o _ _ (by decide) (by decide)).trans h.2.2.2.2.2.2.2⟩
theorem vm_m8 {x b : Nat} : (256 : Int64) * vm_J x + (vl_I b).toInt64 = vm_J (256 * x + b) ↔ (vl_I b).toInt64 = vm_J b := by
  constructor
  · intro h
    have e : (256 : Int64) * vm_J x = vm_J (256 * x) := Int64.toBitVec_inj.mp (BitVec.ofNat_mul 256 x).symm
    rw [e, ← vm_J_add] at h
    have := congrArg Int64.toBitVec h
    rw [Int64.toBitVec_add, Int64.toBitVec_add] at this
    exact Int64.toBitVec_inj.mp ((BitVec.add_right_inj _).mp this)
  · intro h
    have e : (256 : Int64) * vm_J x = vm_J (256 * x) := Int64.toBitVec_inj.mp (BitVec.ofNat_mul 256 x).symm
    rw [e, h, vm_J_add]
theorem jv_i324 : jv_I 324 2 (some .boolean) 0 0 jv_c324 := ⟨rfl, rfl, rfl, rfl, rfl⟩
theorem vr_noMap_k_0 {K : Nat → Option (Nat × Nat)} {I : Nat → Nat → Int32} {L : Nat → Nat → Int64} {R : Nat → Nat → Value} (hW : jv_rW K R) {k cnt : Nat} (hk : k < cnt) (hc : cnt ≤ 8) (e5 : I 180 5 = vl_I cnt) {n sl : Nat} {Q : jv_R → Prop} (hQ : Q (some (.int (0 : Int32)), jv_H K (jv_u I 180 0 (0 : Int32)) L R, n, sl)) : jv_Wp 324 0 [(0, .ref 180), (1, .int (vl_I k))] [] (jv_H K I L R) n sl Q := by
  refine jv_Wp.lift (fun _ Kz => jv_Ev.steps jv_i324 2 (pc' := 2) (l' := [(0, .ref 180), (1, .int (vl_I k))]) (st' := [.int (vl_I k), .ref 180]) rfl Kz) ?_
  refine jv_Wp.cnd jv_i324 (pt := 13) (pe := 5) (p := ((vl_I k) < 0)) (q := ((vl_I k) < 0)) rfl jv_bi_lt rfl rfl Iff.rfl (fun hz => absurd hz (vl_I_n0 (by omega))) (fun _ => ?_)
  refine jv_Wp.lift (fun _ Kz => jv_Ev.steps jv_i324 2 (pc' := 7) (l' := [(0, .ref 180), (1, .int (vl_I k))]) (st' := [.ref 180, .int (vl_I k), .ref 180]) rfl Kz) ?_
  refine jv_Wp.lift (fun _ Kz => jv_Ev.m jv_i324 (pc' := 10) (st' := [.int (vl_I cnt), .int (vl_I k), .ref 180]) (G' := (jv_H K I L R)) rfl rfl (jv_m_getI (jv_rwK hW 180 13 22 (by decide)) rfl rfl e5) Kz) ?_
  refine jv_Wp.cnd jv_i324 (pt := 17) (pe := 13) (p := ((vl_I k) < (vl_I cnt))) (q := ((vl_I k) < (vl_I cnt))) rfl jv_bc_lt rfl rfl Iff.rfl (fun _ => ?_) (fun hz => absurd ((vl_I_lt (by omega) (by omega)).mpr hk) hz)
  refine jv_Wp.lift (fun _ Kz => jv_Ev.steps jv_i324 1 (pc' := 18) (l' := [(0, .ref 180), (1, .int (vl_I k))]) (st' := [.int (0 : Int32), .ref 180]) rfl Kz) ?_
  refine jv_Wp.lift (fun _ Kz => jv_Ev.m jv_i324 (pc' := 21) (st' := []) (G' := (jv_H K (jv_u I 180 0 (0 : Int32)) L R)) rfl rfl (jv_m_putI (jv_rwK hW 180 13 22 (by decide)) rfl rfl rfl rfl) Kz) ?_
  refine jv_Wp.lift (fun _ Kz => jv_Ev.steps jv_i324 1 (pc' := 22) (l' := [(0, .ref 180), (1, .int (vl_I k))]) (st' := [.ref 180]) rfl Kz) ?_
  refine jv_Wp.lift (fun _ Kz => jv_Ev.m jv_i324 (pc' := 25) (st' := [.int (0 : Int32)]) (G' := (jv_H K (jv_u I 180 0 (0 : Int32)) L R)) rfl rfl (jv_m_getI (jv_rwK hW 180 13 22 (by decide)) rfl rfl (jv_u_self _ _ _ _)) Kz) ?_
  refine jv_Wp.lift (fun _ Kz => jv_Ev.br jv_i324 (pc' := 32) (st' := []) rfl (by rfl) Kz) ?_
  refine jv_Wp.lift (fun _ Kz => jv_Ev.steps jv_i324 1 (pc' := 33) (l' := [(0, .ref 180), (1, .int (vl_I k))]) (st' := [.int (0 : Int32)]) rfl Kz) ?_
  refine jv_Wp.of (jv_Ev.ret jv_i324 rfl (jv_ret_b (Or.inl rfl))) ?_
  exact hQ
theorem vr_noMap_k {K : Nat → Option (Nat × Nat)} {I : Nat → Nat → Int32} {L : Nat → Nat → Int64} {R : Nat → Nat → Value} (hW : jv_rW K R) {k cnt : Nat} (hk : k < cnt) (hc : cnt ≤ 8) (e5 : I 180 5 = vl_I cnt) {n sl : Nat} : jv_Ms 324 [.ref 180, .int (vl_I k)] (jv_H K I L R) n sl (some (.int (0 : Int32)), jv_H K (jv_u I 180 0 (0 : Int32)) L R, n, sl) := by
  obtain ⟨X, k, e⟩ := vr_noMap_k_0 (n := n) (sl := sl) (I := I) (L := L) (R := R) (Q := fun X => X = (some (.int (0 : Int32)), jv_H K (jv_u I 180 0 (0 : Int32)) L R, n, sl)) hW hk hc e5 rfl
  subst e
  exact k
theorem vr_noMap_b_0 {K : Nat → Option (Nat × Nat)} {I : Nat → Nat → Int32} {L : Nat → Nat → Int64} {R : Nat → Nat → Value} (hW : jv_rW K R) {x : Int32} {cnt : Nat} (hb : ¬ (0 ≤ x.toInt ∧ x.toInt < cnt)) (hc : cnt ≤ 8) (e5 : I 180 5 = vl_I cnt) {n sl : Nat} {Q : jv_R → Prop} (hQ : Q (some (.int (1 : Int32)), jv_H K (jv_u I 180 0 (1 : Int32)) L R, n, sl)) : jv_Wp 324 0 [(0, .ref 180), (1, .int x)] [] (jv_H K I L R) n sl Q := by
  refine jv_Wp.lift (fun _ Kz => jv_Ev.steps jv_i324 2 (pc' := 2) (l' := [(0, .ref 180), (1, .int x)]) (st' := [.int x, .ref 180]) rfl Kz) ?_
  refine jv_Wp.cnd jv_i324 (pt := 13) (pe := 5) (p := (x < 0)) (q := (x < 0)) rfl jv_bi_lt rfl rfl Iff.rfl (fun h1 => ?_) (fun h1 => ?_)
  · refine jv_Wp.lift (fun _ Kz => jv_Ev.steps jv_i324 2 (pc' := 18) (l' := [(0, .ref 180), (1, .int x)]) (st' := [.int (1 : Int32), .ref 180]) rfl Kz) ?_
    refine jv_Wp.lift (fun _ Kz => jv_Ev.m jv_i324 (pc' := 21) (st' := []) (G' := (jv_H K (jv_u I 180 0 (1 : Int32)) L R)) rfl rfl (jv_m_putI (jv_rwK hW 180 13 22 (by decide)) rfl rfl rfl rfl) Kz) ?_
    refine jv_Wp.lift (fun _ Kz => jv_Ev.steps jv_i324 1 (pc' := 22) (l' := [(0, .ref 180), (1, .int x)]) (st' := [.ref 180]) rfl Kz) ?_
    refine jv_Wp.lift (fun _ Kz => jv_Ev.m jv_i324 (pc' := 25) (st' := [.int (1 : Int32)]) (G' := (jv_H K (jv_u I 180 0 (1 : Int32)) L R)) rfl rfl (jv_m_getI (jv_rwK hW 180 13 22 (by decide)) rfl rfl (jv_u_self _ _ _ _)) Kz) ?_
    refine jv_Wp.lift (fun _ Kz => jv_Ev.br jv_i324 (pc' := 28) (st' := []) rfl (by rfl) Kz) ?_
    refine jv_Wp.lift (fun _ Kz => jv_Ev.steps jv_i324 2 (pc' := 33) (l' := [(0, .ref 180), (1, .int x)]) (st' := [.int (1 : Int32)]) rfl Kz) ?_
    refine jv_Wp.of (jv_Ev.ret jv_i324 rfl (jv_ret_b (Or.inr rfl))) ?_
    exact hQ
  · refine jv_Wp.lift (fun _ Kz => jv_Ev.steps jv_i324 2 (pc' := 7) (l' := [(0, .ref 180), (1, .int x)]) (st' := [.ref 180, .int x, .ref 180]) rfl Kz) ?_
    refine jv_Wp.lift (fun _ Kz => jv_Ev.m jv_i324 (pc' := 10) (st' := [.int (vl_I cnt), .int x, .ref 180]) (G' := (jv_H K I L R)) rfl rfl (jv_m_getI (jv_rwK hW 180 13 22 (by decide)) rfl rfl e5) Kz) ?_
    refine jv_Wp.cnd jv_i324 (pt := 17) (pe := 13) (p := (x < (vl_I cnt))) (q := (x < (vl_I cnt))) rfl jv_bc_lt rfl rfl Iff.rfl (fun h2 => ?_) (fun h2 => ?_)
    · refine jv_Wp.lift (fun _ Kz => jv_Ev.steps jv_i324 1 (pc' := 18) (l' := [(0, .ref 180), (1, .int x)]) (st' := [.int (0 : Int32), .ref 180]) rfl Kz) ?_
      refine jv_Wp.lift (fun _ Kz => jv_Ev.m jv_i324 (pc' := 21) (st' := []) (G' := (jv_H K (jv_u I 180 0 (0 : Int32)) L R)) rfl rfl (jv_m_putI (jv_rwK hW 180 13 22 (by decide)) rfl rfl rfl rfl) Kz) ?_
      refine jv_Wp.lift (fun _ Kz => jv_Ev.steps jv_i324 1 (pc' := 22) (l' := [(0, .ref 180), (1, .int x)]) (st' := [.ref 180]) rfl Kz) ?_
      refine jv_Wp.lift (fun _ Kz => jv_Ev.m jv_i324 (pc' := 25) (st' := [.int (0 : Int32)]) (G' := (jv_H K (jv_u I 180 0 (0 : Int32)) L R)) rfl rfl (jv_m_getI (jv_rwK hW 180 13 22 (by decide)) rfl rfl (jv_u_self _ _ _ _)) Kz) ?_
      refine jv_Wp.lift (fun _ Kz => jv_Ev.br jv_i324 (pc' := 32) (st' := []) rfl (by rfl) Kz) ?_
      refine jv_Wp.lift (fun _ Kz => jv_Ev.steps jv_i324 1 (pc' := 33) (l' := [(0, .ref 180), (1, .int x)]) (st' := [.int (0 : Int32)]) rfl Kz) ?_
      refine jv_Wp.of (jv_Ev.ret jv_i324 rfl (jv_ret_b (Or.inl rfl))) ?_
      exact absurd ⟨(by have := mt Int32.lt_iff_toInt_lt.mpr h1; rw [show (0 : Int32).toInt = 0 from rfl] at this; omega), (by have := Int32.lt_iff_toInt_lt.mp h2; rw [vl_I_i (by omega)] at this; exact this)⟩ hb
    · refine jv_Wp.lift (fun _ Kz => jv_Ev.steps jv_i324 2 (pc' := 18) (l' := [(0, .ref 180), (1, .int x)]) (st' := [.int (1 : Int32), .ref 180]) rfl Kz) ?_
      refine jv_Wp.lift (fun _ Kz => jv_Ev.m jv_i324 (pc' := 21) (st' := []) (G' := (jv_H K (jv_u I 180 0 (1 : Int32)) L R)) rfl rfl (jv_m_putI (jv_rwK hW 180 13 22 (by decide)) rfl rfl rfl rfl) Kz) ?_
      refine jv_Wp.lift (fun _ Kz => jv_Ev.steps jv_i324 1 (pc' := 22) (l' := [(0, .ref 180), (1, .int x)]) (st' := [.ref 180]) rfl Kz) ?_
      refine jv_Wp.lift (fun _ Kz => jv_Ev.m jv_i324 (pc' := 25) (st' := [.int (1 : Int32)]) (G' := (jv_H K (jv_u I 180 0 (1 : Int32)) L R)) rfl rfl (jv_m_getI (jv_rwK hW 180 13 22 (by decide)) rfl rfl (jv_u_self _ _ _ _)) Kz) ?_
      refine jv_Wp.lift (fun _ Kz => jv_Ev.br jv_i324 (pc' := 28) (st' := []) rfl (by rfl) Kz) ?_
      refine jv_Wp.lift (fun _ Kz => jv_Ev.steps jv_i324 2 (pc' := 33) (l' := [(0, .ref 180), (1, .int x)]) (st' := [.int (1 : Int32)]) rfl Kz) ?_
      refine jv_Wp.of (jv_Ev.ret jv_i324 rfl (jv_ret_b (Or.inr rfl))) ?_
      exact hQ
theorem vr_noMap_b {K : Nat → Option (Nat × Nat)} {I : Nat → Nat → Int32} {L : Nat → Nat → Int64} {R : Nat → Nat → Value} (hW : jv_rW K R) {x : Int32} {cnt : Nat} (hb : ¬ (0 ≤ x.toInt ∧ x.toInt < cnt)) (hc : cnt ≤ 8) (e5 : I 180 5 = vl_I cnt) {n sl : Nat} : jv_Ms 324 [.ref 180, .int x] (jv_H K I L R) n sl (some (.int (1 : Int32)), jv_H K (jv_u I 180 0 (1 : Int32)) L R, n, sl) := by
  obtain ⟨X, k, e⟩ := vr_noMap_b_0 (n := n) (sl := sl) (I := I) (L := L) (R := R) (Q := fun X => X = (some (.int (1 : Int32)), jv_H K (jv_u I 180 0 (1 : Int32)) L R, n, sl)) hW hb hc e5 rfl
  subst e
  exact k
theorem jv_i326 : jv_I 326 2 (some .boolean) 0 0 jv_c326 := ⟨rfl, rfl, rfl, rfl, rfl⟩
theorem vr_isDesk_0 {K : Nat → Option (Nat × Nat)} {I : Nat → Nat → Int32} {L : Nat → Nat → Int64} {R : Nat → Nat → Value} (x : Int32) {z : Nat} (hz : z ≤ 512) {n sl : Nat} {Q : jv_R → Prop} (hQ : Q (some (.int (vr_b (decide (0 ≤ x.toInt ∧ x.toInt + z ≤ 512)))), jv_H K I L R, n, sl)) : jv_Wp 326 0 [(0, .int x), (1, .int (vl_I z))] [] (jv_H K I L R) n sl Q := by
  refine jv_Wp.lift (fun _ Kz => jv_Ev.steps jv_i326 1 (pc' := 1) (l' := [(0, .int x), (1, .int (vl_I z))]) (st' := [.int x]) rfl Kz) ?_
  refine jv_Wp.cnd jv_i326 (pt := 17) (pe := 4) (p := (x < 0)) (q := (x < 0)) rfl jv_bi_lt rfl rfl Iff.rfl (fun h1 => ?_) (fun h1 => ?_)
  · refine jv_Wp.lift (fun _ Kz => jv_Ev.steps jv_i326 1 (pc' := 18) (l' := [(0, .int x), (1, .int (vl_I z))]) (st' := [.int (0 : Int32)]) rfl Kz) ?_
    refine jv_Wp.of (jv_Ev.ret jv_i326 rfl (jv_ret_b (Or.inl rfl))) ?_
    have c0 : (0 : Int32).toInt = 0 := rfl
    have z1 := Int32.lt_iff_toInt_lt.mp h1
    rw [decide_eq_false (show ¬ (0 ≤ x.toInt ∧ x.toInt + z ≤ 512) by omega)] at hQ
    exact hQ
  · refine jv_Wp.lift (fun _ Kz => jv_Ev.steps jv_i326 4 (pc' := 10) (l' := [(0, .int x), (1, .int (vl_I z))]) (st' := [.int ((512 : Int32) - (vl_I z)), .int x]) rfl Kz) ?_
    refine jv_Wp.cnd jv_i326 (pt := 17) (pe := 13) (p := (((512 : Int32) - (vl_I z)) < x)) (q := (((512 : Int32) - (vl_I z)) < x)) rfl jv_bc_gt rfl rfl Iff.rfl (fun h2 => ?_) (fun h2 => ?_)
    · refine jv_Wp.lift (fun _ Kz => jv_Ev.steps jv_i326 1 (pc' := 18) (l' := [(0, .int x), (1, .int (vl_I z))]) (st' := [.int (0 : Int32)]) rfl Kz) ?_
      refine jv_Wp.of (jv_Ev.ret jv_i326 rfl (jv_ret_b (Or.inl rfl))) ?_
      have c0 : (0 : Int32).toInt = 0 := rfl
      have z2 := Int32.lt_iff_toInt_lt.mp h2
      rw [(show ((512 : Int32) - (vl_I z)) = vl_I (512 - z) from vi_s2 (x := 512) (z := z) rfl rfl (by omega) rfl), vl_I_i (by omega)] at z2
      rw [decide_eq_false (show ¬ (0 ≤ x.toInt ∧ x.toInt + z ≤ 512) by omega)] at hQ
      exact hQ
    · refine jv_Wp.lift (fun _ Kz => jv_Ev.steps jv_i326 2 (pc' := 18) (l' := [(0, .int x), (1, .int (vl_I z))]) (st' := [.int (1 : Int32)]) rfl Kz) ?_
      refine jv_Wp.of (jv_Ev.ret jv_i326 rfl (jv_ret_b (Or.inr rfl))) ?_
      have c0 : (0 : Int32).toInt = 0 := rfl
      have z1 := mt Int32.lt_iff_toInt_lt.mpr h1
      have z2 := mt Int32.lt_iff_toInt_lt.mpr h2
      rw [(show ((512 : Int32) - (vl_I z)) = vl_I (512 - z) from vi_s2 (x := 512) (z := z) rfl rfl (by omega) rfl), vl_I_i (by omega)] at z2
      rw [decide_eq_true (show 0 ≤ x.toInt ∧ x.toInt + z ≤ 512 by omega)] at hQ
      exact hQ
theorem vr_isDesk {K : Nat → Option (Nat × Nat)} {I : Nat → Nat → Int32} {L : Nat → Nat → Int64} {R : Nat → Nat → Value} (x : Int32) {z : Nat} (hz : z ≤ 512) {n sl : Nat} : jv_Ms 326 [.int x, .int (vl_I z)] (jv_H K I L R) n sl (some (.int (vr_b (decide (0 ≤ x.toInt ∧ x.toInt + z ≤ 512)))), jv_H K I L R, n, sl) := by
  obtain ⟨X, k, e⟩ := vr_isDesk_0 (n := n) (sl := sl) (I := I) (L := L) (R := R) (Q := fun X => X = (some (.int (vr_b (decide (0 ≤ x.toInt ∧ x.toInt + z ≤ 512)))), jv_H K I L R, n, sl)) x hz rfl
  subst e
  exact k
theorem jv_i327 : jv_I 327 6 (some .long) 0 0 jv_c327 := ⟨rfl, rfl, rfl, rfl, rfl⟩
theorem vr_num_t {K : Nat → Option (Nat × Nat)} {I : Nat → Nat → Int32} {L : Nat → Nat → Int64} {R : Nat → Nat → Value} {r len a m : Nat} {B : Nat → Nat} (hK : K r = some (101, len)) (hlen : len < 2147483648) (h : vk_by I r a m B) (ha : a + m ≤ len) {n sl : Nat} {Q : jv_R → Prop} {i : Nat} (hi : i < m) {v : Int64} {x : Nat} (hv : v = vm_J x) (cont : jv_Wp 327 7 [(0, .ref r), (1, .int (vl_I a)), (2, .int (vl_I m)), (3, .long (vm_J (256 * x + B i))), (5, .int (vl_I i + Int32.ofInt (-1)))] [] (jv_H K I L R) n sl Q) : jv_Wp 327 7 [(0, .ref r), (1, .int (vl_I a)), (2, .int (vl_I m)), (3, .long v), (5, .int (vl_I i))] [] (jv_H K I L R) n sl Q := by
  refine jv_Wp.lift (fun _ Kz => jv_Ev.steps jv_i327 1 (pc' := 9) (l' := [(0, .ref r), (1, .int (vl_I a)), (2, .int (vl_I m)), (3, .long v), (5, .int (vl_I i))]) (st' := [.int (vl_I i)]) rfl Kz) ?_
  refine jv_Wp.cnd jv_i327 (pt := 36) (pe := 12) (p := ((vl_I i) < 0)) (q := ((vl_I i) < 0)) rfl jv_bi_lt rfl rfl Iff.rfl (fun hz => absurd hz (vl_I_n0 (by omega))) (fun _ => ?_)
  refine jv_Wp.lift (fun _ Kz => jv_Ev.steps jv_i327 7 (pc' := 22) (l' := [(0, .ref r), (1, .int (vl_I a)), (2, .int (vl_I m)), (3, .long v), (5, .int (vl_I i))]) (st' := [.int ((vl_I a) + (vl_I i)), .ref r, .long ((256 : Int64) * v)]) rfl Kz) ?_
  refine jv_Wp.lift (fun _ Kz => jv_Ev.m jv_i327 (pc' := 23) (st' := [.int (I r (a + i)), .long ((256 : Int64) * v)]) (G' := (jv_H K I L R)) rfl rfl (jv_m_baldv hK rfl (by rw [show ((vl_I a) + (vl_I i)) = vl_I (a + i) from (vi_a2 rfl rfl rfl)]; exact vl_I_ix (by omega) (by first | omega | decide)) rfl ((congrArg (I r) (show ((vl_I a) + (vl_I i)).toNatClampNeg = a + i from by rw [show ((vl_I a) + (vl_I i)) = vl_I (a + i) from (vi_a2 rfl rfl rfl)]; exact vl_I_nat (by omega))).trans rfl)) Kz) ?_
  refine jv_Wp.lift (fun _ Kz => jv_Ev.steps jv_i327 7 (pc' := 7) (l' := [(5, .int ((vl_I i) + Int32.ofInt (-1))), (3, .long (((256 : Int64) * v) + ((I r (a + i)) &&& (255 : Int32)).toInt64)), (0, .ref r), (1, .int (vl_I a)), (2, .int (vl_I m))]) (st' := []) rfl Kz) ?_
  refine jv_Wp.loc (l := [(0, .ref r), (1, .int (vl_I a)), (2, .int (vl_I m)), (3, .long (((256 : Int64) * v) + ((I r (a + i)) &&& (255 : Int32)).toInt64)), (5, .int ((vl_I i) + Int32.ofInt (-1)))]) ⟨List.forall_mem_cons.mpr ⟨.tail _ (.tail _ (.head _)), List.forall_mem_cons.mpr ⟨.tail _ (.tail _ (.tail _ (.head _))), List.forall_mem_cons.mpr ⟨.tail _ (.tail _ (.tail _ (.tail _ (.head _)))), List.forall_mem_cons.mpr ⟨.tail _ (.head _), List.forall_mem_cons.mpr ⟨.head _, fun _ h => absurd h List.not_mem_nil⟩⟩⟩⟩⟩, by show List.Nodup [5, 3, 0, 1, 2]; decide⟩ ?_
  have b := h i hi
  rw [b.1, vl_sb_and b.2, hv, vm_m8.mpr (vm_J_I (by omega))]
  exact cont
theorem vr_num_e {K : Nat → Option (Nat × Nat)} {I : Nat → Nat → Int32} {L : Nat → Nat → Int64} {R : Nat → Nat → Value} {r len a m : Nat} {B : Nat → Nat} (hK : K r = some (101, len)) (hlen : len < 2147483648) (h : vk_by I r a m B) (ha : a + m ≤ len) {n sl : Nat} {Q : jv_R → Prop} {v : Int64} (hQ : Q (some (.long v), jv_H K I L R, n, sl)) : jv_Wp 327 7 [(0, .ref r), (1, .int (vl_I a)), (2, .int (vl_I m)), (3, .long v), (5, .int (-1 : Int32))] [] (jv_H K I L R) n sl Q := by
  refine jv_Wp.lift (fun _ Kz => jv_Ev.steps jv_i327 1 (pc' := 9) (l' := [(0, .ref r), (1, .int (vl_I a)), (2, .int (vl_I m)), (3, .long v), (5, .int (-1 : Int32))]) (st' := [.int (-1 : Int32)]) rfl Kz) ?_
  refine jv_Wp.lift (fun _ Kz => jv_Ev.br jv_i327 (pc' := 36) (st' := []) rfl (by rfl) Kz) ?_
  refine jv_Wp.lift (fun _ Kz => jv_Ev.steps jv_i327 1 (pc' := 37) (l' := [(0, .ref r), (1, .int (vl_I a)), (2, .int (vl_I m)), (3, .long v), (5, .int (-1 : Int32))]) (st' := [.long v]) rfl Kz) ?_
  refine jv_Wp.of (jv_Ev.ret jv_i327 rfl rfl) ?_
  exact hQ
theorem vr_num_l {K : Nat → Option (Nat × Nat)} {I : Nat → Nat → Int32} {L : Nat → Nat → Int64} {R : Nat → Nat → Value} {r len a m : Nat} {B : Nat → Nat} (hK : K r = some (101, len)) (hlen : len < 2147483648) (h : vk_by I r a m B) (ha : a + m ≤ len) {n sl : Nat} {Q : jv_R → Prop} (hQ : Q (some (.long (vm_J (vm_le B 0 m))), jv_H K I L R, n, sl)) : ∀ j, j ≤ m → jv_Wp 327 7 [(0, .ref r), (1, .int (vl_I a)), (2, .int (vl_I m)), (3, .long (vm_J (vm_le B j (m - j)))), (5, .int (vm_K j))] [] (jv_H K I L R) n sl Q
  | 0, _ => vr_num_e hK hlen h ha hQ
  | j + 1, hj => by
    rw [vm_K_s]
    refine vr_num_t hK hlen h ha (by omega) rfl ?_
    rw [vm_K_p, show 256 * vm_le B (j + 1) (m - (j + 1)) + B j = vm_le B j (m - j) from by rw [show m - j = (m - (j + 1)) + 1 by omega]; exact Nat.add_comm _ _]
    exact vr_num_l hK hlen h ha hQ j (by omega)
theorem vr_num_0 {K : Nat → Option (Nat × Nat)} {I : Nat → Nat → Int32} {L : Nat → Nat → Int64} {R : Nat → Nat → Value} {r len a m : Nat} {B : Nat → Nat} (hK : K r = some (101, len)) (hlen : len < 2147483648) (h : vk_by I r a m B) (ha : a + m ≤ len) {n sl : Nat} {Q : jv_R → Prop} (cont : jv_Wp 327 7 [(0, .ref r), (1, .int (vl_I a)), (2, .int (vl_I m)), (3, .long (0 : Int64)), (5, .int (vm_K m))] [] (jv_H K I L R) n sl Q) : jv_Wp 327 0 [(0, .ref r), (1, .int (vl_I a)), (2, .int (vl_I m))] [] (jv_H K I L R) n sl Q := by
  refine jv_Wp.lift (fun _ Kz => jv_Ev.steps jv_i327 6 (pc' := 7) (l' := [(5, .int ((vl_I m) - (1 : Int32))), (3, .long (0 : Int64)), (0, .ref r), (1, .int (vl_I a)), (2, .int (vl_I m))]) (st' := []) rfl Kz) ?_
  refine jv_Wp.loc (l := [(0, .ref r), (1, .int (vl_I a)), (2, .int (vl_I m)), (3, .long (0 : Int64)), (5, .int ((vl_I m) - (1 : Int32)))]) ⟨List.forall_mem_cons.mpr ⟨.tail _ (.tail _ (.head _)), List.forall_mem_cons.mpr ⟨.tail _ (.tail _ (.tail _ (.head _))), List.forall_mem_cons.mpr ⟨.tail _ (.tail _ (.tail _ (.tail _ (.head _)))), List.forall_mem_cons.mpr ⟨.tail _ (.head _), List.forall_mem_cons.mpr ⟨.head _, fun _ h => absurd h List.not_mem_nil⟩⟩⟩⟩⟩, by show List.Nodup [5, 3, 0, 1, 2]; decide⟩ ?_
  rw [show (vl_I m - (1 : Int32)) = vm_K m from rfl]
  exact cont
theorem vr_numberM {K : Nat → Option (Nat × Nat)} {I : Nat → Nat → Int32} {L : Nat → Nat → Int64} {R : Nat → Nat → Value} {r len a m : Nat} {B : Nat → Nat} (hK : K r = some (101, len)) (hlen : len < 2147483648) (h : vk_by I r a m B) (ha : a + m ≤ len) {n sl : Nat} : jv_Ms 327 [.ref r, .int (vl_I a), .int (vl_I m)] (jv_H K I L R) n sl (some (.long (vm_J (vm_le B 0 m))), jv_H K I L R, n, sl) := by
  have k := vr_num_l (n := n) (sl := sl) (L := L) (R := R) (Q := fun X => X = (some (.long (vm_J (vm_le B 0 m))), jv_H K I L R, n, sl)) hK hlen h ha rfl m (Nat.le_refl m)
  rw [Nat.sub_self] at k
  obtain ⟨X, k, e⟩ := vr_num_0 hK hlen h ha k
  subst e
  exact k
theorem jv_i333 : jv_I 333 6 (some .boolean) 0 0 jv_c333 := ⟨rfl, rfl, rfl, rfl, rfl⟩
theorem vr_isk_t {K : Nat → Option (Nat × Nat)} {I : Nat → Nat → Int32} {L : Nat → Nat → Int64} {R : Nat → Nat → Value} (hW : jv_rW K R) {dk : Nat} (hD : R 180 2 = .ref dk) (hKd : K dk = some (101, 512)) {k kd ks vs en bg fe fk : Nat} (hm : vr_mk I k kd ks vs en bg fe fk) {e a : Nat} {B ky : Nat → Nat} (hix : fk + e * ks + ks ≤ 524288) (hks : ks ≤ 32) (ha : a + ks ≤ 512) (hky : ∀ j, j < ks → I 191 (fk + e * ks + j) = vl_sb (ky j) ∧ ky j < 256) (hB : vk_by I dk a ks B) {n sl : Nat} {Q : jv_R → Prop} {j : Nat} (hj : j < ks) (cont : ky j = B j → jv_Wp 333 18 [(0, .ref 180), (1, .int (vl_I k)), (2, .int (vl_I e)), (3, .int (vl_I a)), (4, .int (1 : Int32)), (5, .int (vl_I (j + 1)))] [] (jv_H K I L R) n sl Q) (hno : ky j ≠ B j → jv_Wp 333 18 [(0, .ref 180), (1, .int (vl_I k)), (2, .int (vl_I e)), (3, .int (vl_I a)), (4, .int (0 : Int32)), (5, .int (vl_I (j + 1)))] [] (jv_H K I L R) n sl Q) : jv_Wp 333 18 [(0, .ref 180), (1, .int (vl_I k)), (2, .int (vl_I e)), (3, .int (vl_I a)), (4, .int (1 : Int32)), (5, .int (vl_I j))] [] (jv_H K I L R) n sl Q := by
  obtain ⟨hk8, e8, e9, e10, e11, e12, ef, eg⟩ := id hm
  refine jv_Wp.lift (fun _ Kz => jv_Ev.steps jv_i333 1 (pc' := 20) (l' := [(0, .ref 180), (1, .int (vl_I k)), (2, .int (vl_I e)), (3, .int (vl_I a)), (4, .int (1 : Int32)), (5, .int (vl_I j))]) (st' := [.int (1 : Int32)]) rfl Kz) ?_
  refine jv_Wp.lift (fun _ Kz => jv_Ev.br jv_i333 (pc' := 23) (st' := []) rfl (by rfl) Kz) ?_
  refine jv_Wp.lift (fun _ Kz => jv_Ev.steps jv_i333 2 (pc' := 26) (l' := [(0, .ref 180), (1, .int (vl_I k)), (2, .int (vl_I e)), (3, .int (vl_I a)), (4, .int (1 : Int32)), (5, .int (vl_I j))]) (st' := [.ref 180, .int (vl_I j)]) rfl Kz) ?_
  refine jv_Wp.lift (fun _ Kz => jv_Ev.m jv_i333 (pc' := 29) (st' := [.ref 184, .int (vl_I j)]) (G' := (jv_H K I L R)) rfl rfl (jv_m_getR (jv_rwK hW 180 13 22 (by decide)) rfl rfl (jv_rwR hW 180 7 184 (by decide))) Kz) ?_
  refine jv_Wp.lift (fun _ Kz => jv_Ev.steps jv_i333 1 (pc' := 30) (l' := [(0, .ref 180), (1, .int (vl_I k)), (2, .int (vl_I e)), (3, .int (vl_I a)), (4, .int (1 : Int32)), (5, .int (vl_I j))]) (st' := [.int (vl_I k), .ref 184, .int (vl_I j)]) rfl Kz) ?_
  refine jv_Wp.lift (fun _ Kz => jv_Ev.m jv_i333 (pc' := 31) (st' := [.int (vl_I ks), .int (vl_I j)]) (G' := (jv_H K I L R)) rfl rfl (jv_m_ialdv (jv_rwK hW 184 102 64 (by decide)) rfl (vl_I_ix (by omega) (by decide)) rfl ((congrArg (I 184) (vl_I_nat (by omega))).trans e9)) Kz) ?_
  refine jv_Wp.cnd jv_i333 (pt := 82) (pe := 34) (p := ((vl_I ks) ≤ (vl_I j))) (q := ((vl_I ks) ≤ (vl_I j))) rfl jv_bc_ge rfl rfl Iff.rfl (fun hz => absurd hz (fun z => absurd ((vl_I_le (by omega) (by omega)).mp z) (by omega))) (fun _ => ?_)
  refine jv_Wp.lift (fun _ Kz => jv_Ev.steps jv_i333 1 (pc' := 35) (l' := [(0, .ref 180), (1, .int (vl_I k)), (2, .int (vl_I e)), (3, .int (vl_I a)), (4, .int (1 : Int32)), (5, .int (vl_I j))]) (st' := [.ref 180]) rfl Kz) ?_
  refine jv_Wp.lift (fun _ Kz => jv_Ev.m jv_i333 (pc' := 38) (st' := [.ref 191]) (G' := (jv_H K I L R)) rfl rfl (jv_m_getR (jv_rwK hW 180 13 22 (by decide)) rfl rfl (jv_rwR hW 180 16 191 (by decide))) Kz) ?_
  refine jv_Wp.lift (fun _ Kz => jv_Ev.steps jv_i333 1 (pc' := 39) (l' := [(0, .ref 180), (1, .int (vl_I k)), (2, .int (vl_I e)), (3, .int (vl_I a)), (4, .int (1 : Int32)), (5, .int (vl_I j))]) (st' := [.ref 180, .ref 191]) rfl Kz) ?_
  refine jv_Wp.lift (fun _ Kz => jv_Ev.m jv_i333 (pc' := 42) (st' := [.ref 189, .ref 191]) (G' := (jv_H K I L R)) rfl rfl (jv_m_getR (jv_rwK hW 180 13 22 (by decide)) rfl rfl (jv_rwR hW 180 12 189 (by decide))) Kz) ?_
  refine jv_Wp.lift (fun _ Kz => jv_Ev.steps jv_i333 1 (pc' := 43) (l' := [(0, .ref 180), (1, .int (vl_I k)), (2, .int (vl_I e)), (3, .int (vl_I a)), (4, .int (1 : Int32)), (5, .int (vl_I j))]) (st' := [.int (vl_I k), .ref 189, .ref 191]) rfl Kz) ?_
  refine jv_Wp.lift (fun _ Kz => jv_Ev.m jv_i333 (pc' := 44) (st' := [.int (vl_I fk), .ref 191]) (G' := (jv_H K I L R)) rfl rfl (jv_m_ialdv (jv_rwK hW 189 102 64 (by decide)) rfl (vl_I_ix (by omega) (by decide)) rfl ((congrArg (I 189) (vl_I_nat (by omega))).trans eg)) Kz) ?_
  refine jv_Wp.lift (fun _ Kz => jv_Ev.steps jv_i333 2 (pc' := 46) (l' := [(0, .ref 180), (1, .int (vl_I k)), (2, .int (vl_I e)), (3, .int (vl_I a)), (4, .int (1 : Int32)), (5, .int (vl_I j))]) (st' := [.ref 180, .int (vl_I e), .int (vl_I fk), .ref 191]) rfl Kz) ?_
  refine jv_Wp.lift (fun _ Kz => jv_Ev.m jv_i333 (pc' := 49) (st' := [.ref 184, .int (vl_I e), .int (vl_I fk), .ref 191]) (G' := (jv_H K I L R)) rfl rfl (jv_m_getR (jv_rwK hW 180 13 22 (by decide)) rfl rfl (jv_rwR hW 180 7 184 (by decide))) Kz) ?_
  refine jv_Wp.lift (fun _ Kz => jv_Ev.steps jv_i333 1 (pc' := 50) (l' := [(0, .ref 180), (1, .int (vl_I k)), (2, .int (vl_I e)), (3, .int (vl_I a)), (4, .int (1 : Int32)), (5, .int (vl_I j))]) (st' := [.int (vl_I k), .ref 184, .int (vl_I e), .int (vl_I fk), .ref 191]) rfl Kz) ?_
  refine jv_Wp.lift (fun _ Kz => jv_Ev.m jv_i333 (pc' := 51) (st' := [.int (vl_I ks), .int (vl_I e), .int (vl_I fk), .ref 191]) (G' := (jv_H K I L R)) rfl rfl (jv_m_ialdv (jv_rwK hW 184 102 64 (by decide)) rfl (vl_I_ix (by omega) (by decide)) rfl ((congrArg (I 184) (vl_I_nat (by omega))).trans e9)) Kz) ?_
  refine jv_Wp.lift (fun _ Kz => jv_Ev.steps jv_i333 4 (pc' := 56) (l' := [(0, .ref 180), (1, .int (vl_I k)), (2, .int (vl_I e)), (3, .int (vl_I a)), (4, .int (1 : Int32)), (5, .int (vl_I j))]) (st' := [.int (((vl_I fk) + ((vl_I e) * (vl_I ks))) + (vl_I j)), .ref 191]) rfl Kz) ?_
  refine jv_Wp.lift (fun _ Kz => jv_Ev.m jv_i333 (pc' := 57) (st' := [.int (I 191 (fk + (e * ks) + j))]) (G' := (jv_H K I L R)) rfl rfl (jv_m_baldv (jv_rwK hW 191 101 524288 (by decide)) rfl (by rw [show ((vl_I fk) + ((vl_I e) * (vl_I ks))) + (vl_I j) = vl_I (fk + e * ks + j) from vi_a2 (vi_a2 rfl (vi_m2 rfl rfl rfl) rfl) rfl rfl]; exact vl_I_ix (by omega) (by decide)) rfl ((congrArg (I 191) (show (((vl_I fk) + ((vl_I e) * (vl_I ks))) + (vl_I j)).toNatClampNeg = fk + (e * ks) + j from by rw [show (((vl_I fk) + ((vl_I e) * (vl_I ks))) + (vl_I j)) = vl_I (fk + (e * ks) + j) from (vi_a2 (vi_a2 rfl (vi_m2 rfl rfl rfl) rfl) rfl rfl)]; exact vl_I_nat (by omega))).trans rfl)) Kz) ?_
  refine jv_Wp.lift (fun _ Kz => jv_Ev.steps jv_i333 1 (pc' := 58) (l' := [(0, .ref 180), (1, .int (vl_I k)), (2, .int (vl_I e)), (3, .int (vl_I a)), (4, .int (1 : Int32)), (5, .int (vl_I j))]) (st' := [.ref 180, .int (I 191 (fk + (e * ks) + j))]) rfl Kz) ?_
  refine jv_Wp.lift (fun _ Kz => jv_Ev.m jv_i333 (pc' := 61) (st' := [.ref dk, .int (I 191 (fk + (e * ks) + j))]) (G' := (jv_H K I L R)) rfl rfl (jv_m_getR (jv_rwK hW 180 13 22 (by decide)) rfl rfl hD) Kz) ?_
  refine jv_Wp.lift (fun _ Kz => jv_Ev.steps jv_i333 3 (pc' := 65) (l' := [(0, .ref 180), (1, .int (vl_I k)), (2, .int (vl_I e)), (3, .int (vl_I a)), (4, .int (1 : Int32)), (5, .int (vl_I j))]) (st' := [.int ((vl_I a) + (vl_I j)), .ref dk, .int (I 191 (fk + (e * ks) + j))]) rfl Kz) ?_
  refine jv_Wp.lift (fun _ Kz => jv_Ev.m jv_i333 (pc' := 66) (st' := [.int (I dk (a + j)), .int (I 191 (fk + (e * ks) + j))]) (G' := (jv_H K I L R)) rfl rfl (jv_m_baldv hKd rfl (by rw [vl_I_add]; exact vl_I_ix (by omega) (by decide)) rfl ((congrArg (I dk) (show ((vl_I a) + (vl_I j)).toNatClampNeg = a + j from by rw [show ((vl_I a) + (vl_I j)) = vl_I (a + j) from (vi_a2 rfl rfl rfl)]; exact vl_I_nat (by omega))).trans rfl)) Kz) ?_
  refine jv_Wp.cnd jv_i333 (pt := 73) (pe := 69) (p := (¬ (I 191 (fk + (e * ks) + j)) = (I dk (a + j)))) (q := (¬ (I 191 (fk + (e * ks) + j)) = (I dk (a + j)))) rfl jv_bc_ne rfl rfl Iff.rfl (fun h1 => ?_) (fun h1 => ?_)
  · refine jv_Wp.lift (fun _ Kz => jv_Ev.steps jv_i333 4 (pc' := 18) (l' := [(5, .int ((vl_I j) + Int32.ofInt 1)), (4, .int (0 : Int32)), (0, .ref 180), (1, .int (vl_I k)), (2, .int (vl_I e)), (3, .int (vl_I a))]) (st' := []) rfl Kz) ?_
    refine jv_Wp.loc (l := [(0, .ref 180), (1, .int (vl_I k)), (2, .int (vl_I e)), (3, .int (vl_I a)), (4, .int (0 : Int32)), (5, .int ((vl_I j) + Int32.ofInt 1))]) ⟨List.forall_mem_cons.mpr ⟨.tail _ (.tail _ (.head _)), List.forall_mem_cons.mpr ⟨.tail _ (.tail _ (.tail _ (.head _))), List.forall_mem_cons.mpr ⟨.tail _ (.tail _ (.tail _ (.tail _ (.head _)))), List.forall_mem_cons.mpr ⟨.tail _ (.tail _ (.tail _ (.tail _ (.tail _ (.head _))))), List.forall_mem_cons.mpr ⟨.tail _ (.head _), List.forall_mem_cons.mpr ⟨.head _, fun _ h => absurd h List.not_mem_nil⟩⟩⟩⟩⟩⟩, by show List.Nodup [5, 4, 0, 1, 2, 3]; decide⟩ ?_
    rw [vk_p1 j]
    refine hno (fun z => ?_)
    exact h1 (by rw [(hky j hj).1, (hB j hj).1, z])
  · refine jv_Wp.lift (fun _ Kz => jv_Ev.steps jv_i333 5 (pc' := 18) (l' := [(5, .int ((vl_I j) + Int32.ofInt 1)), (4, .int (1 : Int32)), (0, .ref 180), (1, .int (vl_I k)), (2, .int (vl_I e)), (3, .int (vl_I a))]) (st' := []) rfl Kz) ?_
    refine jv_Wp.loc (l := [(0, .ref 180), (1, .int (vl_I k)), (2, .int (vl_I e)), (3, .int (vl_I a)), (4, .int (1 : Int32)), (5, .int ((vl_I j) + Int32.ofInt 1))]) ⟨List.forall_mem_cons.mpr ⟨.tail _ (.tail _ (.head _)), List.forall_mem_cons.mpr ⟨.tail _ (.tail _ (.tail _ (.head _))), List.forall_mem_cons.mpr ⟨.tail _ (.tail _ (.tail _ (.tail _ (.head _)))), List.forall_mem_cons.mpr ⟨.tail _ (.tail _ (.tail _ (.tail _ (.tail _ (.head _))))), List.forall_mem_cons.mpr ⟨.tail _ (.head _), List.forall_mem_cons.mpr ⟨.head _, fun _ h => absurd h List.not_mem_nil⟩⟩⟩⟩⟩⟩, by show List.Nodup [5, 4, 0, 1, 2, 3]; decide⟩ ?_
    rw [vk_p1 j]
    refine cont ?_
    have h := (Classical.not_not.mp h1)
    rw [(hky j hj).1, (hB j hj).1] at h
    exact vl_sb_inj (hky j hj).2 (hB j hj).2 h
theorem vr_isk_e {K : Nat → Option (Nat × Nat)} {I : Nat → Nat → Int32} {L : Nat → Nat → Int64} {R : Nat → Nat → Value} (hW : jv_rW K R) {dk : Nat} (hD : R 180 2 = .ref dk) (hKd : K dk = some (101, 512)) {k kd ks vs en bg fe fk : Nat} (hm : vr_mk I k kd ks vs en bg fe fk) {e a : Nat} {B ky : Nat → Nat} (hix : fk + e * ks + ks ≤ 524288) (hks : ks ≤ 32) (ha : a + ks ≤ 512) (hky : ∀ j, j < ks → I 191 (fk + e * ks + j) = vl_sb (ky j) ∧ ky j < 256) (hB : vk_by I dk a ks B) {n sl : Nat} {Q : jv_R → Prop} (hQ : Q (some (.int (1 : Int32)), jv_H K I L R, n, sl)) : jv_Wp 333 18 [(0, .ref 180), (1, .int (vl_I k)), (2, .int (vl_I e)), (3, .int (vl_I a)), (4, .int (1 : Int32)), (5, .int (vl_I ks))] [] (jv_H K I L R) n sl Q := by
  obtain ⟨hk8, e8, e9, e10, e11, e12, ef, eg⟩ := id hm
  refine jv_Wp.lift (fun _ Kz => jv_Ev.steps jv_i333 1 (pc' := 20) (l' := [(0, .ref 180), (1, .int (vl_I k)), (2, .int (vl_I e)), (3, .int (vl_I a)), (4, .int (1 : Int32)), (5, .int (vl_I ks))]) (st' := [.int (1 : Int32)]) rfl Kz) ?_
  refine jv_Wp.lift (fun _ Kz => jv_Ev.br jv_i333 (pc' := 23) (st' := []) rfl (by rfl) Kz) ?_
  refine jv_Wp.lift (fun _ Kz => jv_Ev.steps jv_i333 2 (pc' := 26) (l' := [(0, .ref 180), (1, .int (vl_I k)), (2, .int (vl_I e)), (3, .int (vl_I a)), (4, .int (1 : Int32)), (5, .int (vl_I ks))]) (st' := [.ref 180, .int (vl_I ks)]) rfl Kz) ?_
  refine jv_Wp.lift (fun _ Kz => jv_Ev.m jv_i333 (pc' := 29) (st' := [.ref 184, .int (vl_I ks)]) (G' := (jv_H K I L R)) rfl rfl (jv_m_getR (jv_rwK hW 180 13 22 (by decide)) rfl rfl (jv_rwR hW 180 7 184 (by decide))) Kz) ?_
  refine jv_Wp.lift (fun _ Kz => jv_Ev.steps jv_i333 1 (pc' := 30) (l' := [(0, .ref 180), (1, .int (vl_I k)), (2, .int (vl_I e)), (3, .int (vl_I a)), (4, .int (1 : Int32)), (5, .int (vl_I ks))]) (st' := [.int (vl_I k), .ref 184, .int (vl_I ks)]) rfl Kz) ?_
  refine jv_Wp.lift (fun _ Kz => jv_Ev.m jv_i333 (pc' := 31) (st' := [.int (vl_I ks), .int (vl_I ks)]) (G' := (jv_H K I L R)) rfl rfl (jv_m_ialdv (jv_rwK hW 184 102 64 (by decide)) rfl (vl_I_ix (by omega) (by decide)) rfl ((congrArg (I 184) (vl_I_nat (by omega))).trans e9)) Kz) ?_
  refine jv_Wp.cnd jv_i333 (pt := 82) (pe := 34) (p := ((vl_I ks) ≤ (vl_I ks))) (q := ((vl_I ks) ≤ (vl_I ks))) rfl jv_bc_ge rfl rfl Iff.rfl (fun _ => ?_) (fun hz => absurd ((vl_I_le (by omega) (by omega)).mpr (by omega)) hz)
  refine jv_Wp.lift (fun _ Kz => jv_Ev.steps jv_i333 1 (pc' := 84) (l' := [(0, .ref 180), (1, .int (vl_I k)), (2, .int (vl_I e)), (3, .int (vl_I a)), (4, .int (1 : Int32)), (5, .int (vl_I ks))]) (st' := [.int (1 : Int32)]) rfl Kz) ?_
  refine jv_Wp.of (jv_Ev.ret jv_i333 rfl (jv_ret_b (Or.inr rfl))) ?_
  exact hQ
theorem vr_isk_z {K : Nat → Option (Nat × Nat)} {I : Nat → Nat → Int32} {L : Nat → Nat → Int64} {R : Nat → Nat → Value} (hW : jv_rW K R) {dk : Nat} (hD : R 180 2 = .ref dk) (hKd : K dk = some (101, 512)) {k kd ks vs en bg fe fk : Nat} (hm : vr_mk I k kd ks vs en bg fe fk) {e a : Nat} {B ky : Nat → Nat} (hix : fk + e * ks + ks ≤ 524288) (hks : ks ≤ 32) (ha : a + ks ≤ 512) (hky : ∀ j, j < ks → I 191 (fk + e * ks + j) = vl_sb (ky j) ∧ ky j < 256) (hB : vk_by I dk a ks B) {n sl : Nat} {Q : jv_R → Prop} {jj : Int32} (hQ : Q (some (.int (0 : Int32)), jv_H K I L R, n, sl)) : jv_Wp 333 18 [(0, .ref 180), (1, .int (vl_I k)), (2, .int (vl_I e)), (3, .int (vl_I a)), (4, .int (0 : Int32)), (5, .int jj)] [] (jv_H K I L R) n sl Q := by
  obtain ⟨hk8, e8, e9, e10, e11, e12, ef, eg⟩ := id hm
  refine jv_Wp.lift (fun _ Kz => jv_Ev.steps jv_i333 1 (pc' := 20) (l' := [(0, .ref 180), (1, .int (vl_I k)), (2, .int (vl_I e)), (3, .int (vl_I a)), (4, .int (0 : Int32)), (5, .int jj)]) (st' := [.int (0 : Int32)]) rfl Kz) ?_
  refine jv_Wp.lift (fun _ Kz => jv_Ev.br jv_i333 (pc' := 82) (st' := []) rfl (by rfl) Kz) ?_
  refine jv_Wp.lift (fun _ Kz => jv_Ev.steps jv_i333 1 (pc' := 84) (l' := [(0, .ref 180), (1, .int (vl_I k)), (2, .int (vl_I e)), (3, .int (vl_I a)), (4, .int (0 : Int32)), (5, .int jj)]) (st' := [.int (0 : Int32)]) rfl Kz) ?_
  refine jv_Wp.of (jv_Ev.ret jv_i333 rfl (jv_ret_b (Or.inl rfl))) ?_
  exact hQ
theorem vr_isk_l {K : Nat → Option (Nat × Nat)} {I : Nat → Nat → Int32} {L : Nat → Nat → Int64} {R : Nat → Nat → Value} (hW : jv_rW K R) {dk : Nat} (hD : R 180 2 = .ref dk) (hKd : K dk = some (101, 512)) {k kd ks vs en bg fe fk : Nat} (hm : vr_mk I k kd ks vs en bg fe fk) {e a : Nat} {B ky : Nat → Nat} (hix : fk + e * ks + ks ≤ 524288) (hks : ks ≤ 32) (ha : a + ks ≤ 512) (hky : ∀ j, j < ks → I 191 (fk + e * ks + j) = vl_sb (ky j) ∧ ky j < 256) (hB : vk_by I dk a ks B) {n sl : Nat} {Q : jv_R → Prop} (hQ : Q (some (.int (vr_b (vk_eq ky B ks))), jv_H K I L R, n, sl)) : ∀ d j, j + d = ks → (∀ i, i < j → ky i = B i) → jv_Wp 333 18 [(0, .ref 180), (1, .int (vl_I k)), (2, .int (vl_I e)), (3, .int (vl_I a)), (4, .int (1 : Int32)), (5, .int (vl_I j))] [] (jv_H K I L R) n sl Q
  | 0, j, g, p => by
    have g : j = ks := g
    rw [vk_eq_t.mpr (g ▸ p)] at hQ
    rw [g]
    exact vr_isk_e hW hD hKd hm hix hks ha hky hB hQ
  | d + 1, j, g, p => vr_isk_t hW hD hKd hm hix hks ha hky hB (by omega) (fun z => vr_isk_l hW hD hKd hm hix hks ha hky hB hQ d (j + 1) (by omega) (fun i hi => by
      by_cases c : i = j
      · rw [c]; exact z
      · exact p i (by omega))) (fun z => by
      have f : vk_eq ky B ks = false := by
        cases q : vk_eq ky B ks with
        | false => rfl
        | true => exact absurd (vk_eq_t.mp q j (by omega)) z
      rw [f] at hQ
      exact vr_isk_z hW hD hKd hm hix hks ha hky hB hQ)
theorem vr_isk_0 {K : Nat → Option (Nat × Nat)} {I : Nat → Nat → Int32} {L : Nat → Nat → Int64} {R : Nat → Nat → Value} (hW : jv_rW K R) {dk : Nat} (hD : R 180 2 = .ref dk) (hKd : K dk = some (101, 512)) {k kd ks vs en bg fe fk : Nat} (hm : vr_mk I k kd ks vs en bg fe fk) {e a : Nat} {B ky : Nat → Nat} (hix : fk + e * ks + ks ≤ 524288) (hks : ks ≤ 32) (ha : a + ks ≤ 512) (hky : ∀ j, j < ks → I 191 (fk + e * ks + j) = vl_sb (ky j) ∧ ky j < 256) (hB : vk_by I dk a ks B) {n sl : Nat} {Q : jv_R → Prop} (hfe : fe + e < 8192) {t : Nat} (ht : I 190 (fe + e) = vl_I t) (cont : jv_Wp 333 18 [(0, .ref 180), (1, .int (vl_I k)), (2, .int (vl_I e)), (3, .int (vl_I a)), (4, .int (vl_I t)), (5, .int (0 : Int32))] [] (jv_H K I L R) n sl Q) : jv_Wp 333 0 [(0, .ref 180), (1, .int (vl_I k)), (2, .int (vl_I e)), (3, .int (vl_I a))] [] (jv_H K I L R) n sl Q := by
  obtain ⟨hk8, e8, e9, e10, e11, e12, ef, eg⟩ := id hm
  refine jv_Wp.lift (fun _ Kz => jv_Ev.steps jv_i333 1 (pc' := 1) (l' := [(0, .ref 180), (1, .int (vl_I k)), (2, .int (vl_I e)), (3, .int (vl_I a))]) (st' := [.ref 180]) rfl Kz) ?_
  refine jv_Wp.lift (fun _ Kz => jv_Ev.m jv_i333 (pc' := 4) (st' := [.ref 190]) (G' := (jv_H K I L R)) rfl rfl (jv_m_getR (jv_rwK hW 180 13 22 (by decide)) rfl rfl (jv_rwR hW 180 15 190 (by decide))) Kz) ?_
  refine jv_Wp.lift (fun _ Kz => jv_Ev.steps jv_i333 1 (pc' := 5) (l' := [(0, .ref 180), (1, .int (vl_I k)), (2, .int (vl_I e)), (3, .int (vl_I a))]) (st' := [.ref 180, .ref 190]) rfl Kz) ?_
  refine jv_Wp.lift (fun _ Kz => jv_Ev.m jv_i333 (pc' := 8) (st' := [.ref 188, .ref 190]) (G' := (jv_H K I L R)) rfl rfl (jv_m_getR (jv_rwK hW 180 13 22 (by decide)) rfl rfl (jv_rwR hW 180 11 188 (by decide))) Kz) ?_
  refine jv_Wp.lift (fun _ Kz => jv_Ev.steps jv_i333 1 (pc' := 9) (l' := [(0, .ref 180), (1, .int (vl_I k)), (2, .int (vl_I e)), (3, .int (vl_I a))]) (st' := [.int (vl_I k), .ref 188, .ref 190]) rfl Kz) ?_
  refine jv_Wp.lift (fun _ Kz => jv_Ev.m jv_i333 (pc' := 10) (st' := [.int (vl_I fe), .ref 190]) (G' := (jv_H K I L R)) rfl rfl (jv_m_ialdv (jv_rwK hW 188 102 64 (by decide)) rfl (vl_I_ix (by omega) (by decide)) rfl ((congrArg (I 188) (vl_I_nat (by omega))).trans ef)) Kz) ?_
  refine jv_Wp.lift (fun _ Kz => jv_Ev.steps jv_i333 2 (pc' := 12) (l' := [(0, .ref 180), (1, .int (vl_I k)), (2, .int (vl_I e)), (3, .int (vl_I a))]) (st' := [.int ((vl_I fe) + (vl_I e)), .ref 190]) rfl Kz) ?_
  refine jv_Wp.lift (fun _ Kz => jv_Ev.m jv_i333 (pc' := 13) (st' := [.int (vl_I t)]) (G' := (jv_H K I L R)) rfl rfl (jv_m_baldv (jv_rwK hW 190 100 8192 (by decide)) rfl (by rw [vl_I_add]; exact vl_I_ix (by omega) (by decide)) rfl ((congrArg (I 190) (show ((vl_I fe) + (vl_I e)).toNatClampNeg = fe + e from by rw [show ((vl_I fe) + (vl_I e)) = vl_I (fe + e) from (vi_a2 rfl rfl rfl)]; exact vl_I_nat (by omega))).trans ht)) Kz) ?_
  refine jv_Wp.lift (fun _ Kz => jv_Ev.steps jv_i333 3 (pc' := 18) (l' := [(5, .int (0 : Int32)), (4, .int (vl_I t)), (0, .ref 180), (1, .int (vl_I k)), (2, .int (vl_I e)), (3, .int (vl_I a))]) (st' := []) rfl Kz) ?_
  refine jv_Wp.loc (l := [(0, .ref 180), (1, .int (vl_I k)), (2, .int (vl_I e)), (3, .int (vl_I a)), (4, .int (vl_I t)), (5, .int (0 : Int32))]) ⟨List.forall_mem_cons.mpr ⟨.tail _ (.tail _ (.head _)), List.forall_mem_cons.mpr ⟨.tail _ (.tail _ (.tail _ (.head _))), List.forall_mem_cons.mpr ⟨.tail _ (.tail _ (.tail _ (.tail _ (.head _)))), List.forall_mem_cons.mpr ⟨.tail _ (.tail _ (.tail _ (.tail _ (.tail _ (.head _))))), List.forall_mem_cons.mpr ⟨.tail _ (.head _), List.forall_mem_cons.mpr ⟨.head _, fun _ h => absurd h List.not_mem_nil⟩⟩⟩⟩⟩⟩, by show List.Nodup [5, 4, 0, 1, 2, 3]; decide⟩ ?_
  exact cont
theorem vr_isKey {K : Nat → Option (Nat × Nat)} {I : Nat → Nat → Int32} {L : Nat → Nat → Int64} {R : Nat → Nat → Value} (hW : jv_rW K R) {dk : Nat} (hD : R 180 2 = .ref dk) (hKd : K dk = some (101, 512)) {k kd ks vs en bg fe fk : Nat} (hm : vr_mk I k kd ks vs en bg fe fk) {e a : Nat} {B ky : Nat → Nat} (hix : fk + e * ks + ks ≤ 524288) (hks : ks ≤ 32) (ha : a + ks ≤ 512) (hky : ∀ j, j < ks → I 191 (fk + e * ks + j) = vl_sb (ky j) ∧ ky j < 256) (hB : vk_by I dk a ks B) {n sl : Nat} (hfe : fe + e < 8192) {t : Nat} (ht : I 190 (fe + e) = vl_I t) (t1 : t ≤ 1) : jv_Ms 333 [.ref 180, .int (vl_I k), .int (vl_I e), .int (vl_I a)] (jv_H K I L R) n sl (some (.int (vr_b (decide (t = 1) && vk_eq ky B ks))), jv_H K I L R, n, sl) := by
  have k : jv_Wp 333 0 [(0, .ref 180), (1, .int (vl_I k)), (2, .int (vl_I e)), (3, .int (vl_I a))] [] (jv_H K I L R) n sl (fun X => X = (some (.int (vr_b (decide (t = 1) && vk_eq ky B ks))), jv_H K I L R, n, sl)) := by
    refine vr_isk_0 hW hD hKd hm hix hks ha hky hB hfe ht ?_
    rcases Nat.le_one_iff_eq_zero_or_eq_one.mp t1 with c | c
    · subst c
      exact vr_isk_z (Q := fun X => X = (some (.int (vr_b (decide (0 = 1) && vk_eq ky B ks))), jv_H K I L R, n, sl)) hW hD hKd hm hix hks ha hky hB rfl
    · subst c
      exact vr_isk_l (Q := fun X => X = (some (.int (vr_b (decide (1 = 1) && vk_eq ky B ks))), jv_H K I L R, n, sl)) hW hD hKd hm hix hks ha hky hB rfl ks 0 (Nat.zero_add ks) (fun i hi => absurd hi (Nat.not_lt_zero i))
  obtain ⟨X, k, e⟩ := k
  subst e
  exact k
theorem jv_i334 : jv_I 334 5 (some .int) 1 25 jv_c334 := ⟨rfl, rfl, rfl, rfl, rfl⟩
theorem vr_ent_t {K : Nat → Option (Nat × Nat)} {I : Nat → Nat → Int32} {L : Nat → Nat → Int64} {R : Nat → Nat → Value} (hW : jv_rW K R) {dk : Nat} (hD : R 180 2 = .ref dk) (hKd : K dk = some (101, 512)) {k kd ks vs en bg fe fk : Nat} (hm : vr_mk I k kd ks vs en bg fe fk) {a : Nat} {n sl : Nat} {Q : jv_R → Prop} {e : Nat} (he : e < 4096) {x : Int32} {t : Bool} (hIK : jv_Ms 333 [.ref 180, .int (vl_I k), .int (vl_I e), .int (vl_I a)] (jv_H K I L R) n sl (some (.int (vr_b t)), jv_H K I L R, n, sl)) (hx : t = true → x < 0) (hno : t = false → jv_Wp 334 12 [(0, .ref 180), (1, .int (vl_I k)), (2, .int (vl_I a)), (3, .int x), (4, .int (vl_I e + Int32.ofInt (-1)))] [] (jv_H K I L R) n sl Q) (hyes : t = true → jv_Wp 334 12 [(0, .ref 180), (1, .int (vl_I k)), (2, .int (vl_I a)), (3, .int (vl_I e)), (4, .int (vl_I e + Int32.ofInt (-1)))] [] (jv_H K I L R) n sl Q) : jv_Wp 334 12 [(0, .ref 180), (1, .int (vl_I k)), (2, .int (vl_I a)), (3, .int x), (4, .int (vl_I e))] [] (jv_H K I L R) n sl Q := by
  obtain ⟨hk8, e8, e9, e10, e11, e12, ef, eg⟩ := id hm
  refine jv_Wp.lift (fun _ Kz => jv_Ev.steps jv_i334 1 (pc' := 14) (l' := [(0, .ref 180), (1, .int (vl_I k)), (2, .int (vl_I a)), (3, .int x), (4, .int (vl_I e))]) (st' := [.int (vl_I e)]) rfl Kz) ?_
  refine jv_Wp.cnd jv_i334 (pt := 58) (pe := 17) (p := ((vl_I e) < 0)) (q := ((vl_I e) < 0)) rfl jv_bi_lt rfl rfl Iff.rfl (fun hz => absurd hz (vl_I_n0 (by omega))) (fun _ => ?_)
  refine jv_Wp.lift (fun _ Kz => jv_Ev.steps jv_i334 4 (pc' := 22) (l' := [(0, .ref 180), (1, .int (vl_I k)), (2, .int (vl_I a)), (3, .int x), (4, .int (vl_I e))]) (st' := [.int (vl_I a), .int (vl_I e), .int (vl_I k), .ref 180]) rfl Kz) ?_
  refine jv_Wp.lift (fun _ Kz => jv_Ev.c jv_i334 (pc' := 25) (S' := [.int (vr_b t)]) jv_i333 [.ref 180, .int (vl_I k), .int (vl_I e), .int (vl_I a)] rfl rfl rfl rfl (jv_cal rfl (jv_H_at (jv_rwK hW 180 13 22 (by decide))) rfl rfl) rfl hIK rfl rfl Kz) ?_
  refine jv_Wp.cnd jv_i334 (pt := 52) (pe := 28) (p := ((vr_b t) = 0)) (q := ((vr_b t) = 0)) rfl jv_bi_eq rfl rfl Iff.rfl (fun h1 => ?_) (fun h1 => ?_)
  · refine jv_Wp.lift (fun _ Kz => jv_Ev.steps jv_i334 2 (pc' := 12) (l' := [(4, .int ((vl_I e) + Int32.ofInt (-1))), (0, .ref 180), (1, .int (vl_I k)), (2, .int (vl_I a)), (3, .int x)]) (st' := []) rfl Kz) ?_
    refine jv_Wp.loc (l := [(0, .ref 180), (1, .int (vl_I k)), (2, .int (vl_I a)), (3, .int x), (4, .int ((vl_I e) + Int32.ofInt (-1)))]) ⟨List.forall_mem_cons.mpr ⟨.tail _ (.head _), List.forall_mem_cons.mpr ⟨.tail _ (.tail _ (.head _)), List.forall_mem_cons.mpr ⟨.tail _ (.tail _ (.tail _ (.head _))), List.forall_mem_cons.mpr ⟨.tail _ (.tail _ (.tail _ (.tail _ (.head _)))), List.forall_mem_cons.mpr ⟨.head _, fun _ h => absurd h List.not_mem_nil⟩⟩⟩⟩⟩, by show List.Nodup [4, 0, 1, 2, 3]; decide⟩ ?_
    exact hno (vr_b_f h1)
  · refine jv_Wp.lift (fun _ Kz => jv_Ev.steps jv_i334 2 (pc' := 30) (l' := [(0, .ref 180), (1, .int (vl_I k)), (2, .int (vl_I a)), (3, .int x), (4, .int (vl_I e))]) (st' := [.int x, .ref 180]) rfl Kz) ?_
    refine jv_Wp.cnd jv_i334 (pt := 42) (pe := 33) (p := (x < 0)) (q := (x < 0)) rfl jv_bi_lt rfl rfl Iff.rfl (fun _ => ?_) (fun hz => absurd (hx (vr_b_t h1)) hz)
    refine jv_Wp.lift (fun _ Kz => jv_Ev.steps jv_i334 1 (pc' := 43) (l' := [(0, .ref 180), (1, .int (vl_I k)), (2, .int (vl_I a)), (3, .int x), (4, .int (vl_I e))]) (st' := [.ref 180, .ref 180]) rfl Kz) ?_
    refine jv_Wp.lift (fun _ Kz => jv_Ev.m jv_i334 (pc' := 46) (st' := [.int (I 180 21), .ref 180]) (G' := (jv_H K I L R)) rfl rfl (jv_m_getI (jv_rwK hW 180 13 22 (by decide)) rfl rfl rfl) Kz) ?_
    refine jv_Wp.lift (fun _ Kz => jv_Ev.m jv_i334 (pc' := 49) (st' := []) (G' := (jv_H K (jv_u I 180 21 (I 180 21)) L R)) rfl rfl (jv_m_putI (jv_rwK hW 180 13 22 (by decide)) rfl rfl rfl rfl) Kz) ?_
    refine jv_Wp.lift (fun _ Kz => jv_Ev.steps jv_i334 4 (pc' := 12) (l' := [(4, .int ((vl_I e) + Int32.ofInt (-1))), (3, .int (vl_I e)), (0, .ref 180), (1, .int (vl_I k)), (2, .int (vl_I a))]) (st' := []) rfl Kz) ?_
    refine jv_Wp.loc (l := [(0, .ref 180), (1, .int (vl_I k)), (2, .int (vl_I a)), (3, .int (vl_I e)), (4, .int ((vl_I e) + Int32.ofInt (-1)))]) ⟨List.forall_mem_cons.mpr ⟨.tail _ (.tail _ (.head _)), List.forall_mem_cons.mpr ⟨.tail _ (.tail _ (.tail _ (.head _))), List.forall_mem_cons.mpr ⟨.tail _ (.tail _ (.tail _ (.tail _ (.head _)))), List.forall_mem_cons.mpr ⟨.tail _ (.head _), List.forall_mem_cons.mpr ⟨.head _, fun _ h => absurd h List.not_mem_nil⟩⟩⟩⟩⟩, by show List.Nodup [4, 3, 0, 1, 2]; decide⟩ ?_
    rw [jv_u_id]
    exact hyes (vr_b_t h1)
theorem vr_ent_e {K : Nat → Option (Nat × Nat)} {I : Nat → Nat → Int32} {L : Nat → Nat → Int64} {R : Nat → Nat → Value} (hW : jv_rW K R) {dk : Nat} (hD : R 180 2 = .ref dk) (hKd : K dk = some (101, 512)) {k kd ks vs en bg fe fk : Nat} (hm : vr_mk I k kd ks vs en bg fe fk) {a : Nat} {n sl : Nat} {Q : jv_R → Prop} {x : Int32} (hQ : Q (some (.int x), jv_H K I L R, n, sl)) : jv_Wp 334 12 [(0, .ref 180), (1, .int (vl_I k)), (2, .int (vl_I a)), (3, .int x), (4, .int (-1 : Int32))] [] (jv_H K I L R) n sl Q := by
  obtain ⟨hk8, e8, e9, e10, e11, e12, ef, eg⟩ := id hm
  refine jv_Wp.lift (fun _ Kz => jv_Ev.steps jv_i334 1 (pc' := 14) (l' := [(0, .ref 180), (1, .int (vl_I k)), (2, .int (vl_I a)), (3, .int x), (4, .int (-1 : Int32))]) (st' := [.int (-1 : Int32)]) rfl Kz) ?_
  refine jv_Wp.lift (fun _ Kz => jv_Ev.br jv_i334 (pc' := 58) (st' := []) rfl (by rfl) Kz) ?_
  refine jv_Wp.lift (fun _ Kz => jv_Ev.steps jv_i334 1 (pc' := 59) (l' := [(0, .ref 180), (1, .int (vl_I k)), (2, .int (vl_I a)), (3, .int x), (4, .int (-1 : Int32))]) (st' := [.int x]) rfl Kz) ?_
  refine jv_Wp.of (jv_Ev.ret jv_i334 rfl rfl) ?_
  exact hQ
theorem vr_ent_0 {K : Nat → Option (Nat × Nat)} {I : Nat → Nat → Int32} {L : Nat → Nat → Int64} {R : Nat → Nat → Value} (hW : jv_rW K R) {dk : Nat} (hD : R 180 2 = .ref dk) (hKd : K dk = some (101, 512)) {k kd ks vs en bg fe fk : Nat} (hm : vr_mk I k kd ks vs en bg fe fk) {a : Nat} {n sl : Nat} {Q : jv_R → Prop} (hen : en ≤ 4096) (cont : jv_Wp 334 12 [(0, .ref 180), (1, .int (vl_I k)), (2, .int (vl_I a)), (3, .int (-1 : Int32)), (4, .int (vm_K en))] [] (jv_H K I L R) n sl Q) : jv_Wp 334 0 [(0, .ref 180), (1, .int (vl_I k)), (2, .int (vl_I a))] [] (jv_H K I L R) n sl Q := by
  obtain ⟨hk8, e8, e9, e10, e11, e12, ef, eg⟩ := id hm
  refine jv_Wp.lift (fun _ Kz => jv_Ev.steps jv_i334 3 (pc' := 3) (l' := [(3, .int (-1 : Int32)), (0, .ref 180), (1, .int (vl_I k)), (2, .int (vl_I a))]) (st' := [.ref 180]) rfl Kz) ?_
  refine jv_Wp.lift (fun _ Kz => jv_Ev.m jv_i334 (pc' := 6) (st' := [.ref 186]) (G' := (jv_H K I L R)) rfl rfl (jv_m_getR (jv_rwK hW 180 13 22 (by decide)) rfl rfl (jv_rwR hW 180 9 186 (by decide))) Kz) ?_
  refine jv_Wp.lift (fun _ Kz => jv_Ev.steps jv_i334 1 (pc' := 7) (l' := [(3, .int (-1 : Int32)), (0, .ref 180), (1, .int (vl_I k)), (2, .int (vl_I a))]) (st' := [.int (vl_I k), .ref 186]) rfl Kz) ?_
  refine jv_Wp.lift (fun _ Kz => jv_Ev.m jv_i334 (pc' := 8) (st' := [.int (vl_I en)]) (G' := (jv_H K I L R)) rfl rfl (jv_m_ialdv (jv_rwK hW 186 102 64 (by decide)) rfl (vl_I_ix (by omega) (by decide)) rfl ((congrArg (I 186) (vl_I_nat (by omega))).trans e11)) Kz) ?_
  refine jv_Wp.lift (fun _ Kz => jv_Ev.steps jv_i334 3 (pc' := 12) (l' := [(4, .int ((vl_I en) - (1 : Int32))), (3, .int (-1 : Int32)), (0, .ref 180), (1, .int (vl_I k)), (2, .int (vl_I a))]) (st' := []) rfl Kz) ?_
  refine jv_Wp.loc (l := [(0, .ref 180), (1, .int (vl_I k)), (2, .int (vl_I a)), (3, .int (-1 : Int32)), (4, .int ((vl_I en) - (1 : Int32)))]) ⟨List.forall_mem_cons.mpr ⟨.tail _ (.tail _ (.head _)), List.forall_mem_cons.mpr ⟨.tail _ (.tail _ (.tail _ (.head _))), List.forall_mem_cons.mpr ⟨.tail _ (.tail _ (.tail _ (.tail _ (.head _)))), List.forall_mem_cons.mpr ⟨.tail _ (.head _), List.forall_mem_cons.mpr ⟨.head _, fun _ h => absurd h List.not_mem_nil⟩⟩⟩⟩⟩, by show List.Nodup [4, 3, 0, 1, 2]; decide⟩ ?_
  rw [show (vl_I en - (1 : Int32)) = vm_K en from rfl]
  exact cont
theorem vr_ent_l {K : Nat → Option (Nat × Nat)} {I : Nat → Nat → Int32} {L : Nat → Nat → Int64} {R : Nat → Nat → Value} (hW : jv_rW K R) {dk : Nat} (hD : R 180 2 = .ref dk) (hKd : K dk = some (101, 512)) {k kd ks vs en bg fe fk : Nat} (hm : vr_mk I k kd ks vs en bg fe fk) {a : Nat} {n sl : Nat} {Q : jv_R → Prop} {g : Nat → Bool} (hen : en ≤ 4096) (hIK : ∀ e, e < en → jv_Ms 333 [.ref 180, .int (vl_I k), .int (vl_I e), .int (vl_I a)] (jv_H K I L R) n sl (some (.int (vr_b (g e))), jv_H K I L R, n, sl)) (hu : ∀ e e', e < en → e' < en → g e = true → g e' = true → e = e') (hQ : ∀ x, ((x = (-1 : Int32) ∧ ∀ e, e < en → g e = false) ∨ ∃ f, x = vl_I f ∧ f < en ∧ g f = true) → Q (some (.int x), jv_H K I L R, n, sl)) : ∀ j x, j ≤ en → ((x = (-1 : Int32) ∧ ∀ e, j ≤ e → e < en → g e = false) ∨ ∃ f, x = vl_I f ∧ j ≤ f ∧ f < en ∧ g f = true) → jv_Wp 334 12 [(0, .ref 180), (1, .int (vl_I k)), (2, .int (vl_I a)), (3, .int x), (4, .int (vm_K j))] [] (jv_H K I L R) n sl Q
  | 0, x, hj, hx => vr_ent_e hW hD hKd hm (hQ x (hx.imp (fun z => ⟨z.1, fun e he => z.2 e (Nat.zero_le e) he⟩) (fun ⟨f, z⟩ => ⟨f, z.1, z.2.2⟩)))
  | j + 1, x, hj, hx => by
    rw [vm_K_s]
    refine vr_ent_t hW hD hKd hm (by omega) (hIK j (by omega)) (fun z => ?_) (fun z => ?_) (fun z => ?_)
    · rcases hx with h | ⟨f, h1, h2, h3, h4⟩
      · rw [h.1]; decide
      · exact absurd (hu j f (by omega) h3 z h4) (by omega)
    · rw [vm_K_p]
      refine vr_ent_l hW hD hKd hm hen hIK hu hQ j x (by omega) (hx.imp (fun h => ⟨h.1, fun e h1 h2 => ?_⟩) (fun ⟨f, h⟩ => ⟨f, h.1, by omega, h.2.2⟩))
      by_cases c : e = j
      · rw [c]; exact z
      · exact h.2 e (by omega) h2
    · rw [vm_K_p]
      exact vr_ent_l hW hD hKd hm hen hIK hu hQ j (vl_I j) (by omega) (Or.inr ⟨j, rfl, Nat.le_refl j, by omega, z⟩)
theorem vr_entryOf {K : Nat → Option (Nat × Nat)} {I : Nat → Nat → Int32} {L : Nat → Nat → Int64} {R : Nat → Nat → Value} (hW : jv_rW K R) {dk : Nat} (hD : R 180 2 = .ref dk) (hKd : K dk = some (101, 512)) {k kd ks vs en bg fe fk : Nat} (hm : vr_mk I k kd ks vs en bg fe fk) {a : Nat} {n sl : Nat} {g : Nat → Bool} (hen : en ≤ 4096) (hIK : ∀ e, e < en → jv_Ms 333 [.ref 180, .int (vl_I k), .int (vl_I e), .int (vl_I a)] (jv_H K I L R) n sl (some (.int (vr_b (g e))), jv_H K I L R, n, sl)) (hu : ∀ e e', e < en → e' < en → g e = true → g e' = true → e = e') {x : Int32} (h1 : ∀ f, f < en → g f = true → x = vl_I f) (h2 : (∀ e, e < en → g e = false) → x = -1) : jv_Ms 334 [.ref 180, .int (vl_I k), .int (vl_I a)] (jv_H K I L R) n sl (some (.int x), jv_H K I L R, n, sl) := by
  have k := vr_ent_0 hW hD hKd hm (a := a) (n := n) (sl := sl) (Q := fun X => X = (some (.int x), jv_H K I L R, n, sl)) hen (vr_ent_l hW hD hKd hm hen hIK hu (fun z hz => by
    rcases hz with h | ⟨f, h, h3, h4⟩
    · rw [h.1, h2 h.2]
    · rw [h, h1 f h3 h4]) en (-1) (Nat.le_refl en) (Or.inl ⟨rfl, fun e a b => absurd b (by omega)⟩))
  obtain ⟨X, k, e⟩ := k
  subst e
  exact k