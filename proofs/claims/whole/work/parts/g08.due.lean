/-! part g08: rings of the class: what is due, and drawing it (gen/tg08.py) -/
theorem vl_I_two {x : Nat} (h : x < 4294967296) : (x < 2147483648 ∧ (vl_I x).toInt = (x : Int)) ∨ (2147483648 ≤ x ∧ (vl_I x).toInt = (x : Int) - 4294967296) := by
  by_cases c : x < 2147483648
  · exact Or.inl ⟨c, vl_I_i c⟩
  · refine Or.inr ⟨by omega, ?_⟩
    show (vl_I x).toBitVec.toInt = _
    rw [BitVec.toInt_eq_toNat_cond, vl_I_n h, if_neg (by omega)]; rfl
/-- what is due at a ring's tail is broken (X: the record's size as it stands there) -/
def vk_bad (Hd Tl X : Nat) : Prop := X < 1 ∨ 256 < X ∨ Hd < Tl + (8 + vm_fill X)
theorem jv_i108 : jv_I 108 2 (some .int) 2 46 jv_c108 := ⟨rfl, rfl, rfl, rfl, rfl⟩
theorem vk_due_b {K : Nat → Option (Nat × Nat)} {I : Nat → Nat → Int32} {L : Nat → Nat → Int64} {R : Nat → Nat → Value} {o st m : Nat} (hT : vk_RW K I R o st m) {hd tl : Int64} {rc bk : Nat} (e7 : L o 7 = hd) (e8 : L o 8 = tl) (e9 : I o 9 = vl_I rc) (e10 : I o 10 = vl_I bk) {n sl : Nat} (hb : bk = 1) {Q : jv_R → Prop} (hQ : Q (some (.int (-22 : Int32)), jv_H K I L R, n, sl)) : jv_Wp 108 0 [(0, .ref o)] [] (jv_H K I L R) n sl Q := by
  obtain ⟨hK0, hK6, hR4, e3, e5, hst, t, ht⟩ := id hT
  refine jv_Wp.lift (fun _ Kz => jv_Ev.steps jv_i108 1 (pc' := 1) (l' := [(0, .ref o)]) (st' := [.ref o]) rfl Kz) ?_
  refine jv_Wp.lift (fun _ Kz => jv_Ev.m jv_i108 (pc' := 4) (st' := [.int (vl_I bk)]) (G' := (jv_H K I L R)) rfl rfl (jv_m_getI hK0 rfl rfl e10) Kz) ?_
  refine jv_Wp.cnd jv_i108 (pt := 10) (pe := 7) (p := ((vl_I bk) = 0)) (q := ((vl_I bk) = 0)) rfl jv_bi_eq rfl rfl Iff.rfl (fun hz => absurd hz (by rw [hb]; decide)) (fun _ => ?_)
  refine jv_Wp.lift (fun _ Kz => jv_Ev.steps jv_i108 1 (pc' := 9) (l' := [(0, .ref o)]) (st' := [.int (-22 : Int32)]) rfl Kz) ?_
  refine jv_Wp.of (jv_Ev.ret jv_i108 rfl rfl) ?_
  exact hQ
theorem vk_due_e {K : Nat → Option (Nat × Nat)} {I : Nat → Nat → Int32} {L : Nat → Nat → Int64} {R : Nat → Nat → Value} {o st m : Nat} (hT : vk_RW K I R o st m) {hd tl : Int64} {rc bk : Nat} (e7 : L o 7 = hd) (e8 : L o 8 = tl) (e9 : I o 9 = vl_I rc) (e10 : I o 10 = vl_I bk) {n sl : Nat} (hb : bk = 0) (hq : hd = tl) {Q : jv_R → Prop} (hQ : Q (some (.int (-2 : Int32)), jv_H K I L R, n, sl)) : jv_Wp 108 0 [(0, .ref o)] [] (jv_H K I L R) n sl Q := by
  obtain ⟨hK0, hK6, hR4, e3, e5, hst, t, ht⟩ := id hT
  refine jv_Wp.lift (fun _ Kz => jv_Ev.steps jv_i108 1 (pc' := 1) (l' := [(0, .ref o)]) (st' := [.ref o]) rfl Kz) ?_
  refine jv_Wp.lift (fun _ Kz => jv_Ev.m jv_i108 (pc' := 4) (st' := [.int (vl_I bk)]) (G' := (jv_H K I L R)) rfl rfl (jv_m_getI hK0 rfl rfl e10) Kz) ?_
  refine jv_Wp.cnd jv_i108 (pt := 10) (pe := 7) (p := ((vl_I bk) = 0)) (q := ((vl_I bk) = 0)) rfl jv_bi_eq rfl rfl Iff.rfl (fun _ => ?_) (fun hz => absurd (by rw [hb]; decide) hz)
  refine jv_Wp.lift (fun _ Kz => jv_Ev.steps jv_i108 1 (pc' := 11) (l' := [(0, .ref o)]) (st' := [.ref o]) rfl Kz) ?_
  refine jv_Wp.lift (fun _ Kz => jv_Ev.m jv_i108 (pc' := 14) (st' := [.long hd]) (G' := (jv_H K I L R)) rfl rfl (jv_m_getL hK0 rfl rfl e7) Kz) ?_
  refine jv_Wp.lift (fun _ Kz => jv_Ev.steps jv_i108 1 (pc' := 15) (l' := [(0, .ref o)]) (st' := [.ref o, .long hd]) rfl Kz) ?_
  refine jv_Wp.lift (fun _ Kz => jv_Ev.m jv_i108 (pc' := 18) (st' := [.long tl, .long hd]) (G' := (jv_H K I L R)) rfl rfl (jv_m_getL hK0 rfl rfl e8) Kz) ?_
  refine jv_Wp.lift (fun _ Kz => jv_Ev.steps jv_i108 1 (pc' := 19) (l' := [(0, .ref o)]) (st' := [.int (lg_cmp hd tl)]) rfl Kz) ?_
  refine jv_Wp.cnd jv_i108 (pt := 25) (pe := 22) (p := (¬ (lg_cmp hd tl) = 0)) (q := (¬ hd = tl)) rfl jv_bi_ne rfl rfl (not_congr (lg_cmp_eq hd tl)) (fun hz => absurd hz (fun z => z hq)) (fun _ => ?_)
  refine jv_Wp.lift (fun _ Kz => jv_Ev.steps jv_i108 1 (pc' := 24) (l' := [(0, .ref o)]) (st' := [.int (-2 : Int32)]) rfl Kz) ?_
  refine jv_Wp.of (jv_Ev.ret jv_i108 rfl rfl) ?_
  exact hQ
theorem vk_due_s {K : Nat → Option (Nat × Nat)} {I : Nat → Nat → Int32} {L : Nat → Nat → Int64} {R : Nat → Nat → Value} {o st m : Nat} (hT : vk_RW K I R o st m) {hd tl : Int64} {rc bk : Nat} (e7 : L o 7 = hd) (e8 : L o 8 = tl) (e9 : I o 9 = vl_I rc) (e10 : I o 10 = vl_I bk) {n sl : Nat} (hb : bk = 0) (hq : ¬ hd = tl) {x fu : Int32} (hSZ : jv_Ms 103 [.ref o, .long tl] (jv_H K I L R) n sl (some (.int x), jv_H K I L R, n, sl)) (hFU : ¬ x < (1 : Int32) → ¬ (256 : Int32) < x → jv_Ms 120 [.int ((8 : Int32) + x)] (jv_H K I L R) n sl (some (.int fu), jv_H K I L R, n, sl)) {bad : Prop} (hb1 : x < (1 : Int32) → bad) (hb2 : (256 : Int32) < x → bad) (hb3 : ¬ x < (1 : Int32) → ¬ (256 : Int32) < x → ¬ (tl + fu.toInt64) ≤ hd → bad) (hgood : ¬ x < (1 : Int32) → ¬ (256 : Int32) < x → (tl + fu.toInt64) ≤ hd → ¬ bad) {Q : jv_R → Prop} (hB : bad → Q (some (.int (-22 : Int32)), jv_H K (jv_u I o 10 (1 : Int32)) L R, n, sl)) (hG : ¬ bad → Q (some (.int x), jv_H K I L R, n, sl)) : jv_Wp 108 0 [(0, .ref o)] [] (jv_H K I L R) n sl Q := by
  obtain ⟨hK0, hK6, hR4, e3, e5, hst, t, ht⟩ := id hT
  have ez : jv_u I o 10 (0 : Int32) = I := by
    have y : (0 : Int32) = I o 10 := by rw [e10, hb]; rfl
    rw [y]; exact jv_u_id I o 10
  refine jv_Wp.lift (fun _ Kz => jv_Ev.steps jv_i108 1 (pc' := 1) (l' := [(0, .ref o)]) (st' := [.ref o]) rfl Kz) ?_
  refine jv_Wp.lift (fun _ Kz => jv_Ev.m jv_i108 (pc' := 4) (st' := [.int (vl_I bk)]) (G' := (jv_H K I L R)) rfl rfl (jv_m_getI hK0 rfl rfl e10) Kz) ?_
  refine jv_Wp.cnd jv_i108 (pt := 10) (pe := 7) (p := ((vl_I bk) = 0)) (q := ((vl_I bk) = 0)) rfl jv_bi_eq rfl rfl Iff.rfl (fun _ => ?_) (fun hz => absurd (by rw [hb]; decide) hz)
  refine jv_Wp.lift (fun _ Kz => jv_Ev.steps jv_i108 1 (pc' := 11) (l' := [(0, .ref o)]) (st' := [.ref o]) rfl Kz) ?_
  refine jv_Wp.lift (fun _ Kz => jv_Ev.m jv_i108 (pc' := 14) (st' := [.long hd]) (G' := (jv_H K I L R)) rfl rfl (jv_m_getL hK0 rfl rfl e7) Kz) ?_
  refine jv_Wp.lift (fun _ Kz => jv_Ev.steps jv_i108 1 (pc' := 15) (l' := [(0, .ref o)]) (st' := [.ref o, .long hd]) rfl Kz) ?_
  refine jv_Wp.lift (fun _ Kz => jv_Ev.m jv_i108 (pc' := 18) (st' := [.long tl, .long hd]) (G' := (jv_H K I L R)) rfl rfl (jv_m_getL hK0 rfl rfl e8) Kz) ?_
  refine jv_Wp.lift (fun _ Kz => jv_Ev.steps jv_i108 1 (pc' := 19) (l' := [(0, .ref o)]) (st' := [.int (lg_cmp hd tl)]) rfl Kz) ?_
  refine jv_Wp.cnd jv_i108 (pt := 25) (pe := 22) (p := (¬ (lg_cmp hd tl) = 0)) (q := (¬ hd = tl)) rfl jv_bi_ne rfl rfl (not_congr (lg_cmp_eq hd tl)) (fun _ => ?_) (fun hz => absurd hq hz)
  refine jv_Wp.lift (fun _ Kz => jv_Ev.steps jv_i108 2 (pc' := 27) (l' := [(0, .ref o)]) (st' := [.ref o, .ref o]) rfl Kz) ?_
  refine jv_Wp.lift (fun _ Kz => jv_Ev.m jv_i108 (pc' := 30) (st' := [.long tl, .ref o]) (G' := (jv_H K I L R)) rfl rfl (jv_m_getL hK0 rfl rfl e8) Kz) ?_
  refine jv_Wp.lift (fun _ Kz => jv_Ev.c jv_i108 (pc' := 33) (S' := [.int x]) jv_i103 [.ref o, .long tl] rfl rfl rfl rfl (jv_cal rfl (jv_H_at hK0) rfl rfl) rfl hSZ rfl rfl Kz) ?_
  refine jv_Wp.lift (fun _ Kz => jv_Ev.steps jv_i108 4 (pc' := 37) (l' := [(1, .int x), (0, .ref o)]) (st' := [.int (1 : Int32), .int x, .ref o]) rfl Kz) ?_
  refine jv_Wp.cnd jv_i108 (pt := 68) (pe := 40) (p := (x < (1 : Int32))) (q := (x < (1 : Int32))) rfl jv_bc_lt rfl rfl Iff.rfl (fun h1 => ?_) (fun h1 => ?_)
  · refine jv_Wp.lift (fun _ Kz => jv_Ev.steps jv_i108 2 (pc' := 73) (l' := [(1, .int x), (0, .ref o)]) (st' := [.int (1 : Int32), .ref o]) rfl Kz) ?_
    refine jv_Wp.lift (fun _ Kz => jv_Ev.m jv_i108 (pc' := 76) (st' := []) (G' := (jv_H K (jv_u I o 10 (1 : Int32)) L R)) rfl rfl (jv_m_putI hK0 rfl rfl rfl (jv_fit_b (Or.inr rfl))) Kz) ?_
    refine jv_Wp.lift (fun _ Kz => jv_Ev.steps jv_i108 1 (pc' := 77) (l' := [(1, .int x), (0, .ref o)]) (st' := [.ref o]) rfl Kz) ?_
    refine jv_Wp.lift (fun _ Kz => jv_Ev.m jv_i108 (pc' := 80) (st' := [.int (1 : Int32)]) (G' := (jv_H K (jv_u I o 10 (1 : Int32)) L R)) rfl rfl (jv_m_getI hK0 rfl rfl (jv_u_self _ _ _ _)) Kz) ?_
    refine jv_Wp.lift (fun _ Kz => jv_Ev.br jv_i108 (pc' := 83) (st' := []) rfl (by rfl) Kz) ?_
    refine jv_Wp.lift (fun _ Kz => jv_Ev.steps jv_i108 2 (pc' := 89) (l' := [(1, .int x), (0, .ref o)]) (st' := [.int (-22 : Int32)]) rfl Kz) ?_
    refine jv_Wp.of (jv_Ev.ret jv_i108 rfl rfl) ?_
    exact hB (hb1 h1)
  · refine jv_Wp.lift (fun _ Kz => jv_Ev.steps jv_i108 2 (pc' := 44) (l' := [(1, .int x), (0, .ref o)]) (st' := [.int (256 : Int32), .int x, .ref o]) rfl Kz) ?_
    refine jv_Wp.cnd jv_i108 (pt := 68) (pe := 47) (p := ((256 : Int32) < x)) (q := ((256 : Int32) < x)) rfl jv_bc_gt rfl rfl Iff.rfl (fun h2 => ?_) (fun h2 => ?_)
    · refine jv_Wp.lift (fun _ Kz => jv_Ev.steps jv_i108 2 (pc' := 73) (l' := [(1, .int x), (0, .ref o)]) (st' := [.int (1 : Int32), .ref o]) rfl Kz) ?_
      refine jv_Wp.lift (fun _ Kz => jv_Ev.m jv_i108 (pc' := 76) (st' := []) (G' := (jv_H K (jv_u I o 10 (1 : Int32)) L R)) rfl rfl (jv_m_putI hK0 rfl rfl rfl (jv_fit_b (Or.inr rfl))) Kz) ?_
      refine jv_Wp.lift (fun _ Kz => jv_Ev.steps jv_i108 1 (pc' := 77) (l' := [(1, .int x), (0, .ref o)]) (st' := [.ref o]) rfl Kz) ?_
      refine jv_Wp.lift (fun _ Kz => jv_Ev.m jv_i108 (pc' := 80) (st' := [.int (1 : Int32)]) (G' := (jv_H K (jv_u I o 10 (1 : Int32)) L R)) rfl rfl (jv_m_getI hK0 rfl rfl (jv_u_self _ _ _ _)) Kz) ?_
      refine jv_Wp.lift (fun _ Kz => jv_Ev.br jv_i108 (pc' := 83) (st' := []) rfl (by rfl) Kz) ?_
      refine jv_Wp.lift (fun _ Kz => jv_Ev.steps jv_i108 2 (pc' := 89) (l' := [(1, .int x), (0, .ref o)]) (st' := [.int (-22 : Int32)]) rfl Kz) ?_
      refine jv_Wp.of (jv_Ev.ret jv_i108 rfl rfl) ?_
      exact hB (hb2 h2)
    · refine jv_Wp.lift (fun _ Kz => jv_Ev.steps jv_i108 1 (pc' := 48) (l' := [(1, .int x), (0, .ref o)]) (st' := [.ref o, .ref o]) rfl Kz) ?_
      refine jv_Wp.lift (fun _ Kz => jv_Ev.m jv_i108 (pc' := 51) (st' := [.long tl, .ref o]) (G' := (jv_H K I L R)) rfl rfl (jv_m_getL hK0 rfl rfl e8) Kz) ?_
      refine jv_Wp.lift (fun _ Kz => jv_Ev.steps jv_i108 3 (pc' := 55) (l' := [(1, .int x), (0, .ref o)]) (st' := [.int ((8 : Int32) + x), .long tl, .ref o]) rfl Kz) ?_
      refine jv_Wp.lift (fun _ Kz => jv_Ev.c jv_i108 (pc' := 58) (S' := [.int fu, .long tl, .ref o]) jv_i120 [.int ((8 : Int32) + x)] rfl rfl rfl rfl rfl rfl (hFU h1 h2) rfl rfl Kz) ?_
      refine jv_Wp.lift (fun _ Kz => jv_Ev.steps jv_i108 3 (pc' := 61) (l' := [(1, .int x), (0, .ref o)]) (st' := [.ref o, .long (tl + fu.toInt64), .ref o]) rfl Kz) ?_
      refine jv_Wp.lift (fun _ Kz => jv_Ev.m jv_i108 (pc' := 64) (st' := [.long hd, .long (tl + fu.toInt64), .ref o]) (G' := (jv_H K I L R)) rfl rfl (jv_m_getL hK0 rfl rfl e7) Kz) ?_
      refine jv_Wp.lift (fun _ Kz => jv_Ev.steps jv_i108 1 (pc' := 65) (l' := [(1, .int x), (0, .ref o)]) (st' := [.int (lg_cmp (tl + fu.toInt64) hd), .ref o]) rfl Kz) ?_
      refine jv_Wp.cnd jv_i108 (pt := 72) (pe := 68) (p := ((lg_cmp (tl + fu.toInt64) hd) ≤ 0)) (q := ((tl + fu.toInt64) ≤ hd)) rfl jv_bi_le rfl rfl (lg_cmp_le (tl + fu.toInt64) hd) (fun h3 => ?_) (fun h3 => ?_)
      · refine jv_Wp.lift (fun _ Kz => jv_Ev.steps jv_i108 1 (pc' := 73) (l' := [(1, .int x), (0, .ref o)]) (st' := [.int (0 : Int32), .ref o]) rfl Kz) ?_
        refine jv_Wp.lift (fun _ Kz => jv_Ev.m jv_i108 (pc' := 76) (st' := []) (G' := (jv_H K (jv_u I o 10 (0 : Int32)) L R)) rfl rfl (jv_m_putI hK0 rfl rfl rfl (jv_fit_b (Or.inl rfl))) Kz) ?_
        refine jv_Wp.lift (fun _ Kz => jv_Ev.steps jv_i108 1 (pc' := 77) (l' := [(1, .int x), (0, .ref o)]) (st' := [.ref o]) rfl Kz) ?_
        refine jv_Wp.lift (fun _ Kz => jv_Ev.m jv_i108 (pc' := 80) (st' := [.int (0 : Int32)]) (G' := (jv_H K (jv_u I o 10 (0 : Int32)) L R)) rfl rfl (jv_m_getI hK0 rfl rfl (jv_u_self _ _ _ _)) Kz) ?_
        refine jv_Wp.lift (fun _ Kz => jv_Ev.br jv_i108 (pc' := 88) (st' := []) rfl (by rfl) Kz) ?_
        refine jv_Wp.lift (fun _ Kz => jv_Ev.steps jv_i108 1 (pc' := 89) (l' := [(1, .int x), (0, .ref o)]) (st' := [.int x]) rfl Kz) ?_
        refine jv_Wp.of (jv_Ev.ret jv_i108 rfl rfl) ?_
        rw [ez]
        exact hG (fun z => hgood h1 h2 h3 z)
      · refine jv_Wp.lift (fun _ Kz => jv_Ev.steps jv_i108 2 (pc' := 73) (l' := [(1, .int x), (0, .ref o)]) (st' := [.int (1 : Int32), .ref o]) rfl Kz) ?_
        refine jv_Wp.lift (fun _ Kz => jv_Ev.m jv_i108 (pc' := 76) (st' := []) (G' := (jv_H K (jv_u I o 10 (1 : Int32)) L R)) rfl rfl (jv_m_putI hK0 rfl rfl rfl (jv_fit_b (Or.inr rfl))) Kz) ?_
        refine jv_Wp.lift (fun _ Kz => jv_Ev.steps jv_i108 1 (pc' := 77) (l' := [(1, .int x), (0, .ref o)]) (st' := [.ref o]) rfl Kz) ?_
        refine jv_Wp.lift (fun _ Kz => jv_Ev.m jv_i108 (pc' := 80) (st' := [.int (1 : Int32)]) (G' := (jv_H K (jv_u I o 10 (1 : Int32)) L R)) rfl rfl (jv_m_getI hK0 rfl rfl (jv_u_self _ _ _ _)) Kz) ?_
        refine jv_Wp.lift (fun _ Kz => jv_Ev.br jv_i108 (pc' := 83) (st' := []) rfl (by rfl) Kz) ?_
        refine jv_Wp.lift (fun _ Kz => jv_Ev.steps jv_i108 2 (pc' := 89) (l' := [(1, .int x), (0, .ref o)]) (st' := [.int (-22 : Int32)]) rfl Kz) ?_
        refine jv_Wp.of (jv_Ev.ret jv_i108 rfl rfl) ?_
        exact hB (hb3 h1 h2 h3)
theorem vk_dueM {K : Nat → Option (Nat × Nat)} {I : Nat → Nat → Int32} {L : Nat → Nat → Int64} {R : Nat → Nat → Value} {o st m : Nat} (hT : vk_RW K I R o st m) {Hd Tl : Nat} (e7 : L o 7 = vm_J Hd) (e8 : L o 8 = vm_J Tl) (hH : Hd < 1099511627776) (hTl : Tl ≤ Hd) {n sl : Nat} : (I o 10 = vl_I 1 → jv_Ms 108 [.ref o] (jv_H K I L R) n sl (some (.int (-22 : Int32)), jv_H K I L R, n, sl)) ∧ (I o 10 = vl_I 0 → Hd = Tl → jv_Ms 108 [.ref o] (jv_H K I L R) n sl (some (.int (-2 : Int32)), jv_H K I L R, n, sl)) ∧ ∀ {B : Nat → Nat}, I o 10 = vl_I 0 → Hd ≠ Tl → (∀ j, j < 4 → I 6 (st + (Tl + j) % m) = vl_sb (B j) ∧ B j < 256) → (vk_bad Hd Tl (vm_le B 0 4) → jv_Ms 108 [.ref o] (jv_H K I L R) n sl (some (.int (-22 : Int32)), jv_H K (jv_u I o 10 (1 : Int32)) L R, n, sl)) ∧ (¬ vk_bad Hd Tl (vm_le B 0 4) → jv_Ms 108 [.ref o] (jv_H K I L R) n sl (some (.int (vl_I (vm_le B 0 4))), jv_H K I L R, n, sl)) := by
  obtain ⟨rc, erc⟩ : ∃ rc, I o 9 = vl_I rc := ⟨(I o 9).toBitVec.toNat, Int32.toBitVec_inj.mp (by show _ = BitVec.ofNat 32 _; rw [BitVec.ofNat_toNat, BitVec.setWidth_eq])⟩
  have key : ∀ {P : jv_R}, jv_Wp 108 0 [(0, .ref o)] [] (jv_H K I L R) n sl (fun X => X = P) → jv_Ms 108 [.ref o] (jv_H K I L R) n sl P := fun h => by
    obtain ⟨X, k, e⟩ := h
    subst e
    exact k
  refine ⟨fun h => key (vk_due_b hT e7 e8 erc h rfl rfl), fun h z => key (vk_due_e hT e7 e8 erc h rfl (by rw [z]) rfl), fun {B} h z hB => ?_⟩
  have hSZ := vk_sizeAt (n := n) (sl := sl) (L := L) hT (c := vm_J Tl) (C := Tl) rfl (by omega) hB
  obtain ⟨X, eX⟩ : ∃ X, X = vm_le B 0 4 := ⟨_, rfl⟩
  have hX : X < 4294967296 := by rw [eX]; exact vm_le_lt 4 0 (fun i hi => by rw [Nat.zero_add]; exact (hB i hi).2)
  rw [← eX] at hSZ ⊢
  have t2 := vl_I_two hX
  have b1 : (vl_I X < (1 : Int32)) ↔ (vl_I X).toInt < 1 := Int32.lt_iff_toInt_lt
  have b2 : ((256 : Int32) < vl_I X) ↔ 256 < (vl_I X).toInt := Int32.lt_iff_toInt_lt
  have hf := vm_fill_ge X
  have b3 : X < 300 → ((vm_J Tl + (vl_I (8 + vm_fill X)).toInt64) ≤ vm_J Hd ↔ Tl + (8 + vm_fill X) ≤ Hd) := fun g => by rw [vm_J_nx (by omega), vm_J_le (by omega) (by omega)]
  have st := fun {P : jv_R} => vk_due_s (n := n) (sl := sl) hT e7 e8 erc h rfl (fun y => z ((vm_J_inj (by omega) (by omega)).mp y)) (x := vl_I X) (fu := vl_I (8 + vm_fill X)) (bad := vk_bad Hd Tl X) hSZ (fun y1 y2 => by
    have hFU := vk_filledUp (K := K) (I := I) (L := L) (R := R) (n := n) (sl := sl) (x := 8 + X) (by have := mt b1.mpr y1; have := mt b2.mpr y2; omega)
    rw [← vl_I_add, vk_fill8] at hFU
    exact hFU) (fun y => by have := b1.mp y; unfold vk_bad; omega) (fun y => by have := b2.mp y; unfold vk_bad; omega) (fun y1 y2 y3 => by
    have a1 := mt b1.mpr y1
    have a2 := mt b2.mpr y2
    have a3 := mt (b3 (by omega)).mpr y3
    unfold vk_bad; omega) (fun y1 y2 y3 => by
    have a1 := mt b1.mpr y1
    have a2 := mt b2.mpr y2
    have a3 := (b3 (by omega)).mp y3
    unfold vk_bad; omega) (Q := fun X => X = P)
  exact ⟨fun g => key (st (fun _ => rfl) (fun y => absurd g y)), fun g => key (st (fun y => absurd y g) (fun _ => rfl))⟩
theorem jv_i109 : jv_I 109 5 none 1 22 jv_c109 := ⟨rfl, rfl, rfl, rfl, rfl⟩
theorem vk_drw_t {K : Nat → Option (Nat × Nat)} {I : Nat → Nat → Int32} {L : Nat → Nat → Int64} {R : Nat → Nat → Value} {o st m : Nat} (hT : vk_RW K I R o st m) {r len a w Tl : Nat} (e8 : L o 8 = vm_J Tl) (hTl : Tl < 1099511627776) (hKr : K r = some (101, len)) (hlen : len < 2147483648) (hr6 : r ≠ 6) (hro : r ≠ o) (ha : a + w ≤ len) (hw : w ≤ 256) (hby : ∀ i, i < 65536 → (I 6 i).toInt8.toInt32 = I 6 i) {n sl : Nat} {Q : jv_R → Prop} {k : Nat} (hk : k < w) (cont : jv_Wp 109 3 [(0, .ref o), (1, .ref r), (2, .int (vl_I a)), (3, .int (vl_I w)), (4, .int (vl_I (k + 1)))] [] (jv_H K (jv_u I r (a + k) (I 6 (st + (Tl + 8 + k) % m))) L R) n sl Q) : jv_Wp 109 3 [(0, .ref o), (1, .ref r), (2, .int (vl_I a)), (3, .int (vl_I w)), (4, .int (vl_I k))] [] (jv_H K I L R) n sl Q := by
  obtain ⟨hK0, hK6, hR4, e3, e5, hst, t, ht⟩ := id hT
  obtain ⟨C, eC⟩ : ∃ C, C = Tl + 8 := ⟨_, rfl⟩
  rw [← eC] at cont
  have hmd := Nat.mod_lt (C + k) (show 0 < m by omega)
  obtain ⟨tl, etl⟩ : ∃ tl, tl = vm_J Tl := ⟨_, rfl⟩
  rw [← etl] at e8
  have hSP := vk_spotM (n := n) (sl := sl) (L := L) hT (c := (tl + (8 : Int64)) + (vl_I k).toInt64) (C := C + k) (by rw [etl, eC, show (8 : Int64) = vm_J 8 from rfl, vm_J_add]; exact vm_J_nx (by omega)) (by omega)
  refine jv_Wp.lift (fun _ Kz => jv_Ev.steps jv_i109 2 (pc' := 6) (l' := [(0, .ref o), (1, .ref r), (2, .int (vl_I a)), (3, .int (vl_I w)), (4, .int (vl_I k))]) (st' := [.int (vl_I w), .int (vl_I k)]) rfl Kz) ?_
  refine jv_Wp.cnd jv_i109 (pt := 42) (pe := 9) (p := ((vl_I w) ≤ (vl_I k))) (q := ((vl_I w) ≤ (vl_I k))) rfl jv_bc_ge rfl rfl Iff.rfl (fun hz => absurd hz (fun z => absurd ((vl_I_le (by omega) (by omega)).mp z) (by omega))) (fun _ => ?_)
  refine jv_Wp.lift (fun _ Kz => jv_Ev.steps jv_i109 5 (pc' := 15) (l' := [(0, .ref o), (1, .ref r), (2, .int (vl_I a)), (3, .int (vl_I w)), (4, .int (vl_I k))]) (st' := [.ref o, .int ((vl_I a) + (vl_I k)), .ref r]) rfl Kz) ?_
  refine jv_Wp.lift (fun _ Kz => jv_Ev.m jv_i109 (pc' := 18) (st' := [.ref 6, .int ((vl_I a) + (vl_I k)), .ref r]) (G' := (jv_H K I L R)) rfl rfl (jv_m_getR hK0 rfl rfl hR4) Kz) ?_
  refine jv_Wp.lift (fun _ Kz => jv_Ev.steps jv_i109 2 (pc' := 20) (l' := [(0, .ref o), (1, .ref r), (2, .int (vl_I a)), (3, .int (vl_I w)), (4, .int (vl_I k))]) (st' := [.ref o, .ref o, .ref 6, .int ((vl_I a) + (vl_I k)), .ref r]) rfl Kz) ?_
  refine jv_Wp.lift (fun _ Kz => jv_Ev.m jv_i109 (pc' := 23) (st' := [.long tl, .ref o, .ref 6, .int ((vl_I a) + (vl_I k)), .ref r]) (G' := (jv_H K I L R)) rfl rfl (jv_m_getL hK0 rfl rfl e8) Kz) ?_
  refine jv_Wp.lift (fun _ Kz => jv_Ev.steps jv_i109 5 (pc' := 31) (l' := [(0, .ref o), (1, .ref r), (2, .int (vl_I a)), (3, .int (vl_I w)), (4, .int (vl_I k))]) (st' := [.long ((tl + (8 : Int64)) + (vl_I k).toInt64), .ref o, .ref 6, .int ((vl_I a) + (vl_I k)), .ref r]) rfl Kz) ?_
  refine jv_Wp.lift (fun _ Kz => jv_Ev.c jv_i109 (pc' := 34) (S' := [.int (vl_I (st + (C + k) % m)), .ref 6, .int ((vl_I a) + (vl_I k)), .ref r]) jv_i101 [.ref o, .long ((tl + (8 : Int64)) + (vl_I k).toInt64)] rfl rfl rfl rfl (jv_cal rfl (jv_H_at hK0) rfl rfl) rfl hSP rfl rfl Kz) ?_
  refine jv_Wp.lift (fun _ Kz => jv_Ev.m jv_i109 (pc' := 35) (st' := [.int (I 6 (st + (C + k) % m)), .int ((vl_I a) + (vl_I k)), .ref r]) (G' := (jv_H K I L R)) rfl rfl (jv_m_baldv hK6 rfl (vl_I_ix (by omega) (by decide)) rfl ((congrArg (I 6) (vl_I_nat (by omega))).trans rfl)) Kz) ?_
  refine jv_Wp.lift (fun _ Kz => jv_Ev.m jv_i109 (pc' := 36) (st' := []) (G' := (jv_H K (jv_u I r (a + k) (I 6 (st + (C + k) % m)).toInt8.toInt32) L R)) rfl rfl (by rw [jv_m_bast hKr (by rw [vl_I_add]; exact vl_I_ix (by omega) (by omega)), (show ((vl_I a) + (vl_I k)).toNatClampNeg = a + k from by rw [show ((vl_I a) + (vl_I k)) = vl_I (a + k) from (vi_a2 rfl rfl rfl)]; exact vl_I_nat (by omega))]) Kz) ?_
  refine jv_Wp.lift (fun _ Kz => jv_Ev.steps jv_i109 2 (pc' := 3) (l' := [(4, .int ((vl_I k) + Int32.ofInt 1)), (0, .ref o), (1, .ref r), (2, .int (vl_I a)), (3, .int (vl_I w))]) (st' := []) rfl Kz) ?_
  refine jv_Wp.loc (l := [(0, .ref o), (1, .ref r), (2, .int (vl_I a)), (3, .int (vl_I w)), (4, .int ((vl_I k) + Int32.ofInt 1))]) ⟨List.forall_mem_cons.mpr ⟨.tail _ (.head _), List.forall_mem_cons.mpr ⟨.tail _ (.tail _ (.head _)), List.forall_mem_cons.mpr ⟨.tail _ (.tail _ (.tail _ (.head _))), List.forall_mem_cons.mpr ⟨.tail _ (.tail _ (.tail _ (.tail _ (.head _)))), List.forall_mem_cons.mpr ⟨.head _, fun _ h => absurd h List.not_mem_nil⟩⟩⟩⟩⟩, by show List.Nodup [4, 0, 1, 2, 3]; decide⟩ ?_
  rw [hby _ (by omega), vk_p1 k]
  exact cont
theorem vk_drw_e {K : Nat → Option (Nat × Nat)} {I : Nat → Nat → Int32} {L : Nat → Nat → Int64} {R : Nat → Nat → Value} {o st m : Nat} (hT : vk_RW K I R o st m) {r len a w Tl : Nat} (e8 : L o 8 = vm_J Tl) (hTl : Tl < 1099511627776) (hKr : K r = some (101, len)) (hlen : len < 2147483648) (hr6 : r ≠ 6) (hro : r ≠ o) (ha : a + w ≤ len) (hw : w ≤ 256) (hby : ∀ i, i < 65536 → (I 6 i).toInt8.toInt32 = I 6 i) {n sl : Nat} {Q : jv_R → Prop} (hQ : Q (none, jv_H K I (jv_u L o 8 (vm_J (Tl + (8 + vm_fill w)))) R, n, sl)) : jv_Wp 109 3 [(0, .ref o), (1, .ref r), (2, .int (vl_I a)), (3, .int (vl_I w)), (4, .int (vl_I w))] [] (jv_H K I L R) n sl Q := by
  obtain ⟨hK0, hK6, hR4, e3, e5, hst, t, ht⟩ := id hT
  have hf := vm_fill_ge w
  have hFU := vk_filledUp (K := K) (I := I) (L := L) (R := R) (n := n) (sl := sl) (x := 8 + w) (by omega)
  rw [← vl_I_add, vk_fill8] at hFU
  rw [← vm_J_nx (by omega)] at hQ
  obtain ⟨tl, etl⟩ : ∃ tl, tl = vm_J Tl := ⟨_, rfl⟩
  rw [← etl] at e8 hQ
  refine jv_Wp.lift (fun _ Kz => jv_Ev.steps jv_i109 2 (pc' := 6) (l' := [(0, .ref o), (1, .ref r), (2, .int (vl_I a)), (3, .int (vl_I w)), (4, .int (vl_I w))]) (st' := [.int (vl_I w), .int (vl_I w)]) rfl Kz) ?_
  refine jv_Wp.cnd jv_i109 (pt := 42) (pe := 9) (p := ((vl_I w) ≤ (vl_I w))) (q := ((vl_I w) ≤ (vl_I w))) rfl jv_bc_ge rfl rfl Iff.rfl (fun _ => ?_) (fun hz => absurd ((vl_I_le (by omega) (by omega)).mpr (by omega)) hz)
  refine jv_Wp.lift (fun _ Kz => jv_Ev.steps jv_i109 2 (pc' := 44) (l' := [(0, .ref o), (1, .ref r), (2, .int (vl_I a)), (3, .int (vl_I w)), (4, .int (vl_I w))]) (st' := [.ref o, .ref o]) rfl Kz) ?_
  refine jv_Wp.lift (fun _ Kz => jv_Ev.m jv_i109 (pc' := 47) (st' := [.long tl, .ref o]) (G' := (jv_H K I L R)) rfl rfl (jv_m_getL hK0 rfl rfl e8) Kz) ?_
  refine jv_Wp.lift (fun _ Kz => jv_Ev.steps jv_i109 3 (pc' := 51) (l' := [(0, .ref o), (1, .ref r), (2, .int (vl_I a)), (3, .int (vl_I w)), (4, .int (vl_I w))]) (st' := [.int ((8 : Int32) + (vl_I w)), .long tl, .ref o]) rfl Kz) ?_
  refine jv_Wp.lift (fun _ Kz => jv_Ev.c jv_i109 (pc' := 54) (S' := [.int (vl_I (8 + vm_fill w)), .long tl, .ref o]) jv_i120 [.int ((8 : Int32) + (vl_I w))] rfl rfl rfl rfl rfl rfl hFU rfl rfl Kz) ?_
  refine jv_Wp.lift (fun _ Kz => jv_Ev.steps jv_i109 2 (pc' := 56) (l' := [(0, .ref o), (1, .ref r), (2, .int (vl_I a)), (3, .int (vl_I w)), (4, .int (vl_I w))]) (st' := [.long (tl + (vl_I (8 + vm_fill w)).toInt64), .ref o]) rfl Kz) ?_
  refine jv_Wp.lift (fun _ Kz => jv_Ev.m jv_i109 (pc' := 59) (st' := []) (G' := (jv_H K I (jv_u L o 8 (tl + (vl_I (8 + vm_fill w)).toInt64)) R)) rfl rfl (jv_m_putL hK0 rfl rfl rfl rfl) Kz) ?_
  refine jv_Wp.of (jv_Ev.ret jv_i109 rfl rfl) ?_
  exact hQ
theorem vk_drw_l {K : Nat → Option (Nat × Nat)} {I : Nat → Nat → Int32} {L : Nat → Nat → Int64} {R : Nat → Nat → Value} {o st m : Nat} (hT : vk_RW K I R o st m) {r len a w Tl : Nat} (e8 : L o 8 = vm_J Tl) (hTl : Tl < 1099511627776) (hKr : K r = some (101, len)) (hlen : len < 2147483648) (hr6 : r ≠ 6) (hro : r ≠ o) (ha : a + w ≤ len) (hw : w ≤ 256) (hby : ∀ i, i < 65536 → (I 6 i).toInt8.toInt32 = I 6 i) {n sl : Nat} {Q : jv_R → Prop} (hQ : Q (none, jv_H K (vm_wr I r a w (fun k => I 6 (st + (Tl + 8 + k) % m))) (jv_u L o 8 (vm_J (Tl + (8 + vm_fill w)))) R, n, sl)) : ∀ d k, k + d = w → jv_Wp 109 3 [(0, .ref o), (1, .ref r), (2, .int (vl_I a)), (3, .int (vl_I w)), (4, .int (vl_I k))] [] (jv_H K (vm_wr I r a k (fun k => I 6 (st + (Tl + 8 + k) % m))) L R) n sl Q
  | 0, k, g => by
    have g : k = w := g
    subst g
    exact vk_drw_e (vk_RW_eq hT (vm_wr_o (fun z => hro z.1.symm)) (vm_wr_o (fun z => hro z.1.symm))) e8 hTl hKr hlen hr6 hro ha hw (fun i hi => by rw [vm_wr_o (fun z => hr6 z.1.symm)]; exact hby i hi) hQ
  | d + 1, k, g => by
    refine vk_drw_t (vk_RW_eq hT (vm_wr_o (fun z => hro z.1.symm)) (vm_wr_o (fun z => hro z.1.symm))) e8 hTl hKr hlen hr6 hro ha hw (fun i hi => by rw [vm_wr_o (fun z => hr6 z.1.symm)]; exact hby i hi) (by omega) ?_
    have y := vm_wr_s I r a k (fun k => I 6 (st + (Tl + 8 + k) % m))
    rw [show vm_wr I r a k (fun k => I 6 (st + (Tl + 8 + k) % m)) 6 (st + (Tl + 8 + k) % m) = I 6 (st + (Tl + 8 + k) % m) from vm_wr_o (fun z => hr6 z.1.symm), y]
    exact vk_drw_l hT e8 hTl hKr hlen hr6 hro ha hw hby hQ d (k + 1) (by omega)
theorem vk_drw_0 {K : Nat → Option (Nat × Nat)} {I : Nat → Nat → Int32} {L : Nat → Nat → Int64} {R : Nat → Nat → Value} {o st m : Nat} (hT : vk_RW K I R o st m) {r len a w Tl : Nat} (e8 : L o 8 = vm_J Tl) (hTl : Tl < 1099511627776) (hKr : K r = some (101, len)) (hlen : len < 2147483648) (hr6 : r ≠ 6) (hro : r ≠ o) (ha : a + w ≤ len) (hw : w ≤ 256) (hby : ∀ i, i < 65536 → (I 6 i).toInt8.toInt32 = I 6 i) {n sl : Nat} {Q : jv_R → Prop} (cont : jv_Wp 109 3 [(0, .ref o), (1, .ref r), (2, .int (vl_I a)), (3, .int (vl_I w)), (4, .int (0 : Int32))] [] (jv_H K I L R) n sl Q) : jv_Wp 109 0 [(0, .ref o), (1, .ref r), (2, .int (vl_I a)), (3, .int (vl_I w))] [] (jv_H K I L R) n sl Q := by
  obtain ⟨hK0, hK6, hR4, e3, e5, hst, t, ht⟩ := id hT
  refine jv_Wp.lift (fun _ Kz => jv_Ev.steps jv_i109 2 (pc' := 3) (l' := [(4, .int (0 : Int32)), (0, .ref o), (1, .ref r), (2, .int (vl_I a)), (3, .int (vl_I w))]) (st' := []) rfl Kz) ?_
  refine jv_Wp.loc (l := [(0, .ref o), (1, .ref r), (2, .int (vl_I a)), (3, .int (vl_I w)), (4, .int (0 : Int32))]) ⟨List.forall_mem_cons.mpr ⟨.tail _ (.head _), List.forall_mem_cons.mpr ⟨.tail _ (.tail _ (.head _)), List.forall_mem_cons.mpr ⟨.tail _ (.tail _ (.tail _ (.head _))), List.forall_mem_cons.mpr ⟨.tail _ (.tail _ (.tail _ (.tail _ (.head _)))), List.forall_mem_cons.mpr ⟨.head _, fun _ h => absurd h List.not_mem_nil⟩⟩⟩⟩⟩, by show List.Nodup [4, 0, 1, 2, 3]; decide⟩ ?_
  exact cont
theorem vk_drawM {K : Nat → Option (Nat × Nat)} {I : Nat → Nat → Int32} {L : Nat → Nat → Int64} {R : Nat → Nat → Value} {o st m : Nat} (hT : vk_RW K I R o st m) {r len a w Tl : Nat} (e8 : L o 8 = vm_J Tl) (hTl : Tl < 1099511627776) (hKr : K r = some (101, len)) (hlen : len < 2147483648) (hr6 : r ≠ 6) (hro : r ≠ o) (ha : a + w ≤ len) (hw : w ≤ 256) (hby : ∀ i, i < 65536 → (I 6 i).toInt8.toInt32 = I 6 i) {n sl : Nat} : jv_Ms 109 [.ref o, .ref r, .int (vl_I a), .int (vl_I w)] (jv_H K I L R) n sl (none, jv_H K (vm_wr I r a w (fun k => I 6 (st + (Tl + 8 + k) % m))) (jv_u L o 8 (vm_J (Tl + (8 + vm_fill w)))) R, n, sl) := by
  have k := vk_drw_l (n := n) (sl := sl) (Q := fun X => X = (none, jv_H K (vm_wr I r a w (fun k => I 6 (st + (Tl + 8 + k) % m))) (jv_u L o 8 (vm_J (Tl + (8 + vm_fill w)))) R, n, sl)) hT e8 hTl hKr hlen hr6 hro ha hw hby rfl w 0 (Nat.zero_add w)
  rw [vm_wr_0] at k
  obtain ⟨X, k, e⟩ := vk_drw_0 hT e8 hTl hKr hlen hr6 hro ha hw hby k
  subst e
  exact k