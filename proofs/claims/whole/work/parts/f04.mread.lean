/-! part f04: reading and writing of the machine, of the class (gen/tf04.py) -/
theorem vm_get_cases {SE AB : Int} {S : vm_S} {a : Int64} {b : Nat} (h : vm_get SE AB S a = some b) : (∃ k, k < 512 ∧ a = vm_a (SE - 512) k ∧ S.2 3 k = 1 ∧ b = S.2 2 k) ∨ (∃ k, k < vm_size S ∧ a = vm_a 1073741824 k ∧ b = S.2 4 k) ∨ (∃ k, 16 ≤ k ∧ k < 64 ∧ a = vm_a 1073745920 k ∧ b = S.2 5 k) ∨ (∃ k, k < 65536 ∧ a = vm_a AB k ∧ vm_led S k ∧ b = S.2 6 k) := by
  unfold vm_get at h
  by_cases c1 : vm_ins a.toInt (SE - 512) 512
  · rw [if_pos c1] at h
    by_cases w : S.2 3 (a.toInt - (SE - 512)).toNat = 1
    · rw [if_pos w] at h
      exact Or.inl ⟨_, by omega, vm_a_of a c1.1, w, (Option.some.inj h).symm⟩
    · rw [if_neg w] at h; cases h
  rw [if_neg c1] at h
  by_cases c2 : vm_ins a.toInt 1073741824 (vm_size S)
  · rw [if_pos c2] at h
    exact Or.inr (Or.inl ⟨_, by omega, vm_a_of a c2.1, (Option.some.inj h).symm⟩)
  rw [if_neg c2] at h
  by_cases c3 : vm_ins a.toInt 1073745920 64
  · rw [if_pos c3] at h
    by_cases w : 16 ≤ a.toInt - 1073745920
    · rw [if_pos w] at h
      exact Or.inr (Or.inr (Or.inl ⟨_, by omega, by omega, vm_a_of a c3.1, (Option.some.inj h).symm⟩))
    · rw [if_neg w] at h; cases h
  rw [if_neg c3] at h
  by_cases c4 : vm_ins a.toInt AB 65536 ∧ vm_led S (a.toInt - AB).toNat
  · rw [if_pos c4] at h
    exact Or.inr (Or.inr (Or.inr ⟨_, by omega, vm_a_of a c4.1.1, c4.2, (Option.some.inj h).symm⟩))
  · rw [if_neg c4] at h; cases h
theorem vm_put_cases {SE AB : Int} {S T : vm_S} {a : Int64} {b : Nat} (h : vm_put SE AB S a b = some T) : (∃ k, k < 512 ∧ a = vm_a (SE - 512) k ∧ T = (S.1, jv_u (jv_u S.2 2 k b) 3 k 1)) ∨ (∃ k, k < vm_size S ∧ a = vm_a 1073741824 k ∧ T = (S.1, jv_u S.2 4 k b)) ∨ (∃ k, 16 ≤ k ∧ k < 64 ∧ a = vm_a 1073745920 k ∧ T = (S.1, jv_u S.2 5 k b)) ∨ (∃ k, k < 65536 ∧ a = vm_a AB k ∧ vm_led S k ∧ T = (S.1, jv_u S.2 6 k b)) := by
  unfold vm_put at h
  by_cases c1 : vm_ins a.toInt (SE - 512) 512
  · rw [if_pos c1] at h
    exact Or.inl ⟨_, by omega, vm_a_of a c1.1, (Option.some.inj h).symm⟩
  rw [if_neg c1] at h
  by_cases c2 : vm_ins a.toInt 1073741824 (vm_size S)
  · rw [if_pos c2] at h
    exact Or.inr (Or.inl ⟨_, by omega, vm_a_of a c2.1, (Option.some.inj h).symm⟩)
  rw [if_neg c2] at h
  by_cases c3 : vm_ins a.toInt 1073745920 64
  · rw [if_pos c3] at h
    by_cases w : 16 ≤ a.toInt - 1073745920
    · rw [if_pos w] at h
      exact Or.inr (Or.inr (Or.inl ⟨_, by omega, by omega, vm_a_of a c3.1, (Option.some.inj h).symm⟩))
    · rw [if_neg w] at h; cases h
  rw [if_neg c3] at h
  by_cases c4 : vm_ins a.toInt AB 65536 ∧ vm_led S (a.toInt - AB).toNat
  · rw [if_pos c4] at h
    exact Or.inr (Or.inr (Or.inr ⟨_, by omega, vm_a_of a c4.1.1, c4.2, (Option.some.inj h).symm⟩))
  · rw [if_neg c4] at h; cases h
/-- what the class reads at an address: also the first bytes of the context -/
def vc_rb (S : vm_S) (a : Int64) (b : Nat) : Prop := vm_get 1073750528 1073807360 S a = some b ∨ ∃ k, k < 16 ∧ a = vm_a 1073745920 k ∧ b = vm_cx S k
theorem vc_readByte {K : Nat → Option (Nat × Nat)} {I : Nat → Nat → Int32} {L : Nat → Nat → Int64} {R : Nat → Nat → Value} (hC : vm_CW K R) {S : vm_S} (h : vm_c I L S) {a : Int64} {b : Nat} (hb : vc_rb S a b) {n sl : Nat} : jv_Ms 59 [.ref 171, .long a] (jv_H K I L R) n sl (some (.int (vl_sb b)), jv_H K I L R, n, sl) ∧ b < 256 := by
  obtain ⟨h1, h2, h3, h4, h5, h6, h7, h8, h9⟩ := id h
  rcases hb with hb | ⟨k, hk, e, eb⟩
  · rcases vm_get_cases hb with ⟨k, hk, e, w, eb⟩ | ⟨k, hk, e, eb⟩ | ⟨k, h16, hk, e, eb⟩ | ⟨k, hk, e, w, eb⟩
    · subst e; subst eb
      have z := (h4 k hk).2.2 w
      rw [← z.1]; exact ⟨vc_readByte_s hC h hk w, z.2⟩
    · subst e; subst eb
      have z := h5 k (by omega)
      rw [← z.1]; exact ⟨vc_readByte_p hC h hk, z.2⟩
    · subst e
      have z := h6 k hk
      have c : vm_cx S k = S.2 5 k := by unfold vm_cx; rw [if_neg (by omega), if_neg (by omega)]
      rw [c, ← eb] at z
      rw [← z.1]; exact ⟨vc_readByte_c hC h hk, z.2⟩
    · subst e; subst eb
      have z := h7 k hk
      rw [← z.1]; exact ⟨vc_readByte_a hC h hk ((h8 k hk).mp w), z.2⟩
  · subst e; subst eb
    have z := h6 k (by omega)
    rw [← z.1]; exact ⟨vc_readByte_c hC h (by omega), z.2⟩
theorem vi_nx {i : Nat} (h : i < 2147483648) : (vl_I i).toInt64 = Int64.ofNat i := by
  refine Int64.toInt_inj.mp ?_
  rw [vi_I64 h, Int64.toInt_ofNat_of_lt (by omega)]
/-! what stays when a byte is put -/
theorem vm_led_u {S : vm_S} {c i x q : Nat} (hc : 2 ≤ c ∧ c ≤ 6) : vm_led (S.1, jv_u S.2 c i x) q ↔ vm_led S q := by
  have e : ∀ d j, (d < 2 ∨ 6 < d) → jv_u S.2 c i x d j = S.2 d j := fun d j z => jv_u_o _ _ _ _ (by omega)
  unfold vm_led vm_cnt vm_at
  simp only [e 0 _ (by omega), e 7 _ (by omega), e 8 _ (by omega), e 10 _ (by omega), e 11 _ (by omega), e 12 _ (by omega)]
theorem vc_m_us {I : Nat → Nat → Int32} {L : Nat → Nat → Int64} {S : vm_S} {k b : Nat} (h : vm_c I L S) (hb : b < 256) : vm_c (jv_u (jv_u I 173 k (vl_sb b)) 174 k 1) L (S.1, jv_u (jv_u S.2 2 k b) 3 k 1) := by
  obtain ⟨h1, h2, h3, h4, h5, h6, h7, h8, h9⟩ := h
  have eI : ∀ q f, q ≠ 173 → q ≠ 174 → jv_u (jv_u I 173 k (vl_sb b)) 174 k 1 q f = I q f := fun q f y z => (jv_u_o _ _ _ _ z).trans (jv_u_o _ _ _ _ y)
  have eS : ∀ c i, c ≠ 2 → c ≠ 3 → jv_u (jv_u S.2 2 k b) 3 k 1 c i = S.2 c i := fun c i y z => (jv_u_o _ _ _ _ z).trans (jv_u_o _ _ _ _ y)
  have el : ∀ q, vm_led (S.1, jv_u (jv_u S.2 2 k b) 3 k 1) q ↔ vm_led S q := fun q => (vm_led_u (S := (S.1, jv_u S.2 2 k b)) (by decide)).trans (vm_led_u (by decide))
  have ez : vm_size (S.1, jv_u (jv_u S.2 2 k b) 3 k 1) = vm_size S := eS 0 0 (by decide) (by decide)
  refine ⟨⟨(eI 2 1 (by decide) (by decide)).trans (by rw [ez]; exact h1.1), by rw [ez]; exact h1.2⟩, fun j hj => ?_, fun j hj g => ?_, fun j hj => ?_, fun j hj => ?_, fun j hj => ?_, fun j hj => ?_, fun q hq => ?_, h9⟩
  · rw [eI 171 2 (by decide) (by decide), h2 j hj]; show _ = decide (jv_u (jv_u S.2 2 k b) 3 k 1 1 j = 1); rw [eS 1 j (by decide) (by decide)]
  · exact h3 j hj ((eS 1 j (by decide) (by decide)).symm.trans g)
  · show jv_u (jv_u I 173 k (vl_sb b)) 174 k 1 174 j = vl_I (jv_u (jv_u S.2 2 k b) 3 k 1 3 j) ∧ jv_u (jv_u S.2 2 k b) 3 k 1 3 j ≤ 1 ∧ (jv_u (jv_u S.2 2 k b) 3 k 1 3 j = 1 → jv_u (jv_u I 173 k (vl_sb b)) 174 k 1 173 j = vl_sb (jv_u (jv_u S.2 2 k b) 3 k 1 2 j) ∧ jv_u (jv_u S.2 2 k b) 3 k 1 2 j < 256)
    rw [jv_u_o (jv_u I 173 k (vl_sb b)) k j 1 (show 173 ≠ 174 by decide), jv_u_o (jv_u S.2 2 k b) k j 1 (show 2 ≠ 3 by decide)]
    by_cases c : j = k
    · subst c; rw [jv_u_self, jv_u_self, jv_u_self, jv_u_self]; exact ⟨rfl, Nat.le_refl 1, fun _ => ⟨rfl, hb⟩⟩
    · repeat rw [jv_u_j _ _ _ _ c]
      exact h4 j hj
  · show jv_u (jv_u I 173 k (vl_sb b)) 174 k 1 3 j = vl_sb (jv_u (jv_u S.2 2 k b) 3 k 1 4 j) ∧ jv_u (jv_u S.2 2 k b) 3 k 1 4 j < 256
    rw [eI 3 j (by decide) (by decide), eS 4 j (by decide) (by decide)]; exact h5 j hj
  · have cx : vm_cx (S.1, jv_u (jv_u S.2 2 k b) 3 k 1) j = vm_cx S j := by
      unfold vm_cx; rw [ez]; show (if j < 8 then _ else if j < 16 then _ else jv_u (jv_u S.2 2 k b) 3 k 1 5 j) = _; rw [eS 5 j (by decide) (by decide)]
    rw [eI 4 j (by decide) (by decide), cx]; exact h6 j hj
  · show jv_u (jv_u I 173 k (vl_sb b)) 174 k 1 6 j = vl_sb (jv_u (jv_u S.2 2 k b) 3 k 1 6 j) ∧ jv_u (jv_u S.2 2 k b) 3 k 1 6 j < 256
    rw [eI 6 j (by decide) (by decide), eS 6 j (by decide) (by decide)]; exact h7 j hj
  · rw [el]; unfold vc_led
    rw [eI 8 _ (by decide) (by decide), eI 9 _ (by decide) (by decide), eI 171 7 (by decide) (by decide)]; exact h8 q hq
/-- a byte of the packet (o = 3, c = 4), of the context (4, 5), of the area (6, 6) -/
theorem vc_m_u1 {I : Nat → Nat → Int32} {L : Nat → Nat → Int64} {S : vm_S} {k b o c : Nat} (h : vm_c I L S) (hb : b < 256) (ho : (o = 3 ∧ c = 4) ∨ (o = 4 ∧ c = 5 ∧ 16 ≤ k) ∨ (o = 6 ∧ c = 6)) : vm_c (jv_u I o k (vl_sb b)) L (S.1, jv_u S.2 c k b) := by
  obtain ⟨h1, h2, h3, h4, h5, h6, h7, h8, h9⟩ := h
  have eI : ∀ q f, q ≠ o → jv_u I o k (vl_sb b) q f = I q f := fun q f y => jv_u_o _ _ _ _ y
  have eS : ∀ d i, d ≠ c → jv_u S.2 c k b d i = S.2 d i := fun d i y => jv_u_o _ _ _ _ y
  have el : ∀ q, vm_led (S.1, jv_u S.2 c k b) q ↔ vm_led S q := fun q => vm_led_u (by omega)
  have ez : vm_size (S.1, jv_u S.2 c k b) = vm_size S := eS 0 0 (by omega)
  have key : ∀ o' c' j, o' ≠ o ∧ c' ≠ c ∨ o' = o ∧ c' = c → (I o' j = vl_sb (S.2 c' j) ∧ S.2 c' j < 256) → jv_u I o k (vl_sb b) o' j = vl_sb (jv_u S.2 c k b c' j) ∧ jv_u S.2 c k b c' j < 256 := fun o' c' j z hj => by
    rcases z with ⟨z1, z2⟩ | ⟨z1, z2⟩
    · rw [eI o' j z1, eS c' j z2]; exact hj
    · subst z1; subst z2
      by_cases e : j = k
      · subst e; rw [jv_u_self, jv_u_self]; exact ⟨rfl, hb⟩
      · rw [jv_u_j _ _ _ _ e, jv_u_j _ _ _ _ e]; exact hj
  refine ⟨⟨(eI 2 1 (by omega)).trans (by rw [ez]; exact h1.1), by rw [ez]; exact h1.2⟩, fun j hj => ?_, fun j hj g => ?_, fun j hj => ?_, fun j hj => ?_, fun j hj => ?_, fun j hj => ?_, fun q hq => ?_, h9⟩
  · rw [eI 171 2 (by omega), h2 j hj]; show _ = decide (jv_u S.2 c k b 1 j = 1); rw [eS 1 j (by omega)]
  · exact h3 j hj ((eS 1 j (by omega)).symm.trans g)
  · show jv_u I o k (vl_sb b) 174 j = vl_I (jv_u S.2 c k b 3 j) ∧ jv_u S.2 c k b 3 j ≤ 1 ∧ (jv_u S.2 c k b 3 j = 1 → jv_u I o k (vl_sb b) 173 j = vl_sb (jv_u S.2 c k b 2 j) ∧ jv_u S.2 c k b 2 j < 256)
    rw [eI 174 j (by omega), eI 173 j (by omega), eS 3 j (by omega), eS 2 j (by omega)]; exact h4 j hj
  · exact key 3 4 j (by omega) (h5 j hj)
  · by_cases j16 : j < 16
    · have cx : vm_cx (S.1, jv_u S.2 c k b) j = vm_cx S j := by unfold vm_cx; rw [ez, if_pos j16, if_pos j16]
      rw [cx]
      by_cases e : o = 4
      · rw [e, jv_u_j _ _ _ _ (show j ≠ k by omega)]; exact h6 j hj
      · rw [eI 4 j (Ne.symm e)]; exact h6 j hj
    · have cx : ∀ T : vm_S, vm_cx T j = T.2 5 j := fun T => by unfold vm_cx; rw [if_neg (by omega), if_neg (by omega)]
      have z := h6 j hj
      rw [cx] at z ⊢
      exact key 4 5 j (by omega) z
  · exact key 6 6 j (by omega) (h7 j hj)
  · rw [el]; unfold vc_led
    rw [eI 8 _ (by omega), eI 9 _ (by omega), eI 171 7 (by omega)]; exact h8 q hq
/-- the cells that writing may change -/
abbrev vc_Ew (q f : Nat) : Prop := q = 3 ∨ (q = 4 ∧ 16 ≤ f) ∨ q = 6 ∨ q = 173 ∨ q = 174
def vc_ff (E : Nat → Nat → Prop) (I : Nat → Nat → Int32) (L : Nat → Nat → Int64) (I1 : Nat → Nat → Int32) (L1 : Nat → Nat → Int64) : Prop := (∀ q f, ¬ E q f → I1 q f = I q f) ∧ ∀ q f, ¬ E q f → L1 q f = L q f
theorem vc_ff_refl (E : Nat → Nat → Prop) (I : Nat → Nat → Int32) (L : Nat → Nat → Int64) : vc_ff E I L I L := ⟨fun _ _ _ => rfl, fun _ _ _ => rfl⟩
theorem vc_ff_trans {E : Nat → Nat → Prop} {I : Nat → Nat → Int32} {L : Nat → Nat → Int64} {I1 : Nat → Nat → Int32} {L1 : Nat → Nat → Int64} {I2 : Nat → Nat → Int32} {L2 : Nat → Nat → Int64} (a : vc_ff E I L I1 L1) (b : vc_ff E I1 L1 I2 L2) : vc_ff E I L I2 L2 := ⟨fun q f z => (b.1 q f z).trans (a.1 q f z), fun q f z => (b.2 q f z).trans (a.2 q f z)⟩
theorem vc_ff_le {E E' : Nat → Nat → Prop} {I : Nat → Nat → Int32} {L : Nat → Nat → Int64} {I1 : Nat → Nat → Int32} {L1 : Nat → Nat → Int64} (h : ∀ q f, E q f → E' q f) (a : vc_ff E I L I1 L1) : vc_ff E' I L I1 L1 := ⟨fun q f z => a.1 q f (fun y => z (h q f y)), fun q f z => a.2 q f (fun y => z (h q f y))⟩
theorem vc_ff_u {E : Nat → Nat → Prop} {I : Nat → Nat → Int32} {L : Nat → Nat → Int64} {o k : Nat} {x : Int32} (h : E o k) : vc_ff E I L (jv_u I o k x) L := ⟨fun q f z => by
    by_cases c : q = o
    · subst c; exact jv_u_j _ _ _ _ (fun y => z (y ▸ h))
    · exact jv_u_o _ _ _ _ c, fun _ _ _ => rfl⟩
theorem jv_i61 : jv_I 61 4 none 1 24 jv_c61 := ⟨rfl, rfl, rfl, rfl, rfl⟩
theorem vc_writeByte_s_0 {K : Nat → Option (Nat × Nat)} {I : Nat → Nat → Int32} {L : Nat → Nat → Int64} {R : Nat → Nat → Value} (hC : vm_CW K R) {S : vm_S} (h : vm_c I L S) {k : Nat} (hk : k < 512) {b : Nat} (hb : b < 256) {n sl : Nat} {Q : jv_R → Prop} (hQ : Q (none, jv_H K (jv_u (jv_u I 173 k (vl_sb b)) 174 k 1) L R, n, sl)) : jv_Wp 61 0 [(0, .ref 171), (1, .long (vm_a 1073750016 k)), (3, .int (vl_sb b))] [] (jv_H K I L R) n sl Q := by
  have hs0 := h.1.2
  have hsz : ((1073741824 : Int64) + (I 2 1).toInt64).toInt = 1073741824 + (vm_size S : Int) := vm_psz (by decide) h.1.1 hs0
  refine jv_Wp.lift (fun _ Kz => jv_Ev.steps jv_i61 3 (pc' := 5) (l' := [(0, .ref 171), (1, .long (vm_a 1073750016 k)), (3, .int (vl_sb b))]) (st' := [.int (lg_cmp (vm_a 1073750016 k) (1073750016 : Int64))]) rfl Kz) ?_
  refine jv_Wp.cnd jv_i61 (pt := 43) (pe := 8) (p := ((lg_cmp (vm_a 1073750016 k) (1073750016 : Int64)) < 0)) (q := ((vm_a 1073750016 k) < (1073750016 : Int64))) rfl jv_bi_lt rfl rfl (lg_cmp_lt (vm_a 1073750016 k) (1073750016 : Int64)) (fun hz => absurd hz (fun z => absurd ((vm_a_lt (d := 1073750016) (by decide) (by decide) (by omega)).mp z) (by omega))) (fun _ => ?_)
  refine jv_Wp.lift (fun _ Kz => jv_Ev.steps jv_i61 3 (pc' := 13) (l' := [(0, .ref 171), (1, .long (vm_a 1073750016 k)), (3, .int (vl_sb b))]) (st' := [.int (lg_cmp (vm_a 1073750016 k) (1073750528 : Int64))]) rfl Kz) ?_
  refine jv_Wp.cnd jv_i61 (pt := 43) (pe := 16) (p := (0 ≤ (lg_cmp (vm_a 1073750016 k) (1073750528 : Int64)))) (q := ((1073750528 : Int64) ≤ (vm_a 1073750016 k))) rfl jv_bi_ge rfl rfl (lg_cmp_ge (vm_a 1073750016 k) (1073750528 : Int64)) (fun hz => absurd hz (fun z => absurd ((vm_a_ge (d := 1073750528) (by decide) (by decide) (by omega)).mp z) (by omega))) (fun _ => ?_)
  refine jv_Wp.lift (fun _ Kz => jv_Ev.steps jv_i61 1 (pc' := 17) (l' := [(0, .ref 171), (1, .long (vm_a 1073750016 k)), (3, .int (vl_sb b))]) (st' := [.ref 171]) rfl Kz) ?_
  refine jv_Wp.lift (fun _ Kz => jv_Ev.m jv_i61 (pc' := 20) (st' := [.ref 173]) (G' := (jv_H K I L R)) rfl rfl (jv_m_getR (vm_cK hC 171 2 13 (by decide)) rfl rfl (vm_cR hC 171 3 173 (by decide))) Kz) ?_
  refine jv_Wp.lift (fun _ Kz => jv_Ev.steps jv_i61 5 (pc' := 27) (l' := [(0, .ref 171), (1, .long (vm_a 1073750016 k)), (3, .int (vl_sb b))]) (st' := [.int (vl_sb b), .int ((vm_a 1073750016 k) - (1073750016 : Int64)).toInt32, .ref 173]) rfl Kz) ?_
  refine jv_Wp.lift (fun _ Kz => jv_Ev.m jv_i61 (pc' := 28) (st' := []) (G' := (jv_H K (jv_u I 173 k (vl_sb b).toInt8.toInt32) L R)) rfl rfl (by rw [jv_m_bast (vm_cK hC 173 101 512 (by decide)) (by rw [show ((vm_a 1073750016 k) - (1073750016 : Int64)).toInt32 = vl_I (k) from (vm_a_sub (d := 0) (by decide) (by decide) (by omega) (by decide))]; exact vl_I_ix (by omega) (by first | omega | decide)), (show ((vm_a 1073750016 k) - (1073750016 : Int64)).toInt32.toNatClampNeg = k from by rw [show ((vm_a 1073750016 k) - (1073750016 : Int64)).toInt32 = vl_I (k) from (vm_a_sub (d := 0) (by decide) (by decide) (by omega) (by decide))]; exact vl_I_nat (by omega))]) Kz) ?_
  refine jv_Wp.lift (fun _ Kz => jv_Ev.steps jv_i61 1 (pc' := 29) (l' := [(0, .ref 171), (1, .long (vm_a 1073750016 k)), (3, .int (vl_sb b))]) (st' := [.ref 171]) rfl Kz) ?_
  refine jv_Wp.lift (fun _ Kz => jv_Ev.m jv_i61 (pc' := 32) (st' := [.ref 174]) (G' := (jv_H K (jv_u I 173 k (vl_sb b).toInt8.toInt32) L R)) rfl rfl (jv_m_getR (vm_cK hC 171 2 13 (by decide)) rfl rfl (vm_cR hC 171 4 174 (by decide))) Kz) ?_
  refine jv_Wp.lift (fun _ Kz => jv_Ev.steps jv_i61 5 (pc' := 39) (l' := [(0, .ref 171), (1, .long (vm_a 1073750016 k)), (3, .int (vl_sb b))]) (st' := [.int (1 : Int32), .int ((vm_a 1073750016 k) - (1073750016 : Int64)).toInt32, .ref 174]) rfl Kz) ?_
  refine jv_Wp.lift (fun _ Kz => jv_Ev.m jv_i61 (pc' := 40) (st' := []) (G' := (jv_H K (jv_u (jv_u I 173 k (vl_sb b).toInt8.toInt32) 174 k ((1 : Int32) &&& 1)) L R)) rfl rfl (by rw [jv_m_zast (vm_cK hC 174 100 512 (by decide)) (by rw [show ((vm_a 1073750016 k) - (1073750016 : Int64)).toInt32 = vl_I (k) from (vm_a_sub (d := 0) (by decide) (by decide) (by omega) (by decide))]; exact vl_I_ix (by omega) (by first | omega | decide)), (show ((vm_a 1073750016 k) - (1073750016 : Int64)).toInt32.toNatClampNeg = k from by rw [show ((vm_a 1073750016 k) - (1073750016 : Int64)).toInt32 = vl_I (k) from (vm_a_sub (d := 0) (by decide) (by decide) (by omega) (by decide))]; exact vl_I_nat (by omega))]) Kz) ?_
  refine jv_Wp.lift (fun _ Kz => jv_Ev.steps jv_i61 1 (pc' := 167) (l' := [(0, .ref 171), (1, .long (vm_a 1073750016 k)), (3, .int (vl_sb b))]) (st' := []) rfl Kz) ?_
  refine jv_Wp.of (jv_Ev.ret jv_i61 rfl rfl) ?_
  rw [vl_sb_sb hb]
  exact hQ
theorem vc_writeByte_s {K : Nat → Option (Nat × Nat)} {I : Nat → Nat → Int32} {L : Nat → Nat → Int64} {R : Nat → Nat → Value} (hC : vm_CW K R) {S : vm_S} (h : vm_c I L S) {k : Nat} (hk : k < 512) {b : Nat} (hb : b < 256) {n sl : Nat} : jv_Ms 61 [.ref 171, .long (vm_a 1073750016 k), .int (vl_sb b)] (jv_H K I L R) n sl (none, jv_H K (jv_u (jv_u I 173 k (vl_sb b)) 174 k 1) L R, n, sl) := by
  obtain ⟨X, k, e⟩ := vc_writeByte_s_0 (n := n) (sl := sl) (I := I) (L := L) (Q := fun X => X = (none, jv_H K (jv_u (jv_u I 173 k (vl_sb b)) 174 k 1) L R, n, sl)) hC h hk hb rfl
  subst e
  exact k
theorem vc_writeByte_p_0 {K : Nat → Option (Nat × Nat)} {I : Nat → Nat → Int32} {L : Nat → Nat → Int64} {R : Nat → Nat → Value} (hC : vm_CW K R) {S : vm_S} (h : vm_c I L S) {k : Nat} (hk : k < vm_size S) {b : Nat} (hb : b < 256) {n sl : Nat} {Q : jv_R → Prop} (hQ : Q (none, jv_H K (jv_u I 3 k (vl_sb b)) L R, n, sl)) : jv_Wp 61 0 [(0, .ref 171), (1, .long (vm_a 1073741824 k)), (3, .int (vl_sb b))] [] (jv_H K I L R) n sl Q := by
  have hs0 := h.1.2
  have hsz : ((1073741824 : Int64) + (I 2 1).toInt64).toInt = 1073741824 + (vm_size S : Int) := vm_psz (by decide) h.1.1 hs0
  refine jv_Wp.lift (fun _ Kz => jv_Ev.steps jv_i61 3 (pc' := 5) (l' := [(0, .ref 171), (1, .long (vm_a 1073741824 k)), (3, .int (vl_sb b))]) (st' := [.int (lg_cmp (vm_a 1073741824 k) (1073750016 : Int64))]) rfl Kz) ?_
  refine jv_Wp.cnd jv_i61 (pt := 43) (pe := 8) (p := ((lg_cmp (vm_a 1073741824 k) (1073750016 : Int64)) < 0)) (q := ((vm_a 1073741824 k) < (1073750016 : Int64))) rfl jv_bi_lt rfl rfl (lg_cmp_lt (vm_a 1073741824 k) (1073750016 : Int64)) (fun _ => ?_) (fun hz => absurd ((vm_a_lt (d := 1073750016) (by decide) (by decide) (by omega)).mpr (by omega)) hz)
  refine jv_Wp.lift (fun _ Kz => jv_Ev.steps jv_i61 3 (pc' := 48) (l' := [(0, .ref 171), (1, .long (vm_a 1073741824 k)), (3, .int (vl_sb b))]) (st' := [.int (lg_cmp (vm_a 1073741824 k) (1073741824 : Int64))]) rfl Kz) ?_
  refine jv_Wp.cnd jv_i61 (pt := 86) (pe := 51) (p := ((lg_cmp (vm_a 1073741824 k) (1073741824 : Int64)) < 0)) (q := ((vm_a 1073741824 k) < (1073741824 : Int64))) rfl jv_bi_lt rfl rfl (lg_cmp_lt (vm_a 1073741824 k) (1073741824 : Int64)) (fun hz => absurd hz (fun z => absurd ((vm_a_lt (d := 1073741824) (by decide) (by decide) (by omega)).mp z) (by omega))) (fun _ => ?_)
  refine jv_Wp.lift (fun _ Kz => jv_Ev.steps jv_i61 3 (pc' := 56) (l' := [(0, .ref 171), (1, .long (vm_a 1073741824 k)), (3, .int (vl_sb b))]) (st' := [.ref 171, .long (1073741824 : Int64), .long (vm_a 1073741824 k)]) rfl Kz) ?_
  refine jv_Wp.lift (fun _ Kz => jv_Ev.m jv_i61 (pc' := 59) (st' := [.ref 2, .long (1073741824 : Int64), .long (vm_a 1073741824 k)]) (G' := (jv_H K I L R)) rfl rfl (jv_m_getR (vm_cK hC 171 2 13 (by decide)) rfl rfl (vm_cR hC 171 0 2 (by decide))) Kz) ?_
  refine jv_Wp.lift (fun _ Kz => jv_Ev.m jv_i61 (pc' := 62) (st' := [.int (I 2 1), .long (1073741824 : Int64), .long (vm_a 1073741824 k)]) (G' := (jv_H K I L R)) rfl rfl (jv_m_getI (vm_cK hC 2 6 11 (by decide)) rfl rfl rfl) Kz) ?_
  refine jv_Wp.lift (fun _ Kz => jv_Ev.steps jv_i61 3 (pc' := 65) (l' := [(0, .ref 171), (1, .long (vm_a 1073741824 k)), (3, .int (vl_sb b))]) (st' := [.int (lg_cmp (vm_a 1073741824 k) ((1073741824 : Int64) + (I 2 1).toInt64))]) rfl Kz) ?_
  refine jv_Wp.cnd jv_i61 (pt := 86) (pe := 68) (p := (0 ≤ (lg_cmp (vm_a 1073741824 k) ((1073741824 : Int64) + (I 2 1).toInt64)))) (q := (((1073741824 : Int64) + (I 2 1).toInt64) ≤ (vm_a 1073741824 k))) rfl jv_bi_ge rfl rfl (lg_cmp_ge (vm_a 1073741824 k) ((1073741824 : Int64) + (I 2 1).toInt64)) (fun hz => absurd hz (fun z => absurd ((vm_a_ge (d := (1073741824 + (vm_size S : Int))) hsz (by decide) (by omega)).mp z) (by omega))) (fun _ => ?_)
  refine jv_Wp.lift (fun _ Kz => jv_Ev.steps jv_i61 1 (pc' := 69) (l' := [(0, .ref 171), (1, .long (vm_a 1073741824 k)), (3, .int (vl_sb b))]) (st' := [.ref 171]) rfl Kz) ?_
  refine jv_Wp.lift (fun _ Kz => jv_Ev.m jv_i61 (pc' := 72) (st' := [.ref 2]) (G' := (jv_H K I L R)) rfl rfl (jv_m_getR (vm_cK hC 171 2 13 (by decide)) rfl rfl (vm_cR hC 171 0 2 (by decide))) Kz) ?_
  refine jv_Wp.lift (fun _ Kz => jv_Ev.m jv_i61 (pc' := 75) (st' := [.ref 3]) (G' := (jv_H K I L R)) rfl rfl (jv_m_getR (vm_cK hC 2 6 11 (by decide)) rfl rfl (vm_cR hC 2 0 3 (by decide))) Kz) ?_
  refine jv_Wp.lift (fun _ Kz => jv_Ev.steps jv_i61 5 (pc' := 82) (l' := [(0, .ref 171), (1, .long (vm_a 1073741824 k)), (3, .int (vl_sb b))]) (st' := [.int (vl_sb b), .int ((vm_a 1073741824 k) - (1073741824 : Int64)).toInt32, .ref 3]) rfl Kz) ?_
  refine jv_Wp.lift (fun _ Kz => jv_Ev.m jv_i61 (pc' := 83) (st' := []) (G' := (jv_H K (jv_u I 3 k (vl_sb b).toInt8.toInt32) L R)) rfl rfl (by rw [jv_m_bast (vm_cK hC 3 101 2048 (by decide)) (by rw [show ((vm_a 1073741824 k) - (1073741824 : Int64)).toInt32 = vl_I (k) from (vm_a_sub (d := 0) (by decide) (by decide) (by omega) (by decide))]; exact vl_I_ix (by omega) (by first | omega | decide)), (show ((vm_a 1073741824 k) - (1073741824 : Int64)).toInt32.toNatClampNeg = k from by rw [show ((vm_a 1073741824 k) - (1073741824 : Int64)).toInt32 = vl_I (k) from (vm_a_sub (d := 0) (by decide) (by decide) (by omega) (by decide))]; exact vl_I_nat (by omega))]) Kz) ?_
  refine jv_Wp.lift (fun _ Kz => jv_Ev.steps jv_i61 1 (pc' := 167) (l' := [(0, .ref 171), (1, .long (vm_a 1073741824 k)), (3, .int (vl_sb b))]) (st' := []) rfl Kz) ?_
  refine jv_Wp.of (jv_Ev.ret jv_i61 rfl rfl) ?_
  rw [vl_sb_sb hb]
  exact hQ
theorem vc_writeByte_p {K : Nat → Option (Nat × Nat)} {I : Nat → Nat → Int32} {L : Nat → Nat → Int64} {R : Nat → Nat → Value} (hC : vm_CW K R) {S : vm_S} (h : vm_c I L S) {k : Nat} (hk : k < vm_size S) {b : Nat} (hb : b < 256) {n sl : Nat} : jv_Ms 61 [.ref 171, .long (vm_a 1073741824 k), .int (vl_sb b)] (jv_H K I L R) n sl (none, jv_H K (jv_u I 3 k (vl_sb b)) L R, n, sl) := by
  obtain ⟨X, k, e⟩ := vc_writeByte_p_0 (n := n) (sl := sl) (I := I) (L := L) (Q := fun X => X = (none, jv_H K (jv_u I 3 k (vl_sb b)) L R, n, sl)) hC h hk hb rfl
  subst e
  exact k
theorem vc_writeByte_c_0 {K : Nat → Option (Nat × Nat)} {I : Nat → Nat → Int32} {L : Nat → Nat → Int64} {R : Nat → Nat → Value} (hC : vm_CW K R) {S : vm_S} (h : vm_c I L S) {k : Nat} (hk : k < 64) {b : Nat} (hb : b < 256) {n sl : Nat} {Q : jv_R → Prop} (hQ : Q (none, jv_H K (jv_u I 4 k (vl_sb b)) L R, n, sl)) : jv_Wp 61 0 [(0, .ref 171), (1, .long (vm_a 1073745920 k)), (3, .int (vl_sb b))] [] (jv_H K I L R) n sl Q := by
  have hs0 := h.1.2
  have hsz : ((1073741824 : Int64) + (I 2 1).toInt64).toInt = 1073741824 + (vm_size S : Int) := vm_psz (by decide) h.1.1 hs0
  refine jv_Wp.lift (fun _ Kz => jv_Ev.steps jv_i61 3 (pc' := 5) (l' := [(0, .ref 171), (1, .long (vm_a 1073745920 k)), (3, .int (vl_sb b))]) (st' := [.int (lg_cmp (vm_a 1073745920 k) (1073750016 : Int64))]) rfl Kz) ?_
  refine jv_Wp.cnd jv_i61 (pt := 43) (pe := 8) (p := ((lg_cmp (vm_a 1073745920 k) (1073750016 : Int64)) < 0)) (q := ((vm_a 1073745920 k) < (1073750016 : Int64))) rfl jv_bi_lt rfl rfl (lg_cmp_lt (vm_a 1073745920 k) (1073750016 : Int64)) (fun _ => ?_) (fun hz => absurd ((vm_a_lt (d := 1073750016) (by decide) (by decide) (by omega)).mpr (by omega)) hz)
  refine jv_Wp.lift (fun _ Kz => jv_Ev.steps jv_i61 3 (pc' := 48) (l' := [(0, .ref 171), (1, .long (vm_a 1073745920 k)), (3, .int (vl_sb b))]) (st' := [.int (lg_cmp (vm_a 1073745920 k) (1073741824 : Int64))]) rfl Kz) ?_
  refine jv_Wp.cnd jv_i61 (pt := 86) (pe := 51) (p := ((lg_cmp (vm_a 1073745920 k) (1073741824 : Int64)) < 0)) (q := ((vm_a 1073745920 k) < (1073741824 : Int64))) rfl jv_bi_lt rfl rfl (lg_cmp_lt (vm_a 1073745920 k) (1073741824 : Int64)) (fun hz => absurd hz (fun z => absurd ((vm_a_lt (d := 1073741824) (by decide) (by decide) (by omega)).mp z) (by omega))) (fun _ => ?_)
  refine jv_Wp.lift (fun _ Kz => jv_Ev.steps jv_i61 3 (pc' := 56) (l' := [(0, .ref 171), (1, .long (vm_a 1073745920 k)), (3, .int (vl_sb b))]) (st' := [.ref 171, .long (1073741824 : Int64), .long (vm_a 1073745920 k)]) rfl Kz) ?_
  refine jv_Wp.lift (fun _ Kz => jv_Ev.m jv_i61 (pc' := 59) (st' := [.ref 2, .long (1073741824 : Int64), .long (vm_a 1073745920 k)]) (G' := (jv_H K I L R)) rfl rfl (jv_m_getR (vm_cK hC 171 2 13 (by decide)) rfl rfl (vm_cR hC 171 0 2 (by decide))) Kz) ?_
  refine jv_Wp.lift (fun _ Kz => jv_Ev.m jv_i61 (pc' := 62) (st' := [.int (I 2 1), .long (1073741824 : Int64), .long (vm_a 1073745920 k)]) (G' := (jv_H K I L R)) rfl rfl (jv_m_getI (vm_cK hC 2 6 11 (by decide)) rfl rfl rfl) Kz) ?_
  refine jv_Wp.lift (fun _ Kz => jv_Ev.steps jv_i61 3 (pc' := 65) (l' := [(0, .ref 171), (1, .long (vm_a 1073745920 k)), (3, .int (vl_sb b))]) (st' := [.int (lg_cmp (vm_a 1073745920 k) ((1073741824 : Int64) + (I 2 1).toInt64))]) rfl Kz) ?_
  refine jv_Wp.cnd jv_i61 (pt := 86) (pe := 68) (p := (0 ≤ (lg_cmp (vm_a 1073745920 k) ((1073741824 : Int64) + (I 2 1).toInt64)))) (q := (((1073741824 : Int64) + (I 2 1).toInt64) ≤ (vm_a 1073745920 k))) rfl jv_bi_ge rfl rfl (lg_cmp_ge (vm_a 1073745920 k) ((1073741824 : Int64) + (I 2 1).toInt64)) (fun _ => ?_) (fun hz => absurd ((vm_a_ge (d := (1073741824 + (vm_size S : Int))) hsz (by decide) (by omega)).mpr (by omega)) hz)
  refine jv_Wp.lift (fun _ Kz => jv_Ev.steps jv_i61 3 (pc' := 91) (l' := [(0, .ref 171), (1, .long (vm_a 1073745920 k)), (3, .int (vl_sb b))]) (st' := [.int (lg_cmp (vm_a 1073745920 k) (1073745920 : Int64))]) rfl Kz) ?_
  refine jv_Wp.cnd jv_i61 (pt := 120) (pe := 94) (p := ((lg_cmp (vm_a 1073745920 k) (1073745920 : Int64)) < 0)) (q := ((vm_a 1073745920 k) < (1073745920 : Int64))) rfl jv_bi_lt rfl rfl (lg_cmp_lt (vm_a 1073745920 k) (1073745920 : Int64)) (fun hz => absurd hz (fun z => absurd ((vm_a_lt (d := 1073745920) (by decide) (by decide) (by omega)).mp z) (by omega))) (fun _ => ?_)
  refine jv_Wp.lift (fun _ Kz => jv_Ev.steps jv_i61 3 (pc' := 99) (l' := [(0, .ref 171), (1, .long (vm_a 1073745920 k)), (3, .int (vl_sb b))]) (st' := [.int (lg_cmp (vm_a 1073745920 k) (1073745984 : Int64))]) rfl Kz) ?_
  refine jv_Wp.cnd jv_i61 (pt := 120) (pe := 102) (p := (0 ≤ (lg_cmp (vm_a 1073745920 k) (1073745984 : Int64)))) (q := ((1073745984 : Int64) ≤ (vm_a 1073745920 k))) rfl jv_bi_ge rfl rfl (lg_cmp_ge (vm_a 1073745920 k) (1073745984 : Int64)) (fun hz => absurd hz (fun z => absurd ((vm_a_ge (d := 1073745984) (by decide) (by decide) (by omega)).mp z) (by omega))) (fun _ => ?_)
  refine jv_Wp.lift (fun _ Kz => jv_Ev.steps jv_i61 1 (pc' := 103) (l' := [(0, .ref 171), (1, .long (vm_a 1073745920 k)), (3, .int (vl_sb b))]) (st' := [.ref 171]) rfl Kz) ?_
  refine jv_Wp.lift (fun _ Kz => jv_Ev.m jv_i61 (pc' := 106) (st' := [.ref 2]) (G' := (jv_H K I L R)) rfl rfl (jv_m_getR (vm_cK hC 171 2 13 (by decide)) rfl rfl (vm_cR hC 171 0 2 (by decide))) Kz) ?_
  refine jv_Wp.lift (fun _ Kz => jv_Ev.m jv_i61 (pc' := 109) (st' := [.ref 4]) (G' := (jv_H K I L R)) rfl rfl (jv_m_getR (vm_cK hC 2 6 11 (by decide)) rfl rfl (vm_cR hC 2 2 4 (by decide))) Kz) ?_
  refine jv_Wp.lift (fun _ Kz => jv_Ev.steps jv_i61 5 (pc' := 116) (l' := [(0, .ref 171), (1, .long (vm_a 1073745920 k)), (3, .int (vl_sb b))]) (st' := [.int (vl_sb b), .int ((vm_a 1073745920 k) - (1073745920 : Int64)).toInt32, .ref 4]) rfl Kz) ?_
  refine jv_Wp.lift (fun _ Kz => jv_Ev.m jv_i61 (pc' := 117) (st' := []) (G' := (jv_H K (jv_u I 4 k (vl_sb b).toInt8.toInt32) L R)) rfl rfl (by rw [jv_m_bast (vm_cK hC 4 101 64 (by decide)) (by rw [show ((vm_a 1073745920 k) - (1073745920 : Int64)).toInt32 = vl_I (k) from (vm_a_sub (d := 0) (by decide) (by decide) (by omega) (by decide))]; exact vl_I_ix (by omega) (by first | omega | decide)), (show ((vm_a 1073745920 k) - (1073745920 : Int64)).toInt32.toNatClampNeg = k from by rw [show ((vm_a 1073745920 k) - (1073745920 : Int64)).toInt32 = vl_I (k) from (vm_a_sub (d := 0) (by decide) (by decide) (by omega) (by decide))]; exact vl_I_nat (by omega))]) Kz) ?_
  refine jv_Wp.lift (fun _ Kz => jv_Ev.steps jv_i61 1 (pc' := 167) (l' := [(0, .ref 171), (1, .long (vm_a 1073745920 k)), (3, .int (vl_sb b))]) (st' := []) rfl Kz) ?_
  refine jv_Wp.of (jv_Ev.ret jv_i61 rfl rfl) ?_
  rw [vl_sb_sb hb]
  exact hQ
theorem vc_writeByte_c {K : Nat → Option (Nat × Nat)} {I : Nat → Nat → Int32} {L : Nat → Nat → Int64} {R : Nat → Nat → Value} (hC : vm_CW K R) {S : vm_S} (h : vm_c I L S) {k : Nat} (hk : k < 64) {b : Nat} (hb : b < 256) {n sl : Nat} : jv_Ms 61 [.ref 171, .long (vm_a 1073745920 k), .int (vl_sb b)] (jv_H K I L R) n sl (none, jv_H K (jv_u I 4 k (vl_sb b)) L R, n, sl) := by
  obtain ⟨X, k, e⟩ := vc_writeByte_c_0 (n := n) (sl := sl) (I := I) (L := L) (Q := fun X => X = (none, jv_H K (jv_u I 4 k (vl_sb b)) L R, n, sl)) hC h hk hb rfl
  subst e
  exact k
theorem vc_writeByte_a_0 {K : Nat → Option (Nat × Nat)} {I : Nat → Nat → Int32} {L : Nat → Nat → Int64} {R : Nat → Nat → Value} (hC : vm_CW K R) {S : vm_S} (h : vm_c I L S) {k : Nat} (hk : k < 65536) (hex : vc_led I k) {b : Nat} (hb : b < 256) {n sl : Nat} {Q : jv_R → Prop} (hQ : Q (none, jv_H K (jv_u I 6 k (vl_sb b)) L R, n, sl)) : jv_Wp 61 0 [(0, .ref 171), (1, .long (vm_a 1073807360 k)), (3, .int (vl_sb b))] [] (jv_H K I L R) n sl Q := by
  have hs0 := h.1.2
  have hsz : ((1073741824 : Int64) + (I 2 1).toInt64).toInt = 1073741824 + (vm_size S : Int) := vm_psz (by decide) h.1.1 hs0
  refine jv_Wp.lift (fun _ Kz => jv_Ev.steps jv_i61 3 (pc' := 5) (l' := [(0, .ref 171), (1, .long (vm_a 1073807360 k)), (3, .int (vl_sb b))]) (st' := [.int (lg_cmp (vm_a 1073807360 k) (1073750016 : Int64))]) rfl Kz) ?_
  refine jv_Wp.cnd jv_i61 (pt := 43) (pe := 8) (p := ((lg_cmp (vm_a 1073807360 k) (1073750016 : Int64)) < 0)) (q := ((vm_a 1073807360 k) < (1073750016 : Int64))) rfl jv_bi_lt rfl rfl (lg_cmp_lt (vm_a 1073807360 k) (1073750016 : Int64)) (fun hz => absurd hz (fun z => absurd ((vm_a_lt (d := 1073750016) (by decide) (by decide) (by omega)).mp z) (by omega))) (fun _ => ?_)
  refine jv_Wp.lift (fun _ Kz => jv_Ev.steps jv_i61 3 (pc' := 13) (l' := [(0, .ref 171), (1, .long (vm_a 1073807360 k)), (3, .int (vl_sb b))]) (st' := [.int (lg_cmp (vm_a 1073807360 k) (1073750528 : Int64))]) rfl Kz) ?_
  refine jv_Wp.cnd jv_i61 (pt := 43) (pe := 16) (p := (0 ≤ (lg_cmp (vm_a 1073807360 k) (1073750528 : Int64)))) (q := ((1073750528 : Int64) ≤ (vm_a 1073807360 k))) rfl jv_bi_ge rfl rfl (lg_cmp_ge (vm_a 1073807360 k) (1073750528 : Int64)) (fun _ => ?_) (fun hz => absurd ((vm_a_ge (d := 1073750528) (by decide) (by decide) (by omega)).mpr (by omega)) hz)
  refine jv_Wp.lift (fun _ Kz => jv_Ev.steps jv_i61 3 (pc' := 48) (l' := [(0, .ref 171), (1, .long (vm_a 1073807360 k)), (3, .int (vl_sb b))]) (st' := [.int (lg_cmp (vm_a 1073807360 k) (1073741824 : Int64))]) rfl Kz) ?_
  refine jv_Wp.cnd jv_i61 (pt := 86) (pe := 51) (p := ((lg_cmp (vm_a 1073807360 k) (1073741824 : Int64)) < 0)) (q := ((vm_a 1073807360 k) < (1073741824 : Int64))) rfl jv_bi_lt rfl rfl (lg_cmp_lt (vm_a 1073807360 k) (1073741824 : Int64)) (fun hz => absurd hz (fun z => absurd ((vm_a_lt (d := 1073741824) (by decide) (by decide) (by omega)).mp z) (by omega))) (fun _ => ?_)
  refine jv_Wp.lift (fun _ Kz => jv_Ev.steps jv_i61 3 (pc' := 56) (l' := [(0, .ref 171), (1, .long (vm_a 1073807360 k)), (3, .int (vl_sb b))]) (st' := [.ref 171, .long (1073741824 : Int64), .long (vm_a 1073807360 k)]) rfl Kz) ?_
  refine jv_Wp.lift (fun _ Kz => jv_Ev.m jv_i61 (pc' := 59) (st' := [.ref 2, .long (1073741824 : Int64), .long (vm_a 1073807360 k)]) (G' := (jv_H K I L R)) rfl rfl (jv_m_getR (vm_cK hC 171 2 13 (by decide)) rfl rfl (vm_cR hC 171 0 2 (by decide))) Kz) ?_
  refine jv_Wp.lift (fun _ Kz => jv_Ev.m jv_i61 (pc' := 62) (st' := [.int (I 2 1), .long (1073741824 : Int64), .long (vm_a 1073807360 k)]) (G' := (jv_H K I L R)) rfl rfl (jv_m_getI (vm_cK hC 2 6 11 (by decide)) rfl rfl rfl) Kz) ?_
  refine jv_Wp.lift (fun _ Kz => jv_Ev.steps jv_i61 3 (pc' := 65) (l' := [(0, .ref 171), (1, .long (vm_a 1073807360 k)), (3, .int (vl_sb b))]) (st' := [.int (lg_cmp (vm_a 1073807360 k) ((1073741824 : Int64) + (I 2 1).toInt64))]) rfl Kz) ?_
  refine jv_Wp.cnd jv_i61 (pt := 86) (pe := 68) (p := (0 ≤ (lg_cmp (vm_a 1073807360 k) ((1073741824 : Int64) + (I 2 1).toInt64)))) (q := (((1073741824 : Int64) + (I 2 1).toInt64) ≤ (vm_a 1073807360 k))) rfl jv_bi_ge rfl rfl (lg_cmp_ge (vm_a 1073807360 k) ((1073741824 : Int64) + (I 2 1).toInt64)) (fun _ => ?_) (fun hz => absurd ((vm_a_ge (d := (1073741824 + (vm_size S : Int))) hsz (by decide) (by omega)).mpr (by omega)) hz)
  refine jv_Wp.lift (fun _ Kz => jv_Ev.steps jv_i61 3 (pc' := 91) (l' := [(0, .ref 171), (1, .long (vm_a 1073807360 k)), (3, .int (vl_sb b))]) (st' := [.int (lg_cmp (vm_a 1073807360 k) (1073745920 : Int64))]) rfl Kz) ?_
  refine jv_Wp.cnd jv_i61 (pt := 120) (pe := 94) (p := ((lg_cmp (vm_a 1073807360 k) (1073745920 : Int64)) < 0)) (q := ((vm_a 1073807360 k) < (1073745920 : Int64))) rfl jv_bi_lt rfl rfl (lg_cmp_lt (vm_a 1073807360 k) (1073745920 : Int64)) (fun hz => absurd hz (fun z => absurd ((vm_a_lt (d := 1073745920) (by decide) (by decide) (by omega)).mp z) (by omega))) (fun _ => ?_)
  refine jv_Wp.lift (fun _ Kz => jv_Ev.steps jv_i61 3 (pc' := 99) (l' := [(0, .ref 171), (1, .long (vm_a 1073807360 k)), (3, .int (vl_sb b))]) (st' := [.int (lg_cmp (vm_a 1073807360 k) (1073745984 : Int64))]) rfl Kz) ?_
  refine jv_Wp.cnd jv_i61 (pt := 120) (pe := 102) (p := (0 ≤ (lg_cmp (vm_a 1073807360 k) (1073745984 : Int64)))) (q := ((1073745984 : Int64) ≤ (vm_a 1073807360 k))) rfl jv_bi_ge rfl rfl (lg_cmp_ge (vm_a 1073807360 k) (1073745984 : Int64)) (fun _ => ?_) (fun hz => absurd ((vm_a_ge (d := 1073745984) (by decide) (by decide) (by omega)).mpr (by omega)) hz)
  refine jv_Wp.lift (fun _ Kz => jv_Ev.steps jv_i61 1 (pc' := 121) (l' := [(0, .ref 171), (1, .long (vm_a 1073807360 k)), (3, .int (vl_sb b))]) (st' := [.ref 171]) rfl Kz) ?_
  refine jv_Wp.lift (fun _ Kz => jv_Ev.m jv_i61 (pc' := 124) (st' := [.ref 2]) (G' := (jv_H K I L R)) rfl rfl (jv_m_getR (vm_cK hC 171 2 13 (by decide)) rfl rfl (vm_cR hC 171 0 2 (by decide))) Kz) ?_
  refine jv_Wp.lift (fun _ Kz => jv_Ev.steps jv_i61 4 (pc' := 130) (l' := [(0, .ref 171), (1, .long (vm_a 1073807360 k)), (3, .int (vl_sb b))]) (st' := [.ref 171, .long ((vm_a 1073807360 k) - (1073807360 : Int64)), .ref 2]) rfl Kz) ?_
  refine jv_Wp.lift (fun _ Kz => jv_Ev.m jv_i61 (pc' := 133) (st' := [.int (I 171 7), .long ((vm_a 1073807360 k) - (1073807360 : Int64)), .ref 2]) (G' := (jv_H K I L R)) rfl rfl (jv_m_getI (vm_cK hC 171 2 13 (by decide)) rfl rfl rfl) Kz) ?_
  refine jv_Wp.lift (fun _ Kz => jv_Ev.c jv_i61 (pc' := 136) (S' := [.int (1 : Int32)]) jv_i129 [.ref 2, .long ((vm_a 1073807360 k) - (1073807360 : Int64)), .int (I 171 7)] rfl rfl rfl rfl (jv_cal rfl (jv_H_at (vm_cK hC 2 6 11 (by decide))) rfl rfl) rfl (vc_isLed (I := I) (L := L) (n := n) (sl := sl) hC (q := k) (show (vm_a 1073807360 k - (1073807360 : Int64)).toInt = k from by rw [Int64.toInt_sub, vm_a_int (by decide) (by omega), show (1073807360 : Int64).toInt = 1073807360 from by decide]; exact (vi_bm (by omega) (by omega)).trans (by omega)) hk hex rfl) rfl rfl Kz) ?_
  refine jv_Wp.lift (fun _ Kz => jv_Ev.br jv_i61 (pc' := 139) (st' := []) rfl (by rfl) Kz) ?_
  refine jv_Wp.lift (fun _ Kz => jv_Ev.steps jv_i61 1 (pc' := 140) (l' := [(0, .ref 171), (1, .long (vm_a 1073807360 k)), (3, .int (vl_sb b))]) (st' := [.ref 171]) rfl Kz) ?_
  refine jv_Wp.lift (fun _ Kz => jv_Ev.m jv_i61 (pc' := 143) (st' := [.ref 2]) (G' := (jv_H K I L R)) rfl rfl (jv_m_getR (vm_cK hC 171 2 13 (by decide)) rfl rfl (vm_cR hC 171 0 2 (by decide))) Kz) ?_
  refine jv_Wp.lift (fun _ Kz => jv_Ev.m jv_i61 (pc' := 146) (st' := [.ref 6]) (G' := (jv_H K I L R)) rfl rfl (jv_m_getR (vm_cK hC 2 6 11 (by decide)) rfl rfl (vm_cR hC 2 4 6 (by decide))) Kz) ?_
  refine jv_Wp.lift (fun _ Kz => jv_Ev.steps jv_i61 5 (pc' := 153) (l' := [(0, .ref 171), (1, .long (vm_a 1073807360 k)), (3, .int (vl_sb b))]) (st' := [.int (vl_sb b), .int ((vm_a 1073807360 k) - (1073807360 : Int64)).toInt32, .ref 6]) rfl Kz) ?_
  refine jv_Wp.lift (fun _ Kz => jv_Ev.m jv_i61 (pc' := 154) (st' := []) (G' := (jv_H K (jv_u I 6 k (vl_sb b).toInt8.toInt32) L R)) rfl rfl (by rw [jv_m_bast (vm_cK hC 6 101 65536 (by decide)) (by rw [show ((vm_a 1073807360 k) - (1073807360 : Int64)).toInt32 = vl_I (k) from (vm_a_sub (d := 0) (by decide) (by decide) (by omega) (by decide))]; exact vl_I_ix (by omega) (by first | omega | decide)), (show ((vm_a 1073807360 k) - (1073807360 : Int64)).toInt32.toNatClampNeg = k from by rw [show ((vm_a 1073807360 k) - (1073807360 : Int64)).toInt32 = vl_I (k) from (vm_a_sub (d := 0) (by decide) (by decide) (by omega) (by decide))]; exact vl_I_nat (by omega))]) Kz) ?_
  refine jv_Wp.lift (fun _ Kz => jv_Ev.steps jv_i61 1 (pc' := 167) (l' := [(0, .ref 171), (1, .long (vm_a 1073807360 k)), (3, .int (vl_sb b))]) (st' := []) rfl Kz) ?_
  refine jv_Wp.of (jv_Ev.ret jv_i61 rfl rfl) ?_
  rw [vl_sb_sb hb]
  exact hQ
theorem vc_writeByte_a {K : Nat → Option (Nat × Nat)} {I : Nat → Nat → Int32} {L : Nat → Nat → Int64} {R : Nat → Nat → Value} (hC : vm_CW K R) {S : vm_S} (h : vm_c I L S) {k : Nat} (hk : k < 65536) (hex : vc_led I k) {b : Nat} (hb : b < 256) {n sl : Nat} : jv_Ms 61 [.ref 171, .long (vm_a 1073807360 k), .int (vl_sb b)] (jv_H K I L R) n sl (none, jv_H K (jv_u I 6 k (vl_sb b)) L R, n, sl) := by
  obtain ⟨X, k, e⟩ := vc_writeByte_a_0 (n := n) (sl := sl) (I := I) (L := L) (Q := fun X => X = (none, jv_H K (jv_u I 6 k (vl_sb b)) L R, n, sl)) hC h hk hex hb rfl
  subst e
  exact k
theorem vc_writeByte {K : Nat → Option (Nat × Nat)} {I : Nat → Nat → Int32} {L : Nat → Nat → Int64} {R : Nat → Nat → Value} (hC : vm_CW K R) {S T : vm_S} (h : vm_c I L S) {a : Int64} {b : Nat} (hb : b < 256) (hp : vm_put 1073750528 1073807360 S a b = some T) {n sl : Nat} : ∃ I1, jv_Ms 61 [.ref 171, .long a, .int (vl_sb b)] (jv_H K I L R) n sl (none, jv_H K I1 L R, n, sl) ∧ vm_c I1 L T ∧ vc_ff vc_Ew I L I1 L := by
  rcases vm_put_cases hp with ⟨k, hk, e, eT⟩ | ⟨k, hk, e, eT⟩ | ⟨k, h16, hk, e, eT⟩ | ⟨k, hk, e, w, eT⟩
  · subst e; subst eT
    exact ⟨_, vc_writeByte_s hC h hk hb, vc_m_us h hb, vc_ff_trans (vc_ff_u (I := I) (L := L) (o := 173) (k := k) (x := vl_sb b) (Or.inr (Or.inr (Or.inr (Or.inl rfl))))) (vc_ff_u (Or.inr (Or.inr (Or.inr (Or.inr rfl)))))⟩
  · subst e; subst eT
    exact ⟨_, vc_writeByte_p hC h hk hb, vc_m_u1 h hb (Or.inl ⟨rfl, rfl⟩), vc_ff_u (Or.inl rfl)⟩
  · subst e; subst eT
    exact ⟨_, vc_writeByte_c hC h hk hb, vc_m_u1 h hb (Or.inr (Or.inl ⟨rfl, rfl, h16⟩)), vc_ff_u (Or.inr (Or.inl ⟨rfl, h16⟩))⟩
  · subst e; subst eT
    exact ⟨_, vc_writeByte_a hC h hk ((h.2.2.2.2.2.2.2.1 k hk).mp w) hb, vc_m_u1 h hb (Or.inr (Or.inr ⟨rfl, rfl⟩)), vc_ff_u (Or.inr (Or.inr (Or.inl rfl)))⟩
/-- what n bytes read, one by one, make -/
def vc_rbs (S : vm_S) (a : Int64) (m : Nat) (B : Nat → Nat) : Prop := ∀ i, i < m → vc_rb S (vm_nx a i) (B i)
theorem jv_i58 : jv_I 58 7 (some .long) 2 47 jv_c58 := ⟨rfl, rfl, rfl, rfl, rfl⟩
theorem vc_mread_t {K : Nat → Option (Nat × Nat)} {I : Nat → Nat → Int32} {L : Nat → Nat → Int64} {R : Nat → Nat → Value} (hC : vm_CW K R) {S : vm_S} (h : vm_c I L S) {a : Int64} {m : Nat} {B : Nat → Nat} (hB : vc_rbs S a m B) (hm : m < 2147483648) {n sl : Nat} {Q : jv_R → Prop} {i : Nat} (hi : i < m) {v : Int64} {x : Nat} (hv : v = vm_J x) (cont : jv_Wp 58 8 [(0, .ref 171), (1, .long a), (3, .int (vl_I m)), (4, .long (vm_J (256 * x + B i))), (6, .int (vl_I i + Int32.ofInt (-1)))] [] (jv_H K I L R) n sl Q) : jv_Wp 58 8 [(0, .ref 171), (1, .long a), (3, .int (vl_I m)), (4, .long v), (6, .int (vl_I i))] [] (jv_H K I L R) n sl Q := by
  have hb := vc_readByte (n := n) (sl := sl) hC h (hB i hi)
  have hRB := hb.1
  unfold vm_nx at hRB
  rw [← vi_nx (by omega)] at hRB
  refine jv_Wp.lift (fun _ Kz => jv_Ev.steps jv_i58 1 (pc' := 10) (l' := [(0, .ref 171), (1, .long a), (3, .int (vl_I m)), (4, .long v), (6, .int (vl_I i))]) (st' := [.int (vl_I i)]) rfl Kz) ?_
  refine jv_Wp.cnd jv_i58 (pt := 41) (pe := 13) (p := ((vl_I i) < 0)) (q := ((vl_I i) < 0)) rfl jv_bi_lt rfl rfl Iff.rfl (fun hz => absurd hz (vl_I_n0 (by omega))) (fun _ => ?_)
  refine jv_Wp.lift (fun _ Kz => jv_Ev.steps jv_i58 8 (pc' := 24) (l' := [(0, .ref 171), (1, .long a), (3, .int (vl_I m)), (4, .long v), (6, .int (vl_I i))]) (st' := [.long (a + (vl_I i).toInt64), .ref 171, .long (v <<< ((8 : Int32).toInt64 &&& 63))]) rfl Kz) ?_
  refine jv_Wp.lift (fun _ Kz => jv_Ev.c jv_i58 (pc' := 27) (S' := [.int (vl_sb (B i)), .long (v <<< ((8 : Int32).toInt64 &&& 63))]) jv_i59 [.ref 171, .long (a + (vl_I i).toInt64)] rfl rfl rfl rfl (jv_cal rfl (jv_H_at (vm_cK hC 171 2 13 (by decide))) rfl rfl) rfl hRB rfl rfl Kz) ?_
  refine jv_Wp.lift (fun _ Kz => jv_Ev.steps jv_i58 7 (pc' := 8) (l' := [(6, .int ((vl_I i) + Int32.ofInt (-1))), (4, .long ((v <<< ((8 : Int32).toInt64 &&& 63)) ||| ((vl_sb (B i)) &&& (255 : Int32)).toInt64)), (0, .ref 171), (1, .long a), (3, .int (vl_I m))]) (st' := []) rfl Kz) ?_
  refine jv_Wp.loc (l := [(0, .ref 171), (1, .long a), (3, .int (vl_I m)), (4, .long ((v <<< ((8 : Int32).toInt64 &&& 63)) ||| ((vl_sb (B i)) &&& (255 : Int32)).toInt64)), (6, .int ((vl_I i) + Int32.ofInt (-1)))]) ⟨List.forall_mem_cons.mpr ⟨.tail _ (.tail _ (.head _)), List.forall_mem_cons.mpr ⟨.tail _ (.tail _ (.tail _ (.head _))), List.forall_mem_cons.mpr ⟨.tail _ (.tail _ (.tail _ (.tail _ (.head _)))), List.forall_mem_cons.mpr ⟨.tail _ (.head _), List.forall_mem_cons.mpr ⟨.head _, fun _ h => absurd h List.not_mem_nil⟩⟩⟩⟩⟩, by show List.Nodup [6, 4, 0, 1, 3]; decide⟩ ?_
  rw [vl_sb_and hb.2, hv, vm_sh8 hb.2]
  exact cont
theorem vc_mread_e {K : Nat → Option (Nat × Nat)} {I : Nat → Nat → Int32} {L : Nat → Nat → Int64} {R : Nat → Nat → Value} (hC : vm_CW K R) {S : vm_S} (h : vm_c I L S) {a : Int64} {m : Nat} {B : Nat → Nat} (hB : vc_rbs S a m B) (hm : m < 2147483648) {n sl : Nat} {Q : jv_R → Prop} {v : Int64} (hQ : Q (some (.long v), jv_H K I L R, n, sl)) : jv_Wp 58 8 [(0, .ref 171), (1, .long a), (3, .int (vl_I m)), (4, .long v), (6, .int (-1 : Int32))] [] (jv_H K I L R) n sl Q := by
  refine jv_Wp.lift (fun _ Kz => jv_Ev.steps jv_i58 1 (pc' := 10) (l' := [(0, .ref 171), (1, .long a), (3, .int (vl_I m)), (4, .long v), (6, .int (-1 : Int32))]) (st' := [.int (-1 : Int32)]) rfl Kz) ?_
  refine jv_Wp.lift (fun _ Kz => jv_Ev.br jv_i58 (pc' := 41) (st' := []) rfl (by rfl) Kz) ?_
  refine jv_Wp.lift (fun _ Kz => jv_Ev.steps jv_i58 1 (pc' := 43) (l' := [(0, .ref 171), (1, .long a), (3, .int (vl_I m)), (4, .long v), (6, .int (-1 : Int32))]) (st' := [.long v]) rfl Kz) ?_
  refine jv_Wp.of (jv_Ev.ret jv_i58 rfl rfl) ?_
  exact hQ
theorem vc_mread_l {K : Nat → Option (Nat × Nat)} {I : Nat → Nat → Int32} {L : Nat → Nat → Int64} {R : Nat → Nat → Value} (hC : vm_CW K R) {S : vm_S} (h : vm_c I L S) {a : Int64} {m : Nat} {B : Nat → Nat} (hB : vc_rbs S a m B) (hm : m < 2147483648) {n sl : Nat} {Q : jv_R → Prop} (hQ : Q (some (.long (vm_J (vm_le B 0 m))), jv_H K I L R, n, sl)) : ∀ j, j ≤ m → jv_Wp 58 8 [(0, .ref 171), (1, .long a), (3, .int (vl_I m)), (4, .long (vm_J (vm_le B j (m - j)))), (6, .int (vm_K j))] [] (jv_H K I L R) n sl Q
  | 0, _ => vc_mread_e hC h hB hm hQ
  | j + 1, hj => by
    rw [vm_K_s]
    refine vc_mread_t hC h hB hm (by omega) rfl ?_
    rw [vm_K_p, show 256 * vm_le B (j + 1) (m - (j + 1)) + B j = vm_le B j (m - j) from by rw [show m - j = (m - (j + 1)) + 1 by omega]; exact Nat.add_comm _ _]
    exact vc_mread_l hC h hB hm hQ j (by omega)
theorem vc_mread_0 {K : Nat → Option (Nat × Nat)} {I : Nat → Nat → Int32} {L : Nat → Nat → Int64} {R : Nat → Nat → Value} (hC : vm_CW K R) {S : vm_S} (h : vm_c I L S) {a : Int64} {m : Nat} {B : Nat → Nat} (hB : vc_rbs S a m B) (hm : m < 2147483648) {n sl : Nat} {Q : jv_R → Prop} (cont : jv_Wp 58 8 [(0, .ref 171), (1, .long a), (3, .int (vl_I m)), (4, .long (0 : Int64)), (6, .int (vm_K m))] [] (jv_H K I L R) n sl Q) : jv_Wp 58 0 [(0, .ref 171), (1, .long a), (3, .int (vl_I m))] [] (jv_H K I L R) n sl Q := by
  refine jv_Wp.lift (fun _ Kz => jv_Ev.steps jv_i58 6 (pc' := 8) (l' := [(6, .int ((vl_I m) - (1 : Int32))), (4, .long (0 : Int64)), (0, .ref 171), (1, .long a), (3, .int (vl_I m))]) (st' := []) rfl Kz) ?_
  refine jv_Wp.loc (l := [(0, .ref 171), (1, .long a), (3, .int (vl_I m)), (4, .long (0 : Int64)), (6, .int ((vl_I m) - (1 : Int32)))]) ⟨List.forall_mem_cons.mpr ⟨.tail _ (.tail _ (.head _)), List.forall_mem_cons.mpr ⟨.tail _ (.tail _ (.tail _ (.head _))), List.forall_mem_cons.mpr ⟨.tail _ (.tail _ (.tail _ (.tail _ (.head _)))), List.forall_mem_cons.mpr ⟨.tail _ (.head _), List.forall_mem_cons.mpr ⟨.head _, fun _ h => absurd h List.not_mem_nil⟩⟩⟩⟩⟩, by show List.Nodup [6, 4, 0, 1, 3]; decide⟩ ?_
  rw [show (vl_I m - (1 : Int32)) = vm_K m from rfl]
  exact cont
theorem vc_mread {K : Nat → Option (Nat × Nat)} {I : Nat → Nat → Int32} {L : Nat → Nat → Int64} {R : Nat → Nat → Value} (hC : vm_CW K R) {S : vm_S} (h : vm_c I L S) {a : Int64} {m : Nat} {B : Nat → Nat} (hB : vc_rbs S a m B) (hm : m < 2147483648) {n sl : Nat} : jv_Ms 58 [.ref 171, .long a, .int (vl_I m)] (jv_H K I L R) n sl (some (.long (vm_J (vm_le B 0 m))), jv_H K I L R, n, sl) := by
  have k := vc_mread_l (n := n) (sl := sl) (Q := fun X => X = (some (.long (vm_J (vm_le B 0 m))), jv_H K I L R, n, sl)) hC h hB hm rfl m (Nat.le_refl m)
  rw [Nat.sub_self] at k
  obtain ⟨X, k, e⟩ := vc_mread_0 hC h hB hm k
  subst e
  exact k
theorem vm_bt_pow (v : Int64) : ∀ n k, vm_le (vm_bt v) k n = v.toBitVec.toNat / 256 ^ k % 256 ^ n
  | 0, k => by rw [Nat.pow_zero, Nat.mod_one]; rfl
  | n + 1, k => by
    show vm_bt v k + 256 * vm_le (vm_bt v) (k + 1) n = _
    rw [vm_bt_pow v n (k + 1), Nat.pow_succ 256 k, ← Nat.div_div_eq_div_mul, Nat.pow_succ 256 n, Nat.mul_comm (256 ^ n) 256, Nat.mod_mul]
    rfl
theorem vm_bt_all (v : Int64) : vm_le (vm_bt v) 0 8 = v.toBitVec.toNat := by
  rw [vm_bt_pow v 8 0, Nat.pow_zero, Nat.div_one]
  exact Nat.mod_eq_of_lt (Nat.lt_of_lt_of_le v.toBitVec.isLt (by decide))
theorem vm_J_nat {x : Nat} (h : x < 18446744073709551616) : (vm_J x).toBitVec.toNat = x := (BitVec.toNat_ofNat x 64).trans (Nat.mod_eq_of_lt h)
theorem vm_nx_a {c : Int} {k i : Nat} : vm_nx (vm_a c k) i = vm_a c (k + i) := by
  unfold vm_nx vm_a
  refine Int64.toBitVec_inj.mp ?_
  rw [Int64.toBitVec_add, Int64.toBitVec_ofInt, Int64.toBitVec_ofNat', Int64.toBitVec_ofInt]
  rw [← BitVec.ofInt_natCast, ← BitVec.ofInt_add]
  congr 1
  push_cast; omega
/-- the number that an address has, as the class reads it -/
theorem vc_mnum {S : vm_S} {a : Int64} {m v : Nat} (hz : vm_size S ≤ 2048) (h : vm_num 1073750528 1073807360 S a m = some v) : ∃ B, vc_rbs S a m B ∧ vm_le B 0 m = v := by
  unfold vm_num at h
  by_cases c1 : m = 8 ∧ a.toInt = 1073745920
  · rw [if_pos c1] at h
    have e := Option.some.inj h
    subst e
    have ea : a = vm_a 1073745920 0 := by have y := vm_a_of a (c := 1073745920) (by omega); rw [c1.2] at y; exact y
    refine ⟨fun i => vm_cx S i, fun i hi => Or.inr ⟨i, by omega, ?_, rfl⟩, ?_⟩
    · rw [ea, vm_nx_a, Nat.zero_add]
    · rw [c1.1, vm_le_eq (B' := vm_bt 1073741824) 8 0 (fun i hi => by show vm_cx S (0 + i) = _; unfold vm_cx; exact if_pos (by omega)), vm_bt_all]; rfl
  rw [if_neg c1] at h
  by_cases c2 : m = 8 ∧ a.toInt = 1073745928
  · rw [if_pos c2] at h
    have e := Option.some.inj h
    subst e
    have ea : a = vm_a 1073745920 8 := by have y := vm_a_of a (c := 1073745920) (by omega); rw [c2.2] at y; exact y
    refine ⟨fun i => vm_cx S (8 + i), fun i hi => Or.inr ⟨8 + i, by omega, ?_, rfl⟩, ?_⟩
    · rw [ea, vm_nx_a]
    · rw [c2.1, vm_le_eq (B' := vm_bt (vm_J (1073741824 + vm_size S))) 8 0 (fun i hi => by show vm_cx S (8 + (0 + i)) = _; unfold vm_cx; rw [if_neg (by omega), if_pos (by omega)]; congr 1; omega), vm_bt_all]
      exact vm_J_nat (by omega)
  rw [if_neg c2] at h
  by_cases c3 : vm_all 1073750528 1073807360 S a m
  · rw [if_pos c3] at h
    have e := Option.some.inj h
    subst e
    refine ⟨_, fun i hi => Or.inl ?_, rfl⟩
    obtain ⟨b, hb⟩ := c3 i hi
    show _ = some ((vm_get 1073750528 1073807360 S (vm_nx a i)).getD 0)
    rw [hb]; rfl
  · rw [if_neg c3] at h; cases h
theorem jv_i60 : jv_I 60 7 none 2 47 jv_c60 := ⟨rfl, rfl, rfl, rfl, rfl⟩
theorem vc_mwrite_t {K : Nat → Option (Nat × Nat)} {I : Nat → Nat → Int32} {L : Nat → Nat → Int64} {R : Nat → Nat → Value} (hC : vm_CW K R) {a v : Int64} {m : Nat} (h8 : m ≤ 8) {n sl : Nat} {Q : jv_R → Prop} {S T : vm_S} (h : vm_c I L S) {i : Nat} (hi : i < m) (hp : vm_put 1073750528 1073807360 S (vm_nx a i) (vm_bt v i) = some T) (cont : ∀ I1, vm_c I1 L T → vc_ff vc_Ew I L I1 L → jv_Wp 60 3 [(0, .ref 171), (1, .long a), (3, .int (vl_I m)), (4, .long v), (6, .int (vl_I (i + 1)))] [] (jv_H K I1 L R) n sl Q) : jv_Wp 60 3 [(0, .ref 171), (1, .long a), (3, .int (vl_I m)), (4, .long v), (6, .int (vl_I i))] [] (jv_H K I L R) n sl Q := by
  obtain ⟨I1, hWB, hm1, hf1⟩ := vc_writeByte (n := n) (sl := sl) hC h (vm_bt_lt v i) hp
  unfold vm_nx at hWB
  rw [← vi_nx (by omega), ← vm_bt_ok v (show i < 8 by omega)] at hWB
  refine jv_Wp.lift (fun _ Kz => jv_Ev.steps jv_i60 2 (pc' := 6) (l' := [(0, .ref 171), (1, .long a), (3, .int (vl_I m)), (4, .long v), (6, .int (vl_I i))]) (st' := [.int (vl_I m), .int (vl_I i)]) rfl Kz) ?_
  refine jv_Wp.cnd jv_i60 (pt := 34) (pe := 9) (p := ((vl_I m) ≤ (vl_I i))) (q := ((vl_I m) ≤ (vl_I i))) rfl jv_bc_ge rfl rfl Iff.rfl (fun hz => absurd hz (fun z => absurd ((vl_I_le (by omega) (by omega)).mp z) (by omega))) (fun _ => ?_)
  refine jv_Wp.lift (fun _ Kz => jv_Ev.steps jv_i60 12 (pc' := 25) (l' := [(0, .ref 171), (1, .long a), (3, .int (vl_I m)), (4, .long v), (6, .int (vl_I i))]) (st' := [.int (v >>> (((8 : Int32) * (vl_I i)).toInt64 &&& 63)).toInt32.toInt8.toInt32, .long (a + (vl_I i).toInt64), .ref 171]) rfl Kz) ?_
  refine jv_Wp.lift (fun _ Kz => jv_Ev.c jv_i60 (pc' := 28) (S' := []) (G1 := (jv_H K I1 L R)) jv_i61 [.ref 171, .long (a + (vl_I i).toInt64), .int (v >>> (((8 : Int32) * (vl_I i)).toInt64 &&& 63)).toInt32.toInt8.toInt32] rfl rfl rfl rfl (jv_cal rfl (jv_H_at (vm_cK hC 171 2 13 (by decide))) rfl rfl) rfl hWB rfl rfl Kz) ?_
  refine jv_Wp.lift (fun _ Kz => jv_Ev.steps jv_i60 2 (pc' := 3) (l' := [(6, .int ((vl_I i) + Int32.ofInt 1)), (0, .ref 171), (1, .long a), (3, .int (vl_I m)), (4, .long v)]) (st' := []) rfl Kz) ?_
  refine jv_Wp.loc (l := [(0, .ref 171), (1, .long a), (3, .int (vl_I m)), (4, .long v), (6, .int ((vl_I i) + Int32.ofInt 1))]) ⟨List.forall_mem_cons.mpr ⟨.tail _ (.head _), List.forall_mem_cons.mpr ⟨.tail _ (.tail _ (.head _)), List.forall_mem_cons.mpr ⟨.tail _ (.tail _ (.tail _ (.head _))), List.forall_mem_cons.mpr ⟨.tail _ (.tail _ (.tail _ (.tail _ (.head _)))), List.forall_mem_cons.mpr ⟨.head _, fun _ h => absurd h List.not_mem_nil⟩⟩⟩⟩⟩, by show List.Nodup [6, 0, 1, 3, 4]; decide⟩ ?_
  rw [show vl_I i + Int32.ofInt 1 = vl_I (i + 1) from vl_I_add i 1]
  exact cont I1 hm1 hf1
theorem vc_mwrite_e {K : Nat → Option (Nat × Nat)} {I : Nat → Nat → Int32} {L : Nat → Nat → Int64} {R : Nat → Nat → Value} (hC : vm_CW K R) {a v : Int64} {m : Nat} (h8 : m ≤ 8) {n sl : Nat} {Q : jv_R → Prop} (hQ : Q (none, jv_H K I L R, n, sl)) : jv_Wp 60 3 [(0, .ref 171), (1, .long a), (3, .int (vl_I m)), (4, .long v), (6, .int (vl_I m))] [] (jv_H K I L R) n sl Q := by
  refine jv_Wp.lift (fun _ Kz => jv_Ev.steps jv_i60 2 (pc' := 6) (l' := [(0, .ref 171), (1, .long a), (3, .int (vl_I m)), (4, .long v), (6, .int (vl_I m))]) (st' := [.int (vl_I m), .int (vl_I m)]) rfl Kz) ?_
  refine jv_Wp.cnd jv_i60 (pt := 34) (pe := 9) (p := ((vl_I m) ≤ (vl_I m))) (q := ((vl_I m) ≤ (vl_I m))) rfl jv_bc_ge rfl rfl Iff.rfl (fun _ => ?_) (fun hz => absurd ((vl_I_le (by omega) (by omega)).mpr (Nat.le_refl m)) hz)
  refine jv_Wp.of (jv_Ev.ret jv_i60 rfl rfl) ?_
  exact hQ
theorem vm_keep_s {SE AB : Int} {S T : vm_S} {a : Int64} {f : Nat → Nat} {i : Nat} (h : vm_keep SE AB S a f (i + 1) = some T) : ∃ U, vm_keep SE AB S a f i = some U ∧ vm_put SE AB U (vm_nx a i) (f i) = some T := Option.bind_eq_some_iff.mp h
theorem vm_keep_le {SE AB : Int} {S : vm_S} {a : Int64} {f : Nat → Nat} : ∀ (k i : Nat) (T : vm_S), vm_keep SE AB S a f (i + k) = some T → ∃ U, vm_keep SE AB S a f i = some U
  | 0, _, T, h => ⟨T, h⟩
  | k + 1, i, T, h => by
    obtain ⟨U, hU, _⟩ := vm_keep_s (i := i + k) h
    exact vm_keep_le k i U hU
theorem vc_mwrite_l {K : Nat → Option (Nat × Nat)} {I : Nat → Nat → Int32} {L : Nat → Nat → Int64} {R : Nat → Nat → Value} (hC : vm_CW K R) {a v : Int64} {m : Nat} (h8 : m ≤ 8) {n sl : Nat} {Q : jv_R → Prop} {S T : vm_S} (hT : vm_keep 1073750528 1073807360 S a (vm_bt v) m = some T) (hQ : ∀ I1, vm_c I1 L T → vc_ff vc_Ew I L I1 L → Q (none, jv_H K I1 L R, n, sl)) : ∀ k i, i + k = m → ∀ I1 U, vm_c I1 L U → vm_keep 1073750528 1073807360 S a (vm_bt v) i = some U → vc_ff vc_Ew I L I1 L → jv_Wp 60 3 [(0, .ref 171), (1, .long a), (3, .int (vl_I m)), (4, .long v), (6, .int (vl_I i))] [] (jv_H K I1 L R) n sl Q
  | 0, i, e, I1, U, hU, kU, fr => by
    have e : i = m := e
    subst e
    rw [kU] at hT
    exact vc_mwrite_e hC h8 (hQ I1 (Option.some.inj hT ▸ hU) fr)
  | k + 1, i, e, I1, U, hU, kU, fr => by
    obtain ⟨V, kV⟩ := vm_keep_le (SE := 1073750528) (AB := 1073807360) (S := S) (a := a) (f := vm_bt v) k (i + 1) T (by rw [show i + 1 + k = m by omega]; exact hT)
    obtain ⟨U', kU', pU⟩ := vm_keep_s kV
    rw [kU] at kU'
    rw [← Option.some.inj kU'] at pU
    exact vc_mwrite_t hC h8 hU (by omega) pU (fun I2 hV fr2 => vc_mwrite_l hC h8 hT hQ k (i + 1) (by omega) I2 V hV kV (vc_ff_trans fr fr2))
theorem vc_mwrite_0 {K : Nat → Option (Nat × Nat)} {I : Nat → Nat → Int32} {L : Nat → Nat → Int64} {R : Nat → Nat → Value} (hC : vm_CW K R) {a v : Int64} {m : Nat} (h8 : m ≤ 8) {n sl : Nat} {Q : jv_R → Prop} (cont : jv_Wp 60 3 [(0, .ref 171), (1, .long a), (3, .int (vl_I m)), (4, .long v), (6, .int (0 : Int32))] [] (jv_H K I L R) n sl Q) : jv_Wp 60 0 [(0, .ref 171), (1, .long a), (3, .int (vl_I m)), (4, .long v)] [] (jv_H K I L R) n sl Q := by
  refine jv_Wp.lift (fun _ Kz => jv_Ev.steps jv_i60 2 (pc' := 3) (l' := [(6, .int (0 : Int32)), (0, .ref 171), (1, .long a), (3, .int (vl_I m)), (4, .long v)]) (st' := []) rfl Kz) ?_
  refine jv_Wp.loc (l := [(0, .ref 171), (1, .long a), (3, .int (vl_I m)), (4, .long v), (6, .int (0 : Int32))]) ⟨List.forall_mem_cons.mpr ⟨.tail _ (.head _), List.forall_mem_cons.mpr ⟨.tail _ (.tail _ (.head _)), List.forall_mem_cons.mpr ⟨.tail _ (.tail _ (.tail _ (.head _))), List.forall_mem_cons.mpr ⟨.tail _ (.tail _ (.tail _ (.tail _ (.head _)))), List.forall_mem_cons.mpr ⟨.head _, fun _ h => absurd h List.not_mem_nil⟩⟩⟩⟩⟩, by show List.Nodup [6, 0, 1, 3, 4]; decide⟩ ?_
  exact cont
theorem vc_mwrite {K : Nat → Option (Nat × Nat)} {I : Nat → Nat → Int32} {L : Nat → Nat → Int64} {R : Nat → Nat → Value} (hC : vm_CW K R) {a v : Int64} {m : Nat} (h8 : m ≤ 8) {S T : vm_S} (h : vm_c I L S) (hT : vm_keep 1073750528 1073807360 S a (vm_bt v) m = some T) {n sl : Nat} : ∃ I1, jv_Ms 60 [.ref 171, .long a, .int (vl_I m), .long v] (jv_H K I L R) n sl (none, jv_H K I1 L R, n, sl) ∧ vm_c I1 L T ∧ vc_ff vc_Ew I L I1 L := by
  have k := vc_mwrite_l (I := I) (n := n) (sl := sl) (L := L) (R := R) (Q := fun X => ∃ I1, X = (none, jv_H K I1 L R, n, sl) ∧ vm_c I1 L T ∧ vc_ff vc_Ew I L I1 L) hC h8 hT (fun I1 a b => ⟨I1, rfl, a, b⟩) m 0 (Nat.zero_add m) I S h rfl (vc_ff_refl _ I L)
  obtain ⟨X, k, I1, e, a, b⟩ := vc_mwrite_0 hC h8 k
  subst e
  exact ⟨I1, k, a, b⟩