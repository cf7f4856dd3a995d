/-! part f14: reading and writing of the machine, of the reference (gen/tf14.py) -/
/-- what stays: cells that a change does not touch -/
theorem vm_r_same {I I1 : Nat → Nat → Int32} {L L1 : Nat → Nat → Int64} {S T : vm_S} (h : vm_r I L S) (eI : ∀ q f, ¬ (q = 218 ∨ q = 219 ∨ q = 220 ∨ q = 221 ∨ q = 222 ∨ q = 223 ∨ q = 182) → I1 q f = I q f) (eS : ∀ c i, ¬ (1 ≤ c ∧ c ≤ 6) → T.2 c i = S.2 c i) (h1 : ∀ r, r < 11 → I1 221 r = vl_I (T.2 1 r) ∧ T.2 1 r ≤ 1) (h2 : ∀ r, r < 11 → T.2 1 r = 1 → L1 220 r = T.1 0 r) (h3 : ∀ k, k < 512 → I1 223 k = vl_I (T.2 3 k) ∧ T.2 3 k ≤ 1 ∧ (T.2 3 k = 1 → I1 222 k = vl_I (T.2 2 k) ∧ T.2 2 k < 256)) (h4 : vr_tp I1 218 2048 (T.2 4)) (h5 : ∀ j, 16 ≤ j → j < 64 → I1 219 j = vl_I (T.2 5 j) ∧ T.2 5 j < 256) (h6 : vm_by I1 182 65536 (T.2 6)) (h7 : L1 178 13 = T.1 1 0) : vm_r I1 L1 T := by
  obtain ⟨g1, g2, g3, g4, g5, g6, g7, g8, g9, g10⟩ := h
  have ec : vm_cnt T = vm_cnt S := eS 0 1 (by omega)
  have ez : vm_size T = vm_size S := eS 0 0 (by omega)
  have efe : ∀ k, vm_fe T k = vm_fe S k := fun k => by
    induction k with
    | zero => rfl
    | succ k ih => show vm_fe T k + _ = vm_fe S k + _; rw [ih, eS 8 k (by omega), eS 11 k (by omega)]
  have efk : ∀ k, vm_fk T k = vm_fk S k := fun k => by
    induction k with
    | zero => rfl
    | succ k ih => show vm_fk T k + _ = vm_fk S k + _; rw [ih, eS 8 k (by omega), eS 11 k (by omega), eS 9 k (by omega)]
  refine ⟨⟨(eI 178 11 (by omega)).trans (by rw [ez]; exact g1.1), by rw [ez]; exact g1.2⟩, h1, h2, h3, h4, h5, h6, fun k e hk h2 he => ?_, h7, ?_, fun k hk => ?_⟩
  · rw [ec] at hk; rw [eS 8 k (by omega)] at h2; rw [eS 11 k (by omega)] at he
    rw [efe, eI 224 _ (by omega), eS 7 _ (by omega)]; exact g8 k e hk h2 he
  · rw [eI 180 5 (by omega), ec]; exact g10.1
  · rw [ec] at hk
    rw [efe, efk, eI 183 _ (by omega), eI 184 _ (by omega), eI 185 _ (by omega), eI 186 _ (by omega), eI 187 _ (by omega), eI 188 _ (by omega), eI 189 _ (by omega), eS 8 k (by omega), eS 9 k (by omega), eS 10 k (by omega), eS 11 k (by omega), eS 12 k (by omega)]
    exact g10.2 k hk
theorem jv_u_at {α : Type} {f : Nat → Nat → α} {o k q i : Nat} {x : α} : jv_u f o k x q i = if q = o ∧ i = k then x else f q i := by
  by_cases c : q = o
  · subst c
    by_cases d : i = k
    · subst d; rw [jv_u_self, if_pos ⟨rfl, rfl⟩]
    · rw [jv_u_j _ _ _ _ d, if_neg (fun z => d z.2)]
  · rw [jv_u_o _ _ _ _ c, if_neg (fun z => c z.1)]
theorem vm_r_us {I : Nat → Nat → Int32} {L : Nat → Nat → Int64} {S : vm_S} {k b : Nat} (h : vm_r I L S) (hb : b < 256) : vm_r (jv_u (jv_u I 223 k 1) 222 k (vl_I b)) L (S.1, jv_u (jv_u S.2 2 k b) 3 k 1) := by
  obtain ⟨g1, g2, g3, g4, g5, g6, g7, g8, g9, g10⟩ := id h
  have eI : ∀ q f, q ≠ 222 → q ≠ 223 → jv_u (jv_u I 223 k 1) 222 k (vl_I b) q f = I q f := fun q f y z => (jv_u_o _ _ _ _ y).trans (jv_u_o _ _ _ _ z)
  have eS : ∀ c i, c ≠ 2 → c ≠ 3 → jv_u (jv_u S.2 2 k b) 3 k 1 c i = S.2 c i := fun c i y z => (jv_u_o _ _ _ _ z).trans (jv_u_o _ _ _ _ y)
  refine vm_r_same h (fun q f z => eI q f (by omega) (by omega)) (fun c i z => eS c i (by omega) (by omega)) (fun r hr => ?_) (fun r hr z => ?_) (fun j hj => ?_) (fun j hj => ?_) (fun j h16 hj => ?_) (fun j hj => ?_) g9
  · show _ = vl_I (jv_u (jv_u S.2 2 k b) 3 k 1 1 r) ∧ jv_u (jv_u S.2 2 k b) 3 k 1 1 r ≤ 1
    rw [eI 221 r (by omega) (by omega), eS 1 r (by omega) (by omega)]; exact g2 r hr
  · exact g3 r hr ((eS 1 r (by omega) (by omega)).symm.trans z)
  · show jv_u (jv_u I 223 k 1) 222 k (vl_I b) 223 j = vl_I (jv_u (jv_u S.2 2 k b) 3 k 1 3 j) ∧ jv_u (jv_u S.2 2 k b) 3 k 1 3 j ≤ 1 ∧ (jv_u (jv_u S.2 2 k b) 3 k 1 3 j = 1 → jv_u (jv_u I 223 k 1) 222 k (vl_I b) 222 j = vl_I (jv_u (jv_u S.2 2 k b) 3 k 1 2 j) ∧ jv_u (jv_u S.2 2 k b) 3 k 1 2 j < 256)
    have q := g4 j hj
    simp only [jv_u_at]
    by_cases c : j = k
    · subst c; simp; exact ⟨rfl, hb⟩
    · simpa [c] using q
  · show _ = vl_I (jv_u (jv_u S.2 2 k b) 3 k 1 4 j) ∧ jv_u (jv_u S.2 2 k b) 3 k 1 4 j < 256
    rw [eI 218 j (by omega) (by omega), eS 4 j (by omega) (by omega)]; exact g5 j hj
  · show _ = vl_I (jv_u (jv_u S.2 2 k b) 3 k 1 5 j) ∧ jv_u (jv_u S.2 2 k b) 3 k 1 5 j < 256
    rw [eI 219 j (by omega) (by omega), eS 5 j (by omega) (by omega)]; exact g6 j h16 hj
  · show _ = vl_sb (jv_u (jv_u S.2 2 k b) 3 k 1 6 j) ∧ jv_u (jv_u S.2 2 k b) 3 k 1 6 j < 256
    rw [eI 182 j (by omega) (by omega), eS 6 j (by omega) (by omega)]; exact g7 j hj
/-- a byte of the packet (o = 218, c = 4), of the context (219, 5), of the area (182, 6) -/
theorem vm_r_u1 {I : Nat → Nat → Int32} {L : Nat → Nat → Int64} {S : vm_S} {k b o c : Nat} {x : Int32} (h : vm_r I L S) (hb : b < 256) (ho : (o = 218 ∧ c = 4 ∧ x = vl_I b) ∨ (o = 219 ∧ c = 5 ∧ x = vl_I b) ∨ (o = 182 ∧ c = 6 ∧ x = vl_sb b)) : vm_r (jv_u I o k x) L (S.1, jv_u S.2 c k b) := by
  obtain ⟨g1, g2, g3, g4, g5, g6, g7, g8, g9, g10⟩ := id h
  have eI : ∀ q f, q ≠ o → jv_u I o k x q f = I q f := fun q f y => jv_u_o _ _ _ _ y
  have eS : ∀ d i, d ≠ c → jv_u S.2 c k b d i = S.2 d i := fun d i y => jv_u_o _ _ _ _ y
  refine vm_r_same h (fun q f z => eI q f (by omega)) (fun d i z => eS d i (by omega)) (fun r hr => ?_) (fun r hr z => ?_) (fun j hj => ?_) (fun j hj => ?_) (fun j h16 hj => ?_) (fun j hj => ?_) g9
  · show _ = vl_I (jv_u S.2 c k b 1 r) ∧ jv_u S.2 c k b 1 r ≤ 1
    rw [eI 221 r (by omega), eS 1 r (by omega)]; exact g2 r hr
  · exact g3 r hr ((eS 1 r (by omega)).symm.trans z)
  · show _ = vl_I (jv_u S.2 c k b 3 j) ∧ jv_u S.2 c k b 3 j ≤ 1 ∧ (jv_u S.2 c k b 3 j = 1 → _ = vl_I (jv_u S.2 c k b 2 j) ∧ jv_u S.2 c k b 2 j < 256)
    rw [eI 223 j (by omega), eI 222 j (by omega), eS 3 j (by omega), eS 2 j (by omega)]; exact g4 j hj
  · show _ = vl_I (jv_u S.2 c k b 4 j) ∧ jv_u S.2 c k b 4 j < 256
    have q := g5 j hj
    rcases ho with ⟨y, z, w⟩ | ⟨y, z, w⟩ | ⟨y, z, w⟩
    · subst y; subst z; subst w
      simp only [jv_u_at]
      by_cases c : j = k
      · subst c; simp; exact hb
      · simpa [c] using q
    · rw [eI 218 j (by omega), eS 4 j (by omega)]; exact q
    · rw [eI 218 j (by omega), eS 4 j (by omega)]; exact q
  · show _ = vl_I (jv_u S.2 c k b 5 j) ∧ jv_u S.2 c k b 5 j < 256
    have q := g6 j h16 hj
    rcases ho with ⟨y, z, w⟩ | ⟨y, z, w⟩ | ⟨y, z, w⟩
    · rw [eI 219 j (by omega), eS 5 j (by omega)]; exact q
    · subst y; subst z; subst w
      simp only [jv_u_at]
      by_cases c : j = k
      · subst c; simp; exact hb
      · simpa [c] using q
    · rw [eI 219 j (by omega), eS 5 j (by omega)]; exact q
  · show _ = vl_sb (jv_u S.2 c k b 6 j) ∧ jv_u S.2 c k b 6 j < 256
    have q := g7 j hj
    rcases ho with ⟨y, z, w⟩ | ⟨y, z, w⟩ | ⟨y, z, w⟩
    · rw [eI 182 j (by omega), eS 6 j (by omega)]; exact q
    · rw [eI 182 j (by omega), eS 6 j (by omega)]; exact q
    · subst y; subst z; subst w
      simp only [jv_u_at]
      by_cases c : j = k
      · subst c; simp; exact hb
      · simpa [c] using q
theorem vm_r_gv {I : Nat → Nat → Int32} {L : Nat → Nat → Int64} {S : vm_S} {r : Nat} {v : Int64} (h : vm_r I L S) : vm_r (jv_u I 221 r 1) (jv_u L 220 r v) (vm_gv S r v) := by
  obtain ⟨g1, g2, g3, g4, g5, g6, g7, g8, g9, g10⟩ := id h
  have eI : ∀ q f, q ≠ 221 → jv_u I 221 r 1 q f = I q f := fun q f y => jv_u_o _ _ _ _ y
  have eS : ∀ d i, d ≠ 1 → (vm_gv S r v).2 d i = S.2 d i := fun d i y => jv_u_o _ _ _ _ y
  refine vm_r_same h (fun q f z => eI q f (by omega)) (fun d i z => eS d i (by omega)) (fun j hj => ?_) (fun j hj z => ?_) (fun j hj => ?_) (fun j hj => ?_) (fun j h16 hj => ?_) (fun j hj => ?_) ((jv_u_o L r 13 v (show 178 ≠ 220 by decide)).trans (g9.trans (jv_u_o S.1 r 0 v (show 1 ≠ 0 by decide)).symm))
  · show jv_u I 221 r 1 221 j = vl_I (jv_u S.2 1 r 1 1 j) ∧ jv_u S.2 1 r 1 1 j ≤ 1
    simp only [jv_u_at]
    by_cases c : j = r
    · subst c; simp; rfl
    · simpa [c] using g2 j hj
  · have z : jv_u S.2 1 r 1 1 j = 1 := z
    show jv_u L 220 r v 220 j = jv_u S.1 0 r v 0 j
    by_cases c : j = r
    · subst c; rw [jv_u_self, jv_u_self]
    · rw [jv_u_j _ _ _ _ c] at z
      rw [jv_u_j _ _ _ _ c, jv_u_j _ _ _ _ c]; exact g3 j hj z
  · rw [eI 223 j (by omega), eI 222 j (by omega), eS 3 j (by omega), eS 2 j (by omega)]; exact g4 j hj
  · rw [eI 218 j (by omega), eS 4 j (by omega)]; exact g5 j hj
  · rw [eI 219 j (by omega), eS 5 j (by omega)]; exact g6 j h16 hj
  · rw [eI 182 j (by omega), eS 6 j (by omega)]; exact g7 j hj
/-- the cells that writing may change, in the reference -/
abbrev vr_Ew (q f : Nat) : Prop := q = 218 ∨ q = 219 ∨ q = 182 ∨ q = 222 ∨ q = 223
theorem vr_getM {K : Nat → Option (Nat × Nat)} {I : Nat → Nat → Int32} {L : Nat → Nat → Int64} {R : Nat → Nat → Value} (hW : jv_rW K R) {S : vm_S} (hs : vm_sh S) (h : vm_r I L S) {a : Int64} {b : Nat} (hb : vm_get 1073750016 1073758208 S a = some b) {n sl : Nat} : jv_Ms 369 [.ref 178, .long a] (jv_H K I L R) n sl (some (.int (vl_I b)), jv_H K I L R, n, sl) ∧ b < 256 := by
  obtain ⟨g1, g2, g3, g4, g5, g6, g7, g8, g9, g10⟩ := id h
  rcases vm_get_cases hb with ⟨k, hk, e, w, eb⟩ | ⟨k, hk, e, eb⟩ | ⟨k, h16, hk, e, eb⟩ | ⟨k, hk, e, w, eb⟩
  · subst e; subst eb
    have z := (g4 k hk).2.2 w
    rw [← z.1]; exact ⟨vr_get_s hW hs h hk w, z.2⟩
  · subst e; subst eb
    have z := g5 k (by omega)
    rw [← z.1]; exact ⟨vr_get_p hW hs h hk, z.2⟩
  · subst e; subst eb
    have z := g6 k h16 hk
    rw [← z.1]; exact ⟨vr_get_c hW hs h hk, z.2⟩
  · subst e; subst eb
    have z := g7 k hk
    rw [← vl_sb_and z.2, ← z.1]; exact ⟨vr_get_a hW hs h hk w, z.2⟩
theorem vr_setM {K : Nat → Option (Nat × Nat)} {I : Nat → Nat → Int32} {L : Nat → Nat → Int64} {R : Nat → Nat → Value} (hW : jv_rW K R) {S T : vm_S} (hs : vm_sh S) (h : vm_r I L S) {a : Int64} {b : Nat} (hb : b < 256) (hp : vm_put 1073750016 1073758208 S a b = some T) {n sl : Nat} : ∃ I1, jv_Ms 370 [.ref 178, .long a, .int (vl_I b)] (jv_H K I L R) n sl (none, jv_H K I1 L R, n, sl) ∧ vm_r I1 L T ∧ vc_ff vr_Ew I L I1 L := by
  rcases vm_put_cases hp with ⟨k, hk, e, eT⟩ | ⟨k, hk, e, eT⟩ | ⟨k, h16, hk, e, eT⟩ | ⟨k, hk, e, w, eT⟩
  · subst e; subst eT
    exact ⟨_, vr_set_s hW hs h hk hb, vm_r_us h hb, vc_ff_trans (vc_ff_u (I := I) (L := L) (o := 223) (k := k) (x := 1) (Or.inr (Or.inr (Or.inr (Or.inr rfl))))) (vc_ff_u (Or.inr (Or.inr (Or.inr (Or.inl rfl)))))⟩
  · subst e; subst eT
    exact ⟨_, vr_set_p hW hs h hk hb, vm_r_u1 h hb (Or.inl ⟨rfl, rfl, rfl⟩), vc_ff_u (Or.inl rfl)⟩
  · subst e; subst eT
    exact ⟨_, vr_set_c hW hs h hk hb, vm_r_u1 h hb (Or.inr (Or.inl ⟨rfl, rfl, rfl⟩)), vc_ff_u (Or.inr (Or.inl rfl))⟩
  · subst e; subst eT
    exact ⟨_, vr_set_a hW hs h hk w hb, vm_r_u1 h hb (Or.inr (Or.inr ⟨rfl, rfl, rfl⟩)), vc_ff_u (Or.inr (Or.inr (Or.inl rfl)))⟩
/-- shapes stay when bytes are put -/
theorem vm_sh_same {S T : vm_S} (h : vm_sh S) (eS : ∀ c i, ¬ (1 ≤ c ∧ c ≤ 7) → c ≤ 12 → T.2 c i = S.2 c i) : vm_sh T := by
  obtain ⟨a1, a2, a3, a4, a5⟩ := h
  have e := fun c i (z : ¬ (1 ≤ c ∧ c ≤ 7)) (w : c ≤ 12) => eS c i z w
  have ec : vm_cnt T = vm_cnt S := e 0 1 (by omega) (by omega)
  have eb : ∀ k, vm_bg T k = vm_bg S k := fun k => by
    induction k with
    | zero => rfl
    | succ k ih =>
      show vm_bg T k + vm_szof T k = vm_bg S k + vm_szof S k
      unfold vm_szof
      rw [ih, e 8 k (by omega) (by omega), e 10 k (by omega) (by omega), e 11 k (by omega) (by omega)]
  refine ⟨by rw [ec]; exact a1, fun k hk => ?_, fun k hk => ?_, by rw [ec, eb]; exact a4, by rw [ec, eb, e 0 2 (by omega) (by omega)]; exact a5⟩
  · rw [e 8 k (by omega) (by omega), e 9 k (by omega) (by omega), e 10 k (by omega) (by omega), e 11 k (by omega) (by omega)]; rw [ec] at hk; exact a2 k hk
  · rw [e 12 k (by omega) (by omega), eb]; rw [ec] at hk; exact a3 k hk
theorem vm_sh_put {SE AB : Int} {S T : vm_S} {a : Int64} {b : Nat} (h : vm_sh S) (hp : vm_put SE AB S a b = some T) : vm_sh T := by
  rcases vm_put_cases hp with ⟨k, hk, e, eT⟩ | ⟨k, hk, e, eT⟩ | ⟨k, h16, hk, e, eT⟩ | ⟨k, hk, e, w, eT⟩ <;> subst eT
  · exact vm_sh_same h (fun c i z w => (jv_u_o _ _ _ _ (by omega)).trans (jv_u_o _ _ _ _ (by omega)))
  · exact vm_sh_same h (fun c i z w => jv_u_o _ _ _ _ (by omega))
  · exact vm_sh_same h (fun c i z w => jv_u_o _ _ _ _ (by omega))
  · exact vm_sh_same h (fun c i z w => jv_u_o _ _ _ _ (by omega))
theorem vm_sh_gv {S : vm_S} {r : Nat} {v : Int64} (h : vm_sh S) : vm_sh (vm_gv S r v) := vm_sh_same h (fun c i z w => jv_u_o _ _ _ _ (by omega))
theorem vm_sh_keep {SE AB : Int} {S : vm_S} {a : Int64} {f : Nat → Nat} (h : vm_sh S) : ∀ (n : Nat) (T : vm_S), vm_keep SE AB S a f n = some T → vm_sh T
  | 0, T, e => Option.some.inj e ▸ h
  | n + 1, T, e => by
    obtain ⟨U, hU, pU⟩ := vm_keep_s e
    exact vm_sh_put (vm_sh_keep h n U hU) pU
theorem vm_m256 {x b : Nat} (hb : b < 256) : ((256 : Int64) * vm_J x) + (vl_I b).toInt64 = vm_J (256 * x + b) := by
  refine Int64.toBitVec_inj.mp ?_
  rw [Int64.toBitVec_add, Int64.toBitVec_mul, Int32.toBitVec_toInt64]
  have e3 : (vl_I b).toBitVec.signExtend 64 = BitVec.ofNat 64 b := by
    have : ∀ c : Fin 256, (vl_I c.val).toBitVec.signExtend 64 = BitVec.ofNat 64 c.val := by decide +kernel
    exact this ⟨b, hb⟩
  rw [e3]
  show 256#64 * BitVec.ofNat 64 x + BitVec.ofNat 64 b = BitVec.ofNat 64 (256 * x + b)
  rw [BitVec.ofNat_add, BitVec.ofNat_mul]
theorem vm_ubt (v : Int64) {k : Nat} (hk : k < 8) : ((v.toUInt64 >>> (((8 : Int32) * (vl_I k)).toInt64.toUInt64 &&& Int64.toUInt64 63)).toInt64).toInt32 &&& (255 : Int32) = vl_I (vm_bt v k) := by
  refine Int32.toBitVec_inj.mp ?_
  have hs : ∀ c : Fin 8, (((8 : Int32) * (vl_I c.val)).toInt64.toUInt64 &&& Int64.toUInt64 63).toBitVec.toNat % 64 = 8 * c.val := by decide +kernel
  rw [Int32.toBitVec_and, vl_i32, vl_ushr v (hs ⟨k, hk⟩)]
  refine BitVec.eq_of_toNat_eq ?_
  have hb := vm_bt_lt v k
  show _ = vm_bt v k % 4294967296
  rw [BitVec.toNat_and, BitVec.toNat_setWidth, BitVec.toNat_ushiftRight, Nat.shiftRight_eq_div_pow, show (255 : Int32).toBitVec.toNat = 2 ^ 8 - 1 from by decide, Nat.and_two_pow_sub_one_eq_mod, Nat.mod_eq_of_lt (show vm_bt v k < 4294967296 by omega)]
  unfold vm_bt
  rw [show 256 ^ k = 2 ^ (8 * k) from (Nat.pow_mul 2 8 k).symm]
  generalize v.toBitVec.toNat / 2 ^ (8 * k) = w
  omega
theorem jv_i371 : jv_I 371 7 (some .long) 4 90 jv_c371 := ⟨rfl, rfl, rfl, rfl, rfl⟩
theorem vm_pszJ {c : Int64} (hc : c.toInt = 1073741824) {x : Int32} {s : Nat} (hx : x = vl_I s) (hs : s ≤ 2048) : (c + x.toInt64) = vm_J (1073741824 + s) := by
  refine Int64.toInt_inj.mp ?_
  rw [vm_psz hc hx hs]
  have e : (vm_J (1073741824 + s)).toBitVec.toNat = 1073741824 + s := vm_J_nat (by omega)
  have := vm_toNat (vm_J (1073741824 + s))
  omega
theorem vr_number_t {K : Nat → Option (Nat × Nat)} {I : Nat → Nat → Int32} {L : Nat → Nat → Int64} {R : Nat → Nat → Value} (hW : jv_rW K R) {S : vm_S} (hs : vm_sh S) (h : vm_r I L S) {a : Int64} {m : Nat} {B : Nat → Nat} (hB : ∀ i, i < m → vm_get 1073750016 1073758208 S (vm_nx a i) = some (B i)) (hm : m < 2147483648) {n sl : Nat} {Q : jv_R → Prop} {i : Nat} (hi : i < m) {v : Int64} {x : Nat} (hv : v = vm_J x) (cont : jv_Wp 371 50 [(0, .ref 178), (1, .long a), (3, .int (vl_I m)), (4, .long (vm_J (256 * x + B i))), (6, .int (vl_I i + Int32.ofInt (-1)))] [] (jv_H K I L R) n sl Q) : jv_Wp 371 50 [(0, .ref 178), (1, .long a), (3, .int (vl_I m)), (4, .long v), (6, .int (vl_I i))] [] (jv_H K I L R) n sl Q := by
  have hb := vr_getM (n := n) (sl := sl) hW hs h (hB i hi)
  have hRB := hb.1
  unfold vm_nx at hRB
  rw [← vi_nx (by omega)] at hRB
  refine jv_Wp.lift (fun _ Kz => jv_Ev.steps jv_i371 1 (pc' := 52) (l' := [(0, .ref 178), (1, .long a), (3, .int (vl_I m)), (4, .long v), (6, .int (vl_I i))]) (st' := [.int (vl_I i)]) rfl Kz) ?_
  refine jv_Wp.cnd jv_i371 (pt := 80) (pe := 55) (p := ((vl_I i) < 0)) (q := ((vl_I i) < 0)) rfl jv_bi_lt rfl rfl Iff.rfl (fun hz => absurd hz (vl_I_n0 (by omega))) (fun _ => ?_)
  refine jv_Wp.lift (fun _ Kz => jv_Ev.steps jv_i371 8 (pc' := 67) (l' := [(0, .ref 178), (1, .long a), (3, .int (vl_I m)), (4, .long v), (6, .int (vl_I i))]) (st' := [.long (a + (vl_I i).toInt64), .ref 178, .long ((256 : Int64) * v)]) rfl Kz) ?_
  refine jv_Wp.lift (fun _ Kz => jv_Ev.c jv_i371 (pc' := 70) (S' := [.int (vl_I (B i)), .long ((256 : Int64) * v)]) jv_i369 [.ref 178, .long (a + (vl_I i).toInt64)] rfl rfl rfl rfl (jv_cal rfl (jv_H_at (jv_rwK hW 178 14 31 (by decide))) rfl rfl) rfl hRB rfl rfl Kz) ?_
  refine jv_Wp.lift (fun _ Kz => jv_Ev.steps jv_i371 5 (pc' := 50) (l' := [(6, .int ((vl_I i) + Int32.ofInt (-1))), (4, .long (((256 : Int64) * v) + (vl_I (B i)).toInt64)), (0, .ref 178), (1, .long a), (3, .int (vl_I m))]) (st' := []) rfl Kz) ?_
  refine jv_Wp.loc (l := [(0, .ref 178), (1, .long a), (3, .int (vl_I m)), (4, .long (((256 : Int64) * v) + (vl_I (B i)).toInt64)), (6, .int ((vl_I i) + Int32.ofInt (-1)))]) ⟨List.forall_mem_cons.mpr ⟨.tail _ (.tail _ (.head _)), List.forall_mem_cons.mpr ⟨.tail _ (.tail _ (.tail _ (.head _))), List.forall_mem_cons.mpr ⟨.tail _ (.tail _ (.tail _ (.tail _ (.head _)))), List.forall_mem_cons.mpr ⟨.tail _ (.head _), List.forall_mem_cons.mpr ⟨.head _, fun _ h => absurd h List.not_mem_nil⟩⟩⟩⟩⟩, by show List.Nodup [6, 4, 0, 1, 3]; decide⟩ ?_
  rw [hv, vm_m256 hb.2]
  exact cont
theorem vr_number_e {K : Nat → Option (Nat × Nat)} {I : Nat → Nat → Int32} {L : Nat → Nat → Int64} {R : Nat → Nat → Value} (hW : jv_rW K R) {S : vm_S} (hs : vm_sh S) (h : vm_r I L S) {a : Int64} {m : Nat} {B : Nat → Nat} (hB : ∀ i, i < m → vm_get 1073750016 1073758208 S (vm_nx a i) = some (B i)) (hm : m < 2147483648) {n sl : Nat} {Q : jv_R → Prop} {v : Int64} (hQ : Q (some (.long v), jv_H K I L R, n, sl)) : jv_Wp 371 50 [(0, .ref 178), (1, .long a), (3, .int (vl_I m)), (4, .long v), (6, .int (-1 : Int32))] [] (jv_H K I L R) n sl Q := by
  refine jv_Wp.lift (fun _ Kz => jv_Ev.steps jv_i371 1 (pc' := 52) (l' := [(0, .ref 178), (1, .long a), (3, .int (vl_I m)), (4, .long v), (6, .int (-1 : Int32))]) (st' := [.int (-1 : Int32)]) rfl Kz) ?_
  refine jv_Wp.lift (fun _ Kz => jv_Ev.br jv_i371 (pc' := 80) (st' := []) rfl (by rfl) Kz) ?_
  refine jv_Wp.lift (fun _ Kz => jv_Ev.steps jv_i371 1 (pc' := 82) (l' := [(0, .ref 178), (1, .long a), (3, .int (vl_I m)), (4, .long v), (6, .int (-1 : Int32))]) (st' := [.long v]) rfl Kz) ?_
  refine jv_Wp.of (jv_Ev.ret jv_i371 rfl rfl) ?_
  exact hQ
theorem vr_number_l {K : Nat → Option (Nat × Nat)} {I : Nat → Nat → Int32} {L : Nat → Nat → Int64} {R : Nat → Nat → Value} (hW : jv_rW K R) {S : vm_S} (hs : vm_sh S) (h : vm_r I L S) {a : Int64} {m : Nat} {B : Nat → Nat} (hB : ∀ i, i < m → vm_get 1073750016 1073758208 S (vm_nx a i) = some (B i)) (hm : m < 2147483648) {n sl : Nat} {Q : jv_R → Prop} (hQ : Q (some (.long (vm_J (vm_le B 0 m))), jv_H K I L R, n, sl)) : ∀ j, j ≤ m → jv_Wp 371 50 [(0, .ref 178), (1, .long a), (3, .int (vl_I m)), (4, .long (vm_J (vm_le B j (m - j)))), (6, .int (vm_K j))] [] (jv_H K I L R) n sl Q
  | 0, _ => vr_number_e hW hs h hB hm hQ
  | j + 1, hj => by
    rw [vm_K_s]
    refine vr_number_t hW hs h hB hm (by omega) rfl ?_
    rw [vm_K_p, show 256 * vm_le B (j + 1) (m - (j + 1)) + B j = vm_le B j (m - j) from by rw [show m - j = (m - (j + 1)) + 1 by omega]; exact Nat.add_comm _ _]
    exact vr_number_l hW hs h hB hm hQ j (by omega)
theorem vr_number_0 {K : Nat → Option (Nat × Nat)} {I : Nat → Nat → Int32} {L : Nat → Nat → Int64} {R : Nat → Nat → Value} (hW : jv_rW K R) {a : Int64} {m : Nat} (hm : m < 2147483648) (hn1 : ¬ (m = 8 ∧ a.toInt = 1073745920)) (hn2 : ¬ (m = 8 ∧ a.toInt = 1073745928)) {n sl : Nat} {Q : jv_R → Prop} (cont : jv_Wp 371 50 [(0, .ref 178), (1, .long a), (3, .int (vl_I m)), (4, .long (0 : Int64)), (6, .int (vm_K m))] [] (jv_H K I L R) n sl Q) : jv_Wp 371 0 [(0, .ref 178), (1, .long a), (3, .int (vl_I m))] [] (jv_H K I L R) n sl Q := by
  refine jv_Wp.lift (fun _ Kz => jv_Ev.steps jv_i371 2 (pc' := 3) (l' := [(0, .ref 178), (1, .long a), (3, .int (vl_I m))]) (st' := [.int (8 : Int32), .int (vl_I m)]) rfl Kz) ?_
  refine jv_Wp.cnd jv_i371 (pt := 18) (pe := 6) (p := (¬ (vl_I m) = (8 : Int32))) (q := (¬ (vl_I m) = (8 : Int32))) rfl jv_bc_ne rfl rfl Iff.rfl (fun h1 => ?_) (fun h1 => ?_)
  · refine jv_Wp.lift (fun _ Kz => jv_Ev.steps jv_i371 2 (pc' := 21) (l' := [(0, .ref 178), (1, .long a), (3, .int (vl_I m))]) (st' := [.int (8 : Int32), .int (vl_I m)]) rfl Kz) ?_
    refine jv_Wp.cnd jv_i371 (pt := 42) (pe := 24) (p := (¬ (vl_I m) = (8 : Int32))) (q := (¬ (vl_I m) = (8 : Int32))) rfl jv_bc_ne rfl rfl Iff.rfl (fun _ => ?_) (fun hz => absurd h1 hz)
    refine jv_Wp.lift (fun _ Kz => jv_Ev.steps jv_i371 6 (pc' := 50) (l' := [(6, .int ((vl_I m) - (1 : Int32))), (4, .long (0 : Int64)), (0, .ref 178), (1, .long a), (3, .int (vl_I m))]) (st' := []) rfl Kz) ?_
    refine jv_Wp.loc (l := [(0, .ref 178), (1, .long a), (3, .int (vl_I m)), (4, .long (0 : Int64)), (6, .int ((vl_I m) - (1 : Int32)))]) ⟨List.forall_mem_cons.mpr ⟨.tail _ (.tail _ (.head _)), List.forall_mem_cons.mpr ⟨.tail _ (.tail _ (.tail _ (.head _))), List.forall_mem_cons.mpr ⟨.tail _ (.tail _ (.tail _ (.tail _ (.head _)))), List.forall_mem_cons.mpr ⟨.tail _ (.head _), List.forall_mem_cons.mpr ⟨.head _, fun _ h => absurd h List.not_mem_nil⟩⟩⟩⟩⟩, by show List.Nodup [6, 4, 0, 1, 3]; decide⟩ ?_
    rw [show (vl_I m - (1 : Int32)) = vm_K m from rfl]
    exact cont
  · refine jv_Wp.lift (fun _ Kz => jv_Ev.steps jv_i371 3 (pc' := 11) (l' := [(0, .ref 178), (1, .long a), (3, .int (vl_I m))]) (st' := [.int (lg_cmp a (1073745920 : Int64))]) rfl Kz) ?_
    refine jv_Wp.cnd jv_i371 (pt := 18) (pe := 14) (p := (¬ (lg_cmp a (1073745920 : Int64)) = 0)) (q := (¬ a = (1073745920 : Int64))) rfl jv_bi_ne rfl rfl (not_congr (lg_cmp_eq a (1073745920 : Int64))) (fun h2 => ?_) (fun h2 => ?_)
    · refine jv_Wp.lift (fun _ Kz => jv_Ev.steps jv_i371 2 (pc' := 21) (l' := [(0, .ref 178), (1, .long a), (3, .int (vl_I m))]) (st' := [.int (8 : Int32), .int (vl_I m)]) rfl Kz) ?_
      refine jv_Wp.cnd jv_i371 (pt := 42) (pe := 24) (p := (¬ (vl_I m) = (8 : Int32))) (q := (¬ (vl_I m) = (8 : Int32))) rfl jv_bc_ne rfl rfl Iff.rfl (fun hz => absurd hz (fun z => z (Classical.not_not.mp h1))) (fun _ => ?_)
      refine jv_Wp.lift (fun _ Kz => jv_Ev.steps jv_i371 3 (pc' := 29) (l' := [(0, .ref 178), (1, .long a), (3, .int (vl_I m))]) (st' := [.int (lg_cmp a (1073745928 : Int64))]) rfl Kz) ?_
      refine jv_Wp.cnd jv_i371 (pt := 42) (pe := 32) (p := (¬ (lg_cmp a (1073745928 : Int64)) = 0)) (q := (¬ a = (1073745928 : Int64))) rfl jv_bi_ne rfl rfl (not_congr (lg_cmp_eq a (1073745928 : Int64))) (fun h3 => ?_) (fun h3 => ?_)
      · refine jv_Wp.lift (fun _ Kz => jv_Ev.steps jv_i371 6 (pc' := 50) (l' := [(6, .int ((vl_I m) - (1 : Int32))), (4, .long (0 : Int64)), (0, .ref 178), (1, .long a), (3, .int (vl_I m))]) (st' := []) rfl Kz) ?_
        refine jv_Wp.loc (l := [(0, .ref 178), (1, .long a), (3, .int (vl_I m)), (4, .long (0 : Int64)), (6, .int ((vl_I m) - (1 : Int32)))]) ⟨List.forall_mem_cons.mpr ⟨.tail _ (.tail _ (.head _)), List.forall_mem_cons.mpr ⟨.tail _ (.tail _ (.tail _ (.head _))), List.forall_mem_cons.mpr ⟨.tail _ (.tail _ (.tail _ (.tail _ (.head _)))), List.forall_mem_cons.mpr ⟨.tail _ (.head _), List.forall_mem_cons.mpr ⟨.head _, fun _ h => absurd h List.not_mem_nil⟩⟩⟩⟩⟩, by show List.Nodup [6, 4, 0, 1, 3]; decide⟩ ?_
        rw [show (vl_I m - (1 : Int32)) = vm_K m from rfl]
        exact cont
      · refine jv_Wp.lift (fun _ Kz => jv_Ev.steps jv_i371 2 (pc' := 36) (l' := [(0, .ref 178), (1, .long a), (3, .int (vl_I m))]) (st' := [.ref 178, .long (1073741824 : Int64)]) rfl Kz) ?_
        refine jv_Wp.lift (fun _ Kz => jv_Ev.m jv_i371 (pc' := 39) (st' := [.int (I 178 11), .long (1073741824 : Int64)]) (G' := (jv_H K I L R)) rfl rfl (jv_m_getI (jv_rwK hW 178 14 31 (by decide)) rfl rfl rfl) Kz) ?_
        refine jv_Wp.lift (fun _ Kz => jv_Ev.steps jv_i371 2 (pc' := 41) (l' := [(0, .ref 178), (1, .long a), (3, .int (vl_I m))]) (st' := [.long ((1073741824 : Int64) + (I 178 11).toInt64)]) rfl Kz) ?_
        exact absurd ⟨((vl_I_inj (a := m) (b := 8) (by omega) (by decide)).mp (Classical.not_not.mp h1)), by rw [(Classical.not_not.mp h3)]; decide⟩ hn2
    · refine jv_Wp.lift (fun _ Kz => jv_Ev.steps jv_i371 1 (pc' := 17) (l' := [(0, .ref 178), (1, .long a), (3, .int (vl_I m))]) (st' := [.long (1073741824 : Int64)]) rfl Kz) ?_
      exact absurd ⟨((vl_I_inj (a := m) (b := 8) (by omega) (by decide)).mp (Classical.not_not.mp h1)), by rw [(Classical.not_not.mp h2)]; decide⟩ hn1
theorem vr_number_1 {K : Nat → Option (Nat × Nat)} {I : Nat → Nat → Int32} {L : Nat → Nat → Int64} {R : Nat → Nat → Value} (hW : jv_rW K R) {a : Int64} {m : Nat} (h8 : m = 8) (ha : a = (1073745920 : Int64)) {n sl : Nat} {Q : jv_R → Prop} (hQ : Q (some (.long (1073741824 : Int64)), jv_H K I L R, n, sl)) : jv_Wp 371 0 [(0, .ref 178), (1, .long a), (3, .int (vl_I m))] [] (jv_H K I L R) n sl Q := by
  refine jv_Wp.lift (fun _ Kz => jv_Ev.steps jv_i371 2 (pc' := 3) (l' := [(0, .ref 178), (1, .long a), (3, .int (vl_I m))]) (st' := [.int (8 : Int32), .int (vl_I m)]) rfl Kz) ?_
  refine jv_Wp.cnd jv_i371 (pt := 18) (pe := 6) (p := (¬ (vl_I m) = (8 : Int32))) (q := (¬ (vl_I m) = (8 : Int32))) rfl jv_bc_ne rfl rfl Iff.rfl (fun hz => absurd hz (fun z => z (by rw [h8]; rfl))) (fun _ => ?_)
  refine jv_Wp.lift (fun _ Kz => jv_Ev.steps jv_i371 3 (pc' := 11) (l' := [(0, .ref 178), (1, .long a), (3, .int (vl_I m))]) (st' := [.int (lg_cmp a (1073745920 : Int64))]) rfl Kz) ?_
  refine jv_Wp.cnd jv_i371 (pt := 18) (pe := 14) (p := (¬ (lg_cmp a (1073745920 : Int64)) = 0)) (q := (¬ a = (1073745920 : Int64))) rfl jv_bi_ne rfl rfl (not_congr (lg_cmp_eq a (1073745920 : Int64))) (fun hz => absurd hz (fun z => z ha)) (fun _ => ?_)
  refine jv_Wp.lift (fun _ Kz => jv_Ev.steps jv_i371 1 (pc' := 17) (l' := [(0, .ref 178), (1, .long a), (3, .int (vl_I m))]) (st' := [.long (1073741824 : Int64)]) rfl Kz) ?_
  refine jv_Wp.of (jv_Ev.ret jv_i371 rfl rfl) ?_
  exact hQ
theorem vr_number_2 {K : Nat → Option (Nat × Nat)} {I : Nat → Nat → Int32} {L : Nat → Nat → Int64} {R : Nat → Nat → Value} (hW : jv_rW K R) {S : vm_S} (h : vm_r I L S) {a : Int64} {m : Nat} (h8 : m = 8) (ha : a = (1073745928 : Int64)) {n sl : Nat} {Q : jv_R → Prop} (hQ : Q (some (.long (vm_J (1073741824 + vm_size S))), jv_H K I L R, n, sl)) : jv_Wp 371 0 [(0, .ref 178), (1, .long a), (3, .int (vl_I m))] [] (jv_H K I L R) n sl Q := by
  refine jv_Wp.lift (fun _ Kz => jv_Ev.steps jv_i371 2 (pc' := 3) (l' := [(0, .ref 178), (1, .long a), (3, .int (vl_I m))]) (st' := [.int (8 : Int32), .int (vl_I m)]) rfl Kz) ?_
  refine jv_Wp.cnd jv_i371 (pt := 18) (pe := 6) (p := (¬ (vl_I m) = (8 : Int32))) (q := (¬ (vl_I m) = (8 : Int32))) rfl jv_bc_ne rfl rfl Iff.rfl (fun hz => absurd hz (fun z => z (by rw [h8]; rfl))) (fun _ => ?_)
  refine jv_Wp.lift (fun _ Kz => jv_Ev.steps jv_i371 3 (pc' := 11) (l' := [(0, .ref 178), (1, .long a), (3, .int (vl_I m))]) (st' := [.int (lg_cmp a (1073745920 : Int64))]) rfl Kz) ?_
  refine jv_Wp.cnd jv_i371 (pt := 18) (pe := 14) (p := (¬ (lg_cmp a (1073745920 : Int64)) = 0)) (q := (¬ a = (1073745920 : Int64))) rfl jv_bi_ne rfl rfl (not_congr (lg_cmp_eq a (1073745920 : Int64))) (fun _ => ?_) (fun hz => absurd (by rw [ha]; decide) hz)
  refine jv_Wp.lift (fun _ Kz => jv_Ev.steps jv_i371 2 (pc' := 21) (l' := [(0, .ref 178), (1, .long a), (3, .int (vl_I m))]) (st' := [.int (8 : Int32), .int (vl_I m)]) rfl Kz) ?_
  refine jv_Wp.cnd jv_i371 (pt := 42) (pe := 24) (p := (¬ (vl_I m) = (8 : Int32))) (q := (¬ (vl_I m) = (8 : Int32))) rfl jv_bc_ne rfl rfl Iff.rfl (fun hz => absurd hz (fun z => z (by rw [h8]; rfl))) (fun _ => ?_)
  refine jv_Wp.lift (fun _ Kz => jv_Ev.steps jv_i371 3 (pc' := 29) (l' := [(0, .ref 178), (1, .long a), (3, .int (vl_I m))]) (st' := [.int (lg_cmp a (1073745928 : Int64))]) rfl Kz) ?_
  refine jv_Wp.cnd jv_i371 (pt := 42) (pe := 32) (p := (¬ (lg_cmp a (1073745928 : Int64)) = 0)) (q := (¬ a = (1073745928 : Int64))) rfl jv_bi_ne rfl rfl (not_congr (lg_cmp_eq a (1073745928 : Int64))) (fun hz => absurd hz (fun z => z ha)) (fun _ => ?_)
  refine jv_Wp.lift (fun _ Kz => jv_Ev.steps jv_i371 2 (pc' := 36) (l' := [(0, .ref 178), (1, .long a), (3, .int (vl_I m))]) (st' := [.ref 178, .long (1073741824 : Int64)]) rfl Kz) ?_
  refine jv_Wp.lift (fun _ Kz => jv_Ev.m jv_i371 (pc' := 39) (st' := [.int (I 178 11), .long (1073741824 : Int64)]) (G' := (jv_H K I L R)) rfl rfl (jv_m_getI (jv_rwK hW 178 14 31 (by decide)) rfl rfl rfl) Kz) ?_
  refine jv_Wp.lift (fun _ Kz => jv_Ev.steps jv_i371 2 (pc' := 41) (l' := [(0, .ref 178), (1, .long a), (3, .int (vl_I m))]) (st' := [.long ((1073741824 : Int64) + (I 178 11).toInt64)]) rfl Kz) ?_
  refine jv_Wp.of (jv_Ev.ret jv_i371 rfl rfl) ?_
  rw [vm_pszJ (by decide) h.1.1 h.1.2]
  exact hQ
theorem vr_number {K : Nat → Option (Nat × Nat)} {I : Nat → Nat → Int32} {L : Nat → Nat → Int64} {R : Nat → Nat → Value} (hW : jv_rW K R) {S : vm_S} (hs : vm_sh S) (h : vm_r I L S) {a : Int64} {m v : Nat} (hm : m < 2147483648) (hv : vm_num 1073750016 1073758208 S a m = some v) {n sl : Nat} : jv_Ms 371 [.ref 178, .long a, .int (vl_I m)] (jv_H K I L R) n sl (some (.long (vm_J v)), jv_H K I L R, n, sl) := by
  suffices k : jv_Wp 371 0 [(0, .ref 178), (1, .long a), (3, .int (vl_I m))] [] (jv_H K I L R) n sl (fun X => X = (some (.long (vm_J v)), jv_H K I L R, n, sl)) by
    obtain ⟨X, k, e⟩ := k
    subst e
    exact k
  unfold vm_num at hv
  by_cases c1 : m = 8 ∧ a.toInt = 1073745920
  · rw [if_pos c1] at hv
    rw [← Option.some.inj hv]
    exact vr_number_1 hW c1.1 (Int64.toInt_inj.mp (c1.2.trans (by decide))) rfl
  rw [if_neg c1] at hv
  by_cases c2 : m = 8 ∧ a.toInt = 1073745928
  · rw [if_pos c2] at hv
    rw [← Option.some.inj hv]
    exact vr_number_2 hW h c2.1 (Int64.toInt_inj.mp (c2.2.trans (by decide))) rfl
  rw [if_neg c2] at hv
  by_cases c3 : vm_all 1073750016 1073758208 S a m
  · rw [if_pos c3] at hv
    have hB : ∀ i, i < m → vm_get 1073750016 1073758208 S (vm_nx a i) = some (vm_row 1073750016 1073758208 S a i) := fun i hi => by
      obtain ⟨b, hb⟩ := c3 i hi
      show _ = some ((vm_get 1073750016 1073758208 S (vm_nx a i)).getD 0)
      rw [hb]; rfl
    refine vr_number_0 hW hm c1 c2 ?_
    have z := vr_number_l (n := n) (sl := sl) (R := R) (Q := fun X => X = (some (.long (vm_J (vm_le (vm_row 1073750016 1073758208 S a) 0 m))), jv_H K I L R, n, sl)) hW hs h hB hm rfl m (Nat.le_refl m)
    rw [Nat.sub_self] at z
    rw [← Option.some.inj hv]; exact z
  · rw [if_neg c3] at hv; cases hv
theorem jv_i372 : jv_I 372 7 none 4 91 jv_c372 := ⟨rfl, rfl, rfl, rfl, rfl⟩
theorem vr_keep_t {K : Nat → Option (Nat × Nat)} {I : Nat → Nat → Int32} {L : Nat → Nat → Int64} {R : Nat → Nat → Value} (hW : jv_rW K R) {a v : Int64} {m : Nat} (h8 : m ≤ 8) {n sl : Nat} {Q : jv_R → Prop} {S T : vm_S} (hs : vm_sh S) (h : vm_r I L S) {i : Nat} (hi : i < m) (hp : vm_put 1073750016 1073758208 S (vm_nx a i) (vm_bt v i) = some T) (cont : ∀ I1, vm_r I1 L T → vc_ff vr_Ew I L I1 L → jv_Wp 372 3 [(0, .ref 178), (1, .long a), (3, .int (vl_I m)), (4, .long v), (6, .int (vl_I (i + 1)))] [] (jv_H K I1 L R) n sl Q) : jv_Wp 372 3 [(0, .ref 178), (1, .long a), (3, .int (vl_I m)), (4, .long v), (6, .int (vl_I i))] [] (jv_H K I L R) n sl Q := by
  obtain ⟨I1, hWB, hm1, hf1⟩ := vr_setM (n := n) (sl := sl) hW hs h (vm_bt_lt v i) hp
  unfold vm_nx at hWB
  rw [← vi_nx (by omega), ← vm_ubt v (show i < 8 by omega)] at hWB
  refine jv_Wp.lift (fun _ Kz => jv_Ev.steps jv_i372 2 (pc' := 6) (l' := [(0, .ref 178), (1, .long a), (3, .int (vl_I m)), (4, .long v), (6, .int (vl_I i))]) (st' := [.int (vl_I m), .int (vl_I i)]) rfl Kz) ?_
  refine jv_Wp.cnd jv_i372 (pt := 37) (pe := 9) (p := ((vl_I m) ≤ (vl_I i))) (q := ((vl_I m) ≤ (vl_I i))) rfl jv_bc_ge rfl rfl Iff.rfl (fun hz => absurd hz (fun z => absurd ((vl_I_le (by omega) (by omega)).mp z) (by omega))) (fun _ => ?_)
  refine jv_Wp.lift (fun _ Kz => jv_Ev.steps jv_i372 13 (pc' := 28) (l' := [(0, .ref 178), (1, .long a), (3, .int (vl_I m)), (4, .long v), (6, .int (vl_I i))]) (st' := [.int (((v.toUInt64 >>> (((8 : Int32) * (vl_I i)).toInt64.toUInt64 &&& Int64.toUInt64 63)).toInt64).toInt32 &&& (255 : Int32)), .long (a + (vl_I i).toInt64), .ref 178]) rfl Kz) ?_
  refine jv_Wp.lift (fun _ Kz => jv_Ev.c jv_i372 (pc' := 31) (S' := []) (G1 := (jv_H K I1 L R)) jv_i370 [.ref 178, .long (a + (vl_I i).toInt64), .int (((v.toUInt64 >>> (((8 : Int32) * (vl_I i)).toInt64.toUInt64 &&& Int64.toUInt64 63)).toInt64).toInt32 &&& (255 : Int32))] rfl rfl rfl rfl (jv_cal rfl (jv_H_at (jv_rwK hW 178 14 31 (by decide))) rfl rfl) rfl hWB rfl rfl Kz) ?_
  refine jv_Wp.lift (fun _ Kz => jv_Ev.steps jv_i372 2 (pc' := 3) (l' := [(6, .int ((vl_I i) + Int32.ofInt 1)), (0, .ref 178), (1, .long a), (3, .int (vl_I m)), (4, .long v)]) (st' := []) rfl Kz) ?_
  refine jv_Wp.loc (l := [(0, .ref 178), (1, .long a), (3, .int (vl_I m)), (4, .long v), (6, .int ((vl_I i) + Int32.ofInt 1))]) ⟨List.forall_mem_cons.mpr ⟨.tail _ (.head _), List.forall_mem_cons.mpr ⟨.tail _ (.tail _ (.head _)), List.forall_mem_cons.mpr ⟨.tail _ (.tail _ (.tail _ (.head _))), List.forall_mem_cons.mpr ⟨.tail _ (.tail _ (.tail _ (.tail _ (.head _)))), List.forall_mem_cons.mpr ⟨.head _, fun _ h => absurd h List.not_mem_nil⟩⟩⟩⟩⟩, by show List.Nodup [6, 0, 1, 3, 4]; decide⟩ ?_
  rw [show vl_I i + Int32.ofInt 1 = vl_I (i + 1) from vl_I_add i 1]
  exact cont I1 hm1 hf1
theorem vr_keep_e {K : Nat → Option (Nat × Nat)} {I : Nat → Nat → Int32} {L : Nat → Nat → Int64} {R : Nat → Nat → Value} (hW : jv_rW K R) {a v : Int64} {m : Nat} (h8 : m ≤ 8) {n sl : Nat} {Q : jv_R → Prop} (hQ : Q (none, jv_H K I L R, n, sl)) : jv_Wp 372 3 [(0, .ref 178), (1, .long a), (3, .int (vl_I m)), (4, .long v), (6, .int (vl_I m))] [] (jv_H K I L R) n sl Q := by
  refine jv_Wp.lift (fun _ Kz => jv_Ev.steps jv_i372 2 (pc' := 6) (l' := [(0, .ref 178), (1, .long a), (3, .int (vl_I m)), (4, .long v), (6, .int (vl_I m))]) (st' := [.int (vl_I m), .int (vl_I m)]) rfl Kz) ?_
  refine jv_Wp.cnd jv_i372 (pt := 37) (pe := 9) (p := ((vl_I m) ≤ (vl_I m))) (q := ((vl_I m) ≤ (vl_I m))) rfl jv_bc_ge rfl rfl Iff.rfl (fun _ => ?_) (fun hz => absurd ((vl_I_le (by omega) (by omega)).mpr (Nat.le_refl m)) hz)
  refine jv_Wp.of (jv_Ev.ret jv_i372 rfl rfl) ?_
  exact hQ
theorem vr_keep_l {K : Nat → Option (Nat × Nat)} {I : Nat → Nat → Int32} {L : Nat → Nat → Int64} {R : Nat → Nat → Value} (hW : jv_rW K R) {a v : Int64} {m : Nat} (h8 : m ≤ 8) {n sl : Nat} {Q : jv_R → Prop} {S T : vm_S} (hs : vm_sh S) (hT : vm_keep 1073750016 1073758208 S a (vm_bt v) m = some T) (hQ : ∀ I1, vm_r I1 L T → vc_ff vr_Ew I L I1 L → Q (none, jv_H K I1 L R, n, sl)) : ∀ k i, i + k = m → ∀ I1 U, vm_r I1 L U → vm_keep 1073750016 1073758208 S a (vm_bt v) i = some U → vc_ff vr_Ew I L I1 L → jv_Wp 372 3 [(0, .ref 178), (1, .long a), (3, .int (vl_I m)), (4, .long v), (6, .int (vl_I i))] [] (jv_H K I1 L R) n sl Q
  | 0, i, e, I1, U, hU, kU, fr => by
    have e : i = m := e
    subst e
    rw [kU] at hT
    exact vr_keep_e hW h8 (hQ I1 (Option.some.inj hT ▸ hU) fr)
  | k + 1, i, e, I1, U, hU, kU, fr => by
    obtain ⟨V, kV⟩ := vm_keep_le (SE := 1073750016) (AB := 1073758208) (S := S) (a := a) (f := vm_bt v) k (i + 1) T (by rw [show i + 1 + k = m by omega]; exact hT)
    obtain ⟨U', kU', pU⟩ := vm_keep_s kV
    rw [kU] at kU'
    rw [← Option.some.inj kU'] at pU
    exact vr_keep_t hW h8 (vm_sh_keep hs i U kU) hU (by omega) pU (fun I2 hV fr2 => vr_keep_l hW h8 hs hT hQ k (i + 1) (by omega) I2 V hV kV (vc_ff_trans fr fr2))
theorem vr_keep_0 {K : Nat → Option (Nat × Nat)} {I : Nat → Nat → Int32} {L : Nat → Nat → Int64} {R : Nat → Nat → Value} (hW : jv_rW K R) {a v : Int64} {m : Nat} (h8 : m ≤ 8) {n sl : Nat} {Q : jv_R → Prop} (cont : jv_Wp 372 3 [(0, .ref 178), (1, .long a), (3, .int (vl_I m)), (4, .long v), (6, .int (0 : Int32))] [] (jv_H K I L R) n sl Q) : jv_Wp 372 0 [(0, .ref 178), (1, .long a), (3, .int (vl_I m)), (4, .long v)] [] (jv_H K I L R) n sl Q := by
  refine jv_Wp.lift (fun _ Kz => jv_Ev.steps jv_i372 2 (pc' := 3) (l' := [(6, .int (0 : Int32)), (0, .ref 178), (1, .long a), (3, .int (vl_I m)), (4, .long v)]) (st' := []) rfl Kz) ?_
  refine jv_Wp.loc (l := [(0, .ref 178), (1, .long a), (3, .int (vl_I m)), (4, .long v), (6, .int (0 : Int32))]) ⟨List.forall_mem_cons.mpr ⟨.tail _ (.head _), List.forall_mem_cons.mpr ⟨.tail _ (.tail _ (.head _)), List.forall_mem_cons.mpr ⟨.tail _ (.tail _ (.tail _ (.head _))), List.forall_mem_cons.mpr ⟨.tail _ (.tail _ (.tail _ (.tail _ (.head _)))), List.forall_mem_cons.mpr ⟨.head _, fun _ h => absurd h List.not_mem_nil⟩⟩⟩⟩⟩, by show List.Nodup [6, 0, 1, 3, 4]; decide⟩ ?_
  exact cont
theorem vr_keepM {K : Nat → Option (Nat × Nat)} {I : Nat → Nat → Int32} {L : Nat → Nat → Int64} {R : Nat → Nat → Value} (hW : jv_rW K R) {a v : Int64} {m : Nat} (h8 : m ≤ 8) {S T : vm_S} (hs : vm_sh S) (h : vm_r I L S) (hT : vm_keep 1073750016 1073758208 S a (vm_bt v) m = some T) {n sl : Nat} : ∃ I1, jv_Ms 372 [.ref 178, .long a, .int (vl_I m), .long v] (jv_H K I L R) n sl (none, jv_H K I1 L R, n, sl) ∧ vm_r I1 L T ∧ vc_ff vr_Ew I L I1 L := by
  have k := vr_keep_l (I := I) (n := n) (sl := sl) (L := L) (R := R) (Q := fun X => ∃ I1, X = (none, jv_H K I1 L R, n, sl) ∧ vm_r I1 L T ∧ vc_ff vr_Ew I L I1 L) hW h8 hs hT (fun I1 a b => ⟨I1, rfl, a, b⟩) m 0 (Nat.zero_add m) I S h rfl (vc_ff_refl _ I L)
  obtain ⟨X, k, I1, e, a, b⟩ := vr_keep_0 hW h8 k
  subst e
  exact ⟨I1, k, a, b⟩
theorem vm_rem0 {a : Int64} {z : Nat} (hz : z = 1 ∨ z = 2 ∨ z = 4 ∨ z = 8) (he : a.toInt % (z : Int) = 0) : (a - a / (vl_I z).toInt64 * (vl_I z).toInt64) = (0 : Int64) := by
  have ez : (vl_I z).toInt64.toInt = (z : Int) := vi_I64 (by omega)
  have b1 := a.toInt_lt; have b2 := a.le_toInt
  obtain ⟨w, hw⟩ : ∃ w, a.toInt = (z : Int) * w := ⟨_, (Int.mul_ediv_cancel' (Int.dvd_of_emod_eq_zero he)).symm⟩
  have zp : (0 : Int) < z := by omega
  have e1 : (a / (vl_I z).toInt64).toInt = w := by
    rw [Int64.toInt_div, ez, hw, Int.mul_tdiv_cancel_left _ (by omega)]
    rcases hz with e | e | e | e <;> subst e <;> exact vi_bm (by omega) (by omega)
  refine Int64.toInt_inj.mp ?_
  rw [Int64.toInt_sub, Int64.toInt_mul, e1, ez, vi_bm (x := w * (z : Int)) (by rw [Int.mul_comm]; omega) (by rw [Int.mul_comm]; omega), hw, Int.mul_comm w, Int.sub_self]
  decide
theorem jv_i373 : jv_I 373 5 none 1 25 jv_c373 := ⟨rfl, rfl, rfl, rfl, rfl⟩
theorem vr_even_s_0 {K : Nat → Option (Nat × Nat)} {I : Nat → Nat → Int32} {L : Nat → Nat → Int64} {R : Nat → Nat → Value} (hW : jv_rW K R) {a : Int64} {z : Nat} (hz : z = 1 ∨ z = 2 ∨ z = 4 ∨ z = 8) (hi1 : (1073749504 : Int64).toInt ≤ a.toInt ∧ a.toInt < ((1073749504 : Int64) + (512 : Int64)).toInt) (he : a.toInt % (z : Int) = 0) {n sl : Nat} {Q : jv_R → Prop} (hQ : Q (none, jv_H K I L R, n, sl)) : jv_Wp 373 0 [(0, .ref 178), (1, .long a), (3, .int (vl_I z))] [] (jv_H K I L R) n sl Q := by
  have hz0 : ¬ (vl_I z).toInt64 = (0 : Int64) := by rcases hz with e | e | e | e <;> subst e <;> decide
  have hr0 : (a - a / (vl_I z).toInt64 * (vl_I z).toInt64) = (0 : Int64) := vm_rem0 hz he
  refine jv_Wp.lift (fun _ Kz => jv_Ev.steps jv_i373 3 (pc' := 7) (l' := [(0, .ref 178), (1, .long a), (3, .int (vl_I z))]) (st' := [.long (512 : Int64), .long (1073749504 : Int64), .long a]) rfl Kz) ?_
  refine jv_Wp.lift (fun _ Kz => jv_Ev.c jv_i373 (pc' := 10) (S' := [.int (1 : Int32)]) jv_i367 [.long a, .long (1073749504 : Int64), .long (512 : Int64)] rfl rfl rfl rfl rfl rfl (vr_isIn_t hi1) rfl rfl Kz) ?_
  refine jv_Wp.lift (fun _ Kz => jv_Ev.br jv_i373 (pc' := 26) (st' := []) rfl (by rfl) Kz) ?_
  refine jv_Wp.lift (fun _ Kz => jv_Ev.steps jv_i373 5 (pc' := 36) (l' := [(4, .int (1 : Int32)), (0, .ref 178), (1, .long a), (3, .int (vl_I z))]) (st' := [.int (1 : Int32), .ref 178]) rfl Kz) ?_
  refine jv_Wp.lift (fun _ Kz => jv_Ev.br jv_i373 (pc' := 39) (st' := [.ref 178]) rfl (by rfl) Kz) ?_
  refine jv_Wp.lift (fun _ Kz => jv_Ev.steps jv_i373 3 (pc' := 42) (l' := [(4, .int (1 : Int32)), (0, .ref 178), (1, .long a), (3, .int (vl_I z))]) (st' := [.long (vl_I z).toInt64, .long a, .ref 178]) rfl Kz) ?_
  refine jv_Wp.lift (fun _ Kz => jv_Ev.op jv_i373 (pc' := 43) (l' := [(4, .int (1 : Int32)), (0, .ref 178), (1, .long a), (3, .int (vl_I z))]) (st' := [.long (a - a / (vl_I z).toInt64 * (vl_I z).toInt64), .ref 178]) rfl (jv_op_lrem hz0) Kz) ?_
  refine jv_Wp.lift (fun _ Kz => jv_Ev.steps jv_i373 2 (pc' := 45) (l' := [(4, .int (1 : Int32)), (0, .ref 178), (1, .long a), (3, .int (vl_I z))]) (st' := [.int (lg_cmp (a - a / (vl_I z).toInt64 * (vl_I z).toInt64) (0 : Int64)), .ref 178]) rfl Kz) ?_
  refine jv_Wp.cnd jv_i373 (pt := 52) (pe := 48) (p := ((lg_cmp (a - a / (vl_I z).toInt64 * (vl_I z).toInt64) (0 : Int64)) = 0)) (q := ((a - a / (vl_I z).toInt64 * (vl_I z).toInt64) = (0 : Int64))) rfl jv_bi_eq rfl rfl (lg_cmp_eq (a - a / (vl_I z).toInt64 * (vl_I z).toInt64) (0 : Int64)) (fun _ => ?_) (fun hz => absurd hr0 hz)
  refine jv_Wp.lift (fun _ Kz => jv_Ev.steps jv_i373 1 (pc' := 53) (l' := [(4, .int (1 : Int32)), (0, .ref 178), (1, .long a), (3, .int (vl_I z))]) (st' := [.int (0 : Int32), .ref 178]) rfl Kz) ?_
  refine jv_Wp.lift (fun _ Kz => jv_Ev.c jv_i373 (pc' := 56) (S' := []) jv_i365 [.ref 178, .int (0 : Int32)] rfl rfl rfl rfl (jv_cal rfl (jv_H_at (jv_rwK hW 178 14 31 (by decide))) rfl rfl) rfl (vr_count0 (n := n) (sl := sl) hW) rfl rfl Kz) ?_
  refine jv_Wp.of (jv_Ev.ret jv_i373 rfl rfl) ?_
  exact hQ
theorem vr_even_s {K : Nat → Option (Nat × Nat)} {I : Nat → Nat → Int32} {L : Nat → Nat → Int64} {R : Nat → Nat → Value} (hW : jv_rW K R) {a : Int64} {z : Nat} (hz : z = 1 ∨ z = 2 ∨ z = 4 ∨ z = 8) (hi1 : (1073749504 : Int64).toInt ≤ a.toInt ∧ a.toInt < ((1073749504 : Int64) + (512 : Int64)).toInt) (he : a.toInt % (z : Int) = 0) {n sl : Nat} : jv_Ms 373 [.ref 178, .long a, .int (vl_I z)] (jv_H K I L R) n sl (none, jv_H K I L R, n, sl) := by
  obtain ⟨X, k, e⟩ := vr_even_s_0 (n := n) (sl := sl) (I := I) (L := L) (Q := fun X => X = (none, jv_H K I L R, n, sl)) hW hz hi1 he rfl
  subst e
  exact k
theorem vr_even_c_0 {K : Nat → Option (Nat × Nat)} {I : Nat → Nat → Int32} {L : Nat → Nat → Int64} {R : Nat → Nat → Value} (hW : jv_rW K R) {a : Int64} {z : Nat} (hz : z = 1 ∨ z = 2 ∨ z = 4 ∨ z = 8) (hi1 : ¬ ((1073749504 : Int64).toInt ≤ a.toInt ∧ a.toInt < ((1073749504 : Int64) + (512 : Int64)).toInt)) (hi2 : (1073745920 : Int64).toInt ≤ a.toInt ∧ a.toInt < ((1073745920 : Int64) + (64 : Int64)).toInt) (he : a.toInt % (z : Int) = 0) {n sl : Nat} {Q : jv_R → Prop} (hQ : Q (none, jv_H K I L R, n, sl)) : jv_Wp 373 0 [(0, .ref 178), (1, .long a), (3, .int (vl_I z))] [] (jv_H K I L R) n sl Q := by
  have hz0 : ¬ (vl_I z).toInt64 = (0 : Int64) := by rcases hz with e | e | e | e <;> subst e <;> decide
  have hr0 : (a - a / (vl_I z).toInt64 * (vl_I z).toInt64) = (0 : Int64) := vm_rem0 hz he
  refine jv_Wp.lift (fun _ Kz => jv_Ev.steps jv_i373 3 (pc' := 7) (l' := [(0, .ref 178), (1, .long a), (3, .int (vl_I z))]) (st' := [.long (512 : Int64), .long (1073749504 : Int64), .long a]) rfl Kz) ?_
  refine jv_Wp.lift (fun _ Kz => jv_Ev.c jv_i373 (pc' := 10) (S' := [.int (0 : Int32)]) jv_i367 [.long a, .long (1073749504 : Int64), .long (512 : Int64)] rfl rfl rfl rfl rfl rfl (vr_isIn_f hi1) rfl rfl Kz) ?_
  refine jv_Wp.lift (fun _ Kz => jv_Ev.br jv_i373 (pc' := 13) (st' := []) rfl (by rfl) Kz) ?_
  refine jv_Wp.lift (fun _ Kz => jv_Ev.steps jv_i373 3 (pc' := 20) (l' := [(0, .ref 178), (1, .long a), (3, .int (vl_I z))]) (st' := [.long (64 : Int64), .long (1073745920 : Int64), .long a]) rfl Kz) ?_
  refine jv_Wp.lift (fun _ Kz => jv_Ev.c jv_i373 (pc' := 23) (S' := [.int (1 : Int32)]) jv_i367 [.long a, .long (1073745920 : Int64), .long (64 : Int64)] rfl rfl rfl rfl rfl rfl (vr_isIn_t hi2) rfl rfl Kz) ?_
  refine jv_Wp.lift (fun _ Kz => jv_Ev.br jv_i373 (pc' := 26) (st' := []) rfl (by rfl) Kz) ?_
  refine jv_Wp.lift (fun _ Kz => jv_Ev.steps jv_i373 5 (pc' := 36) (l' := [(4, .int (1 : Int32)), (0, .ref 178), (1, .long a), (3, .int (vl_I z))]) (st' := [.int (1 : Int32), .ref 178]) rfl Kz) ?_
  refine jv_Wp.lift (fun _ Kz => jv_Ev.br jv_i373 (pc' := 39) (st' := [.ref 178]) rfl (by rfl) Kz) ?_
  refine jv_Wp.lift (fun _ Kz => jv_Ev.steps jv_i373 3 (pc' := 42) (l' := [(4, .int (1 : Int32)), (0, .ref 178), (1, .long a), (3, .int (vl_I z))]) (st' := [.long (vl_I z).toInt64, .long a, .ref 178]) rfl Kz) ?_
  refine jv_Wp.lift (fun _ Kz => jv_Ev.op jv_i373 (pc' := 43) (l' := [(4, .int (1 : Int32)), (0, .ref 178), (1, .long a), (3, .int (vl_I z))]) (st' := [.long (a - a / (vl_I z).toInt64 * (vl_I z).toInt64), .ref 178]) rfl (jv_op_lrem hz0) Kz) ?_
  refine jv_Wp.lift (fun _ Kz => jv_Ev.steps jv_i373 2 (pc' := 45) (l' := [(4, .int (1 : Int32)), (0, .ref 178), (1, .long a), (3, .int (vl_I z))]) (st' := [.int (lg_cmp (a - a / (vl_I z).toInt64 * (vl_I z).toInt64) (0 : Int64)), .ref 178]) rfl Kz) ?_
  refine jv_Wp.cnd jv_i373 (pt := 52) (pe := 48) (p := ((lg_cmp (a - a / (vl_I z).toInt64 * (vl_I z).toInt64) (0 : Int64)) = 0)) (q := ((a - a / (vl_I z).toInt64 * (vl_I z).toInt64) = (0 : Int64))) rfl jv_bi_eq rfl rfl (lg_cmp_eq (a - a / (vl_I z).toInt64 * (vl_I z).toInt64) (0 : Int64)) (fun _ => ?_) (fun hz => absurd hr0 hz)
  refine jv_Wp.lift (fun _ Kz => jv_Ev.steps jv_i373 1 (pc' := 53) (l' := [(4, .int (1 : Int32)), (0, .ref 178), (1, .long a), (3, .int (vl_I z))]) (st' := [.int (0 : Int32), .ref 178]) rfl Kz) ?_
  refine jv_Wp.lift (fun _ Kz => jv_Ev.c jv_i373 (pc' := 56) (S' := []) jv_i365 [.ref 178, .int (0 : Int32)] rfl rfl rfl rfl (jv_cal rfl (jv_H_at (jv_rwK hW 178 14 31 (by decide))) rfl rfl) rfl (vr_count0 (n := n) (sl := sl) hW) rfl rfl Kz) ?_
  refine jv_Wp.of (jv_Ev.ret jv_i373 rfl rfl) ?_
  exact hQ
theorem vr_even_c {K : Nat → Option (Nat × Nat)} {I : Nat → Nat → Int32} {L : Nat → Nat → Int64} {R : Nat → Nat → Value} (hW : jv_rW K R) {a : Int64} {z : Nat} (hz : z = 1 ∨ z = 2 ∨ z = 4 ∨ z = 8) (hi1 : ¬ ((1073749504 : Int64).toInt ≤ a.toInt ∧ a.toInt < ((1073749504 : Int64) + (512 : Int64)).toInt)) (hi2 : (1073745920 : Int64).toInt ≤ a.toInt ∧ a.toInt < ((1073745920 : Int64) + (64 : Int64)).toInt) (he : a.toInt % (z : Int) = 0) {n sl : Nat} : jv_Ms 373 [.ref 178, .long a, .int (vl_I z)] (jv_H K I L R) n sl (none, jv_H K I L R, n, sl) := by
  obtain ⟨X, k, e⟩ := vr_even_c_0 (n := n) (sl := sl) (I := I) (L := L) (Q := fun X => X = (none, jv_H K I L R, n, sl)) hW hz hi1 hi2 he rfl
  subst e
  exact k
theorem vr_even_n_0 {K : Nat → Option (Nat × Nat)} {I : Nat → Nat → Int32} {L : Nat → Nat → Int64} {R : Nat → Nat → Value} (hW : jv_rW K R) {a : Int64} {z : Nat} (hz : z = 1 ∨ z = 2 ∨ z = 4 ∨ z = 8) (hi1 : ¬ ((1073749504 : Int64).toInt ≤ a.toInt ∧ a.toInt < ((1073749504 : Int64) + (512 : Int64)).toInt)) (hi2 : ¬ ((1073745920 : Int64).toInt ≤ a.toInt ∧ a.toInt < ((1073745920 : Int64) + (64 : Int64)).toInt)) {n sl : Nat} {Q : jv_R → Prop} (hQ : Q (none, jv_H K I L R, n, sl)) : jv_Wp 373 0 [(0, .ref 178), (1, .long a), (3, .int (vl_I z))] [] (jv_H K I L R) n sl Q := by
  refine jv_Wp.lift (fun _ Kz => jv_Ev.steps jv_i373 3 (pc' := 7) (l' := [(0, .ref 178), (1, .long a), (3, .int (vl_I z))]) (st' := [.long (512 : Int64), .long (1073749504 : Int64), .long a]) rfl Kz) ?_
  refine jv_Wp.lift (fun _ Kz => jv_Ev.c jv_i373 (pc' := 10) (S' := [.int (0 : Int32)]) jv_i367 [.long a, .long (1073749504 : Int64), .long (512 : Int64)] rfl rfl rfl rfl rfl rfl (vr_isIn_f hi1) rfl rfl Kz) ?_
  refine jv_Wp.lift (fun _ Kz => jv_Ev.br jv_i373 (pc' := 13) (st' := []) rfl (by rfl) Kz) ?_
  refine jv_Wp.lift (fun _ Kz => jv_Ev.steps jv_i373 3 (pc' := 20) (l' := [(0, .ref 178), (1, .long a), (3, .int (vl_I z))]) (st' := [.long (64 : Int64), .long (1073745920 : Int64), .long a]) rfl Kz) ?_
  refine jv_Wp.lift (fun _ Kz => jv_Ev.c jv_i373 (pc' := 23) (S' := [.int (0 : Int32)]) jv_i367 [.long a, .long (1073745920 : Int64), .long (64 : Int64)] rfl rfl rfl rfl rfl rfl (vr_isIn_f hi2) rfl rfl Kz) ?_
  refine jv_Wp.lift (fun _ Kz => jv_Ev.br jv_i373 (pc' := 30) (st' := []) rfl (by rfl) Kz) ?_
  refine jv_Wp.lift (fun _ Kz => jv_Ev.steps jv_i373 4 (pc' := 36) (l' := [(4, .int (0 : Int32)), (0, .ref 178), (1, .long a), (3, .int (vl_I z))]) (st' := [.int (0 : Int32), .ref 178]) rfl Kz) ?_
  refine jv_Wp.lift (fun _ Kz => jv_Ev.br jv_i373 (pc' := 52) (st' := [.ref 178]) rfl (by rfl) Kz) ?_
  refine jv_Wp.lift (fun _ Kz => jv_Ev.steps jv_i373 1 (pc' := 53) (l' := [(4, .int (0 : Int32)), (0, .ref 178), (1, .long a), (3, .int (vl_I z))]) (st' := [.int (0 : Int32), .ref 178]) rfl Kz) ?_
  refine jv_Wp.lift (fun _ Kz => jv_Ev.c jv_i373 (pc' := 56) (S' := []) jv_i365 [.ref 178, .int (0 : Int32)] rfl rfl rfl rfl (jv_cal rfl (jv_H_at (jv_rwK hW 178 14 31 (by decide))) rfl rfl) rfl (vr_count0 (n := n) (sl := sl) hW) rfl rfl Kz) ?_
  refine jv_Wp.of (jv_Ev.ret jv_i373 rfl rfl) ?_
  exact hQ
theorem vr_even_n {K : Nat → Option (Nat × Nat)} {I : Nat → Nat → Int32} {L : Nat → Nat → Int64} {R : Nat → Nat → Value} (hW : jv_rW K R) {a : Int64} {z : Nat} (hz : z = 1 ∨ z = 2 ∨ z = 4 ∨ z = 8) (hi1 : ¬ ((1073749504 : Int64).toInt ≤ a.toInt ∧ a.toInt < ((1073749504 : Int64) + (512 : Int64)).toInt)) (hi2 : ¬ ((1073745920 : Int64).toInt ≤ a.toInt ∧ a.toInt < ((1073745920 : Int64) + (64 : Int64)).toInt)) {n sl : Nat} : jv_Ms 373 [.ref 178, .long a, .int (vl_I z)] (jv_H K I L R) n sl (none, jv_H K I L R, n, sl) := by
  obtain ⟨X, k, e⟩ := vr_even_n_0 (n := n) (sl := sl) (I := I) (L := L) (Q := fun X => X = (none, jv_H K I L R, n, sl)) hW hz hi1 hi2 rfl
  subst e
  exact k
theorem vr_evenM {K : Nat → Option (Nat × Nat)} {I : Nat → Nat → Int32} {L : Nat → Nat → Int64} {R : Nat → Nat → Value} (hW : jv_rW K R) {a : Int64} {z : Nat} (hz : z = 1 ∨ z = 2 ∨ z = 4 ∨ z = 8) (he : vm_even 1073750016 a z) {n sl : Nat} : jv_Ms 373 [.ref 178, .long a, .int (vl_I z)] (jv_H K I L R) n sl (none, jv_H K I L R, n, sl) := by
  have d1 : (1073749504 : Int64).toInt = 1073749504 := by decide
  have d2 : ((1073749504 : Int64) + (512 : Int64)).toInt = 1073750016 := by decide
  have d3 : (1073745920 : Int64).toInt = 1073745920 := by decide
  have d4 : ((1073745920 : Int64) + (64 : Int64)).toInt = 1073745984 := by decide
  by_cases c1 : vm_ins a.toInt (1073750016 - 512) 512
  · exact vr_even_s hW hz (by rw [d1, d2]; omega) (he (Or.inl c1))
  · by_cases c2 : vm_ins a.toInt 1073745920 64
    · exact vr_even_c hW hz (by rw [d1, d2]; omega) (by rw [d3, d4]; omega) (he (Or.inr c2))
    · exact vr_even_n hW hz (by rw [d1, d2]; omega) (by rw [d3, d4]; omega)