/-! part g38: a run of the class's machine, as a whole (a hand text: this part is the source) -/
/-- a run of at most n instructions more: how many it made, the place where it ended, its result (none: no fuel), and what there is then; nothing at all where a breach would be -/
noncomputable def vm_go (SE AB : Int) (F : Nat → vf_F) : Nat → Nat → vm_S → Option (Nat × Nat × Option Int64 × vm_S)
  | 0, p, S => some (0, p, none, S)
  | n + 1, p, S =>
    if ((F p).kind = 5 ∨ (F p).kind = 6) ∧ (F p).code = 149 then (vm_rd S 0).map fun v => (1, p, some v, S)
    else (vm_step SE AB (F p) (F (p + 1)).i p S).bind fun e => (vm_go SE AB F n e.1.toNat e.2).map fun r => (r.1 + 1, r.2)
/-- what instructions that are no calls leave as it is -/
def vm_e7 (S T : vm_S) : Prop := ∀ c i, c = 0 ∨ 7 ≤ c → T.2 c i = S.2 c i
theorem vm_e7_em {S T : vm_S} (h : vm_e7 S T) : vm_em S T := fun c i hc => h c i (by omega)
theorem vm_gv_e7 {S : vm_S} {r : Nat} {v : Int64} : vm_e7 S (vm_gv S r v) := fun c i hc => jv_u_o _ _ _ _ (by omega)
theorem vm_e7_t {S T U : vm_S} (a : vm_e7 S T) (b : vm_e7 T U) : vm_e7 S U := fun c i h => (b c i h).trans (a c i h)
theorem vm_put_e7 {SE AB : Int} {S T : vm_S} {a : Int64} {b : Nat} (h : vm_put SE AB S a b = some T) : vm_e7 S T := by
  by_cases c1 : vm_ins a.toInt (SE - 512) 512
  · have h := (if_pos c1).symm.trans h
    rw [← Option.some.inj h]
    exact fun c i hc => (jv_u_o _ _ _ _ (by omega)).trans (jv_u_o _ _ _ _ (by omega))
  have h := (if_neg c1).symm.trans h
  by_cases c2 : vm_ins a.toInt 1073741824 (vm_size S)
  · have h := (if_pos c2).symm.trans h
    rw [← Option.some.inj h]
    exact fun c i hc => jv_u_o _ _ _ _ (by omega)
  have h := (if_neg c2).symm.trans h
  by_cases c3 : vm_ins a.toInt 1073745920 64
  · have h := (if_pos c3).symm.trans h
    by_cases c4 : 16 ≤ a.toInt - 1073745920
    · have h := (if_pos c4).symm.trans h
      rw [← Option.some.inj h]
      exact fun c i hc => jv_u_o _ _ _ _ (by omega)
    · have h := (if_neg c4).symm.trans h
      cases h
  have h := (if_neg c3).symm.trans h
  by_cases c5 : vm_ins a.toInt AB 65536 ∧ vm_led S (a.toInt - AB).toNat
  · have h := (if_pos c5).symm.trans h
    rw [← Option.some.inj h]
    exact fun c i hc => jv_u_o _ _ _ _ (by omega)
  · have h := (if_neg c5).symm.trans h
    cases h
theorem vm_keep_e7 {SE AB : Int} {S : vm_S} {a : Int64} {f : Nat → Nat} : ∀ (n : Nat) {T : vm_S}, vm_keep SE AB S a f n = some T → vm_e7 S T
  | 0, T, h => by rw [← Option.some.inj h]; exact fun _ _ _ => rfl
  | n + 1, T, h => by
    obtain ⟨U, hU, h⟩ := Option.bind_eq_some_iff.mp h
    exact vm_e7_t (vm_keep_e7 n hU) (vm_put_e7 h)
theorem vm_load_e7 {SE AB : Int} {S T : vm_S} {f : vf_F} (h : vm_load SE AB f S = some T) : vm_e7 S T := by
  obtain ⟨b, _, h⟩ := Option.bind_eq_some_iff.mp h
  by_cases c : vm_even SE (b + vm_i f.o) f.z
  · have h := (if_pos c).symm.trans h
    obtain ⟨v, _, e⟩ := Option.map_eq_some_iff.mp h
    rw [← e]; exact vm_gv_e7
  · have h := (if_neg c).symm.trans h
    cases h
theorem vm_store_e7 {SE AB : Int} {S T : vm_S} {f : vf_F} (h : vm_store SE AB f S = some T) : vm_e7 S T := by
  obtain ⟨b, _, h⟩ := Option.bind_eq_some_iff.mp h
  obtain ⟨v, _, h⟩ := Option.bind_eq_some_iff.mp h
  by_cases c : vm_even SE (b + vm_i f.o) f.z
  · have h := (if_pos c).symm.trans h
    exact vm_keep_e7 _ h
  · have h := (if_neg c).symm.trans h
    cases h
theorem vm_atomic_e7 {SE AB : Int} {S T : vm_S} {f : vf_F} (h : vm_atomic SE AB f S = some T) : vm_e7 S T := by
  obtain ⟨b, _, h⟩ := Option.bind_eq_some_iff.mp h
  obtain ⟨y, _, h⟩ := Option.bind_eq_some_iff.mp h
  obtain ⟨q, _, h⟩ := Option.bind_eq_some_iff.mp h
  by_cases c : (b + vm_i f.o).toInt % (f.z : Int) = 0
  · have h := (if_pos c).symm.trans h
    obtain ⟨old, _, h⟩ := Option.bind_eq_some_iff.mp h
    obtain ⟨U, hU, e⟩ := Option.map_eq_some_iff.mp h
    have u := vm_keep_e7 _ hU
    rw [← e]
    split
    · exact vm_e7_t u vm_gv_e7
    · split
      · exact vm_e7_t u vm_gv_e7
      · exact u
  · have h := (if_neg c).symm.trans h
    cases h
theorem vm_arith_e7 {S T : vm_S} {f : vf_F} (h : vm_arith f S = some T) : vm_e7 S T := by
  obtain ⟨b, _, h⟩ := Option.bind_eq_some_iff.mp h
  obtain ⟨v, _, h⟩ := Option.bind_eq_some_iff.mp h
  rw [← Option.some.inj h]; exact vm_gv_e7
/-- what is known of the instruction at a place -/
def vm_wd (F : Nat → vf_F) (N p : Nat) : Prop := (F p).d < 11 ∧ (F p).s < 11 ∧ ((F p).kind = 1 → (F p).mode = 4 → (F p).z = 1 ∨ (F p).z = 2 ∨ (F p).z = 4) ∧ ((F p).kind = 4 ∨ (F p).kind = 7 → vf_ar (F p)) ∧ ((F p).kind = 3 → (F p).mode = 6 → (F p).i = 0 ∨ (F p).i = 1 ∨ (F p).i = 64 ∨ (F p).i = 65 ∨ (F p).i = 80 ∨ (F p).i = 81 ∨ (F p).i = 160 ∨ (F p).i = 161 ∨ (F p).i = 225 ∨ (F p).i = 241) ∧ ((F p).kind = 0 → (F p).code = 24 ∧ p + 1 < N ∧ ((F p).s = 1 → (F (p + 1)).i = 0 ∧ 0 ≤ (F p).i)) ∧ ((F p).kind = 5 ∨ (F p).kind = 6 → (F p).n = 0 → (F p).bit3 = false) ∧ ((F p).code = 133 → 1 ≤ (F p).i ∧ (F p).i ≤ 6) ∧ (0 < p → (F (p - 1)).code ≠ 24) ∧ (F p).code < 256
/-- a run stays where instructions are, and goes on -/
def vm_path (SE AB : Int) (F : Nat → vf_F) (N : Nat) : Nat → Nat → vm_S → Prop
  | 0, p, _ => p < N
  | n + 1, p, S => p < N ∧ vm_wd F N p ∧ (((F p).kind = 5 ∨ (F p).kind = 6) ∧ (F p).code = 149 → ∃ v, vm_rd S 0 = some v) ∧ (¬ (((F p).kind = 5 ∨ (F p).kind = 6) ∧ (F p).code = 149) → ∃ q T, vm_step SE AB (F p) (F (p + 1)).i p S = some (((q : Nat) : Int), T) ∧ vm_path SE AB F N n q T)
theorem vm_path_p {SE AB : Int} {F : Nat → vf_F} {N : Nat} {n p : Nat} {S : vm_S} (h : vm_path SE AB F N n p S) : p < N := by
  cases n with
  | zero => exact h
  | succ n => exact h.1
/-- what a step is, kind by kind -/
theorem vm_step_is {SE AB : Int} {f : vf_F} {i2 : Int} {p : Nat} {S T : vm_S} {q : Int} (hx : f.code ≠ 133) (h : vm_step SE AB f i2 p S = some (q, T)) : (f.kind = 0 ∧ q = (p : Int) + 2 ∧ T = vm_gv S f.d (vm_i (i2 * 4294967296 + f.i % 4294967296))) ∨ (f.kind = 1 ∧ q = (p : Int) + 1 ∧ vm_load SE AB f S = some T) ∨ (f.kind = 2 ∧ q = (p : Int) + 1 ∧ vm_store SE AB f S = some T) ∨ (f.kind = 3 ∧ q = (p : Int) + 1 ∧ f.mode = 6 ∧ vm_atomic SE AB f S = some T) ∨ (f.kind = 3 ∧ q = (p : Int) + 1 ∧ f.mode ≠ 6 ∧ vm_store SE AB f S = some T) ∨ ((f.kind = 4 ∨ f.kind = 7) ∧ q = (p : Int) + 1 ∧ vm_arith f S = some T) ∨ ((f.kind = 5 ∨ f.kind = 6) ∧ S = T ∧ ((f.code = 5 ∧ q = (p : Int) + 1 + f.o) ∨ (f.code = 6 ∧ q = (p : Int) + 1 + f.i) ∨ (f.code ≠ 5 ∧ f.code ≠ 6 ∧ vm_jump f p S = some q))) := by
  have k8 : f.kind < 8 := Nat.mod_lt _ (by decide)
  unfold vm_step at h
  by_cases k0 : f.kind = 0
  · rw [if_pos k0] at h
    have e := Option.some.inj h
    exact Or.inl ⟨k0, (congrArg Prod.fst e).symm, (congrArg Prod.snd e).symm⟩
  rw [if_neg k0] at h
  by_cases k1 : f.kind = 1
  · rw [if_pos k1] at h
    obtain ⟨U, hU, e⟩ := Option.map_eq_some_iff.mp h
    have e2 : U = T := congrArg Prod.snd e
    exact Or.inr (Or.inl ⟨k1, (congrArg Prod.fst e).symm, e2 ▸ hU⟩)
  rw [if_neg k1] at h
  by_cases k2 : f.kind = 2
  · rw [if_pos k2] at h
    obtain ⟨U, hU, e⟩ := Option.map_eq_some_iff.mp h
    have e2 : U = T := congrArg Prod.snd e
    exact Or.inr (Or.inr (Or.inl ⟨k2, (congrArg Prod.fst e).symm, e2 ▸ hU⟩))
  rw [if_neg k2] at h
  by_cases k3 : f.kind = 3
  · rw [if_pos k3] at h
    obtain ⟨U, hU, e⟩ := Option.map_eq_some_iff.mp h
    have e2 : U = T := congrArg Prod.snd e
    have e1 := (congrArg Prod.fst e).symm
    by_cases m6 : f.mode = 6
    · rw [if_pos m6] at hU
      exact Or.inr (Or.inr (Or.inr (Or.inl ⟨k3, e1, m6, e2 ▸ hU⟩)))
    · rw [if_neg m6] at hU
      exact Or.inr (Or.inr (Or.inr (Or.inr (Or.inl ⟨k3, e1, m6, e2 ▸ hU⟩))))
  rw [if_neg k3] at h
  by_cases k4 : f.kind = 4 ∨ f.kind = 7
  · rw [if_pos k4] at h
    obtain ⟨U, hU, e⟩ := Option.map_eq_some_iff.mp h
    have e2 : U = T := congrArg Prod.snd e
    exact Or.inr (Or.inr (Or.inr (Or.inr (Or.inr (Or.inl ⟨k4, (congrArg Prod.fst e).symm, e2 ▸ hU⟩)))))
  rw [if_neg k4] at h
  have k56 : f.kind = 5 ∨ f.kind = 6 := by omega
  refine Or.inr (Or.inr (Or.inr (Or.inr (Or.inr (Or.inr ⟨k56, ?_⟩)))))
  by_cases c5 : f.code = 5
  · rw [if_pos c5] at h
    have e := Option.some.inj h
    exact ⟨congrArg Prod.snd e, Or.inl ⟨c5, (congrArg Prod.fst e).symm⟩⟩
  rw [if_neg c5] at h
  by_cases c6 : f.code = 6
  · rw [if_pos c6] at h
    have e := Option.some.inj h
    exact ⟨congrArg Prod.snd e, Or.inr (Or.inl ⟨c6, (congrArg Prod.fst e).symm⟩)⟩
  rw [if_neg c6, if_neg hx] at h
  obtain ⟨g, hg, e⟩ := Option.map_eq_some_iff.mp h
  have e1 : g = q := congrArg Prod.fst e
  exact ⟨congrArg Prod.snd e, Or.inr (Or.inr ⟨c5, c6, e1 ▸ hg⟩)⟩
theorem vm_step_e7 {SE AB : Int} {f : vf_F} {i2 : Int} {p : Nat} {S T : vm_S} {q : Int} (hx : f.code ≠ 133) (h : vm_step SE AB f i2 p S = some (q, T)) : vm_e7 S T := by
  rcases vm_step_is hx h with z | z | z | z | z | z | z
  · rw [z.2.2]; exact vm_gv_e7
  · exact vm_load_e7 z.2.2
  · exact vm_store_e7 z.2.2
  · exact vm_atomic_e7 z.2.2.2
  · exact vm_store_e7 z.2.2.2
  · exact vm_arith_e7 z.2.2
  · rw [← z.2.1]; exact fun _ _ _ => rfl
theorem vm_step_call {SE AB : Int} {f : vf_F} {i2 : Int} {p : Nat} {S T : vm_S} {q : Int} (hx : f.code = 133) (h : vm_step SE AB f i2 p S = some (q, T)) : q = (p : Int) + 1 ∧ vm_call SE AB f.i S = some T := by
  have k5 : f.kind = 5 := by show f.code % 8 = 5; rw [hx]
  unfold vm_step at h
  rw [if_neg (by omega), if_neg (by omega), if_neg (by omega), if_neg (by omega), if_neg (by omega), if_neg (by omega), if_neg (by omega), if_pos hx] at h
  obtain ⟨U, hU, e⟩ := Option.map_eq_some_iff.mp h
  have e2 : U = T := congrArg Prod.snd e
  exact ⟨(congrArg Prod.fst e).symm, e2 ▸ hU⟩
section
variable {Z : Nat} {K : Nat → Option (Nat × Nat)} {I I1 : Nat → Nat → Int32} {L L1 : Nat → Nat → Int64} {R : Nat → Nat → Value} {S T : vm_S} {mo : Nat → Nat} {F : Nat → vf_F} {W : Nat → Int64} {N pr ws p q : Nat} {w : Int64}
theorem vk_all_x (hA : vk_all Z K I L R S mo) (o : ∀ q i, ¬ (q = 171 ∧ 8 ≤ i) → I1 q i = I q i) (oL : ∀ q i, ¬ (q = 171 ∧ i = 9) → L1 q i = L q i) : vk_all Z K I1 L1 R S mo := ⟨vm_c_ext (fun q i h => o q i (by unfold vm_cell at h; omega)) (fun q i h => oL q i (by omega)) hA.1, vk_M_ext (o 2 7 (by omega)) (fun q i z => o q i (by omega)) (fun q i z => oL q i (by omega)) (vm_em_r S) hA.2.1, vk_G_ext (vm_em_s (vm_em_r S)) (fun _ => rfl) (fun i => o 8 i (by omega)) (fun i => o 9 i (by omega)) (o 171 7 (by omega)) hA.2.2.1, hA.2.2.2⟩
theorem vk_all_e7 (hA : vk_all Z K I L R S mo) (hc : vm_c I1 L1 T) (ff : vc_ff vm_Ep I L I1 L1) (e7 : vm_e7 S T) : vk_all Z K I1 L1 R T mo :=
  have em := vm_e7_em e7
  ⟨hc, vk_M_ext (ff.1 2 7 (by omega)) (fun q i z => ff.1 q i (by omega)) (fun q i z => ff.2 q i (by omega)) em hA.2.1, vk_G_ext (vm_em_s em) (fun i => e7 7 i (by omega)) (fun i => ff.1 8 i (by omega)) (fun i => ff.1 9 i (by omega)) (ff.1 171 7 (by omega)) hA.2.2.1, vm_ok_em em hA.2.2.2⟩
/-- one instruction that is no call and no exit -/
theorem vc_inst (hC : vm_CW K R) (h : vm_c I L S) (ef : vc_F w = F p) (wd : vm_wd F N p) (hp : p < 1024) (hnx : I 171 8 = vl_I (p + 1)) (hP : vc_P K L R pr ws N W) (hF : ∀ p, p < N → vc_F (W p) = F p) (hx : (F p).code ≠ 133) (hq : q ≤ 1024) (hs : vm_step 1073750528 1073807360 (F p) (F (p + 1)).i p S = some ((q : Int), T)) {n sl : Nat} : ∃ I1 L1, jv_Ms 55 [.ref 171, .ref pr, .long w] (jv_H K I L R) n sl (none, jv_H K I1 L1 R, n, sl) ∧ vm_c I1 L1 T ∧ I1 171 8 = vl_I q ∧ vc_ff vm_Ep I L I1 L1 := by
  obtain ⟨w1, w2, w3, w4, w5, w6, w7, w8, w9, w10⟩ := wd
  have nxt : ∀ {x : Int}, x = (p : Int) + 1 → ((q : Int) = x) → (∃ I1 L1, jv_Ms 55 [.ref 171, .ref pr, .long w] (jv_H K I L R) n sl (none, jv_H K I1 L1 R, n, sl) ∧ vm_c I1 L1 T ∧ vc_ff vm_Er I L I1 L1) → ∃ I1 L1, jv_Ms 55 [.ref 171, .ref pr, .long w] (jv_H K I L R) n sl (none, jv_H K I1 L1 R, n, sl) ∧ vm_c I1 L1 T ∧ I1 171 8 = vl_I q ∧ vc_ff vm_Ep I L I1 L1 := fun a b h => by
    obtain ⟨I1, L1, m1, m2, m3⟩ := h
    exact ⟨I1, L1, m1, m2, by rw [m3.1 171 8 (by omega), hnx, show p + 1 = q by omega], vc_ff_le (fun _ _ z => Or.inl z) m3⟩
  rcases vm_step_is hx hs with z | z | z | z | z | z | z
  · obtain ⟨k, e1, e2⟩ := z
    obtain ⟨c1, c2, c3⟩ := w6 k
    obtain ⟨I1, L1, m1, m2, m3, m4⟩ := vc_instr0 (n := n) (sl := sl) hC h ef w1 k hP c2 hnx (congrArg vf_F.i (hF (p + 1) c2))
    rw [e2]
    exact ⟨I1, L1, m1, m2, by rw [m3, show p + 2 = q by omega], m4⟩
  · exact nxt rfl z.2.1 (vc_instr1 hC h ef w1 w2 z.1 (w3 z.1) z.2.2)
  · exact nxt rfl z.2.1 (vc_instr2 hC h ef w1 w2 z.1 z.2.2)
  · exact nxt rfl z.2.1 (vc_instr3A hC h ef w1 w2 z.1 z.2.2.1 (w5 z.1 z.2.2.1) z.2.2.2)
  · exact nxt rfl z.2.1 (vc_instr3 hC h ef w1 w2 z.1 z.2.2.1 z.2.2.2)
  · rcases z.1 with k | k
    · exact nxt rfl z.2.1 (vc_instr4 hC h ef w1 w2 (w4 z.1) k z.2.2)
    · exact nxt rfl z.2.1 (vc_instr7 hC h ef w1 w2 (w4 z.1) k z.2.2)
  · obtain ⟨k, eT, z⟩ := z
    have J : ∃ I1 L1, jv_Ms 56 [.ref 171, .long w] (jv_H K I L R) n sl (none, jv_H K I1 L1 R, n, sl) ∧ vm_c I1 L1 T ∧ I1 171 8 = vl_I ((q : Int)).toNat ∧ vc_ff vm_Ep I L I1 L1 := by
      rcases z with z | z | z
      · exact vc_goOn5 hC eT h ef w1 w2 hp hnx (by omega) z.1 z.2
      · exact vc_goOn6 hC eT h ef w1 w2 hp hnx (by omega) z.1 z.2
      · exact vc_goOnJ hC eT h ef w1 w2 hp hnx (by omega) k z.1 z.2.1 z.2.2
    rcases k with k | k
    · exact vc_instr5 hC h ef w1 w2 hp hnx (g := (q : Int)) (by omega) k J
    · exact vc_instr6 hC h ef w1 w2 hp hnx (g := (q : Int)) (by omega) k J
end
