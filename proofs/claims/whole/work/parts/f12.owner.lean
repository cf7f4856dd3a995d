/-! part f12: the maps of the area; owners of bytes, of the reference (gen/tf12.py) -/
/-- how much of the area a map has -/
def vm_szof (S : vm_S) (k : Nat) : Nat := if S.2 8 k = 2 then S.2 11 k else S.2 11 k * vm_fill (S.2 10 k)
def vm_bg (S : vm_S) : Nat → Nat
  | 0 => 0
  | k + 1 => vm_bg S k + vm_szof S k
/-- entries, and bytes of keys, of the tables before a map -/
def vm_fe (S : vm_S) : Nat → Nat
  | 0 => 0
  | k + 1 => vm_fe S k + if S.2 8 k = 1 then S.2 11 k else 0
def vm_fk (S : vm_S) : Nat → Nat
  | 0 => 0
  | k + 1 => vm_fk S k + if S.2 8 k = 1 then S.2 11 k * S.2 9 k else 0
/-- maps are as they may be, one behind another -/
def vm_sh (S : vm_S) : Prop := vm_cnt S ≤ 8 ∧ (∀ k, k < vm_cnt S → (S.2 8 k = 2 ∧ 64 ≤ S.2 11 k ∧ S.2 11 k ≤ 16384 ∧ S.2 9 k = 0 ∧ S.2 10 k = 0 ∧ S.2 11 k % 8 = 0 ∧ ∃ t, S.2 11 k = 2 ^ t) ∨ (S.2 8 k ≤ 1 ∧ 1 ≤ S.2 10 k ∧ S.2 10 k ≤ 256 ∧ 1 ≤ S.2 11 k ∧ S.2 11 k ≤ 4096 ∧ (S.2 8 k = 0 → S.2 9 k = 4) ∧ (S.2 8 k = 1 → 1 ≤ S.2 9 k ∧ S.2 9 k ≤ 32))) ∧ (∀ k, k < vm_cnt S → S.2 12 k = vm_bg S k) ∧ vm_bg S (vm_cnt S) ≤ 65536 ∧ S.2 0 2 = vm_bg S (vm_cnt S)
theorem vm_bg_le (S : vm_S) : ∀ (d k : Nat), vm_bg S k ≤ vm_bg S (k + d)
  | 0, _ => Nat.le_refl _
  | d + 1, k => Nat.le_trans (vm_bg_le S d k) (Nat.le_add_right _ _)
theorem vm_bg_mono (S : vm_S) {k m : Nat} (h : k ≤ m) : vm_bg S k ≤ vm_bg S m := by
  have := vm_bg_le S (m - k) k
  rwa [show k + (m - k) = m by omega] at this
theorem vm_fill_ge (n : Nat) : n ≤ vm_fill n ∧ vm_fill n < n + 8 ∧ vm_fill n % 8 = 0 := by unfold vm_fill; omega
/-- the entries of a map lie in it -/
theorem vm_at_in {S : vm_S} (h : vm_sh S) {k e : Nat} (hk : k < vm_cnt S) (hr : S.2 8 k ≠ 2) (he : e < S.2 11 k) : vm_bg S k ≤ vm_at S k e ∧ vm_at S k e + vm_fill (S.2 10 k) ≤ vm_bg S (k + 1) ∧ vm_bg S (k + 1) ≤ 65536 := by
  have hb := h.2.2.1 k hk
  have hm : (e + 1) * vm_fill (S.2 10 k) ≤ S.2 11 k * vm_fill (S.2 10 k) := Nat.mul_le_mul_right _ he
  rw [Nat.add_mul, Nat.one_mul] at hm
  have hz : vm_bg S (k + 1) = vm_bg S k + S.2 11 k * vm_fill (S.2 10 k) := by
    show vm_bg S k + vm_szof S k = _
    unfold vm_szof; rw [if_neg hr]
  have hl := vm_bg_mono S (k := k + 1) (m := vm_cnt S) hk
  have := h.2.2.2.1
  unfold vm_at
  omega
theorem vm_fe_le {S : vm_S} (h : vm_sh S) : ∀ k, k ≤ vm_cnt S → 8 * vm_fe S k ≤ vm_bg S k ∧ vm_fk S k ≤ 4 * vm_bg S k
  | 0, _ => ⟨Nat.le_refl _, Nat.le_refl _⟩
  | k + 1, hk => by
    have ih := vm_fe_le h k (by omega)
    have hs := h.2.1 k (by omega)
    show 8 * (vm_fe S k + _) ≤ vm_bg S k + vm_szof S k ∧ vm_fk S k + _ ≤ 4 * (vm_bg S k + vm_szof S k)
    by_cases c : S.2 8 k = 1
    · rw [if_pos c, if_pos c]
      have c2 : ¬ S.2 8 k = 2 := by omega
      have hs : 1 ≤ S.2 10 k ∧ S.2 9 k ≤ 32 := by
        rcases hs with z | z
        · omega
        · exact ⟨z.2.1, (z.2.2.2.2.2.2 c).2⟩
      unfold vm_szof; rw [if_neg c2]
      have hf : 8 ≤ vm_fill (S.2 10 k) := by unfold vm_fill; omega
      have m1 : S.2 11 k * 8 ≤ S.2 11 k * vm_fill (S.2 10 k) := Nat.mul_le_mul_left _ hf
      have m2 : S.2 11 k * S.2 9 k ≤ S.2 11 k * 32 := Nat.mul_le_mul_left _ hs.2
      omega
    · rw [if_neg c, if_neg c]; omega
/-- the reference's maps -/
def vr_mp (I : Nat → Nat → Int32) (S : vm_S) : Prop := I 180 5 = vl_I (vm_cnt S) ∧ ∀ k, k < vm_cnt S → I 183 k = vl_I (S.2 8 k) ∧ I 184 k = vl_I (S.2 9 k) ∧ I 185 k = vl_I (S.2 10 k) ∧ I 186 k = vl_I (S.2 11 k) ∧ I 187 k = vl_I (S.2 12 k) ∧ I 188 k = vl_I (vm_fe S k) ∧ I 189 k = vl_I (vm_fk S k)
theorem jv_u_id {α : Type} (f : Nat → Nat → α) (o j : Nat) : jv_u f o j (f o j) = f := by
  funext q i
  by_cases c : q = o
  · subst c
    by_cases d : i = j
    · subst d; exact jv_u_self _ _ _ _
    · exact jv_u_j _ _ _ _ d
  · exact jv_u_o _ _ _ _ c
theorem vi_dv {a b : Int32} {x z k : Nat} (ha : a = vl_I x) (hb : b = vl_I z) (hx : x < 2147483648) (hz : z < 2147483648) (h : x / z = k) : a / b = vl_I k := by
  subst h
  rw [ha, hb]
  have := Nat.div_le_self x z
  refine Int32.toInt_inj.mp ?_
  rw [Int32.toInt_div, vl_I_i hx, vl_I_i hz, vl_I_i (by omega), Int.tdiv_eq_ediv_of_nonneg (by omega), show ((x : Int) / (z : Int)) = ((x / z : Nat) : Int) from rfl, Int.bmod_def]
  generalize x / z = w at this ⊢
  split <;> omega
theorem vi_rm {a b : Int32} {x z k : Nat} (ha : a = vl_I x) (hb : b = vl_I z) (hx : x < 2147483648) (hz : z < 2147483648) (h : x % z = k) : a - a / b * b = vl_I k := by
  have e1 := vi_m2 (vi_dv ha hb hx hz rfl) hb rfl
  have hd := Nat.div_add_mod x z
  rw [Nat.mul_comm] at hd
  exact vi_s2 ha e1 (by omega) (by omega)
theorem jv_i365 : jv_I 365 2 none 0 0 jv_c365 := ⟨rfl, rfl, rfl, rfl, rfl⟩
theorem vr_count0_0 {K : Nat → Option (Nat × Nat)} {I : Nat → Nat → Int32} {L : Nat → Nat → Int64} {R : Nat → Nat → Value} (hW : jv_rW K R) {n sl : Nat} {Q : jv_R → Prop} (hQ : Q (none, jv_H K I L R, n, sl)) : jv_Wp 365 0 [(0, .ref 178), (1, .int (0 : Int32))] [] (jv_H K I L R) n sl Q := by
  refine jv_Wp.lift (fun _ Kz => jv_Ev.steps jv_i365 2 (pc' := 2) (l' := [(0, .ref 178), (1, .int (0 : Int32))]) (st' := [.int (0 : Int32), .ref 178]) rfl Kz) ?_
  refine jv_Wp.lift (fun _ Kz => jv_Ev.br jv_i365 (pc' := 14) (st' := [.ref 178]) rfl (by rfl) Kz) ?_
  refine jv_Wp.lift (fun _ Kz => jv_Ev.steps jv_i365 1 (pc' := 15) (l' := [(0, .ref 178), (1, .int (0 : Int32))]) (st' := [.ref 178, .ref 178]) rfl Kz) ?_
  refine jv_Wp.lift (fun _ Kz => jv_Ev.m jv_i365 (pc' := 18) (st' := [.int (I 178 20), .ref 178]) (G' := (jv_H K I L R)) rfl rfl (jv_m_getI (jv_rwK hW 178 14 31 (by decide)) rfl rfl rfl) Kz) ?_
  refine jv_Wp.lift (fun _ Kz => jv_Ev.m jv_i365 (pc' := 21) (st' := []) (G' := (jv_H K (jv_u I 178 20 (I 178 20)) L R)) rfl rfl (jv_m_putI (jv_rwK hW 178 14 31 (by decide)) rfl rfl rfl rfl) Kz) ?_
  refine jv_Wp.of (jv_Ev.ret jv_i365 rfl rfl) ?_
  rw [jv_u_id]
  exact hQ
theorem vr_count0 {K : Nat → Option (Nat × Nat)} {I : Nat → Nat → Int32} {L : Nat → Nat → Int64} {R : Nat → Nat → Value} (hW : jv_rW K R) {n sl : Nat} : jv_Ms 365 [.ref 178, .int (0 : Int32)] (jv_H K I L R) n sl (none, jv_H K I L R, n, sl) := by
  obtain ⟨X, k, e⟩ := vr_count0_0 (n := n) (sl := sl) (I := I) (L := L) (Q := fun X => X = (none, jv_H K I L R, n, sl)) hW rfl
  subst e
  exact k
theorem jv_i319 : jv_I 319 1 (some .int) 0 0 jv_c319 := ⟨rfl, rfl, rfl, rfl, rfl⟩
theorem vr_filled_0 {G : jv_G} {x : Nat} (hx : x < 65536) {m sl : Nat} {Q : jv_R → Prop} (hQ : Q (some (.int (vl_I (vm_fill x))), G, m, sl)) : jv_Wp 319 0 [(0, .int (vl_I x))] [] G m sl Q := by
  refine jv_Wp.lift (fun _ Kz => jv_Ev.steps jv_i319 4 (pc' := 6) (l' := [(0, .int (vl_I x))]) (st' := [.int (8 : Int32), .int ((vl_I x) + (7 : Int32))]) rfl Kz) ?_
  refine jv_Wp.lift (fun _ Kz => jv_Ev.op jv_i319 (pc' := 7) (l' := [(0, .int (vl_I x))]) (st' := [.int (((vl_I x) + (7 : Int32)) / (8 : Int32))]) rfl (jv_op_idiv (by decide)) Kz) ?_
  refine jv_Wp.lift (fun _ Kz => jv_Ev.steps jv_i319 2 (pc' := 10) (l' := [(0, .int (vl_I x))]) (st' := [.int ((((vl_I x) + (7 : Int32)) / (8 : Int32)) * (8 : Int32))]) rfl Kz) ?_
  refine jv_Wp.of (jv_Ev.ret jv_i319 rfl rfl) ?_
  rw [show ((((vl_I x) + (7 : Int32)) / (8 : Int32)) * (8 : Int32)) = vl_I (vm_fill x) from vi_m2 (vi_d8 (x := x + 7) (vi_a2 rfl rfl rfl) (by omega)) rfl rfl]
  exact hQ
theorem vr_filled {G : jv_G} {x : Nat} (hx : x < 65536) {m sl : Nat} : jv_Ms 319 [.int (vl_I x)] G m sl (some (.int (vl_I (vm_fill x))), G, m, sl) := by
  obtain ⟨X, k, e⟩ := vr_filled_0 (G := G) (m := m) (sl := sl) (Q := fun X => X = (some (.int (vl_I (vm_fill x))), G, m, sl)) hx rfl
  subst e
  exact k
theorem jv_i366 : jv_I 366 6 (some .int) 1 20 jv_c366 := ⟨rfl, rfl, rfl, rfl, rfl⟩
theorem vr_owner_t {K : Nat → Option (Nat × Nat)} {I : Nat → Nat → Int32} {L : Nat → Nat → Int64} {R : Nat → Nat → Value} (hW : jv_rW K R) {S : vm_S} (hs : vm_sh S) (hp : vr_mp I S) {q : Nat} {n sl : Nat} {Q : jv_R → Prop} {m : Nat} (hmc : m < vm_cnt S) (hq : vm_bg S (m + 1) ≤ q) (hq6 : q < 65536) (cont : jv_Wp 366 2 [(0, .ref 178), (1, .int (vl_I q)), (2, .int (vl_I (m + 1)))] [] (jv_H K I L R) n sl Q) : jv_Wp 366 2 [(0, .ref 178), (1, .int (vl_I q)), (2, .int (vl_I m))] [] (jv_H K I L R) n sl Q := by
  have hc8 := hs.1
  have hm := hp.2 m hmc
  have hk := hs.2.1 m hmc
  have hk2 : S.2 8 m ≤ 2 := by rcases hk with z | z <;> omega
  have hb := hs.2.2.1 m hmc
  have hbm := vm_bg_mono S (k := m + 1) (m := vm_cnt S) hmc
  have hb6 := hs.2.2.2.1
  have hv : S.2 10 m ≤ 256 := by rcases hk with z | z <;> omega
  have hff := vm_fill_ge (S.2 10 m)
  have hz : vm_bg S (m + 1) = vm_bg S m + vm_szof S m := rfl
  by_cases h2 : S.2 8 m = 2
  · have h2' := h2
    refine jv_Wp.lift (fun _ Kz => jv_Ev.steps jv_i366 2 (pc' := 4) (l' := [(0, .ref 178), (1, .int (vl_I q)), (2, .int (vl_I m))]) (st' := [.ref 178, .int (vl_I m)]) rfl Kz) ?_
    refine jv_Wp.lift (fun _ Kz => jv_Ev.m jv_i366 (pc' := 7) (st' := [.ref 180, .int (vl_I m)]) (G' := (jv_H K I L R)) rfl rfl (jv_m_getR (jv_rwK hW 178 14 31 (by decide)) rfl rfl (jv_rwR hW 178 3 180 (by decide))) Kz) ?_
    refine jv_Wp.lift (fun _ Kz => jv_Ev.m jv_i366 (pc' := 10) (st' := [.int (vl_I (vm_cnt S)), .int (vl_I m)]) (G' := (jv_H K I L R)) rfl rfl (jv_m_getI (jv_rwK hW 180 13 22 (by decide)) rfl rfl hp.1) Kz) ?_
    refine jv_Wp.cnd jv_i366 (pt := 137) (pe := 13) (p := ((vl_I (vm_cnt S)) ≤ (vl_I m))) (q := ((vl_I (vm_cnt S)) ≤ (vl_I m))) rfl jv_bc_ge rfl rfl Iff.rfl (fun hz => absurd hz (fun z => absurd ((vl_I_le (by omega) (by omega)).mp z) (by omega))) (fun _ => ?_)
    refine jv_Wp.lift (fun _ Kz => jv_Ev.steps jv_i366 2 (pc' := 15) (l' := [(0, .ref 178), (1, .int (vl_I q)), (2, .int (vl_I m))]) (st' := [.ref 178, .int (vl_I q)]) rfl Kz) ?_
    refine jv_Wp.lift (fun _ Kz => jv_Ev.m jv_i366 (pc' := 18) (st' := [.ref 180, .int (vl_I q)]) (G' := (jv_H K I L R)) rfl rfl (jv_m_getR (jv_rwK hW 178 14 31 (by decide)) rfl rfl (jv_rwR hW 178 3 180 (by decide))) Kz) ?_
    refine jv_Wp.lift (fun _ Kz => jv_Ev.m jv_i366 (pc' := 21) (st' := [.ref 187, .int (vl_I q)]) (G' := (jv_H K I L R)) rfl rfl (jv_m_getR (jv_rwK hW 180 13 22 (by decide)) rfl rfl (jv_rwR hW 180 10 187 (by decide))) Kz) ?_
    refine jv_Wp.lift (fun _ Kz => jv_Ev.steps jv_i366 1 (pc' := 22) (l' := [(0, .ref 178), (1, .int (vl_I q)), (2, .int (vl_I m))]) (st' := [.int (vl_I m), .ref 187, .int (vl_I q)]) rfl Kz) ?_
    refine jv_Wp.lift (fun _ Kz => jv_Ev.m jv_i366 (pc' := 23) (st' := [.int (vl_I (S.2 12 m)), .int (vl_I q)]) (G' := (jv_H K I L R)) rfl rfl (jv_m_ialdv (jv_rwK hW 187 102 64 (by decide)) rfl (vl_I_ix (by omega) (by decide)) rfl ((congrArg (I 187) (vl_I_nat (by omega))).trans hm.2.2.2.2.1)) Kz) ?_
    refine jv_Wp.lift (fun _ Kz => jv_Ev.steps jv_i366 3 (pc' := 26) (l' := [(3, .int ((vl_I q) - (vl_I (S.2 12 m)))), (0, .ref 178), (1, .int (vl_I q)), (2, .int (vl_I m))]) (st' := [.ref 178]) rfl Kz) ?_
    refine jv_Wp.lift (fun _ Kz => jv_Ev.m jv_i366 (pc' := 29) (st' := [.ref 180]) (G' := (jv_H K I L R)) rfl rfl (jv_m_getR (jv_rwK hW 178 14 31 (by decide)) rfl rfl (jv_rwR hW 178 3 180 (by decide))) Kz) ?_
    refine jv_Wp.lift (fun _ Kz => jv_Ev.m jv_i366 (pc' := 32) (st' := [.ref 185]) (G' := (jv_H K I L R)) rfl rfl (jv_m_getR (jv_rwK hW 180 13 22 (by decide)) rfl rfl (jv_rwR hW 180 8 185 (by decide))) Kz) ?_
    refine jv_Wp.lift (fun _ Kz => jv_Ev.steps jv_i366 1 (pc' := 33) (l' := [(3, .int ((vl_I q) - (vl_I (S.2 12 m)))), (0, .ref 178), (1, .int (vl_I q)), (2, .int (vl_I m))]) (st' := [.int (vl_I m), .ref 185]) rfl Kz) ?_
    refine jv_Wp.lift (fun _ Kz => jv_Ev.m jv_i366 (pc' := 34) (st' := [.int (vl_I (S.2 10 m))]) (G' := (jv_H K I L R)) rfl rfl (jv_m_ialdv (jv_rwK hW 185 102 64 (by decide)) rfl (vl_I_ix (by omega) (by decide)) rfl ((congrArg (I 185) (vl_I_nat (by omega))).trans hm.2.2.1)) Kz) ?_
    refine jv_Wp.lift (fun _ Kz => jv_Ev.c jv_i366 (pc' := 37) (S' := [.int (vl_I (vm_fill (S.2 10 m)))]) jv_i319 [.int (vl_I (S.2 10 m))] rfl rfl rfl rfl rfl rfl (vr_filled (by omega)) rfl rfl Kz) ?_
    refine jv_Wp.lift (fun _ Kz => jv_Ev.steps jv_i366 2 (pc' := 40) (l' := [(4, .int (vl_I (vm_fill (S.2 10 m)))), (3, .int ((vl_I q) - (vl_I (S.2 12 m)))), (0, .ref 178), (1, .int (vl_I q)), (2, .int (vl_I m))]) (st' := [.ref 178]) rfl Kz) ?_
    refine jv_Wp.lift (fun _ Kz => jv_Ev.m jv_i366 (pc' := 43) (st' := [.ref 180]) (G' := (jv_H K I L R)) rfl rfl (jv_m_getR (jv_rwK hW 178 14 31 (by decide)) rfl rfl (jv_rwR hW 178 3 180 (by decide))) Kz) ?_
    refine jv_Wp.lift (fun _ Kz => jv_Ev.m jv_i366 (pc' := 46) (st' := [.ref 183]) (G' := (jv_H K I L R)) rfl rfl (jv_m_getR (jv_rwK hW 180 13 22 (by decide)) rfl rfl (jv_rwR hW 180 6 183 (by decide))) Kz) ?_
    refine jv_Wp.lift (fun _ Kz => jv_Ev.steps jv_i366 1 (pc' := 47) (l' := [(4, .int (vl_I (vm_fill (S.2 10 m)))), (3, .int ((vl_I q) - (vl_I (S.2 12 m)))), (0, .ref 178), (1, .int (vl_I q)), (2, .int (vl_I m))]) (st' := [.int (vl_I m), .ref 183]) rfl Kz) ?_
    refine jv_Wp.lift (fun _ Kz => jv_Ev.m jv_i366 (pc' := 48) (st' := [.int (vl_I (S.2 8 m))]) (G' := (jv_H K I L R)) rfl rfl (jv_m_ialdv (jv_rwK hW 183 102 64 (by decide)) rfl (vl_I_ix (by omega) (by decide)) rfl ((congrArg (I 183) (vl_I_nat (by omega))).trans hm.1)) Kz) ?_
    refine jv_Wp.lift (fun _ Kz => jv_Ev.steps jv_i366 1 (pc' := 49) (l' := [(4, .int (vl_I (vm_fill (S.2 10 m)))), (3, .int ((vl_I q) - (vl_I (S.2 12 m)))), (0, .ref 178), (1, .int (vl_I q)), (2, .int (vl_I m))]) (st' := [.int (2 : Int32), .int (vl_I (S.2 8 m))]) rfl Kz) ?_
    refine jv_Wp.cnd jv_i366 (pt := 76) (pe := 52) (p := ((vl_I (S.2 8 m)) = (2 : Int32))) (q := ((vl_I (S.2 8 m)) = (2 : Int32))) rfl jv_bc_eq rfl rfl Iff.rfl (fun _ => ?_) (fun hz => absurd ((vl_I_inj (by omega) (by decide)).mpr h2) hz)
    refine jv_Wp.lift (fun _ Kz => jv_Ev.steps jv_i366 3 (pc' := 81) (l' := [(5, .int (0 : Int32)), (4, .int (vl_I (vm_fill (S.2 10 m)))), (3, .int ((vl_I q) - (vl_I (S.2 12 m)))), (0, .ref 178), (1, .int (vl_I q)), (2, .int (vl_I m))]) (st' := [.int (0 : Int32)]) rfl Kz) ?_
    refine jv_Wp.lift (fun _ Kz => jv_Ev.br jv_i366 (pc' := 131) (st' := []) rfl (by rfl) Kz) ?_
    refine jv_Wp.lift (fun _ Kz => jv_Ev.steps jv_i366 2 (pc' := 2) (l' := [(2, .int ((vl_I m) + Int32.ofInt 1)), (5, .int (0 : Int32)), (4, .int (vl_I (vm_fill (S.2 10 m)))), (3, .int ((vl_I q) - (vl_I (S.2 12 m)))), (0, .ref 178), (1, .int (vl_I q))]) (st' := []) rfl Kz) ?_
    refine jv_Wp.loc (l := [(0, .ref 178), (1, .int (vl_I q)), (2, .int ((vl_I m) + Int32.ofInt 1))]) ⟨List.forall_mem_cons.mpr ⟨.tail _ (.tail _ (.tail _ (.tail _ (.head _)))), List.forall_mem_cons.mpr ⟨.tail _ (.tail _ (.tail _ (.tail _ (.tail _ (.head _))))), List.forall_mem_cons.mpr ⟨.head _, fun _ h => absurd h List.not_mem_nil⟩⟩⟩, by show List.Nodup [2, 5, 4, 3, 0, 1]; decide⟩ ?_
    rw [show vl_I m + Int32.ofInt 1 = vl_I (m + 1) from vl_I_add m 1]
    exact cont
  · have hz2 : vm_szof S m = vm_fill (S.2 10 m) * S.2 11 m := by unfold vm_szof; rw [if_neg h2]; exact Nat.mul_comm _ _
    have hout : vm_fill (S.2 10 m) * S.2 11 m ≤ q - S.2 12 m := by omega
    refine jv_Wp.lift (fun _ Kz => jv_Ev.steps jv_i366 2 (pc' := 4) (l' := [(0, .ref 178), (1, .int (vl_I q)), (2, .int (vl_I m))]) (st' := [.ref 178, .int (vl_I m)]) rfl Kz) ?_
    refine jv_Wp.lift (fun _ Kz => jv_Ev.m jv_i366 (pc' := 7) (st' := [.ref 180, .int (vl_I m)]) (G' := (jv_H K I L R)) rfl rfl (jv_m_getR (jv_rwK hW 178 14 31 (by decide)) rfl rfl (jv_rwR hW 178 3 180 (by decide))) Kz) ?_
    refine jv_Wp.lift (fun _ Kz => jv_Ev.m jv_i366 (pc' := 10) (st' := [.int (vl_I (vm_cnt S)), .int (vl_I m)]) (G' := (jv_H K I L R)) rfl rfl (jv_m_getI (jv_rwK hW 180 13 22 (by decide)) rfl rfl hp.1) Kz) ?_
    refine jv_Wp.cnd jv_i366 (pt := 137) (pe := 13) (p := ((vl_I (vm_cnt S)) ≤ (vl_I m))) (q := ((vl_I (vm_cnt S)) ≤ (vl_I m))) rfl jv_bc_ge rfl rfl Iff.rfl (fun hz => absurd hz (fun z => absurd ((vl_I_le (by omega) (by omega)).mp z) (by omega))) (fun _ => ?_)
    refine jv_Wp.lift (fun _ Kz => jv_Ev.steps jv_i366 2 (pc' := 15) (l' := [(0, .ref 178), (1, .int (vl_I q)), (2, .int (vl_I m))]) (st' := [.ref 178, .int (vl_I q)]) rfl Kz) ?_
    refine jv_Wp.lift (fun _ Kz => jv_Ev.m jv_i366 (pc' := 18) (st' := [.ref 180, .int (vl_I q)]) (G' := (jv_H K I L R)) rfl rfl (jv_m_getR (jv_rwK hW 178 14 31 (by decide)) rfl rfl (jv_rwR hW 178 3 180 (by decide))) Kz) ?_
    refine jv_Wp.lift (fun _ Kz => jv_Ev.m jv_i366 (pc' := 21) (st' := [.ref 187, .int (vl_I q)]) (G' := (jv_H K I L R)) rfl rfl (jv_m_getR (jv_rwK hW 180 13 22 (by decide)) rfl rfl (jv_rwR hW 180 10 187 (by decide))) Kz) ?_
    refine jv_Wp.lift (fun _ Kz => jv_Ev.steps jv_i366 1 (pc' := 22) (l' := [(0, .ref 178), (1, .int (vl_I q)), (2, .int (vl_I m))]) (st' := [.int (vl_I m), .ref 187, .int (vl_I q)]) rfl Kz) ?_
    refine jv_Wp.lift (fun _ Kz => jv_Ev.m jv_i366 (pc' := 23) (st' := [.int (vl_I (S.2 12 m)), .int (vl_I q)]) (G' := (jv_H K I L R)) rfl rfl (jv_m_ialdv (jv_rwK hW 187 102 64 (by decide)) rfl (vl_I_ix (by omega) (by decide)) rfl ((congrArg (I 187) (vl_I_nat (by omega))).trans hm.2.2.2.2.1)) Kz) ?_
    refine jv_Wp.lift (fun _ Kz => jv_Ev.steps jv_i366 3 (pc' := 26) (l' := [(3, .int ((vl_I q) - (vl_I (S.2 12 m)))), (0, .ref 178), (1, .int (vl_I q)), (2, .int (vl_I m))]) (st' := [.ref 178]) rfl Kz) ?_
    refine jv_Wp.lift (fun _ Kz => jv_Ev.m jv_i366 (pc' := 29) (st' := [.ref 180]) (G' := (jv_H K I L R)) rfl rfl (jv_m_getR (jv_rwK hW 178 14 31 (by decide)) rfl rfl (jv_rwR hW 178 3 180 (by decide))) Kz) ?_
    refine jv_Wp.lift (fun _ Kz => jv_Ev.m jv_i366 (pc' := 32) (st' := [.ref 185]) (G' := (jv_H K I L R)) rfl rfl (jv_m_getR (jv_rwK hW 180 13 22 (by decide)) rfl rfl (jv_rwR hW 180 8 185 (by decide))) Kz) ?_
    refine jv_Wp.lift (fun _ Kz => jv_Ev.steps jv_i366 1 (pc' := 33) (l' := [(3, .int ((vl_I q) - (vl_I (S.2 12 m)))), (0, .ref 178), (1, .int (vl_I q)), (2, .int (vl_I m))]) (st' := [.int (vl_I m), .ref 185]) rfl Kz) ?_
    refine jv_Wp.lift (fun _ Kz => jv_Ev.m jv_i366 (pc' := 34) (st' := [.int (vl_I (S.2 10 m))]) (G' := (jv_H K I L R)) rfl rfl (jv_m_ialdv (jv_rwK hW 185 102 64 (by decide)) rfl (vl_I_ix (by omega) (by decide)) rfl ((congrArg (I 185) (vl_I_nat (by omega))).trans hm.2.2.1)) Kz) ?_
    refine jv_Wp.lift (fun _ Kz => jv_Ev.c jv_i366 (pc' := 37) (S' := [.int (vl_I (vm_fill (S.2 10 m)))]) jv_i319 [.int (vl_I (S.2 10 m))] rfl rfl rfl rfl rfl rfl (vr_filled (by omega)) rfl rfl Kz) ?_
    refine jv_Wp.lift (fun _ Kz => jv_Ev.steps jv_i366 2 (pc' := 40) (l' := [(4, .int (vl_I (vm_fill (S.2 10 m)))), (3, .int ((vl_I q) - (vl_I (S.2 12 m)))), (0, .ref 178), (1, .int (vl_I q)), (2, .int (vl_I m))]) (st' := [.ref 178]) rfl Kz) ?_
    refine jv_Wp.lift (fun _ Kz => jv_Ev.m jv_i366 (pc' := 43) (st' := [.ref 180]) (G' := (jv_H K I L R)) rfl rfl (jv_m_getR (jv_rwK hW 178 14 31 (by decide)) rfl rfl (jv_rwR hW 178 3 180 (by decide))) Kz) ?_
    refine jv_Wp.lift (fun _ Kz => jv_Ev.m jv_i366 (pc' := 46) (st' := [.ref 183]) (G' := (jv_H K I L R)) rfl rfl (jv_m_getR (jv_rwK hW 180 13 22 (by decide)) rfl rfl (jv_rwR hW 180 6 183 (by decide))) Kz) ?_
    refine jv_Wp.lift (fun _ Kz => jv_Ev.steps jv_i366 1 (pc' := 47) (l' := [(4, .int (vl_I (vm_fill (S.2 10 m)))), (3, .int ((vl_I q) - (vl_I (S.2 12 m)))), (0, .ref 178), (1, .int (vl_I q)), (2, .int (vl_I m))]) (st' := [.int (vl_I m), .ref 183]) rfl Kz) ?_
    refine jv_Wp.lift (fun _ Kz => jv_Ev.m jv_i366 (pc' := 48) (st' := [.int (vl_I (S.2 8 m))]) (G' := (jv_H K I L R)) rfl rfl (jv_m_ialdv (jv_rwK hW 183 102 64 (by decide)) rfl (vl_I_ix (by omega) (by decide)) rfl ((congrArg (I 183) (vl_I_nat (by omega))).trans hm.1)) Kz) ?_
    refine jv_Wp.lift (fun _ Kz => jv_Ev.steps jv_i366 1 (pc' := 49) (l' := [(4, .int (vl_I (vm_fill (S.2 10 m)))), (3, .int ((vl_I q) - (vl_I (S.2 12 m)))), (0, .ref 178), (1, .int (vl_I q)), (2, .int (vl_I m))]) (st' := [.int (2 : Int32), .int (vl_I (S.2 8 m))]) rfl Kz) ?_
    refine jv_Wp.cnd jv_i366 (pt := 76) (pe := 52) (p := ((vl_I (S.2 8 m)) = (2 : Int32))) (q := ((vl_I (S.2 8 m)) = (2 : Int32))) rfl jv_bc_eq rfl rfl Iff.rfl (fun hz => absurd hz (fun z => h2 ((vl_I_inj (by omega) (by decide)).mp z))) (fun _ => ?_)
    refine jv_Wp.lift (fun _ Kz => jv_Ev.steps jv_i366 1 (pc' := 53) (l' := [(4, .int (vl_I (vm_fill (S.2 10 m)))), (3, .int ((vl_I q) - (vl_I (S.2 12 m)))), (0, .ref 178), (1, .int (vl_I q)), (2, .int (vl_I m))]) (st' := [.int ((vl_I q) - (vl_I (S.2 12 m)))]) rfl Kz) ?_
    refine jv_Wp.cnd jv_i366 (pt := 76) (pe := 56) (p := (((vl_I q) - (vl_I (S.2 12 m))) < 0)) (q := (((vl_I q) - (vl_I (S.2 12 m))) < 0)) rfl jv_bi_lt rfl rfl Iff.rfl (fun hz => absurd hz (by rw [vi_s2 rfl rfl (by omega) rfl]; exact vl_I_n0 (by omega))) (fun _ => ?_)
    refine jv_Wp.lift (fun _ Kz => jv_Ev.steps jv_i366 3 (pc' := 60) (l' := [(4, .int (vl_I (vm_fill (S.2 10 m)))), (3, .int ((vl_I q) - (vl_I (S.2 12 m)))), (0, .ref 178), (1, .int (vl_I q)), (2, .int (vl_I m))]) (st' := [.ref 178, .int (vl_I (vm_fill (S.2 10 m))), .int ((vl_I q) - (vl_I (S.2 12 m)))]) rfl Kz) ?_
    refine jv_Wp.lift (fun _ Kz => jv_Ev.m jv_i366 (pc' := 63) (st' := [.ref 180, .int (vl_I (vm_fill (S.2 10 m))), .int ((vl_I q) - (vl_I (S.2 12 m)))]) (G' := (jv_H K I L R)) rfl rfl (jv_m_getR (jv_rwK hW 178 14 31 (by decide)) rfl rfl (jv_rwR hW 178 3 180 (by decide))) Kz) ?_
    refine jv_Wp.lift (fun _ Kz => jv_Ev.m jv_i366 (pc' := 66) (st' := [.ref 186, .int (vl_I (vm_fill (S.2 10 m))), .int ((vl_I q) - (vl_I (S.2 12 m)))]) (G' := (jv_H K I L R)) rfl rfl (jv_m_getR (jv_rwK hW 180 13 22 (by decide)) rfl rfl (jv_rwR hW 180 9 186 (by decide))) Kz) ?_
    refine jv_Wp.lift (fun _ Kz => jv_Ev.steps jv_i366 1 (pc' := 67) (l' := [(4, .int (vl_I (vm_fill (S.2 10 m)))), (3, .int ((vl_I q) - (vl_I (S.2 12 m)))), (0, .ref 178), (1, .int (vl_I q)), (2, .int (vl_I m))]) (st' := [.int (vl_I m), .ref 186, .int (vl_I (vm_fill (S.2 10 m))), .int ((vl_I q) - (vl_I (S.2 12 m)))]) rfl Kz) ?_
    refine jv_Wp.lift (fun _ Kz => jv_Ev.m jv_i366 (pc' := 68) (st' := [.int (vl_I (S.2 11 m)), .int (vl_I (vm_fill (S.2 10 m))), .int ((vl_I q) - (vl_I (S.2 12 m)))]) (G' := (jv_H K I L R)) rfl rfl (jv_m_ialdv (jv_rwK hW 186 102 64 (by decide)) rfl (vl_I_ix (by omega) (by decide)) rfl ((congrArg (I 186) (vl_I_nat (by omega))).trans hm.2.2.2.1)) Kz) ?_
    refine jv_Wp.lift (fun _ Kz => jv_Ev.steps jv_i366 1 (pc' := 69) (l' := [(4, .int (vl_I (vm_fill (S.2 10 m)))), (3, .int ((vl_I q) - (vl_I (S.2 12 m)))), (0, .ref 178), (1, .int (vl_I q)), (2, .int (vl_I m))]) (st' := [.int ((vl_I (vm_fill (S.2 10 m))) * (vl_I (S.2 11 m))), .int ((vl_I q) - (vl_I (S.2 12 m)))]) rfl Kz) ?_
    refine jv_Wp.cnd jv_i366 (pt := 76) (pe := 72) (p := (((vl_I (vm_fill (S.2 10 m))) * (vl_I (S.2 11 m))) ≤ ((vl_I q) - (vl_I (S.2 12 m))))) (q := (((vl_I (vm_fill (S.2 10 m))) * (vl_I (S.2 11 m))) ≤ ((vl_I q) - (vl_I (S.2 12 m))))) rfl jv_bc_ge rfl rfl Iff.rfl (fun _ => ?_) (fun hz => absurd (by rw [(vi_m2 (k := vm_fill (S.2 10 m) * S.2 11 m) rfl rfl rfl), (vi_s2 (k := q - S.2 12 m) rfl rfl (by omega) rfl)]; exact (vl_I_le (by omega) (by omega)).mpr (by have := hout; omega)) hz)
    refine jv_Wp.lift (fun _ Kz => jv_Ev.steps jv_i366 3 (pc' := 81) (l' := [(5, .int (0 : Int32)), (4, .int (vl_I (vm_fill (S.2 10 m)))), (3, .int ((vl_I q) - (vl_I (S.2 12 m)))), (0, .ref 178), (1, .int (vl_I q)), (2, .int (vl_I m))]) (st' := [.int (0 : Int32)]) rfl Kz) ?_
    refine jv_Wp.lift (fun _ Kz => jv_Ev.br jv_i366 (pc' := 131) (st' := []) rfl (by rfl) Kz) ?_
    refine jv_Wp.lift (fun _ Kz => jv_Ev.steps jv_i366 2 (pc' := 2) (l' := [(2, .int ((vl_I m) + Int32.ofInt 1)), (5, .int (0 : Int32)), (4, .int (vl_I (vm_fill (S.2 10 m)))), (3, .int ((vl_I q) - (vl_I (S.2 12 m)))), (0, .ref 178), (1, .int (vl_I q))]) (st' := []) rfl Kz) ?_
    refine jv_Wp.loc (l := [(0, .ref 178), (1, .int (vl_I q)), (2, .int ((vl_I m) + Int32.ofInt 1))]) ⟨List.forall_mem_cons.mpr ⟨.tail _ (.tail _ (.tail _ (.tail _ (.head _)))), List.forall_mem_cons.mpr ⟨.tail _ (.tail _ (.tail _ (.tail _ (.tail _ (.head _))))), List.forall_mem_cons.mpr ⟨.head _, fun _ h => absurd h List.not_mem_nil⟩⟩⟩, by show List.Nodup [2, 5, 4, 3, 0, 1]; decide⟩ ?_
    rw [show vl_I m + Int32.ofInt 1 = vl_I (m + 1) from vl_I_add m 1]
    exact cont
theorem vr_owner_e {K : Nat → Option (Nat × Nat)} {I : Nat → Nat → Int32} {L : Nat → Nat → Int64} {R : Nat → Nat → Value} (hW : jv_rW K R) {S : vm_S} (hs : vm_sh S) (hp : vr_mp I S) {q : Nat} {n sl : Nat} {Q : jv_R → Prop} {m e : Nat} (hmc : m < vm_cnt S) (h2 : S.2 8 m ≠ 2) (he : e < S.2 11 m) (hq1 : vm_at S m e ≤ q) (hq2 : q < vm_at S m e + S.2 10 m) (hQ : Q (some (.int (if S.2 8 m = 0 then (-1 : Int32) else vl_I (vm_fe S m + e))), jv_H K I L R, n, sl)) : jv_Wp 366 2 [(0, .ref 178), (1, .int (vl_I q)), (2, .int (vl_I m))] [] (jv_H K I L R) n sl Q := by
  have hc8 := hs.1
  have hm := hp.2 m hmc
  have hk := hs.2.1 m hmc
  have hk2 : S.2 8 m ≤ 2 := by rcases hk with z | z <;> omega
  have hb := hs.2.2.1 m hmc
  have hbm := vm_bg_mono S (k := m + 1) (m := vm_cnt S) hmc
  have hb6 := hs.2.2.2.1
  have hv : S.2 10 m ≤ 256 := by rcases hk with z | z <;> omega
  have hff := vm_fill_ge (S.2 10 m)
  have hin := vm_at_in hs hmc h2 he
  have hz : vm_bg S (m + 1) = vm_bg S m + vm_szof S m := rfl
  have hz2 : vm_szof S m = vm_fill (S.2 10 m) * S.2 11 m := by unfold vm_szof; rw [if_neg h2]; exact Nat.mul_comm _ _
  obtain ⟨j, hj⟩ : ∃ j, q = vm_at S m e + j := ⟨q - vm_at S m e, by omega⟩
  have hat : vm_at S m e = S.2 12 m + e * vm_fill (S.2 10 m) := rfl
  have hqe : q - S.2 12 m = e * vm_fill (S.2 10 m) + j := by omega
  have hf8 : 0 < vm_fill (S.2 10 m) := by omega
  have hf0 : ¬ (vl_I (vm_fill (S.2 10 m))) = 0 := fun z => by have := (vl_I_inj (a := vm_fill (S.2 10 m)) (b := 0) (by omega) (by decide)).mp z; omega
  have hrem : (q - S.2 12 m) % vm_fill (S.2 10 m) = j := by rw [hqe, Nat.mul_comm, Nat.mul_add_mod]; exact Nat.mod_eq_of_lt (by omega)
  have hdiv : (q - S.2 12 m) / vm_fill (S.2 10 m) = e := by rw [hqe, Nat.mul_comm, Nat.mul_add_div hf8, Nat.div_eq_of_lt (by omega), Nat.add_zero]
  have h2' : ¬ S.2 8 m = 2 := h2
  refine jv_Wp.lift (fun _ Kz => jv_Ev.steps jv_i366 2 (pc' := 4) (l' := [(0, .ref 178), (1, .int (vl_I q)), (2, .int (vl_I m))]) (st' := [.ref 178, .int (vl_I m)]) rfl Kz) ?_
  refine jv_Wp.lift (fun _ Kz => jv_Ev.m jv_i366 (pc' := 7) (st' := [.ref 180, .int (vl_I m)]) (G' := (jv_H K I L R)) rfl rfl (jv_m_getR (jv_rwK hW 178 14 31 (by decide)) rfl rfl (jv_rwR hW 178 3 180 (by decide))) Kz) ?_
  refine jv_Wp.lift (fun _ Kz => jv_Ev.m jv_i366 (pc' := 10) (st' := [.int (vl_I (vm_cnt S)), .int (vl_I m)]) (G' := (jv_H K I L R)) rfl rfl (jv_m_getI (jv_rwK hW 180 13 22 (by decide)) rfl rfl hp.1) Kz) ?_
  refine jv_Wp.cnd jv_i366 (pt := 137) (pe := 13) (p := ((vl_I (vm_cnt S)) ≤ (vl_I m))) (q := ((vl_I (vm_cnt S)) ≤ (vl_I m))) rfl jv_bc_ge rfl rfl Iff.rfl (fun hz => absurd hz (fun z => absurd ((vl_I_le (by omega) (by omega)).mp z) (by omega))) (fun _ => ?_)
  refine jv_Wp.lift (fun _ Kz => jv_Ev.steps jv_i366 2 (pc' := 15) (l' := [(0, .ref 178), (1, .int (vl_I q)), (2, .int (vl_I m))]) (st' := [.ref 178, .int (vl_I q)]) rfl Kz) ?_
  refine jv_Wp.lift (fun _ Kz => jv_Ev.m jv_i366 (pc' := 18) (st' := [.ref 180, .int (vl_I q)]) (G' := (jv_H K I L R)) rfl rfl (jv_m_getR (jv_rwK hW 178 14 31 (by decide)) rfl rfl (jv_rwR hW 178 3 180 (by decide))) Kz) ?_
  refine jv_Wp.lift (fun _ Kz => jv_Ev.m jv_i366 (pc' := 21) (st' := [.ref 187, .int (vl_I q)]) (G' := (jv_H K I L R)) rfl rfl (jv_m_getR (jv_rwK hW 180 13 22 (by decide)) rfl rfl (jv_rwR hW 180 10 187 (by decide))) Kz) ?_
  refine jv_Wp.lift (fun _ Kz => jv_Ev.steps jv_i366 1 (pc' := 22) (l' := [(0, .ref 178), (1, .int (vl_I q)), (2, .int (vl_I m))]) (st' := [.int (vl_I m), .ref 187, .int (vl_I q)]) rfl Kz) ?_
  refine jv_Wp.lift (fun _ Kz => jv_Ev.m jv_i366 (pc' := 23) (st' := [.int (vl_I (S.2 12 m)), .int (vl_I q)]) (G' := (jv_H K I L R)) rfl rfl (jv_m_ialdv (jv_rwK hW 187 102 64 (by decide)) rfl (vl_I_ix (by omega) (by decide)) rfl ((congrArg (I 187) (vl_I_nat (by omega))).trans hm.2.2.2.2.1)) Kz) ?_
  refine jv_Wp.lift (fun _ Kz => jv_Ev.steps jv_i366 3 (pc' := 26) (l' := [(3, .int ((vl_I q) - (vl_I (S.2 12 m)))), (0, .ref 178), (1, .int (vl_I q)), (2, .int (vl_I m))]) (st' := [.ref 178]) rfl Kz) ?_
  refine jv_Wp.lift (fun _ Kz => jv_Ev.m jv_i366 (pc' := 29) (st' := [.ref 180]) (G' := (jv_H K I L R)) rfl rfl (jv_m_getR (jv_rwK hW 178 14 31 (by decide)) rfl rfl (jv_rwR hW 178 3 180 (by decide))) Kz) ?_
  refine jv_Wp.lift (fun _ Kz => jv_Ev.m jv_i366 (pc' := 32) (st' := [.ref 185]) (G' := (jv_H K I L R)) rfl rfl (jv_m_getR (jv_rwK hW 180 13 22 (by decide)) rfl rfl (jv_rwR hW 180 8 185 (by decide))) Kz) ?_
  refine jv_Wp.lift (fun _ Kz => jv_Ev.steps jv_i366 1 (pc' := 33) (l' := [(3, .int ((vl_I q) - (vl_I (S.2 12 m)))), (0, .ref 178), (1, .int (vl_I q)), (2, .int (vl_I m))]) (st' := [.int (vl_I m), .ref 185]) rfl Kz) ?_
  refine jv_Wp.lift (fun _ Kz => jv_Ev.m jv_i366 (pc' := 34) (st' := [.int (vl_I (S.2 10 m))]) (G' := (jv_H K I L R)) rfl rfl (jv_m_ialdv (jv_rwK hW 185 102 64 (by decide)) rfl (vl_I_ix (by omega) (by decide)) rfl ((congrArg (I 185) (vl_I_nat (by omega))).trans hm.2.2.1)) Kz) ?_
  refine jv_Wp.lift (fun _ Kz => jv_Ev.c jv_i366 (pc' := 37) (S' := [.int (vl_I (vm_fill (S.2 10 m)))]) jv_i319 [.int (vl_I (S.2 10 m))] rfl rfl rfl rfl rfl rfl (vr_filled (by omega)) rfl rfl Kz) ?_
  refine jv_Wp.lift (fun _ Kz => jv_Ev.steps jv_i366 2 (pc' := 40) (l' := [(4, .int (vl_I (vm_fill (S.2 10 m)))), (3, .int ((vl_I q) - (vl_I (S.2 12 m)))), (0, .ref 178), (1, .int (vl_I q)), (2, .int (vl_I m))]) (st' := [.ref 178]) rfl Kz) ?_
  refine jv_Wp.lift (fun _ Kz => jv_Ev.m jv_i366 (pc' := 43) (st' := [.ref 180]) (G' := (jv_H K I L R)) rfl rfl (jv_m_getR (jv_rwK hW 178 14 31 (by decide)) rfl rfl (jv_rwR hW 178 3 180 (by decide))) Kz) ?_
  refine jv_Wp.lift (fun _ Kz => jv_Ev.m jv_i366 (pc' := 46) (st' := [.ref 183]) (G' := (jv_H K I L R)) rfl rfl (jv_m_getR (jv_rwK hW 180 13 22 (by decide)) rfl rfl (jv_rwR hW 180 6 183 (by decide))) Kz) ?_
  refine jv_Wp.lift (fun _ Kz => jv_Ev.steps jv_i366 1 (pc' := 47) (l' := [(4, .int (vl_I (vm_fill (S.2 10 m)))), (3, .int ((vl_I q) - (vl_I (S.2 12 m)))), (0, .ref 178), (1, .int (vl_I q)), (2, .int (vl_I m))]) (st' := [.int (vl_I m), .ref 183]) rfl Kz) ?_
  refine jv_Wp.lift (fun _ Kz => jv_Ev.m jv_i366 (pc' := 48) (st' := [.int (vl_I (S.2 8 m))]) (G' := (jv_H K I L R)) rfl rfl (jv_m_ialdv (jv_rwK hW 183 102 64 (by decide)) rfl (vl_I_ix (by omega) (by decide)) rfl ((congrArg (I 183) (vl_I_nat (by omega))).trans hm.1)) Kz) ?_
  refine jv_Wp.lift (fun _ Kz => jv_Ev.steps jv_i366 1 (pc' := 49) (l' := [(4, .int (vl_I (vm_fill (S.2 10 m)))), (3, .int ((vl_I q) - (vl_I (S.2 12 m)))), (0, .ref 178), (1, .int (vl_I q)), (2, .int (vl_I m))]) (st' := [.int (2 : Int32), .int (vl_I (S.2 8 m))]) rfl Kz) ?_
  refine jv_Wp.cnd jv_i366 (pt := 76) (pe := 52) (p := ((vl_I (S.2 8 m)) = (2 : Int32))) (q := ((vl_I (S.2 8 m)) = (2 : Int32))) rfl jv_bc_eq rfl rfl Iff.rfl (fun hz => absurd hz (fun z => h2 ((vl_I_inj (by omega) (by decide)).mp z))) (fun _ => ?_)
  refine jv_Wp.lift (fun _ Kz => jv_Ev.steps jv_i366 1 (pc' := 53) (l' := [(4, .int (vl_I (vm_fill (S.2 10 m)))), (3, .int ((vl_I q) - (vl_I (S.2 12 m)))), (0, .ref 178), (1, .int (vl_I q)), (2, .int (vl_I m))]) (st' := [.int ((vl_I q) - (vl_I (S.2 12 m)))]) rfl Kz) ?_
  refine jv_Wp.cnd jv_i366 (pt := 76) (pe := 56) (p := (((vl_I q) - (vl_I (S.2 12 m))) < 0)) (q := (((vl_I q) - (vl_I (S.2 12 m))) < 0)) rfl jv_bi_lt rfl rfl Iff.rfl (fun hz => absurd hz (by rw [vi_s2 rfl rfl (by omega) rfl]; exact vl_I_n0 (by omega))) (fun _ => ?_)
  refine jv_Wp.lift (fun _ Kz => jv_Ev.steps jv_i366 3 (pc' := 60) (l' := [(4, .int (vl_I (vm_fill (S.2 10 m)))), (3, .int ((vl_I q) - (vl_I (S.2 12 m)))), (0, .ref 178), (1, .int (vl_I q)), (2, .int (vl_I m))]) (st' := [.ref 178, .int (vl_I (vm_fill (S.2 10 m))), .int ((vl_I q) - (vl_I (S.2 12 m)))]) rfl Kz) ?_
  refine jv_Wp.lift (fun _ Kz => jv_Ev.m jv_i366 (pc' := 63) (st' := [.ref 180, .int (vl_I (vm_fill (S.2 10 m))), .int ((vl_I q) - (vl_I (S.2 12 m)))]) (G' := (jv_H K I L R)) rfl rfl (jv_m_getR (jv_rwK hW 178 14 31 (by decide)) rfl rfl (jv_rwR hW 178 3 180 (by decide))) Kz) ?_
  refine jv_Wp.lift (fun _ Kz => jv_Ev.m jv_i366 (pc' := 66) (st' := [.ref 186, .int (vl_I (vm_fill (S.2 10 m))), .int ((vl_I q) - (vl_I (S.2 12 m)))]) (G' := (jv_H K I L R)) rfl rfl (jv_m_getR (jv_rwK hW 180 13 22 (by decide)) rfl rfl (jv_rwR hW 180 9 186 (by decide))) Kz) ?_
  refine jv_Wp.lift (fun _ Kz => jv_Ev.steps jv_i366 1 (pc' := 67) (l' := [(4, .int (vl_I (vm_fill (S.2 10 m)))), (3, .int ((vl_I q) - (vl_I (S.2 12 m)))), (0, .ref 178), (1, .int (vl_I q)), (2, .int (vl_I m))]) (st' := [.int (vl_I m), .ref 186, .int (vl_I (vm_fill (S.2 10 m))), .int ((vl_I q) - (vl_I (S.2 12 m)))]) rfl Kz) ?_
  refine jv_Wp.lift (fun _ Kz => jv_Ev.m jv_i366 (pc' := 68) (st' := [.int (vl_I (S.2 11 m)), .int (vl_I (vm_fill (S.2 10 m))), .int ((vl_I q) - (vl_I (S.2 12 m)))]) (G' := (jv_H K I L R)) rfl rfl (jv_m_ialdv (jv_rwK hW 186 102 64 (by decide)) rfl (vl_I_ix (by omega) (by decide)) rfl ((congrArg (I 186) (vl_I_nat (by omega))).trans hm.2.2.2.1)) Kz) ?_
  refine jv_Wp.lift (fun _ Kz => jv_Ev.steps jv_i366 1 (pc' := 69) (l' := [(4, .int (vl_I (vm_fill (S.2 10 m)))), (3, .int ((vl_I q) - (vl_I (S.2 12 m)))), (0, .ref 178), (1, .int (vl_I q)), (2, .int (vl_I m))]) (st' := [.int ((vl_I (vm_fill (S.2 10 m))) * (vl_I (S.2 11 m))), .int ((vl_I q) - (vl_I (S.2 12 m)))]) rfl Kz) ?_
  refine jv_Wp.cnd jv_i366 (pt := 76) (pe := 72) (p := (((vl_I (vm_fill (S.2 10 m))) * (vl_I (S.2 11 m))) ≤ ((vl_I q) - (vl_I (S.2 12 m))))) (q := (((vl_I (vm_fill (S.2 10 m))) * (vl_I (S.2 11 m))) ≤ ((vl_I q) - (vl_I (S.2 12 m))))) rfl jv_bc_ge rfl rfl Iff.rfl (fun hz => absurd hz (by rw [(vi_m2 (k := vm_fill (S.2 10 m) * S.2 11 m) rfl rfl rfl), (vi_s2 (k := q - S.2 12 m) rfl rfl (by omega) rfl)]; exact fun z => absurd ((vl_I_le (by omega) (by omega)).mp z) (by omega))) (fun _ => ?_)
  refine jv_Wp.lift (fun _ Kz => jv_Ev.steps jv_i366 4 (pc' := 81) (l' := [(5, .int (1 : Int32)), (4, .int (vl_I (vm_fill (S.2 10 m)))), (3, .int ((vl_I q) - (vl_I (S.2 12 m)))), (0, .ref 178), (1, .int (vl_I q)), (2, .int (vl_I m))]) (st' := [.int (1 : Int32)]) rfl Kz) ?_
  refine jv_Wp.lift (fun _ Kz => jv_Ev.br jv_i366 (pc' := 84) (st' := []) rfl (by rfl) Kz) ?_
  refine jv_Wp.lift (fun _ Kz => jv_Ev.steps jv_i366 2 (pc' := 87) (l' := [(5, .int (1 : Int32)), (4, .int (vl_I (vm_fill (S.2 10 m)))), (3, .int ((vl_I q) - (vl_I (S.2 12 m)))), (0, .ref 178), (1, .int (vl_I q)), (2, .int (vl_I m))]) (st' := [.int (vl_I (vm_fill (S.2 10 m))), .int ((vl_I q) - (vl_I (S.2 12 m)))]) rfl Kz) ?_
  refine jv_Wp.lift (fun _ Kz => jv_Ev.op jv_i366 (pc' := 88) (l' := [(5, .int (1 : Int32)), (4, .int (vl_I (vm_fill (S.2 10 m)))), (3, .int ((vl_I q) - (vl_I (S.2 12 m)))), (0, .ref 178), (1, .int (vl_I q)), (2, .int (vl_I m))]) (st' := [.int (((vl_I q) - (vl_I (S.2 12 m))) - ((vl_I q) - (vl_I (S.2 12 m))) / (vl_I (vm_fill (S.2 10 m))) * (vl_I (vm_fill (S.2 10 m))))]) rfl (jv_op_irem hf0) Kz) ?_
  refine jv_Wp.lift (fun _ Kz => jv_Ev.steps jv_i366 1 (pc' := 89) (l' := [(5, .int (1 : Int32)), (4, .int (vl_I (vm_fill (S.2 10 m)))), (3, .int ((vl_I q) - (vl_I (S.2 12 m)))), (0, .ref 178), (1, .int (vl_I q)), (2, .int (vl_I m))]) (st' := [.ref 178, .int (((vl_I q) - (vl_I (S.2 12 m))) - ((vl_I q) - (vl_I (S.2 12 m))) / (vl_I (vm_fill (S.2 10 m))) * (vl_I (vm_fill (S.2 10 m))))]) rfl Kz) ?_
  refine jv_Wp.lift (fun _ Kz => jv_Ev.m jv_i366 (pc' := 92) (st' := [.ref 180, .int (((vl_I q) - (vl_I (S.2 12 m))) - ((vl_I q) - (vl_I (S.2 12 m))) / (vl_I (vm_fill (S.2 10 m))) * (vl_I (vm_fill (S.2 10 m))))]) (G' := (jv_H K I L R)) rfl rfl (jv_m_getR (jv_rwK hW 178 14 31 (by decide)) rfl rfl (jv_rwR hW 178 3 180 (by decide))) Kz) ?_
  refine jv_Wp.lift (fun _ Kz => jv_Ev.m jv_i366 (pc' := 95) (st' := [.ref 185, .int (((vl_I q) - (vl_I (S.2 12 m))) - ((vl_I q) - (vl_I (S.2 12 m))) / (vl_I (vm_fill (S.2 10 m))) * (vl_I (vm_fill (S.2 10 m))))]) (G' := (jv_H K I L R)) rfl rfl (jv_m_getR (jv_rwK hW 180 13 22 (by decide)) rfl rfl (jv_rwR hW 180 8 185 (by decide))) Kz) ?_
  refine jv_Wp.lift (fun _ Kz => jv_Ev.steps jv_i366 1 (pc' := 96) (l' := [(5, .int (1 : Int32)), (4, .int (vl_I (vm_fill (S.2 10 m)))), (3, .int ((vl_I q) - (vl_I (S.2 12 m)))), (0, .ref 178), (1, .int (vl_I q)), (2, .int (vl_I m))]) (st' := [.int (vl_I m), .ref 185, .int (((vl_I q) - (vl_I (S.2 12 m))) - ((vl_I q) - (vl_I (S.2 12 m))) / (vl_I (vm_fill (S.2 10 m))) * (vl_I (vm_fill (S.2 10 m))))]) rfl Kz) ?_
  refine jv_Wp.lift (fun _ Kz => jv_Ev.m jv_i366 (pc' := 97) (st' := [.int (vl_I (S.2 10 m)), .int (((vl_I q) - (vl_I (S.2 12 m))) - ((vl_I q) - (vl_I (S.2 12 m))) / (vl_I (vm_fill (S.2 10 m))) * (vl_I (vm_fill (S.2 10 m))))]) (G' := (jv_H K I L R)) rfl rfl (jv_m_ialdv (jv_rwK hW 185 102 64 (by decide)) rfl (vl_I_ix (by omega) (by decide)) rfl ((congrArg (I 185) (vl_I_nat (by omega))).trans hm.2.2.1)) Kz) ?_
  refine jv_Wp.cnd jv_i366 (pt := 131) (pe := 100) (p := ((vl_I (S.2 10 m)) ≤ (((vl_I q) - (vl_I (S.2 12 m))) - ((vl_I q) - (vl_I (S.2 12 m))) / (vl_I (vm_fill (S.2 10 m))) * (vl_I (vm_fill (S.2 10 m)))))) (q := ((vl_I (S.2 10 m)) ≤ (((vl_I q) - (vl_I (S.2 12 m))) - ((vl_I q) - (vl_I (S.2 12 m))) / (vl_I (vm_fill (S.2 10 m))) * (vl_I (vm_fill (S.2 10 m)))))) rfl jv_bc_ge rfl rfl Iff.rfl (fun hz => absurd hz (by rw [vi_rm (k := j) (vi_s2 (k := q - S.2 12 m) rfl rfl (by omega) rfl) rfl (by omega) (by omega) hrem]; exact fun z => absurd ((vl_I_le (by omega) (by omega)).mp z) (by omega))) (fun _ => ?_)
  refine jv_Wp.lift (fun _ Kz => jv_Ev.steps jv_i366 1 (pc' := 101) (l' := [(5, .int (1 : Int32)), (4, .int (vl_I (vm_fill (S.2 10 m)))), (3, .int ((vl_I q) - (vl_I (S.2 12 m)))), (0, .ref 178), (1, .int (vl_I q)), (2, .int (vl_I m))]) (st' := [.ref 178]) rfl Kz) ?_
  refine jv_Wp.lift (fun _ Kz => jv_Ev.m jv_i366 (pc' := 104) (st' := [.ref 180]) (G' := (jv_H K I L R)) rfl rfl (jv_m_getR (jv_rwK hW 178 14 31 (by decide)) rfl rfl (jv_rwR hW 178 3 180 (by decide))) Kz) ?_
  refine jv_Wp.lift (fun _ Kz => jv_Ev.m jv_i366 (pc' := 107) (st' := [.ref 183]) (G' := (jv_H K I L R)) rfl rfl (jv_m_getR (jv_rwK hW 180 13 22 (by decide)) rfl rfl (jv_rwR hW 180 6 183 (by decide))) Kz) ?_
  refine jv_Wp.lift (fun _ Kz => jv_Ev.steps jv_i366 1 (pc' := 108) (l' := [(5, .int (1 : Int32)), (4, .int (vl_I (vm_fill (S.2 10 m)))), (3, .int ((vl_I q) - (vl_I (S.2 12 m)))), (0, .ref 178), (1, .int (vl_I q)), (2, .int (vl_I m))]) (st' := [.int (vl_I m), .ref 183]) rfl Kz) ?_
  refine jv_Wp.lift (fun _ Kz => jv_Ev.m jv_i366 (pc' := 109) (st' := [.int (vl_I (S.2 8 m))]) (G' := (jv_H K I L R)) rfl rfl (jv_m_ialdv (jv_rwK hW 183 102 64 (by decide)) rfl (vl_I_ix (by omega) (by decide)) rfl ((congrArg (I 183) (vl_I_nat (by omega))).trans hm.1)) Kz) ?_
  refine jv_Wp.cnd jv_i366 (pt := 116) (pe := 112) (p := (¬ (vl_I (S.2 8 m)) = 0)) (q := (¬ (vl_I (S.2 8 m)) = 0)) rfl jv_bi_ne rfl rfl Iff.rfl (fun h1 => ?_) (fun h1 => ?_)
  · refine jv_Wp.lift (fun _ Kz => jv_Ev.steps jv_i366 1 (pc' := 117) (l' := [(5, .int (1 : Int32)), (4, .int (vl_I (vm_fill (S.2 10 m)))), (3, .int ((vl_I q) - (vl_I (S.2 12 m)))), (0, .ref 178), (1, .int (vl_I q)), (2, .int (vl_I m))]) (st' := [.ref 178]) rfl Kz) ?_
    refine jv_Wp.lift (fun _ Kz => jv_Ev.m jv_i366 (pc' := 120) (st' := [.ref 180]) (G' := (jv_H K I L R)) rfl rfl (jv_m_getR (jv_rwK hW 178 14 31 (by decide)) rfl rfl (jv_rwR hW 178 3 180 (by decide))) Kz) ?_
    refine jv_Wp.lift (fun _ Kz => jv_Ev.m jv_i366 (pc' := 123) (st' := [.ref 188]) (G' := (jv_H K I L R)) rfl rfl (jv_m_getR (jv_rwK hW 180 13 22 (by decide)) rfl rfl (jv_rwR hW 180 11 188 (by decide))) Kz) ?_
    refine jv_Wp.lift (fun _ Kz => jv_Ev.steps jv_i366 1 (pc' := 124) (l' := [(5, .int (1 : Int32)), (4, .int (vl_I (vm_fill (S.2 10 m)))), (3, .int ((vl_I q) - (vl_I (S.2 12 m)))), (0, .ref 178), (1, .int (vl_I q)), (2, .int (vl_I m))]) (st' := [.int (vl_I m), .ref 188]) rfl Kz) ?_
    refine jv_Wp.lift (fun _ Kz => jv_Ev.m jv_i366 (pc' := 125) (st' := [.int (vl_I (vm_fe S m))]) (G' := (jv_H K I L R)) rfl rfl (jv_m_ialdv (jv_rwK hW 188 102 64 (by decide)) rfl (vl_I_ix (by omega) (by decide)) rfl ((congrArg (I 188) (vl_I_nat (by omega))).trans hm.2.2.2.2.2.1)) Kz) ?_
    refine jv_Wp.lift (fun _ Kz => jv_Ev.steps jv_i366 2 (pc' := 128) (l' := [(5, .int (1 : Int32)), (4, .int (vl_I (vm_fill (S.2 10 m)))), (3, .int ((vl_I q) - (vl_I (S.2 12 m)))), (0, .ref 178), (1, .int (vl_I q)), (2, .int (vl_I m))]) (st' := [.int (vl_I (vm_fill (S.2 10 m))), .int ((vl_I q) - (vl_I (S.2 12 m))), .int (vl_I (vm_fe S m))]) rfl Kz) ?_
    refine jv_Wp.lift (fun _ Kz => jv_Ev.op jv_i366 (pc' := 129) (l' := [(5, .int (1 : Int32)), (4, .int (vl_I (vm_fill (S.2 10 m)))), (3, .int ((vl_I q) - (vl_I (S.2 12 m)))), (0, .ref 178), (1, .int (vl_I q)), (2, .int (vl_I m))]) (st' := [.int (((vl_I q) - (vl_I (S.2 12 m))) / (vl_I (vm_fill (S.2 10 m)))), .int (vl_I (vm_fe S m))]) rfl (jv_op_idiv hf0) Kz) ?_
    refine jv_Wp.lift (fun _ Kz => jv_Ev.steps jv_i366 1 (pc' := 130) (l' := [(5, .int (1 : Int32)), (4, .int (vl_I (vm_fill (S.2 10 m)))), (3, .int ((vl_I q) - (vl_I (S.2 12 m)))), (0, .ref 178), (1, .int (vl_I q)), (2, .int (vl_I m))]) (st' := [.int ((vl_I (vm_fe S m)) + (((vl_I q) - (vl_I (S.2 12 m))) / (vl_I (vm_fill (S.2 10 m)))))]) rfl Kz) ?_
    refine jv_Wp.of (jv_Ev.ret jv_i366 rfl rfl) ?_
    rw [if_neg (fun z => h1 ((vl_I_inj (a := S.2 8 m) (b := 0) (by omega) (by decide)).mpr z))] at hQ
    rw [vi_a2 rfl (vi_dv (k := e) (vi_s2 (k := q - S.2 12 m) rfl rfl (by omega) rfl) rfl (by omega) (by omega) hdiv) rfl]
    exact hQ
  · refine jv_Wp.lift (fun _ Kz => jv_Ev.steps jv_i366 2 (pc' := 130) (l' := [(5, .int (1 : Int32)), (4, .int (vl_I (vm_fill (S.2 10 m)))), (3, .int ((vl_I q) - (vl_I (S.2 12 m)))), (0, .ref 178), (1, .int (vl_I q)), (2, .int (vl_I m))]) (st' := [.int (-1 : Int32)]) rfl Kz) ?_
    refine jv_Wp.of (jv_Ev.ret jv_i366 rfl rfl) ?_
    rw [if_pos ((vl_I_inj (a := S.2 8 m) (b := 0) (by omega) (by decide)).mp (Classical.not_not.mp h1))] at hQ
    exact hQ
theorem vr_owner_l {K : Nat → Option (Nat × Nat)} {I : Nat → Nat → Int32} {L : Nat → Nat → Int64} {R : Nat → Nat → Value} (hW : jv_rW K R) {S : vm_S} (hs : vm_sh S) (hp : vr_mp I S) {q : Nat} {n sl : Nat} {Q : jv_R → Prop} {k e : Nat} (hk : k < vm_cnt S) (h2 : S.2 8 k ≠ 2) (he : e < S.2 11 k) (hq1 : vm_at S k e ≤ q) (hq2 : q < vm_at S k e + S.2 10 k) (hQ : Q (some (.int (if S.2 8 k = 0 then (-1 : Int32) else vl_I (vm_fe S k + e))), jv_H K I L R, n, sl)) : ∀ d m, m + d = k → jv_Wp 366 2 [(0, .ref 178), (1, .int (vl_I q)), (2, .int (vl_I m))] [] (jv_H K I L R) n sl Q
  | 0, m, e' => by
    have e' : m = k := e'
    subst e'
    exact vr_owner_e hW hs hp hk h2 he hq1 hq2 hQ
  | d + 1, m, e' => by
    have hin := vm_at_in hs hk h2 he
    have hff := vm_fill_ge (S.2 10 k)
    have hbm := vm_bg_mono S (k := m + 1) (m := k) (by omega)
    exact vr_owner_t hW hs hp (by omega) (by omega) (by omega) (vr_owner_l hW hs hp hk h2 he hq1 hq2 hQ d (m + 1) (by omega))
theorem vr_owner {K : Nat → Option (Nat × Nat)} {I : Nat → Nat → Int32} {L : Nat → Nat → Int64} {R : Nat → Nat → Value} (hW : jv_rW K R) {S : vm_S} (hs : vm_sh S) (hp : vr_mp I S) {q k e : Nat} (hk : k < vm_cnt S) (h2 : S.2 8 k ≠ 2) (he : e < S.2 11 k) (hq1 : vm_at S k e ≤ q) (hq2 : q < vm_at S k e + S.2 10 k) {n sl : Nat} : jv_Ms 366 [.ref 178, .int (vl_I q)] (jv_H K I L R) n sl (some (.int (if S.2 8 k = 0 then (-1 : Int32) else vl_I (vm_fe S k + e))), jv_H K I L R, n, sl) := by
  obtain ⟨X, z, e'⟩ := vr_owner_l (n := n) (sl := sl) (L := L) (Q := fun X => X = (some (.int (if S.2 8 k = 0 then (-1 : Int32) else vl_I (vm_fe S k + e))), jv_H K I L R, n, sl)) hW hs hp hk h2 he hq1 hq2 rfl k 0 (Nat.zero_add k)
  subst e'
  exact jv_Ev.steps jv_i366 2 (pc' := 2) (l' := [(2, .int (0 : Int32)), (0, .ref 178), (1, .int (vl_I q))]) (st' := []) rfl (jv_Ev.loc (l := [(0, .ref 178), (1, .int (vl_I q)), (2, .int (0 : Int32))]) ⟨List.forall_mem_cons.mpr ⟨.tail _ (.head _), List.forall_mem_cons.mpr ⟨.tail _ (.tail _ (.head _)), List.forall_mem_cons.mpr ⟨.head _, fun _ h => absurd h List.not_mem_nil⟩⟩⟩, by show List.Nodup [2, 0, 1]; decide⟩ z)