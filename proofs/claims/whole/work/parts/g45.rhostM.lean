/-! part g45: the host's calls on maps, of the reference (a hand text: this part is the source) -/
/-- the map that a number tells -/
def vh_m (S : vm_S) (x : Int) : Option Nat := if 0 ≤ x ∧ x < vm_cnt S then some x.toNat else none
/-- whether a call is thrown out -/
def vh_c {α : Type} (o : Option α) : Int32 := match o with
  | none => 1
  | some _ => 0
/-- the desk's bytes from a on -/
def vh_k (D : Nat → Nat) (a : Int) (j : Nat) : Nat := D (a.toNat + j)
def vh_find (S : vm_S) (D : Nat → Nat) (x y : Int) : Option Int32 := (vh_m S x).bind fun k => if S.2 8 k = 2 then some (-22) else if 0 ≤ y ∧ y + S.2 9 k ≤ 512 then some (match vm_ent S k (vh_k D y) with | some e => vl_I (vm_at S k e) | none => -1) else none
def vh_upd (S : vm_S) (D : Nat → Nat) (x a b fl : Int) : Option (Int32 × vm_S) := (vh_m S x).bind fun k => if S.2 8 k = 2 then some (-22, S) else if (0 ≤ a ∧ a + S.2 9 k ≤ 512) ∧ 0 ≤ b ∧ b + S.2 10 k ≤ 512 then some (Int32.ofInt (vm_upd S k (vh_k D a) (vh_k D b) fl).1, (vm_upd S k (vh_k D a) (vh_k D b) fl).2) else none
def vh_rem (S : vm_S) (D : Nat → Nat) (x a : Int) : Option (Int32 × vm_S) := (vh_m S x).bind fun k => if S.2 8 k = 1 then (if 0 ≤ a ∧ a + S.2 9 k ≤ 512 then some (Int32.ofInt (vm_drop S k (vh_k D a)).1, (vm_drop S k (vh_k D a)).2) else none) else some (-22, S)
/-- the state behind a call -/
def vh_s (S : vm_S) (o : Option (Int32 × vm_S)) : vm_S := match o with
  | none => S
  | some r => r.2
/-- the cells that the host's calls on maps may change -/
def vr_Eh (q f : Nat) : Prop := vr_Em q f ∨ (q = 178 ∧ f = 0)
theorem vh_m_some {S : vm_S} {x : Int32} {k : Nat} (h8 : vm_cnt S ≤ 8) (h : vh_m S x.toInt = some k) : k < vm_cnt S ∧ x = vl_I k := by
  by_cases c : 0 ≤ x.toInt ∧ x.toInt < vm_cnt S
  · have h := (if_pos c).symm.trans h
    have e := Option.some.inj h
    exact ⟨by omega, Int32.toInt_inj.mp (by rw [vl_I_i (by omega)]; omega)⟩
  · have h := (if_neg c).symm.trans h
    cases h
theorem vh_y {y : Int32} {n : Nat} (h : 0 ≤ y.toInt ∧ y.toInt + n ≤ 512) : y = vl_I y.toInt.toNat ∧ y.toInt.toNat + n ≤ 512 := ⟨Int32.toInt_inj.mp (by rw [vl_I_i (by omega)]; omega), by omega⟩
section
variable {Z : Nat} {K : Nat → Option (Nat × Nat)} {I I1 : Nat → Nat → Int32} {L : Nat → Nat → Int64} {R : Nat → Nat → Value} {S T : vm_S} {D : Nat → Nat}
theorem vr_all_th (hA : vr_all Z I L S) (c : Int32) : vr_all Z (jv_u I 178 0 c) L S := by
  have o : ∀ q i, ¬ (q = 178 ∧ i = 0) → jv_u I 178 0 c q i = I q i := fun q i z => vk_ux z
  obtain ⟨⟨a1, a2, a3, a4, a5, a6, a7, a8, a9, a10⟩, hM, ok⟩ := hA
  refine ⟨⟨by rw [o 178 11 (by omega)]; exact a1, fun r hr => by rw [o 221 r (by omega)]; exact a2 r hr, a3, fun k hk => by rw [o 223 k (by omega), o 222 k (by omega)]; exact a4 k hk, fun j hj => by rw [o 218 j (by omega)]; exact a5 j hj, fun j h16 hj => by rw [o 219 j (by omega)]; exact a6 j h16 hj, fun j hj => by rw [o 182 j (by omega)]; exact a7 j hj, fun k e hk z he => by rw [o 224 _ (by omega)]; exact a8 k e hk z he, a9, (o 180 5 (by omega)).trans a10.1, fun k hk => ?_⟩, vr_mt_em (S := S) (fun _ _ _ => rfl) hM (fun q i z => o q i (by omega)) (fun _ _ _ => rfl), ok⟩
  rw [o 183 k (by omega), o 184 k (by omega), o 185 k (by omega), o 186 k (by omega), o 187 k (by omega), o 188 k (by omega), o 189 k (by omega)]
  exact a10.2 k hk
theorem vr_ff_th {L1 : Nat → Nat → Int64} (f : vc_ff vr_Em I L I1 L1) (c : Int32) : vc_ff vr_Eh I L (jv_u I1 178 0 c) L1 := vc_ff_trans (vc_ff_le (fun _ _ z => Or.inl z) f) (vc_ff_u (Or.inr ⟨rfl, rfl⟩))
theorem vr_bad (hW : jv_rW K R) (hA : vr_all Z I L S) {x : Int32} (h : vh_m S x.toInt = none) : ∀ n sl, jv_Ms 324 [.ref 180, .int x] (jv_H K I L R) n sl (some (.int (1 : Int32)), jv_H K (jv_u I 180 0 (1 : Int32)) L R, n, sl) := fun n sl => by
  refine vr_noMap_b hW (fun c => ?_) hA.2.2.1.1 hA.1.2.2.2.2.2.2.2.2.2.1
  have h := (if_pos c).symm.trans h
  cases h
theorem vr_deskR (hW : jv_rW K R) (hdk : vk_by I 181 0 512 D) {a : Int} {m : Nat} (ha : a.toNat + m ≤ 512) : vr_row K I 181 a.toNat m (vh_k D a) := ⟨hW.1 (181, 101, 512) (by decide), Or.inl rfl, ha, fun j hj => by
  have y := hdk (a.toNat + j) (by omega)
  rw [Nat.zero_add] at y
  exact y⟩
/-- the host's find -/
theorem vr_hfind (hW : jv_rW K R) (hD : R 180 2 = .ref 181) (hA : vr_all Z I L S) (hdk : vk_by I 181 0 512 D) (x y : Int32) : ∃ I1 r0, (∀ n sl, jv_Ms 412 [.ref 178, .int x, .int y] (jv_H K I L R) n sl (some (.int r0), jv_H K I1 L R, n, sl)) ∧ I1 178 0 = vh_c (vh_find S D x.toInt y.toInt) ∧ (∀ r, vh_find S D x.toInt y.toInt = some r → r0 = r) ∧ vr_all Z I1 L S ∧ vc_ff vr_Eh I L I1 L := by
  cases hm : vh_m S x.toInt with
  | none =>
    have e : vh_find S D x.toInt y.toInt = none := by unfold vh_find; rw [hm]; rfl
    rw [e]
    exact ⟨_, _, fun n sl => vr_f_find hW (fun n sl => vr_find_nm hW (vr_bad hW hA hm)) (jv_u_self _ _ _ _), jv_u_self _ _ _ _, (fun r z => by cases z), vr_all_th (vr_all_code hA 1) 1, vr_ff_th (vr_ff_code 1) 1⟩
  | some k =>
    obtain ⟨hk, ex⟩ := vh_m_some hA.2.2.1.1 hm
    have hmk := vr_mk_of hA hk
    have hNM := vr_noMapM hW hA hk
    by_cases h2 : S.2 8 k = 2
    · have e : vh_find S D x.toInt y.toInt = some (-22) := by unfold vh_find; rw [hm]; exact if_pos h2
      rw [e, ex]
      exact ⟨_, _, fun n sl => vr_f_find hW (fun n sl => vr_find_r hW hmk hNM h2) (jv_u_self _ _ _ _), jv_u_self _ _ _ _, fun r z => Option.some.inj z, vr_all_th (vr_all_code hA 0) 0, vr_ff_th (vr_ff_code 0) 0⟩
    · have sn := vm_sh_n hA.2.2.1 hk h2
      have hks := vr_ks32 hA hk h2
      by_cases hd : 0 ≤ y.toInt ∧ y.toInt + S.2 9 k ≤ 512
      · have e : vh_find S D x.toInt y.toInt = some (match vm_ent S k (vh_k D y.toInt) with | some e => vl_I (vm_at S k e) | none => -1) := by unfold vh_find; rw [hm]; exact (if_neg h2).trans (if_pos hd)
        obtain ⟨ey, ay⟩ := vh_y hd
        obtain ⟨I1, f1, f2, f3, f4⟩ := vr_findM hW hD hA hk h2 (vr_deskR hW hdk (a := y.toInt) ay)
        rw [← ey] at f1
        rw [e, ex]
        exact ⟨_, _, fun n sl => vr_f_find hW f1 f4, jv_u_self _ _ _ _, fun r z => Option.some.inj z, vr_all_th f2 0, vr_ff_th f3 0⟩
      · have e : vh_find S D x.toInt y.toInt = none := by unfold vh_find; rw [hm]; exact (if_neg h2).trans (if_neg hd)
        rw [e, ex]
        exact ⟨_, _, fun n sl => vr_f_find hW (fun n sl => vr_find_d hW hmk hNM h2 (by omega) hks hd) (jv_u_self _ _ _ _), jv_u_self _ _ _ _, (fun r z => by cases z), vr_all_th (vr_all_code (vr_all_code hA 0) 1) 1, vr_ff_th (vc_ff_trans (vr_ff_code 0) (vr_ff_code 1)) 1⟩
/-- the host's update -/
theorem vr_hupd (hW : jv_rW K R) (hD : R 180 2 = .ref 181) (hA : vr_all Z I L S) (hdk : vk_by I 181 0 512 D) (x a b fl : Int32) : ∃ I1 r0, (∀ n sl, jv_Ms 413 [.ref 178, .int x, .int a, .int b, .int fl] (jv_H K I L R) n sl (some (.int r0), jv_H K I1 L R, n, sl)) ∧ I1 178 0 = vh_c (vh_upd S D x.toInt a.toInt b.toInt fl.toInt) ∧ (∀ r, vh_upd S D x.toInt a.toInt b.toInt fl.toInt = some r → r0 = r.1) ∧ vr_all Z I1 L (vh_s S (vh_upd S D x.toInt a.toInt b.toInt fl.toInt)) ∧ vc_ff vr_Eh I L I1 L := by
  cases hm : vh_m S x.toInt with
  | none =>
    have e : vh_upd S D x.toInt a.toInt b.toInt fl.toInt = none := by unfold vh_upd; rw [hm]; rfl
    rw [e]
    exact ⟨_, _, fun n sl => vr_f_update hW (fun n sl => vr_update_nm hW (vr_bad hW hA hm)) (jv_u_self _ _ _ _), jv_u_self _ _ _ _, (fun r z => by cases z), vr_all_th (vr_all_code hA 1) 1, vr_ff_th (vr_ff_code 1) 1⟩
  | some k =>
    obtain ⟨hk, ex⟩ := vh_m_some hA.2.2.1.1 hm
    have hmk := vr_mk_of hA hk
    have hNM := vr_noMapM hW hA hk
    by_cases h2 : S.2 8 k = 2
    · have e : vh_upd S D x.toInt a.toInt b.toInt fl.toInt = some (-22, S) := by unfold vh_upd; rw [hm]; exact if_pos h2
      rw [e, ex]
      exact ⟨_, _, fun n sl => vr_f_update hW (fun n sl => vr_upd_r hW hmk hNM h2) (jv_u_self _ _ _ _), jv_u_self _ _ _ _, (fun r z => by rw [← Option.some.inj z]), vr_all_th (vr_all_code hA 0) 0, vr_ff_th (vr_ff_code 0) 0⟩
    · have sn := vm_sh_n hA.2.2.1 hk h2
      have hks := vr_ks32 hA hk h2
      by_cases hd : (0 ≤ a.toInt ∧ a.toInt + S.2 9 k ≤ 512) ∧ 0 ≤ b.toInt ∧ b.toInt + S.2 10 k ≤ 512
      · have e : vh_upd S D x.toInt a.toInt b.toInt fl.toInt = some (Int32.ofInt (vm_upd S k (vh_k D a.toInt) (vh_k D b.toInt) fl.toInt).1, (vm_upd S k (vh_k D a.toInt) (vh_k D b.toInt) fl.toInt).2) := by unfold vh_upd; rw [hm]; exact (if_neg h2).trans (if_pos hd)
        obtain ⟨ea, aa⟩ := vh_y hd.1
        obtain ⟨eb, ab⟩ := vh_y hd.2
        obtain ⟨I1, f1, f2, f3, f4⟩ := vr_updM hW hD hA hk h2 (vr_deskR hW hdk (a := a.toInt) aa) (vr_deskR hW hdk (a := b.toInt) ab) fl
        rw [← ea, ← eb] at f1
        rw [e, ex]
        exact ⟨_, _, fun n sl => vr_f_update hW f1 f4, jv_u_self _ _ _ _, (fun r z => by rw [← Option.some.inj z]), vr_all_th f2 0, vr_ff_th f3 0⟩
      · have e : vh_upd S D x.toInt a.toInt b.toInt fl.toInt = none := by unfold vh_upd; rw [hm]; exact (if_neg h2).trans (if_neg hd)
        rw [e, ex]
        by_cases ha : 0 ≤ a.toInt ∧ a.toInt + S.2 9 k ≤ 512
        · exact ⟨_, _, fun n sl => vr_f_update hW (fun n sl => vr_upd_b hW hmk hNM h2 (by omega) hks sn.2.1.2 ha (fun z => hd ⟨ha, z⟩)) (jv_u_self _ _ _ _), jv_u_self _ _ _ _, (fun r z => by cases z), vr_all_th (vr_all_code (vr_all_code hA 0) 1) 1, vr_ff_th (vc_ff_trans (vr_ff_code 0) (vr_ff_code 1)) 1⟩
        · exact ⟨_, _, fun n sl => vr_f_update hW (fun n sl => vr_upd_a hW hmk hNM h2 (by omega) hks sn.2.1.2 ha) (jv_u_self _ _ _ _), jv_u_self _ _ _ _, (fun r z => by cases z), vr_all_th (vr_all_code (vr_all_code hA 0) 1) 1, vr_ff_th (vc_ff_trans (vr_ff_code 0) (vr_ff_code 1)) 1⟩
/-- the host's removal -/
theorem vr_hrem (hW : jv_rW K R) (hD : R 180 2 = .ref 181) (hA : vr_all Z I L S) (hdk : vk_by I 181 0 512 D) (x a : Int32) : ∃ I1 r0, (∀ n sl, jv_Ms 414 [.ref 178, .int x, .int a] (jv_H K I L R) n sl (some (.int r0), jv_H K I1 L R, n, sl)) ∧ I1 178 0 = vh_c (vh_rem S D x.toInt a.toInt) ∧ (∀ r, vh_rem S D x.toInt a.toInt = some r → r0 = r.1) ∧ vr_all Z I1 L (vh_s S (vh_rem S D x.toInt a.toInt)) ∧ vc_ff vr_Eh I L I1 L := by
  cases hm : vh_m S x.toInt with
  | none =>
    have e : vh_rem S D x.toInt a.toInt = none := by unfold vh_rem; rw [hm]; rfl
    rw [e]
    exact ⟨_, _, fun n sl => vr_f_remove hW (fun n sl => vr_remove_nm hW (vr_bad hW hA hm)) (jv_u_self _ _ _ _), jv_u_self _ _ _ _, (fun r z => by cases z), vr_all_th (vr_all_code hA 1) 1, vr_ff_th (vr_ff_code 1) 1⟩
  | some k =>
    obtain ⟨hk, ex⟩ := vh_m_some hA.2.2.1.1 hm
    have hmk := vr_mk_of hA hk
    have hNM := vr_noMapM hW hA hk
    by_cases h1 : S.2 8 k = 1
    · have st := vm_sh_t hA.2.2.1 hk h1
      by_cases hd : 0 ≤ a.toInt ∧ a.toInt + S.2 9 k ≤ 512
      · have e : vh_rem S D x.toInt a.toInt = some (Int32.ofInt (vm_drop S k (vh_k D a.toInt)).1, (vm_drop S k (vh_k D a.toInt)).2) := by unfold vh_rem; rw [hm]; exact (if_pos h1).trans (if_pos hd)
        obtain ⟨ea, aa⟩ := vh_y hd
        obtain ⟨I1, f1, f2, f3, f4⟩ := vr_dropM hW hD hA hk h1 (vr_deskR hW hdk (a := a.toInt) aa)
        rw [← ea] at f1
        rw [e, ex]
        exact ⟨_, _, fun n sl => vr_f_remove hW f1 f4, jv_u_self _ _ _ _, (fun r z => by rw [← Option.some.inj z]), vr_all_th f2 0, vr_ff_th f3 0⟩
      · have e : vh_rem S D x.toInt a.toInt = none := by unfold vh_rem; rw [hm]; exact (if_pos h1).trans (if_neg hd)
        rw [e, ex]
        exact ⟨_, _, fun n sl => vr_f_remove hW (fun n sl => vr_rem_d hW hmk hNM h1 st.1.2 hd) (jv_u_self _ _ _ _), jv_u_self _ _ _ _, (fun r z => by cases z), vr_all_th (vr_all_code (vr_all_code hA 0) 1) 1, vr_ff_th (vc_ff_trans (vr_ff_code 0) (vr_ff_code 1)) 1⟩
    · have e : vh_rem S D x.toInt a.toInt = some (-22, S) := by unfold vh_rem; rw [hm]; exact if_neg h1
      have k3 : S.2 8 k < 3 := by
        rcases hA.2.2.1.2.1 k hk with y | y <;> omega
      rw [e, ex]
      exact ⟨_, _, fun n sl => vr_f_remove hW (fun n sl => vr_rem_r hW hmk hNM h1 k3) (jv_u_self _ _ _ _), jv_u_self _ _ _ _, (fun r z => by rw [← Option.some.inj z]), vr_all_th (vr_all_code hA 0) 0, vr_ff_th (vr_ff_code 0) 0⟩
end
