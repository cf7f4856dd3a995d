/-! part g46: the host's counting and its numbers on the desk and the area, of the reference (a hand text: this part is the source) -/
/-- how many entries, or bytes, a map holds -/
def vh_held (S : vm_S) (k : Nat) : Nat := if S.2 8 k = 2 then S.2 15 k - S.2 16 k else if S.2 8 k = 0 then S.2 11 k else vk_n (vk_tk S k) (S.2 11 k)
def vh_used (S : vm_S) (x : Int) : Option Int32 := (vh_m S x).map fun k => vl_I (vh_held S k)
/-- the row D with n bytes anew from a on -/
def vh_put (D : Nat → Nat) (a n : Nat) (B : Nat → Nat) (i : Nat) : Nat := if a ≤ i ∧ i < a + n then B (i - a) else D i
def vh_desk (D : Nat → Nat) (y : Int) : Option Int64 := if 0 ≤ y ∧ y + ((8 : Nat) : Int) ≤ 512 then some (vm_J (vm_le (vh_k D y) 0 8)) else none
def vh_lay (D : Nat → Nat) (y : Int) (v : Int64) : Option (Nat → Nat) := if 0 ≤ y ∧ y + ((8 : Nat) : Int) ≤ 512 then some (vh_put D y.toNat 8 (vm_bt v)) else none
def vh_area (S : vm_S) (y : Int) : Option Int64 := if 0 ≤ y ∧ y ≤ 65528 then some (vm_J (vm_le (vh_k (S.2 6) y) 0 8)) else none
/-- the cells that the host's calls may change, the desk among them -/
def vr_Ehd (q f : Nat) : Prop := vr_Eh q f ∨ q = 181
theorem vh_put_by {I : Nat → Nat → Int32} {r a n : Nat} {D B : Nat → Nat} (h : vk_by I r 0 512 D) (hB : ∀ j, j < n → B j < 256) : vk_by (vm_wr I r a n (fun j => vl_sb (B j))) r 0 512 (vh_put D a n B) := by
  intro j hj
  have y := h j hj
  rw [Nat.zero_add] at y ⊢
  unfold vh_put
  by_cases c : a ≤ j ∧ j < a + n
  · have z := vm_wr_i (I := I) (r := r) (a := a) (n := n) (k := j - a) (f := fun j => vl_sb (B j)) (by omega)
    rw [show a + (j - a) = j by omega] at z
    rw [z, if_pos c]
    exact ⟨rfl, hB _ (by omega)⟩
  · rw [vm_wr_o (by omega), if_neg c]; exact y
section
variable {Z : Nat} {K : Nat → Option (Nat × Nat)} {I I1 : Nat → Nat → Int32} {L : Nat → Nat → Int64} {R : Nat → Nat → Value} {S T : vm_S} {D : Nat → Nat} {k kd ks vs en bg fe fk : Nat}
theorem vr_all_d (hA : vr_all Z I L S) (o : ∀ q i, q ≠ 181 → I1 q i = I q i) : vr_all Z I1 L S := by
  obtain ⟨⟨a1, a2, a3, a4, a5, a6, a7, a8, a9, a10⟩, hM, ok⟩ := hA
  refine ⟨⟨by rw [o 178 11 (by omega)]; exact a1, fun r hr => by rw [o 221 r (by omega)]; exact a2 r hr, a3, fun k hk => by rw [o 223 k (by omega), o 222 k (by omega)]; exact a4 k hk, fun j hj => by rw [o 218 j (by omega)]; exact a5 j hj, fun j h16 hj => by rw [o 219 j (by omega)]; exact a6 j h16 hj, fun j hj => by rw [o 182 j (by omega)]; exact a7 j hj, fun k e hk z he => by rw [o 224 _ (by omega)]; exact a8 k e hk z he, a9, (o 180 5 (by omega)).trans a10.1, fun k hk => ?_⟩, vr_mt_em (S := S) (fun _ _ _ => rfl) hM (fun q i z => o q i (by omega)) (fun _ _ _ => rfl), ok⟩
  rw [o 183 k (by omega), o 184 k (by omega), o 185 k (by omega), o 186 k (by omega), o 187 k (by omega), o 188 k (by omega), o 189 k (by omega)]
  exact a10.2 k hk
theorem vr_us_A (hW : jv_rW K R) (hm : vr_mk I k kd ks vs en bg fe fk) (hen : en ≤ 4096) (hkd : kd = 0) {n sl : Nat} {Q : jv_R → Prop} (hQ : Q (some (.int (vl_I en)), jv_H K I L R, n, sl)) : ∀ d e, e + d = en → jv_Wp 325 39 [(0, .ref 180), (1, .int (vl_I k)), (2, .int (vl_I e)), (3, .int (vl_I e))] [] (jv_H K I L R) n sl Q
  | 0, e, g => by
    have g : e = en := g
    rw [g]; exact vr_used_e hW hm hen hQ
  | d + 1, e, g => vr_used_a hW hm (by omega) hen hkd (vr_us_A hW hm hen hkd hQ d (e + 1) (by omega))
theorem vr_us_T (hW : jv_rW K R) (hm : vr_mk I k kd ks vs en bg fe fk) (hen : en ≤ 4096) (hkd : kd = 1) (hfe : fe + en ≤ 8192) {tk : Nat → Nat} (ht : ∀ e, e < en → I 190 (fe + e) = vl_I (tk e) ∧ tk e ≤ 1) {n sl : Nat} {Q : jv_R → Prop} (hQ : Q (some (.int (vl_I (vk_n tk en))), jv_H K I L R, n, sl)) : ∀ d e, e + d = en → jv_Wp 325 39 [(0, .ref 180), (1, .int (vl_I k)), (2, .int (vl_I (vk_n tk e))), (3, .int (vl_I e))] [] (jv_H K I L R) n sl Q
  | 0, e, g => by
    have g : e = en := g
    rw [g]; exact vr_used_e hW hm hen hQ
  | d + 1, e, g => by
    have c := vr_us_T hW hm hen hkd hfe ht hQ d (e + 1) (by omega)
    have y := ht e (by omega)
    rw [show vk_n tk (e + 1) = vk_n tk e + tk e from rfl] at c
    by_cases z : tk e = 1
    · rw [z] at c
      exact vr_used_t hW hm (by omega) hen hkd (by omega) y.1 z c
    · have z : tk e = 0 := by omega
      rw [z] at c
      exact vr_used_f hW hm (by omega) hen hkd (by omega) y.1 z c
/-- the host's count of a map -/
theorem vr_hused (hW : jv_rW K R) (hA : vr_all Z I L S) (x : Int32) : ∃ I1 r0, (∀ n sl, jv_Ms 408 [.ref 178, .int x] (jv_H K I L R) n sl (some (.int r0), jv_H K I1 L R, n, sl)) ∧ I1 178 0 = vh_c (vh_used S x.toInt) ∧ (∀ r, vh_used S x.toInt = some r → r0 = r) ∧ vr_all Z I1 L S ∧ vc_ff vr_Eh I L I1 L := by
  cases hm : vh_m S x.toInt with
  | none =>
    have e : vh_used S x.toInt = none := by unfold vh_used; rw [hm]; rfl
    rw [e]
    exact ⟨_, _, fun n sl => vr_f_used hW (fun n sl => vr_used_nm hW (vr_bad hW hA hm)) (jv_u_self _ _ _ _), jv_u_self _ _ _ _, (fun r z => by cases z), vr_all_th (vr_all_code hA 1) 1, vr_ff_th (vr_ff_code 1) 1⟩
  | some k =>
    obtain ⟨hk, ex⟩ := vh_m_some hA.2.2.1.1 hm
    have hmk := vr_mk_of hA hk
    have hNM := vr_noMapM hW hA hk
    have e : vh_used S x.toInt = some (vl_I (vh_held S k)) := by unfold vh_used; rw [hm]; rfl
    rw [e, ex]
    have hS : ∀ n sl, jv_Ms 325 [.ref 180, .int (vl_I k)] (jv_H K I L R) n sl (some (.int (vl_I (vh_held S k))), jv_H K (jv_u I 180 0 (0 : Int32)) L R, n, sl) := fun n sl => by
      by_cases h2 : S.2 8 k = 2
      · obtain ⟨e15, e16, e17, e18⟩ := hA.2.1.2 k hk h2
        obtain ⟨q18, q16, q15, q17, qZ⟩ := hA.2.2.2.2 k hk h2
        have s : S.2 11 k ≤ 16384 := by
          rcases hA.2.2.1.2.1 k hk with y | y
          · exact y.2.2.1
          · omega
        have eh : vh_held S k = S.2 15 k - S.2 16 k := if_pos h2
        have y := vr_used_r (n := n) (sl := sl) hW hmk hNM h2 e15 e16
        rw [vm_J_sub q16, vm_J_32 (by omega)] at y
        rw [eh]; exact y
      · have sn := vm_sh_n hA.2.2.1 hk h2
        have hm0 : vr_mk (jv_u I 180 0 (0 : Int32)) k (S.2 8 k) (S.2 9 k) (S.2 10 k) (S.2 11 k) (S.2 12 k) (vm_fe S k) (vm_fk S k) := vr_mk_ext hmk (fun q i a b => jv_u_o _ _ _ _ (by omega))
        have fin : jv_Wp 325 39 [(0, .ref 180), (1, .int (vl_I k)), (2, .int (0 : Int32)), (3, .int (0 : Int32))] [] (jv_H K (jv_u I 180 0 (0 : Int32)) L R) n sl (fun X => X = (some (.int (vl_I (vh_held S k))), jv_H K (jv_u I 180 0 (0 : Int32)) L R, n, sl)) := by
          by_cases h0 : S.2 8 k = 0
          · have eh : vh_held S k = S.2 11 k := (if_neg h2).trans (if_pos h0)
            rw [eh]
            exact vr_us_A (Q := fun X => X = (some (.int (vl_I (S.2 11 k))), jv_H K (jv_u I 180 0 (0 : Int32)) L R, n, sl)) hW hm0 sn.2.2.2 h0 rfl (S.2 11 k) 0 (Nat.zero_add _)
          · have h1 : S.2 8 k = 1 := by have := sn.1; omega
            have fi := vm_fe_in hA.2.2.1 hk h1
            have eh : vh_held S k = vk_n (vk_tk S k) (S.2 11 k) := (if_neg h2).trans (if_neg h0)
            rw [eh]
            exact vr_us_T (tk := vk_tk S k) (Q := fun X => X = (some (.int (vl_I (vk_n (vk_tk S k) (S.2 11 k)))), jv_H K (jv_u I 180 0 (0 : Int32)) L R, n, sl)) hW hm0 sn.2.2.2 h1 (by omega) (fun e he => by rw [jv_u_o _ _ _ _ (show 190 ≠ 180 by decide)]; exact (hA.2.1.1 k hk h1).1 e he) rfl (S.2 11 k) 0 (Nat.zero_add _)
        obtain ⟨X, kk, eX⟩ := vr_used_0 hW hmk hNM h2 (by omega) fin
        subst eX
        exact kk
    exact ⟨_, _, fun n sl => vr_f_used hW hS (jv_u_self _ _ _ _), jv_u_self _ _ _ _, fun r z => Option.some.inj z, vr_all_th (vr_all_code hA 0) 0, vr_ff_th (vr_ff_code 0) 0⟩
/-- a number on the desk -/
theorem vr_hdesk (hW : jv_rW K R) (hD : R 180 2 = .ref 181) (hA : vr_all Z I L S) (hdk : vk_by I 181 0 512 D) (y : Int32) : ∃ I1 r0, (∀ n sl, jv_Ms 410 [.ref 178, .int y] (jv_H K I L R) n sl (some (.long r0), jv_H K I1 L R, n, sl)) ∧ I1 178 0 = vh_c (vh_desk D y.toInt) ∧ (∀ r, vh_desk D y.toInt = some r → r0 = r) ∧ vr_all Z I1 L S ∧ vc_ff vr_Eh I L I1 L := by
  by_cases hd : 0 ≤ y.toInt ∧ y.toInt + ((8 : Nat) : Int) ≤ 512
  · have e : vh_desk D y.toInt = some (vm_J (vm_le (vh_k D y.toInt) 0 8)) := if_pos hd
    obtain ⟨ey, ay⟩ := vh_y hd
    have row := vr_deskR hW hdk (a := y.toInt) ay
    rw [e]
    have hS : ∀ n sl, jv_Ms 329 [.ref 180, .int y] (jv_H K I L R) n sl (some (.long (vm_J (vm_le (vh_k D y.toInt) 0 8))), jv_H K (jv_u I 180 0 (0 : Int32)) L R, n, sl) := fun n sl => by
      have hd' := hd
      rw [ey] at hd'
      have z := vr_desk_y (n := n) (sl := sl) (L := L) (a := y.toInt.toNat) hW hD row.1 hd' (fun n sl => vr_numberM (m := 8) (B := vh_k D y.toInt) row.1 (by decide) (fun j hj => by rw [jv_u_o _ _ _ _ (show 181 ≠ 180 by decide)]; exact row.2.2.2 j hj) row.2.2.1)
      rw [← ey] at z
      exact z
    exact ⟨_, _, fun n sl => vr_f_desk hW hS (jv_u_self _ _ _ _), jv_u_self _ _ _ _, fun r z => Option.some.inj z, vr_all_th (vr_all_code hA 0) 0, vr_ff_th (vr_ff_code 0) 0⟩
  · have e : vh_desk D y.toInt = none := if_neg hd
    rw [e]
    exact ⟨_, _, fun n sl => vr_f_desk hW (fun n sl => vr_desk_n hW hd) (jv_u_self _ _ _ _), jv_u_self _ _ _ _, (fun r z => by cases z), vr_all_th (vr_all_code hA 1) 1, vr_ff_th (vr_ff_code 1) 1⟩
/-- a number is laid on the desk -/
theorem vr_hlay (hW : jv_rW K R) (hD : R 180 2 = .ref 181) (hA : vr_all Z I L S) (hdk : vk_by I 181 0 512 D) (y : Int32) (v : Int64) : ∃ I1, (∀ n sl, jv_Ms 409 [.ref 178, .int y, .long v] (jv_H K I L R) n sl (none, jv_H K I1 L R, n, sl)) ∧ I1 178 0 = vh_c (vh_lay D y.toInt v) ∧ vk_by I1 181 0 512 ((vh_lay D y.toInt v).getD D) ∧ vr_all Z I1 L S ∧ vc_ff vr_Ehd I L I1 L := by
  have d0 : ∀ c d : Int32, vk_by (jv_u (jv_u I 180 0 c) 178 0 d) 181 0 512 D := fun c d j hj => by rw [jv_u_o _ _ _ _ (show 181 ≠ 178 by decide), jv_u_o _ _ _ _ (show 181 ≠ 180 by decide)]; exact hdk j hj
  by_cases hd : 0 ≤ y.toInt ∧ y.toInt + ((8 : Nat) : Int) ≤ 512
  · have e : vh_lay D y.toInt v = some (vh_put D y.toInt.toNat 8 (vm_bt v)) := if_pos hd
    obtain ⟨ey, ay⟩ := vh_y hd
    have row := vr_deskR hW hdk (a := y.toInt) ay
    rw [e]
    obtain ⟨J, eJ⟩ : ∃ J, J = vm_wr (jv_u I 180 0 (0 : Int32)) 181 y.toInt.toNat 8 (fun j => vl_sb (vm_bt v j)) := ⟨_, rfl⟩
    have oJ : ∀ q i, q ≠ 181 → J q i = jv_u I 180 0 (0 : Int32) q i := fun q i z => by rw [eJ]; exact vm_wr_o (fun w => z w.1)
    have hS : ∀ n sl, jv_Ms 330 [.ref 180, .int y, .long v] (jv_H K I L R) n sl (none, jv_H K J L R, n, sl) := fun n sl => by
      have hd' := hd
      rw [ey] at hd'
      have z := vr_lay_y (n := n) (sl := sl) (L := L) (v := v) (I1 := J) (a := y.toInt.toNat) hW hD row.1 hd' (fun n sl => by rw [eJ]; exact vr_putW (m := 8) row.1 (by decide) (by decide) (by omega))
      rw [← ey] at z
      exact z
    have bJ : vk_by J 181 0 512 (vh_put D y.toInt.toNat 8 (vm_bt v)) := by
      rw [eJ]
      exact vh_put_by (fun j hj => by rw [jv_u_o _ _ _ _ (show 181 ≠ 180 by decide)]; exact hdk j hj) (fun j _ => vm_bt_lt v j)
    refine ⟨_, fun n sl => vr_f_lay hW hS ((oJ 180 0 (by decide)).trans (jv_u_self _ _ _ _)), jv_u_self _ _ _ _, fun j hj => by rw [jv_u_o _ _ _ _ (show 181 ≠ 178 by decide)]; exact bJ j hj, vr_all_th (vr_all_d (vr_all_code hA 0) oJ) 0, ⟨fun q i z => ?_, fun _ _ _ => rfl⟩⟩
    unfold vr_Ehd vr_Eh vr_Em at z
    rw [vk_ux (by omega), oJ q i (by omega), vk_ux (by omega)]
  · have e : vh_lay D y.toInt v = none := if_neg hd
    rw [e]
    exact ⟨_, fun n sl => vr_f_lay hW (fun n sl => vr_lay_n hW hd) (jv_u_self _ _ _ _), jv_u_self _ _ _ _, d0 1 1, vr_all_th (vr_all_code hA 1) 1, vc_ff_le (fun _ _ z => Or.inl z) (vr_ff_th (vr_ff_code 1) 1)⟩
/-- a number in the area -/
theorem vr_harea (hW : jv_rW K R) (hA : vr_all Z I L S) (y : Int32) : ∃ I1 r0, (∀ n sl, jv_Ms 411 [.ref 178, .int y] (jv_H K I L R) n sl (some (.long r0), jv_H K I1 L R, n, sl)) ∧ I1 178 0 = vh_c (vh_area S y.toInt) ∧ (∀ r, vh_area S y.toInt = some r → r0 = r) ∧ vr_all Z I1 L S ∧ vc_ff vr_Eh I L I1 L := by
  by_cases hd : 0 ≤ y.toInt ∧ y.toInt ≤ 65528
  · have e : vh_area S y.toInt = some (vm_J (vm_le (vh_k (S.2 6) y.toInt) 0 8)) := if_pos hd
    have ey : y = vl_I y.toInt.toNat := Int32.toInt_inj.mp (by rw [vl_I_i (by omega)]; omega)
    rw [e]
    have hN : ∀ n sl, jv_Ms 327 [.ref 182, .int y, .int (8 : Int32)] (jv_H K (jv_u I 180 0 (0 : Int32)) L R) n sl (some (.long (vm_J (vm_le (vh_k (S.2 6) y.toInt) 0 8))), jv_H K (jv_u I 180 0 (0 : Int32)) L R, n, sl) := fun n sl => by
      have z := vr_numberM (n := n) (sl := sl) (K := K) (I := jv_u I 180 0 (0 : Int32)) (L := L) (R := R) (r := 182) (len := 65536) (a := y.toInt.toNat) (m := 8) (B := vh_k (S.2 6) y.toInt) (hW.1 (182, 101, 65536) (by decide)) (by decide) (fun j hj => by rw [jv_u_o _ _ _ _ (show 182 ≠ 180 by decide)]; exact hA.1.2.2.2.2.2.2.1 (y.toInt.toNat + j) (by omega)) (by omega)
      rw [← ey] at z
      exact z
    exact ⟨_, _, fun n sl => vr_f_area hW (fun n sl => vr_load_y hW hd hN) (jv_u_self _ _ _ _), jv_u_self _ _ _ _, fun r z => Option.some.inj z, vr_all_th (vr_all_code hA 0) 0, vr_ff_th (vr_ff_code 0) 0⟩
  · have e : vh_area S y.toInt = none := if_neg hd
    rw [e]
    exact ⟨_, _, fun n sl => vr_f_area hW (fun n sl => vr_load_n hW hd) (jv_u_self _ _ _ _), jv_u_self _ _ _ _, (fun r z => by cases z), vr_all_th (vr_all_code hA 1) 1, vr_ff_th (vr_ff_code 1) 1⟩
end
