/-! part g47: the host's following of a table, of the reference (a hand text: this part is the source) -/
/-- the entry from which a following looks -/
def vh_e0 (S : vm_S) (D : Nat → Nat) (k : Nat) (y : Int) : Nat := if y = -1 then 0 else match vm_ent S k (vh_k D y) with
  | some e => e + 1
  | none => 0
/-- the first entry from e on that is taken, or the number of entries -/
def vh_f (S : vm_S) (k e : Nat) : Nat := vf_fi (fun e => !decide (vk_tk S k e = 1)) (S.2 11 k - e) e
/-- what a following answers, and the desk then -/
def vh_nx (S : vm_S) (D : Nat → Nat) (k e z : Nat) : Int32 × (Nat → Nat) := if vh_f S k e < S.2 11 k then (vl_I (vh_f S k e), vh_put D z (S.2 9 k) (vk_ky S k (vh_f S k e))) else (-1, D)
def vh_next (S : vm_S) (D : Nat → Nat) (x y z : Int) : Option (Int32 × (Nat → Nat)) := (vh_m S x).bind fun k => if S.2 8 k = 1 then (if (y = -1 ∨ 0 ≤ y ∧ y + S.2 9 k ≤ 512) ∧ 0 ≤ z ∧ z + S.2 9 k ≤ 512 then some (vh_nx S D k (vh_e0 S D k y) z.toNat) else none) else some (-22, D)
/-- the desk behind a call -/
def vh_D (D : Nat → Nat) (o : Option (Int32 × (Nat → Nat))) : Nat → Nat := match o with
  | none => D
  | some r => r.2
section
variable {Z : Nat} {K : Nat → Option (Nat × Nat)} {I I1 : Nat → Nat → Int32} {L : Nat → Nat → Int64} {R : Nat → Nat → Value} {S T : vm_S} {D : Nat → Nat} {k kd ks vs en bg fe fk : Nat}
theorem vr_nx_l (hW : jv_rW K R) (hm : vr_mk I k kd ks vs en bg fe fk) (hen : en ≤ 4096) (hfe : fe + en ≤ 8192) {tk : Nat → Nat} (ht : ∀ e, e < en → I 190 (fe + e) = vl_I (tk e) ∧ tk e ≤ 1) {x : Int32} {c : Nat} {n sl : Nat} {Q : jv_R → Prop} : ∀ d e, e + d = en → (∀ f, e ≤ f → f < en → tk f = 1 → (∀ u, e ≤ u → u < f → tk u ≠ 1) → jv_Wp 348 141 [(0, .ref 180), (1, .int (vl_I k)), (2, .int x), (3, .int (vl_I c)), (4, .int (vl_I f)), (5, .int (0 : Int32))] [] (jv_H K I L R) n sl Q) → ((∀ u, e ≤ u → u < en → tk u ≠ 1) → Q (some (.int (-1 : Int32)), jv_H K I L R, n, sl)) → jv_Wp 348 91 [(0, .ref 180), (1, .int (vl_I k)), (2, .int x), (3, .int (vl_I c)), (4, .int (vl_I e))] [] (jv_H K I L R) n sl Q
  | 0, e, g, _, h2 => by
    have g : e = en := g
    subst g
    exact vr_next_e hW hm hen (h2 (fun u a b => absurd (Nat.lt_of_le_of_lt a b) (Nat.lt_irrefl e)))
  | d + 1, e, g, h1, h2 => by
    have y := ht e (by omega)
    by_cases z : tk e = 1
    · exact vr_next_t hW hm (by omega) hen (by omega) y.1 z (h1 e (Nat.le_refl e) (by omega) z (fun u a b => absurd (Nat.lt_of_le_of_lt a b) (Nat.lt_irrefl e)))
    · have ext : ∀ {f}, (∀ u, e + 1 ≤ u → u < f → tk u ≠ 1) → ∀ u, e ≤ u → u < f → tk u ≠ 1 := fun h u a b => by
        by_cases c : u = e
        · rw [c]; exact z
        · exact h u (by omega) b
      exact vr_next_f hW hm (by omega) hen (by omega) y.1 (by omega) (vr_nx_l hW hm hen hfe ht d (e + 1) (by omega) (fun f a b t u => h1 f (by omega) b t (ext u)) (fun u => h2 (ext u)))
/-- the loop's answer is vh_nx -/
theorem vr_nx_w (hW : jv_rW K R) (hD : R 180 2 = .ref 181) (hA : vr_all Z I L S) (hk : k < vm_cnt S) (h1 : S.2 8 k = 1) (hdk : vk_by I 181 0 512 D) {e c : Nat} (he : e ≤ S.2 11 k) (hc : c + S.2 9 k ≤ 512) : ∃ I1, (∀ q i, q ≠ 181 → I1 q i = I q i) ∧ vk_by I1 181 0 512 (vh_nx S D k e c).2 ∧ ∀ (x : Int32) (n sl : Nat), jv_Wp 348 91 [(0, .ref 180), (1, .int (vl_I k)), (2, .int x), (3, .int (vl_I c)), (4, .int (vl_I e))] [] (jv_H K I L R) n sl (fun X => X = (some (.int (vh_nx S D k e c).1), jv_H K I1 L R, n, sl)) := by
  have hm := vr_mk_of hA hk
  have st := vm_sh_t hA.2.2.1 hk h1
  have fi := vm_fe_in hA.2.2.1 hk h1
  have tt := hA.2.1.1 k hk h1
  obtain ⟨f1, f2, f3, f4⟩ := vk_fi (g := fun e => !decide (vk_tk S k e = 1)) (S.2 11 k - e) e
  have b1 : e ≤ vh_f S k e := f1
  have b2 : vh_f S k e ≤ S.2 11 k := by have : vh_f S k e ≤ e + (S.2 11 k - e) := f2; omega
  have b3 : ∀ u, e ≤ u → u < vh_f S k e → vk_tk S k u ≠ 1 := fun u a b z => by
    have y := f3 u a b
    rw [decide_eq_true z] at y; cases y
  by_cases cf : vh_f S k e < S.2 11 k
  · have b4 : vk_tk S k (vh_f S k e) = 1 := by
      have y : (!decide (vk_tk S k (vh_f S k e) = 1)) = false := f4 (by rw [show e + (S.2 11 k - e) = S.2 11 k by omega]; exact cf)
      by_cases z : vk_tk S k (vh_f S k e) = 1
      · exact z
      · rw [decide_eq_false z] at y; cases y
    have en : vh_nx S D k e c = (vl_I (vh_f S k e), vh_put D c (S.2 9 k) (vk_ky S k (vh_f S k e))) := if_pos cf
    rw [en]
    generalize vh_f S k e = f at *
    have ix : (f + 1) * S.2 9 k ≤ S.2 11 k * S.2 9 k := Nat.mul_le_mul_right _ cf
    rw [Nat.add_mul, Nat.one_mul] at ix
    refine ⟨vm_wr I 181 c (S.2 9 k) (fun j => vl_sb (vk_ky S k f j)), fun q i z => vm_wr_o (fun w => z w.1), vh_put_by hdk (fun j hj => (tt.2 f j cf hj).2), fun x n sl => ?_⟩
    refine vr_nx_l hW hm st.2.2 (by omega) tt.1 (S.2 11 k - e) e (by omega) (fun g a b t u => ?_) (fun u => absurd b4 (u f b1 cf))
    have eg : g = f := by
      rcases Nat.lt_trichotomy g f with w | w | w
      · exact absurd t (b3 g a w)
      · exact w
      · exact absurd b4 (u f b1 w)
    subst eg
    have l := vr_next_l (x := x) (L := L) (n := n) (sl := sl) (c := c) (e := g) (B := vk_ky S k g) (Q := fun X => X = (some (.int (vl_I g)), jv_H K (vm_wr I 181 c (S.2 9 k) (fun j => vl_sb (vk_ky S k g j))) L R, n, sl)) hW hD (hW.1 (181, 101, 512) (by decide)) hm (by omega) st.1.2 hc (by decide) (fun j hj => tt.2 g j cf hj) rfl (S.2 9 k) 0 (Nat.zero_add _)
    rw [vm_wr_0] at l
    exact l
  · have en : vh_nx S D k e c = (-1, D) := if_neg cf
    rw [en]
    refine ⟨I, fun _ _ _ => rfl, hdk, fun x n sl => ?_⟩
    exact vr_nx_l (Q := fun X => X = (some (.int (-1 : Int32)), jv_H K I L R, n, sl)) hW hm st.2.2 (by omega) tt.1 (S.2 11 k - e) e (by omega) (fun g a b t _ => absurd t (b3 g a (by omega))) (fun _ => rfl)
/-- the host's following of a table -/
theorem vr_hnext (hW : jv_rW K R) (hD : R 180 2 = .ref 181) (hA : vr_all Z I L S) (hdk : vk_by I 181 0 512 D) (x y z : Int32) : ∃ I1 r0, (∀ n sl, jv_Ms 416 [.ref 178, .int x, .int y, .int z] (jv_H K I L R) n sl (some (.int r0), jv_H K I1 L R, n, sl)) ∧ I1 178 0 = vh_c (vh_next S D x.toInt y.toInt z.toInt) ∧ (∀ r, vh_next S D x.toInt y.toInt z.toInt = some r → r0 = r.1) ∧ vk_by I1 181 0 512 (vh_D D (vh_next S D x.toInt y.toInt z.toInt)) ∧ vr_all Z I1 L S ∧ vc_ff vr_Ehd I L I1 L := by
  have d0 : ∀ {J : Nat → Nat → Int32} (c : Int32), (∀ q i, q ≠ 180 → J q i = I q i) → vk_by (jv_u J 178 0 c) 181 0 512 D := fun c o j hj => by rw [jv_u_o _ _ _ _ (show 181 ≠ 178 by decide), o 181 _ (by decide)]; exact hdk j hj
  have oc : ∀ (c : Int32) q i, q ≠ 180 → jv_u I 180 0 c q i = I q i := fun c q i z => jv_u_o _ _ _ _ z
  have oc2 : ∀ (c d : Int32) q i, q ≠ 180 → jv_u (jv_u I 180 0 c) 180 0 d q i = I q i := fun c d q i z => (jv_u_o _ _ _ _ z).trans (oc c q i z)
  have lh : ∀ {I1 : Nat → Nat → Int32}, vc_ff vr_Eh I L I1 L → vc_ff vr_Ehd I L I1 L := fun h => vc_ff_le (fun _ _ z => Or.inl z) h
  cases hm : vh_m S x.toInt with
  | none =>
    have e : vh_next S D x.toInt y.toInt z.toInt = none := by unfold vh_next; rw [hm]; rfl
    rw [e]
    exact ⟨_, _, fun n sl => vr_f_next hW (fun n sl => vr_next_nm hW (vr_bad hW hA hm)) (jv_u_self _ _ _ _), jv_u_self _ _ _ _, (fun r z => by cases z), d0 1 (oc 1), vr_all_th (vr_all_code hA 1) 1, lh (vr_ff_th (vr_ff_code 1) 1)⟩
  | some k =>
    obtain ⟨hk, ex⟩ := vh_m_some hA.2.2.1.1 hm
    have hmk := vr_mk_of hA hk
    have hNM := vr_noMapM hW hA hk
    by_cases h1 : S.2 8 k = 1
    · have st := vm_sh_t hA.2.2.1 hk h1
      by_cases hd : (y.toInt = -1 ∨ 0 ≤ y.toInt ∧ y.toInt + S.2 9 k ≤ 512) ∧ 0 ≤ z.toInt ∧ z.toInt + S.2 9 k ≤ 512
      · have e : vh_next S D x.toInt y.toInt z.toInt = some (vh_nx S D k (vh_e0 S D k y.toInt) z.toInt.toNat) := by unfold vh_next; rw [hm]; exact (if_pos h1).trans (if_pos hd)
        obtain ⟨ez, az⟩ := vh_y hd.2
        obtain ⟨J, eJ, hJ, fJ, oJ, J0⟩ := vr_code2 hA
        have hdJ : vk_by J 181 0 512 D := fun j hj => by rw [oJ 181 _ (by decide)]; exact hdk j hj
        have fin : ∀ {I1 : Nat → Nat → Int32} {r0 : Int32} {D1 : Nat → Nat}, (∀ q i, q ≠ 181 → I1 q i = J q i) → vk_by I1 181 0 512 D1 → (∀ n sl, jv_Ms 348 [.ref 180, .int (vl_I k), .int y, .int z] (jv_H K I L R) n sl (some (.int r0), jv_H K I1 L R, n, sl)) → ∃ I1 r1, (∀ n sl, jv_Ms 416 [.ref 178, .int (vl_I k), .int y, .int z] (jv_H K I L R) n sl (some (.int r1), jv_H K I1 L R, n, sl)) ∧ I1 178 0 = 0 ∧ r1 = r0 ∧ vk_by I1 181 0 512 D1 ∧ vr_all Z I1 L S ∧ vc_ff vr_Ehd I L I1 L := fun o hb hS => by
          refine ⟨_, _, fun n sl => vr_f_next hW hS ((o 180 0 (by decide)).trans J0), jv_u_self _ _ _ _, rfl, fun j hj => by rw [jv_u_o _ _ _ _ (show 181 ≠ 178 by decide)]; exact hb j hj, vr_all_th (vr_all_d hJ o) 0, ⟨fun q i w => ?_, fun _ _ _ => rfl⟩⟩
          unfold vr_Ehd vr_Eh at w
          rw [vk_ux (by omega), o q i (by omega)]
          exact fJ.1 q i (fun y => w (Or.inl (Or.inl y)))
        have main : ∃ I1, (∀ q i, q ≠ 181 → I1 q i = J q i) ∧ vk_by I1 181 0 512 (vh_nx S D k (vh_e0 S D k y.toInt) z.toInt.toNat).2 ∧ ∀ n sl, jv_Ms 348 [.ref 180, .int (vl_I k), .int y, .int z] (jv_H K I L R) n sl (some (.int (vh_nx S D k (vh_e0 S D k y.toInt) z.toInt.toNat).1), jv_H K I1 L R, n, sl) := by
          by_cases hy : y.toInt = -1
          · have ey : y = (-1 : Int32) := Int32.toInt_inj.mp (hy.trans (by decide))
            have e0 : vh_e0 S D k y.toInt = 0 := if_pos hy
            rw [e0]
            obtain ⟨I1, o, b, w⟩ := vr_nx_w hW hD hJ hk h1 hdJ (e := 0) (Nat.zero_le _) az
            refine ⟨I1, o, b, fun n sl => ?_⟩
            have u := w (-1 : Int32) n sl
            rw [← ez] at u
            obtain ⟨X, kk, eX⟩ := vr_next_0 hW hmk hNM h1 st.1.2 hd.2 (by rw [← eJ]; exact u)
            subst eX
            rw [ey]; exact kk
          · have hyd : 0 ≤ y.toInt ∧ y.toInt + S.2 9 k ≤ 512 := hd.1.resolve_left hy
            obtain ⟨ey, ay⟩ := vh_y hyd
            have row := vr_deskR hW hdJ (a := y.toInt) ay
            have hE := vr_ent_T hW hD hJ hk h1 row
            rw [← ey] at hE
            have er : vk_res (vm_ent S k (vh_k D y.toInt)) + (1 : Int32) = vl_I (vh_e0 S D k y.toInt) ∧ vh_e0 S D k y.toInt ≤ S.2 11 k := by
              unfold vh_e0
              rw [if_neg hy]
              cases q : vm_ent S k (vh_k D y.toInt) with
              | none => exact ⟨by show (-1 : Int32) + 1 = vl_I 0; decide, Nat.zero_le _⟩
              | some u => exact ⟨vl_I_add u 1, vk_ent_lt (Or.inr h1) q⟩
            obtain ⟨I1, o, b, w⟩ := vr_nx_w hW hD hJ hk h1 hdJ er.2 az
            refine ⟨I1, o, b, fun n sl => ?_⟩
            have u := w y n sl
            rw [← ez, ← er.1] at u
            obtain ⟨X, kk, eX⟩ := vr_next_1 hW hmk hNM h1 st.1.2 (fun v => hy (by rw [v]; decide)) hyd hd.2 (by rw [← eJ]; exact hE) (by rw [← eJ]; exact u)
            subst eX
            exact kk
        obtain ⟨I1, o, b, w⟩ := main
        obtain ⟨I2, r1, p1, p2, p3, p4, p5, p6⟩ := fin o b w
        rw [e, ex]
        exact ⟨I2, r1, p1, p2, (fun r z => by rw [p3, ← Option.some.inj z]), p4, p5, p6⟩
      · have e : vh_next S D x.toInt y.toInt z.toInt = none := by unfold vh_next; rw [hm]; exact (if_pos h1).trans (if_neg hd)
        rw [e, ex]
        have bad : ∀ n sl, jv_Ms 348 [.ref 180, .int (vl_I k), .int y, .int z] (jv_H K I L R) n sl (some (.int (0 : Int32)), jv_H K (jv_u (jv_u I 180 0 (0 : Int32)) 180 0 (1 : Int32)) L R, n, sl) := fun n sl => by
          by_cases hy : y.toInt = -1
          · have ey : y = (-1 : Int32) := Int32.toInt_inj.mp (hy.trans (by decide))
            rw [ey]
            exact vr_next_y hW hmk hNM h1 st.1.2 (fun v => hd ⟨Or.inl hy, v⟩)
          · have ny : ¬ y = (-1 : Int32) := fun v => hy (by rw [v]; decide)
            by_cases hyd : 0 ≤ y.toInt ∧ y.toInt + S.2 9 k ≤ 512
            · exact vr_next_z hW hmk hNM h1 st.1.2 ny hyd (fun v => hd ⟨Or.inr hyd, v⟩)
            · exact vr_next_d hW hmk hNM h1 st.1.2 ny hyd
        exact ⟨_, _, fun n sl => vr_f_next hW bad (jv_u_self _ _ _ _), jv_u_self _ _ _ _, (fun r z => by cases z), d0 1 (oc2 0 1), vr_all_th (vr_all_code (vr_all_code hA 0) 1) 1, lh (vr_ff_th (vc_ff_trans (vr_ff_code 0) (vr_ff_code 1)) 1)⟩
    · have e : vh_next S D x.toInt y.toInt z.toInt = some (-22, D) := by unfold vh_next; rw [hm]; exact if_neg h1
      have k3 : S.2 8 k < 3 := by
        rcases hA.2.2.1.2.1 k hk with y | y <;> omega
      rw [e, ex]
      exact ⟨_, _, fun n sl => vr_f_next hW (fun n sl => vr_next_r hW hmk hNM h1 k3) (jv_u_self _ _ _ _), jv_u_self _ _ _ _, (fun r z => by rw [← Option.some.inj z]), d0 0 (oc 0), vr_all_th (vr_all_code hA 0) 0, lh (vr_ff_th (vr_ff_code 0) 0)⟩
end
