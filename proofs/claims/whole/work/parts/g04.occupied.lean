/-! part g04: a table with a key more (gen/tg04.py) -/
theorem vk_ux {α : Type} {f : Nat → Nat → α} {o j q i : Nat} {x : α} (h : ¬ (q = o ∧ i = j)) : jv_u f o j x q i = f q i := by
  by_cases c : q = o
  · subst c; exact jv_u_j _ _ _ _ (fun z => h ⟨rfl, z⟩)
  · exact jv_u_o _ _ _ _ c
section
variable {I : Nat → Nat → Int32} {o ks r a f cnt c : Nat}
theorem vk_oI_x {q i : Nat} (h0 : ¬ (q = o ∧ (i = 11 ∨ i = 12))) (h1 : ¬ (q = o + 1 ∧ f * ks ≤ i ∧ i < f * ks + ks)) (h2 : ¬ (q = o + 2 ∧ i = f)) (h3 : ¬ (q = o + 3 ∧ i = c)) (h4 : ¬ (q = o + 4 ∧ i = f)) : vk_occI I o ks r a f cnt c q i = I q i := by
  unfold vk_occI
  rw [vk_ux h3, vk_ux h4, vm_wr_o h1, vk_ux h2, vk_ux (fun z => h0 ⟨z.1, Or.inl z.2⟩), vk_ux (fun z => h0 ⟨z.1, Or.inr z.2⟩)]
theorem vk_oI_12 : vk_occI I o ks r a f cnt c o 12 = vl_I (f + 1) := by
  unfold vk_occI
  rw [vk_ux (by omega), vk_ux (by omega), vm_wr_o (by omega), vk_ux (by omega), vk_ux (by omega), jv_u_self]; exact vl_I_p1 f
theorem vk_oI_11 : vk_occI I o ks r a f cnt c o 11 = vl_I (cnt + 1) := by
  unfold vk_occI
  rw [vk_ux (by omega), vk_ux (by omega), vm_wr_o (by omega), vk_ux (by omega), jv_u_self]; exact vl_I_p1 cnt
theorem vk_oI_2 : vk_occI I o ks r a f cnt c (o + 2) f = vl_I 1 := by
  unfold vk_occI
  rw [vk_ux (by omega), vk_ux (by omega), vm_wr_o (by omega), jv_u_self]; rfl
theorem vk_oI_1 {j : Nat} (hj : j < ks) (hr : r < o) : vk_occI I o ks r a f cnt c (o + 1) (f * ks + j) = I r (a + j) := by
  unfold vk_occI
  rw [vk_ux (by omega), vk_ux (by omega), vm_wr_i hj]
  show jv_u _ _ _ _ r (a + j) = _
  rw [vk_ux (by omega), vk_ux (by omega), vk_ux (by omega)]
theorem vk_oI_4 : vk_occI I o ks r a f cnt c (o + 4) f = I (o + 3) c := by
  unfold vk_occI
  rw [vk_ux (by omega), jv_u_self]
theorem vk_oI_3 : vk_occI I o ks r a f cnt c (o + 3) c = vl_I (f + 1) := by
  unfold vk_occI
  rw [jv_u_self]; exact vl_I_p1 f
end
/-- what a table's methods leave alone -/
def vk_fr (I I1 : Nat → Nat → Int32) (o : Nat) : Prop := ∀ q i, ¬ (o + 1 ≤ q ∧ q ≤ o + 4) → ¬ (q = o ∧ (i = 11 ∨ i = 12)) → I1 q i = I q i
theorem vk_ne_ix {e f j ks : Nat} (h : e ≠ f) (hj : j < ks) : ¬ (f * ks ≤ e * ks + j ∧ e * ks + j < f * ks + ks) := by
  rcases Nat.lt_or_gt_of_ne h with c | c
  · have y : (e + 1) * ks ≤ f * ks := Nat.mul_le_mul_right _ c
    rw [Nat.add_mul, Nat.one_mul] at y; omega
  · have y : (f + 1) * ks ≤ e * ks := Nat.mul_le_mul_right _ c
    rw [Nat.add_mul, Nat.one_mul] at y; omega
theorem vk_occ_T {I : Nat → Nat → Int32} {o ks en ch r a f : Nat} {B tk tk' : Nat → Nat} {ky ky' : Nat → Nat → Nat} (hch : 1 ≤ ch ∧ ch ≤ 4096) (h : vk_T I o ks en ch tk ky) (hro : r < o) (hB : vk_by I r a ks B) (hf : f < en) (h0 : tk f = 0) (h1 : ∀ e, e < f → tk e = 1) (t1 : tk' f = 1) (t2 : ∀ e, e < en → e ≠ f → tk' e = tk e) (k1 : ∀ j, j < ks → ky' f j = B j) (k2 : ∀ e j, e < en → e ≠ f → j < ks → ky' e j = ky e j) : vk_T (vk_occI I o ks r a f (vk_n tk en) (vk_c ch B ks)) o ks en ch tk' ky' ∧ vk_fr I (vk_occI I o ks r a f (vk_n tk en) (vk_c ch B ks)) o := by
  obtain ⟨e1, e3, htk, hky, hc, e11, ff, -, -, -⟩ := h
  have kc : ∀ e, e < en → e ≠ f → vk_c ch (ky' e) ks = vk_c ch (ky e) ks := fun e he hn => vk_c_eq (fun j hj => k2 e j he hn hj)
  have kf : vk_c ch (ky' f) ks = vk_c ch B ks := vk_c_eq (fun j hj => k1 j hj)
  refine ⟨⟨(vk_oI_x (by omega) (by omega) (by omega) (by omega) (by omega)).trans e1, (vk_oI_x (by omega) (by omega) (by omega) (by omega) (by omega)).trans e3, fun e he => ?_, fun e j he hj => ?_, fun c hc' => ?_, ?_, f + 1, vk_oI_12, hf, fun e he => ?_⟩, fun q i a1 a2 => vk_oI_x a2 (by omega) (by omega) (by omega) (by omega)⟩
  · by_cases c : e = f
    · subst c; rw [vk_oI_2, t1]; exact ⟨rfl, Nat.le_refl 1⟩
    · rw [vk_oI_x (by omega) (by omega) (by omega) (by omega) (by omega), t2 e he c]; exact htk e he
  · by_cases c : e = f
    · subst c; rw [vk_oI_1 hj hro, k1 j hj]; exact hB j hj
    · rw [vk_oI_x (by omega) (fun z => vk_ne_ix c hj z.2) (by omega) (by omega) (by omega), k2 e j he c hj]; exact hky e j he hj
  · obtain ⟨l, c1, c2, c3⟩ := hc c hc'
    have nf : f ∉ l := fun z => by have := ((c3 f).mp z).2.1; omega
    have c4 : vk_ch (vk_occI I o ks r a f (vk_n tk en) (vk_c ch B ks) (o + 4)) en (I (o + 3) c) l := vk_ch_eq l _ (fun x hx => vk_oI_x (by omega) (by omega) (by omega) (by omega) (fun z => nf (z.2 ▸ hx))) c1
    have c5 : ∀ e, e ≠ f → (e ∈ l ↔ e < en ∧ tk' e = 1 ∧ vk_c ch (ky' e) ks = c) := fun e hn => by
      rw [c3 e]
      constructor
      · intro z; exact ⟨z.1, by rw [t2 e z.1 hn]; exact z.2.1, by rw [kc e z.1 hn]; exact z.2.2⟩
      · intro z; exact ⟨z.1, by rw [← t2 e z.1 hn]; exact z.2.1, by rw [← kc e z.1 hn]; exact z.2.2⟩
    by_cases q : c = vk_c ch B ks
    · refine ⟨f :: l, ⟨?_, hf, ?_⟩, List.nodup_cons.mpr ⟨nf, c2⟩, fun e => ?_⟩
      · rw [q]; exact vk_oI_3
      · rw [vk_oI_4]; rw [q] at c4; exact c4
      · by_cases y : e = f
        · subst y
          exact ⟨fun _ => ⟨hf, t1, by rw [kf]; exact q.symm⟩, fun _ => List.mem_cons_self⟩
        · rw [List.mem_cons, ← c5 e y]
          exact ⟨fun z => z.elim (fun z => absurd z y) id, Or.inr⟩
    · refine ⟨l, ?_, c2, fun e => ?_⟩
      · rw [vk_oI_x (by omega) (by omega) (by omega) (fun z => q z.2) (by omega)]; exact c4
      · by_cases y : e = f
        · subst y
          exact ⟨fun z => absurd z nf, fun z => absurd (z.2.2.symm.trans kf) q⟩
        · exact c5 e y
  · rw [vk_oI_11]
    have y := vk_n_1 en hf t2
    congr 1; omega
  · by_cases c : e = f
    · rw [c]; exact t1
    · rw [t2 e (by omega) c]; exact h1 e (by omega)
theorem vk_occupy {K : Nat → Option (Nat × Nat)} {I : Nat → Nat → Int32} {L : Nat → Nat → Int64} {R : Nat → Nat → Value} {o ks en ch r a f : Nat} {tk tk' : Nat → Nat} {ky ky' : Nat → Nat → Nat} (hT : vk_TW K R o ks en ch) (h : vk_T I o ks en ch tk ky) {len : Nat} {B : Nat → Nat} (hKr : K r = some (101, len)) (hlen : len < 2147483648) (hro : r < o) (ha : a + ks ≤ len) (hB : vk_by I r a ks B) (hf : f < en) (h0 : tk f = 0) (h1 : ∀ e, e < f → tk e = 1) (t1 : tk' f = 1) (t2 : ∀ e, e < en → e ≠ f → tk' e = tk e) (k1 : ∀ j, j < ks → ky' f j = B j) (k2 : ∀ e j, e < en → e ≠ f → j < ks → ky' e j = ky e j) : ∃ I1, (∀ n sl, jv_Ms 135 [.ref o, .ref r, .int (vl_I a)] (jv_H K I L R) n sl (some (.int (vl_I f)), jv_H K I1 L R, n, sl)) ∧ vk_T I1 o ks en ch tk' ky' ∧ vk_fr I I1 o := by
  obtain ⟨e1, e3, htk, hky, hc, e11, ff, e12, hff, hfa⟩ := id h
  have hch := hT.2.2.2.2.2.2.2.2.2.2.2
  have y := vk_occ_T hch h hro hB hf h0 h1 t1 t2 k1 k2
  have lf : ff ≤ f := Nat.le_of_not_lt (fun z => by have := hfa f z; omega)
  refine ⟨_, fun n sl => ?_, y⟩
  have k := vk_occ_l (n := n) (sl := sl) (a := a) (L := L) (Q := fun X => X = (some (.int (vl_I f)), jv_H K (vk_occI I o ks r a f (vk_n tk en) (vk_c ch B ks)) L R, n, sl)) hT e1 e3 htk hf h0 h1 (vk_occ_w hT e1 e3 htk hKr hlen hro ha hB hf e11 rfl) (f - min ff (en - 1)) (min ff (en - 1)) (by omega)
  obtain ⟨X, k, e⟩ := vk_occ_0 hT e1 e3 htk hff e12 k
  subst e
  exact k