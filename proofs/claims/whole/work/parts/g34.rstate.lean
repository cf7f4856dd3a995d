/-! part g34: maps of the reference against a state (a hand text: this part is the source) -/
/-- entries, keys, rings of the reference, against a state -/
def vr_mt (I : Nat → Nat → Int32) (L : Nat → Nat → Int64) (S : vm_S) : Prop :=
  (∀ k, k < vm_cnt S → S.2 8 k = 1 → (∀ e, e < S.2 11 k → I 190 (vm_fe S k + e) = vl_I (vk_tk S k e) ∧ vk_tk S k e ≤ 1) ∧ ∀ e j, e < S.2 11 k → j < S.2 9 k → I 191 (vm_fk S k + e * S.2 9 k + j) = vl_sb (vk_ky S k e j) ∧ vk_ky S k e j < 256) ∧
  ∀ k, k < vm_cnt S → S.2 8 k = 2 → L 192 k = vm_J (S.2 15 k) ∧ L 193 k = vm_J (S.2 16 k) ∧ I 194 k = vl_I (S.2 17 k) ∧ I 195 k = vl_I (S.2 18 k)
def vr_all (Z : Nat) (I : Nat → Nat → Int32) (L : Nat → Nat → Int64) (S : vm_S) : Prop := vm_r I L S ∧ vr_mt I L S ∧ vm_ok Z S
/-- the cells that calls on the store may change -/
def vr_Em (q f : Nat) : Prop := (q = 180 ∧ f = 0) ∨ q = 182 ∨ (190 ≤ q ∧ q ≤ 195)
/-- the cells of maps' contents -/
def vr_En (q _f : Nat) : Prop := q = 182 ∨ (190 ≤ q ∧ q ≤ 195)
theorem vr_EnEm (q f : Nat) (h : vr_En q f) : vr_Em q f := Or.inr h
theorem vm_es_fe {S T : vm_S} (h : vm_es S T) : ∀ k, vm_fe T k = vm_fe S k ∧ vm_fk T k = vm_fk S k
  | 0 => ⟨rfl, rfl⟩
  | k + 1 => by
    have ih := vm_es_fe h k
    constructor
    · show vm_fe T k + (if T.2 8 k = 1 then T.2 11 k else 0) = vm_fe S k + (if S.2 8 k = 1 then S.2 11 k else 0)
      rw [ih.1, h.2.2 8 k (by omega), h.2.2 11 k (by omega)]
    · show vm_fk T k + (if T.2 8 k = 1 then T.2 11 k * T.2 9 k else 0) = vm_fk S k + (if S.2 8 k = 1 then S.2 11 k * S.2 9 k else 0)
      rw [ih.2, h.2.2 8 k (by omega), h.2.2 11 k (by omega), h.2.2 9 k (by omega)]
theorem vm_fe_mono (S : vm_S) : ∀ (d k : Nat), vm_fe S k ≤ vm_fe S (k + d) ∧ vm_fk S k ≤ vm_fk S (k + d)
  | 0, _ => ⟨Nat.le_refl _, Nat.le_refl _⟩
  | d + 1, k => ⟨Nat.le_trans (vm_fe_mono S d k).1 (Nat.le_add_right _ _), Nat.le_trans (vm_fe_mono S d k).2 (Nat.le_add_right _ _)⟩
/-- where a table's entries and keys stand -/
theorem vm_fe_in {S : vm_S} (h : vm_sh S) {k : Nat} (hk : k < vm_cnt S) (h1 : S.2 8 k = 1) : vm_fe S k + S.2 11 k = vm_fe S (k + 1) ∧ vm_fk S k + S.2 11 k * S.2 9 k = vm_fk S (k + 1) ∧ vm_fe S (k + 1) ≤ 8192 ∧ vm_fk S (k + 1) ≤ 262144 := by
  have e1 : vm_fe S (k + 1) = vm_fe S k + S.2 11 k := by show vm_fe S k + (if S.2 8 k = 1 then S.2 11 k else 0) = _; rw [if_pos h1]
  have e2 : vm_fk S (k + 1) = vm_fk S k + S.2 11 k * S.2 9 k := by show vm_fk S k + (if S.2 8 k = 1 then S.2 11 k * S.2 9 k else 0) = _; rw [if_pos h1]
  have y := vm_fe_le h (k + 1) hk
  have z := vm_bg_mono S (k := k + 1) (m := vm_cnt S) hk
  have := h.2.2.2.1
  exact ⟨e1.symm, e2.symm, by omega, by omega⟩
theorem vm_fe_lt (S : vm_S) {k k' : Nat} (h : k < k') : vm_fe S (k + 1) ≤ vm_fe S k' ∧ vm_fk S (k + 1) ≤ vm_fk S k' := by
  have := vm_fe_mono S (k' - (k + 1)) (k + 1)
  rwa [show k + 1 + (k' - (k + 1)) = k' by omega] at this
theorem vm_r_new {I I1 : Nat → Nat → Int32} {L L1 : Nat → Nat → Int64} {S T : vm_S} (h : vm_r I L S) (hI : ∀ q i, ¬ vr_Em q i → I1 q i = I q i) (hL : ∀ q i, ¬ (q = 192 ∨ q = 193) → L1 q i = L q i) (h1 : T.1 = S.1) (h2 : ∀ c i, c ≤ 12 → c ≠ 6 → T.2 c i = S.2 c i) (h6 : vm_by I1 182 65536 (T.2 6)) : vm_r I1 L1 T := by
  obtain ⟨a1, a2, a3, a4, a5, a6, a7, a8, a9, a10⟩ := h
  have es : vm_es S T := ⟨h2 0 1 (by decide) (by decide), h2 0 2 (by decide) (by decide), fun c k hc => h2 c k (by omega) (by omega)⟩
  have o : ∀ q i, (q ≠ 180 ∨ i ≠ 0) → q ≠ 182 → ¬ (190 ≤ q ∧ q ≤ 195) → I1 q i = I q i := fun q i x y z => hI q i (fun w => by unfold vr_Em at w; omega)
  have sz : vm_size T = vm_size S := h2 0 0 (by decide) (by decide)
  refine ⟨⟨(o 178 11 (by omega) (by omega) (by omega)).trans (by rw [sz]; exact a1.1), by rw [sz]; exact a1.2⟩, fun r hr => ?_, fun r hr g => ?_, fun k hk => ?_, fun j hj => ?_, fun j h16 hj => ?_, h6, fun k e hk z he => ?_, (hL 178 13 (by decide)).trans (by rw [h1]; exact a9), (o 180 5 (by omega) (by omega) (by omega)).trans (by rw [es.1]; exact a10.1), fun k hk => ?_⟩
  · rw [o 221 r (by omega) (by omega) (by omega), h2 1 r (by decide) (by decide)]; exact a2 r hr
  · rw [hL 220 r (by decide), h1]; exact a3 r hr (by rw [← h2 1 r (by decide) (by decide)]; exact g)
  · rw [o 223 k (by omega) (by omega) (by omega), o 222 k (by omega) (by omega) (by omega), h2 3 k (by decide) (by decide), h2 2 k (by decide) (by decide)]; exact a4 k hk
  · rw [o 218 j (by omega) (by omega) (by omega), h2 4 j (by decide) (by decide)]; exact a5 j hj
  · rw [o 219 j (by omega) (by omega) (by omega), h2 5 j (by decide) (by decide)]; exact a6 j h16 hj
  · rw [o 224 _ (by omega) (by omega) (by omega), (vm_es_fe es k).1, h2 7 _ (by decide) (by decide)]
    rw [es.1] at hk
    rw [h2 8 k (by decide) (by decide)] at z
    rw [h2 11 k (by decide) (by decide)] at he
    exact a8 k e hk z he
  · rw [es.1] at hk
    have fe := vm_es_fe es k
    rw [o 183 k (by omega) (by omega) (by omega), o 184 k (by omega) (by omega) (by omega), o 185 k (by omega) (by omega) (by omega), o 186 k (by omega) (by omega) (by omega), o 187 k (by omega) (by omega) (by omega), o 188 k (by omega) (by omega) (by omega), o 189 k (by omega) (by omega) (by omega), h2 8 k (by decide) (by decide), h2 9 k (by decide) (by decide), h2 10 k (by decide) (by decide), h2 11 k (by decide) (by decide), h2 12 k (by decide) (by decide), fe.1, fe.2]
    exact a10.2 k hk
section
variable {Z : Nat} {K : Nat → Option (Nat × Nat)} {I : Nat → Nat → Int32} {L : Nat → Nat → Int64} {R : Nat → Nat → Value} {S : vm_S} {k : Nat} {key val : Nat → Nat} {dk : Nat}
theorem vr_mk_of (hA : vr_all Z I L S) (hk : k < vm_cnt S) : vr_mk I k (S.2 8 k) (S.2 9 k) (S.2 10 k) (S.2 11 k) (S.2 12 k) (vm_fe S k) (vm_fk S k) := by
  have := hA.2.2.1.1
  obtain ⟨a, b, c, d, e, f, g⟩ := hA.1.2.2.2.2.2.2.2.2.2.2 k hk
  exact ⟨by omega, a, b, c, d, e, f, g⟩
/-- the answer to a question is put down -/
theorem vr_all_code (hA : vr_all Z I L S) (x : Int32) : vr_all Z (jv_u I 180 0 x) L S := by
  have o : ∀ q i, q ≠ 180 → jv_u I 180 0 x q i = I q i := fun q i z => jv_u_o _ _ _ _ z
  refine ⟨vm_r_new hA.1 (fun q i z => vk_ux (fun y => z (Or.inl y))) (fun _ _ _ => rfl) rfl (fun _ _ _ _ => rfl) (fun j hj => by rw [o 182 j (by decide)]; exact hA.1.2.2.2.2.2.2.1 j hj), ⟨fun k hk h1 => ⟨fun e he => ?_, fun e j he hj => ?_⟩, fun k hk h2 => ?_⟩, hA.2.2⟩
  · rw [o 190 _ (by decide)]; exact (hA.2.1.1 k hk h1).1 e he
  · rw [o 191 _ (by decide)]; exact (hA.2.1.1 k hk h1).2 e j he hj
  · rw [o 194 _ (by decide), o 195 _ (by decide)]; exact hA.2.1.2 k hk h2
theorem vr_ff_code (x : Int32) : vc_ff vr_Em I L (jv_u I 180 0 x) L := vc_ff_u (Or.inl ⟨rfl, rfl⟩)
/-- the row dk has the n bytes B from a on -/
def vr_row (K : Nat → Option (Nat × Nat)) (I : Nat → Nat → Int32) (dk a n : Nat) (B : Nat → Nat) : Prop := K dk = some (101, 512) ∧ (dk = 181 ∨ dk = 225) ∧ a + n ≤ 512 ∧ vk_by I dk a n B
theorem vr_row_ext {I1 : Nat → Nat → Int32} {a n : Nat} {B : Nat → Nat} (h : vr_row K I dk a n B) (hI : ∀ i, I1 dk i = I dk i) : vr_row K I1 dk a n B := ⟨h.1, h.2.1, h.2.2.1, fun j hj => by rw [hI]; exact h.2.2.2 j hj⟩
theorem vr_has_u (hA : vr_all Z I L S) (hk : k < vm_cnt S) (h1 : S.2 8 k = 1) : ∀ e e', e < S.2 11 k → e' < S.2 11 k → vm_has S k key e = true → vm_has S k key e' = true → e = e' := fun e e' he he' x y => by
  rw [vm_has_e, Bool.and_eq_true] at x y
  exact vm_uq_e (hA.2.2.2.1 k hk h1) he' he (of_decide_eq_true y.1) (of_decide_eq_true x.1) y.2 x.2
theorem vr_ent_T (hW : jv_rW K R) (hD : R 180 2 = .ref dk) (hA : vr_all Z I L S) (hk : k < vm_cnt S) (h1 : S.2 8 k = 1) {a : Nat} (hr : vr_row K I dk a (S.2 9 k) key) : ∀ n sl, jv_Ms 334 [.ref 180, .int (vl_I k), .int (vl_I a)] (jv_H K I L R) n sl (some (.int (vk_res (vm_ent S k key))), jv_H K I L R, n, sl) := by
  intro n sl
  have hm := vr_mk_of hA hk
  have st := vm_sh_t hA.2.2.1 hk h1
  have fi := vm_fe_in hA.2.2.1 hk h1
  refine vr_entryOf hW hD hr.1 hm st.2.2 (fun e he => ?_) (vr_has_u (key := key) hA hk h1) (fun f hf hg => ?_) (fun hn => ?_)
  · have y := (hA.2.1.1 k hk h1).1 e he
    have ix : (e + 1) * S.2 9 k ≤ S.2 11 k * S.2 9 k := Nat.mul_le_mul_right _ he
    rw [Nat.add_mul, Nat.one_mul] at ix
    exact vr_isKey hW hD hr.1 hm (by omega) st.1.2 hr.2.2.1 (fun j hj => (hA.2.1.1 k hk h1).2 e j he hj) hr.2.2.2 (by omega) y.1 y.2
  · cases q : vm_ent S k key with
    | none =>
      rw [vm_has_e, Bool.and_eq_true] at hg
      exact absurd (vm_ent_none h1 q f hf (of_decide_eq_true hg.1)) (by rw [hg.2]; decide)
    | some x =>
      have y := vm_ent_some h1 q
      have hx : vm_has S k key x = true := by rw [vm_has_e, Bool.and_eq_true]; exact ⟨decide_eq_true y.2.1, y.2.2⟩
      rw [vr_has_u (key := key) hA hk h1 x f y.1 hf hx hg]; rfl
  · cases q : vm_ent S k key with
    | none => rfl
    | some x =>
      have y := vm_ent_some h1 q
      have hx : vm_has S k key x = true := by rw [vm_has_e, Bool.and_eq_true]; exact ⟨decide_eq_true y.2.1, y.2.2⟩
      exact absurd (hn x y.1) (by rw [hx]; decide)
theorem vr_ent_A (hW : jv_rW K R) (hD : R 180 2 = .ref dk) (hA : vr_all Z I L S) (hk : k < vm_cnt S) (h0 : S.2 8 k = 0) {a : Nat} (hr : vr_row K I dk a (S.2 9 k) key) : ∀ n sl, jv_Ms 336 [.ref 180, .int (vl_I k), .int (vl_I a)] (jv_H K I L R) n sl (some (.int (vk_res (vm_ent S k key))), jv_H K I L R, n, sl) := by
  intro n sl
  have hm := vr_mk_of hA hk
  have z4 : S.2 9 k = 4 := by
    rcases hA.2.2.1.2.1 k hk with y | y
    · exact absurd (h0.symm.trans y.1) (by decide)
    · exact y.2.2.2.2.2.1 h0
  have sn := vm_sh_n hA.2.2.1 hk (by omega)
  rw [z4] at hr
  have e : vm_ent S k key = if vm_le key 0 4 < S.2 11 k then some (vm_le key 0 4) else none := if_pos h0
  have hl : vm_le key 0 4 < 4294967296 := vm_le_lt 4 0 (fun i hi => by rw [Nat.zero_add]; exact (hr.2.2.2 i hi).2)
  obtain ⟨X, hX, eX⟩ := vr_entArr (P := fun X => X = (some (.int (vk_res (vm_ent S k key))), jv_H K I L R, n, sl)) hW hD hr.1 hm (x := vm_J (vm_le key 0 4)) rfl hl sn.2.2.2 (fun n sl => vr_numberM (m := 4) hr.1 (by decide) hr.2.2.2 hr.2.2.1) (fun c => by rw [e, if_pos c]; rfl) (fun c => by rw [e, if_neg (by omega)]; rfl)
  rw [← eX]; exact hX
/-- a value is written -/
theorem vr_wrote (hW : jv_rW K R) (hD : R 180 2 = .ref dk) (hA : vr_all Z I L S) (hk : k < vm_cnt S) (h2 : S.2 8 k ≠ 2) {e : Nat} (he : e < S.2 11 k) {b : Nat} (hv : vr_row K I dk b (S.2 10 k) val) : ∃ I1, (∀ n sl, jv_Ms 338 [.ref 180, .int (vl_I k), .int (vl_I e), .int (vl_I b)] (jv_H K I L R) n sl (some (.int (0 : Int32)), jv_H K I1 L R, n, sl)) ∧ vr_all Z I1 L (vm_write S k e val) ∧ vc_ff vr_En I L I1 L := by
  have hm := vr_mk_of hA hk
  have sn := vm_sh_n hA.2.2.1 hk h2
  have at_ := vm_at_in hA.2.2.1 hk h2 he
  have ff := vm_fill_ge (S.2 10 k)
  obtain ⟨v1, v2, v3, v4⟩ := hv
  have ew : vm_wr I 182 (vm_at S k e) (S.2 10 k) (fun j => I dk (b + j)) = vm_wr I 182 (vm_at S k e) (S.2 10 k) (fun j => vl_sb (val j)) := vm_wr_e (fun j hj => (v4 j hj).1)
  have o : ∀ q i, q ≠ 182 → vm_wr I 182 (vm_at S k e) (S.2 10 k) (fun j => vl_sb (val j)) q i = I q i := fun q i y => vm_wr_o (fun z => y z.1)
  have oS : ∀ c i, c ≠ 6 → (vm_write S k e val).2 c i = S.2 c i := fun c i y => vm_wr_o (fun z => y z.1)
  have em : vm_em S (vm_write S k e val) := fun c i hc => oS c i (by omega)
  have es := vm_em_s em
  refine ⟨_, fun n sl => ?_, ⟨vm_r_new hA.1 (fun q i z => o q i (fun y => z (Or.inr (Or.inl y)))) (fun _ _ _ => rfl) rfl (fun c i _ y => oS c i y) (vm_by_wr (A := S.2) hA.1.2.2.2.2.2.2.1 (fun j hj => (v4 j hj).2)), ⟨fun k' hk' h1 => ?_, fun k' hk' h1 => ?_⟩, vm_ok_em em hA.2.2⟩, ⟨fun q i z => o q i (fun y => z (Or.inl y)), fun _ _ _ => rfl⟩⟩
  · rw [← ew]
    exact vr_wval hW hD v1 hm (p := vm_at S k e) rfl sn.2.1.2 (by omega) v3 (by omega) (fun j hj => by rw [(v4 j hj).1]; exact vl_sb_sb (v4 j hj).2)
  · rw [es.1] at hk'
    rw [oS 8 k' (by decide)] at h1
    have y := hA.2.1.1 k' hk' h1
    rw [(vm_es_fe es k').1, (vm_es_fe es k').2, oS 11 k' (by decide), oS 9 k' (by decide)]
    exact ⟨fun e he => by rw [o 190 _ (by decide)]; exact y.1 e he, fun e j he hj => by rw [o 191 _ (by decide)]; exact y.2 e j he hj⟩
  · rw [es.1] at hk'
    rw [oS 8 k' (by decide)] at h1
    rw [o 194 _ (by decide), o 195 _ (by decide), oS 15 k' (by decide), oS 16 k' (by decide), oS 17 k' (by decide), oS 18 k' (by decide)]
    exact hA.2.1.2 k' hk' h1
end
