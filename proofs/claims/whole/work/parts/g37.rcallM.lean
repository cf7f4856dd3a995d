/-! part g37: a call of the reference's machine, as a whole (a hand text: this part is the source) -/
/-- the cells that a call may change -/
def vr_Eca (q f : Nat) : Prop := vr_Em q f ∨ q = 220 ∨ q = 221 ∨ q = 224 ∨ q = 225 ∨ (q = 178 ∧ (f = 11 ∨ f = 13))
theorem vr_EmEc (q f : Nat) (h : vr_Em q f) : vr_Eca q f := Or.inl h
theorem vr_ptr {x : Nat} (h : x < 65536) : (1073758208 : Int64) + (vl_I x).toInt64 = vm_i (1073758208 + x) := by
  refine Int64.toInt_inj.mp ?_
  rw [vm_i_int (by omega), Int64.toInt_add, vi_I64 (by omega), show (1073758208 : Int64).toInt = 1073758208 from by decide]
  exact vi_bm (by omega) (by omega)
theorem vm_fe_inj {S : vm_S} (hs : vm_sh S) {k k' e e' : Nat} (hk : k < vm_cnt S) (h1 : S.2 8 k = 1) (he : e < S.2 11 k) (hk' : k' < vm_cnt S) (h1' : S.2 8 k' = 1) (he' : e' < S.2 11 k') (h : vm_fe S k + e = vm_fe S k' + e') : k = k' ∧ e = e' := by
  have f := vm_fe_in hs hk h1
  have f' := vm_fe_in hs hk' h1'
  rcases Nat.lt_trichotomy k k' with c | c | c
  · have := vm_fe_lt S c; omega
  · subst c; exact ⟨rfl, by omega⟩
  · have := vm_fe_lt S c; omega
section
variable {Z : Nat} {K : Nat → Option (Nat × Nat)} {I I1 : Nat → Nat → Int32} {L : Nat → Nat → Int64} {R : Nat → Nat → Value} {S T : vm_S} {k : Nat} {key val : Nat → Nat}
theorem vr_all_o (hA : vr_all Z I L S) (o : ∀ q i, q ≠ 225 → I1 q i = I q i) : vr_all Z I1 L S := by
  refine ⟨vm_r_o hA.1 o, ⟨fun k hk h1 => ⟨fun e he => ?_, fun e j he hj => ?_⟩, fun k hk h2 => ?_⟩, hA.2.2⟩
  · rw [o 190 _ (by decide)]; exact (hA.2.1.1 k hk h1).1 e he
  · rw [o 191 _ (by decide)]; exact (hA.2.1.1 k hk h1).2 e j he hj
  · rw [o 194 _ (by decide), o 195 _ (by decide)]; exact hA.2.1.2 k hk h2
/-- what cells of maps hold stays -/
theorem vr_mt_em {L1 : Nat → Nat → Int64} (em : vm_em S T) (h : vr_mt I L S) (hI : ∀ q i, (190 ≤ q ∧ q ≤ 195) → I1 q i = I q i) (hL : ∀ q i, (q = 192 ∨ q = 193) → L1 q i = L q i) : vr_mt I1 L1 T := by
  have es := vm_em_s em
  have c := fun c i (hc : 8 ≤ c) => em c i (Or.inr hc)
  refine ⟨fun k hk h1 => ⟨fun e he => ?_, fun e j he hj => ?_⟩, fun k hk h2 => ?_⟩
  · rw [es.1] at hk
    rw [c 8 k (by decide)] at h1
    rw [c 11 k (by decide)] at he
    rw [hI 190 _ (by decide), (vm_es_fe es k).1]
    show _ = vl_I (T.2 13 _) ∧ T.2 13 _ ≤ 1
    rw [c 13 _ (by decide)]
    exact (h.1 k hk h1).1 e he
  · rw [es.1] at hk
    rw [c 8 k (by decide)] at h1
    rw [c 11 k (by decide)] at he
    rw [c 9 k (by decide)] at hj
    rw [hI 191 _ (by decide), (vm_es_fe es k).2, c 9 k (by decide)]
    show _ = vl_sb (T.2 14 _) ∧ T.2 14 _ < 256
    rw [c 14 _ (by decide)]
    exact (h.1 k hk h1).2 e j he hj
  · rw [es.1] at hk
    rw [c 8 k (by decide)] at h2
    rw [hL 192 k (Or.inl rfl), hL 193 k (Or.inr rfl), hI 194 _ (by decide), hI 195 _ (by decide), c 15 k (by decide), c 16 k (by decide), c 17 k (by decide), c 18 k (by decide)]
    exact h.2 k hk h2
theorem vr_gatM (hW : jv_rW K R) (hA : vr_all Z I L S) {r m : Nat} (hr : r < 11) (hg : vm_gat 1073750016 1073758208 S r m = some key) : ∃ a, (∀ n sl, jv_Ms 374 [.ref 178, .int (vl_I r)] (jv_H K I L R) n sl (some (.long a), jv_H K I L R, n, sl)) ∧ (∀ j, j < m → key j < 256) ∧ ∀ t, t + m ≤ 512 → ∃ I1, (∀ n sl, jv_Ms 396 [.ref 178, .long a, .int (vl_I m), .int (vl_I t)] (jv_H K I L R) n sl (none, jv_H K I1 L R, n, sl)) ∧ vr_all Z I1 L S ∧ vc_ff vr_Eca I L I1 L ∧ (∀ j, j < m → I1 225 (t + j) = vl_sb (key j)) ∧ ∀ q i, ¬ (q = 225 ∧ t ≤ i ∧ i < t + m) → I1 q i = I q i := by
  obtain ⟨a, ha, hB⟩ := vm_gat_s hg
  refine ⟨a, fun n sl => vr_readR hW hA.1 hr ha, fun j hj => (vr_getM (R := R) (n := 0) (sl := 0) hW hA.2.2.1 hA.1 (hB j hj)).2, fun t ht => ⟨_, fun n sl => vr_gatherM hW hA.2.2.1 hB ht hA.1, vr_all_o hA (fun q i z => vm_wr_o (fun w => z w.1)), ⟨fun q i z => vm_wr_o (fun w => z (by unfold vr_Eca; omega)), fun _ _ _ => rfl⟩, fun j hj => vm_wr_i hj, fun q i z => vm_wr_o z⟩⟩
theorem vr_ent_at (hA : vr_all Z I L S) (hk : k < vm_cnt S) (h2 : S.2 8 k ≠ 2) {e : Nat} (q : vm_ent S k key = some e) : e < S.2 11 k := by
  have sn := vm_sh_n hA.2.2.1 hk h2
  by_cases c : S.2 8 k = 1
  · exact vk_ent_lt (Or.inr c) q
  · exact vk_ent_lt (Or.inl (by omega)) q
theorem vr_all_found (hA : vr_all Z I L S) (hk : k < vm_cnt S) (h1 : S.2 8 k = 1) {e : Nat} (he : e < S.2 11 k) : vr_all Z (jv_u I 224 (vm_fe S k + e) ((1 : Int32) &&& 1)) L (S.1, jv_u S.2 7 (4096 * k + e) 1) := by
  have em : vm_em S (S.1, jv_u S.2 7 (4096 * k + e) 1) := fun c i hc => jv_u_o _ _ _ _ (by omega)
  have o : ∀ q i, q ≠ 224 → jv_u I 224 (vm_fe S k + e) ((1 : Int32) &&& 1) q i = I q i := fun q i z => jv_u_o _ _ _ _ z
  have oS : ∀ c i, c ≠ 7 → jv_u S.2 7 (4096 * k + e) 1 c i = S.2 c i := fun c i z => jv_u_o _ _ _ _ z
  have es := vm_em_s em
  have hs := hA.2.2.1
  obtain ⟨a1, a2, a3, a4, a5, a6, a7, a8, a9, a10⟩ := hA.1
  have sz : vm_size (S.1, jv_u S.2 7 (4096 * k + e) 1) = vm_size S := oS 0 0 (by decide)
  refine ⟨⟨by rw [o 178 11 (by decide), sz]; exact a1, fun r hr => ?_, fun r hr g => ?_, fun j hj => ?_, fun j hj => ?_, fun j h16 hj => ?_, fun j hj => ?_, fun k' e' hk' z he' => ?_, a9, (o 180 5 (by decide)).trans (by rw [es.1]; exact a10.1), fun k' hk' => ?_⟩, vr_mt_em em hA.2.1 (fun q i z => o q i (by omega)) (fun _ _ _ => rfl), vm_ok_em em hA.2.2⟩
  · rw [o 221 r (by decide)]
    show _ = vl_I (jv_u S.2 7 (4096 * k + e) 1 1 r) ∧ jv_u S.2 7 (4096 * k + e) 1 1 r ≤ 1
    rw [oS 1 r (by decide)]; exact a2 r hr
  · exact a3 r hr ((oS 1 r (by decide)).symm.trans g)
  · rw [o 223 j (by decide), o 222 j (by decide)]
    show _ = vl_I (jv_u S.2 7 (4096 * k + e) 1 3 j) ∧ jv_u S.2 7 (4096 * k + e) 1 3 j ≤ 1 ∧ (jv_u S.2 7 (4096 * k + e) 1 3 j = 1 → _ = vl_I (jv_u S.2 7 (4096 * k + e) 1 2 j) ∧ jv_u S.2 7 (4096 * k + e) 1 2 j < 256)
    rw [oS 3 j (by decide), oS 2 j (by decide)]; exact a4 j hj
  · rw [o 218 j (by decide)]
    show _ = vl_I (jv_u S.2 7 (4096 * k + e) 1 4 j) ∧ jv_u S.2 7 (4096 * k + e) 1 4 j < 256
    rw [oS 4 j (by decide)]; exact a5 j hj
  · rw [o 219 j (by decide)]
    show _ = vl_I (jv_u S.2 7 (4096 * k + e) 1 5 j) ∧ jv_u S.2 7 (4096 * k + e) 1 5 j < 256
    rw [oS 5 j (by decide)]; exact a6 j h16 hj
  · rw [o 182 j (by decide)]
    show _ = vl_sb (jv_u S.2 7 (4096 * k + e) 1 6 j) ∧ jv_u S.2 7 (4096 * k + e) 1 6 j < 256
    rw [oS 6 j (by decide)]; exact a7 j hj
  · rw [es.1] at hk'
    have z : S.2 8 k' = 1 := (oS 8 k' (by decide)).symm.trans z
    have he' : e' < S.2 11 k' := by rw [← oS 11 k' (by decide)]; exact he'
    rw [(vm_es_fe es k').1]
    show jv_u I 224 (vm_fe S k + e) ((1 : Int32) &&& 1) 224 (vm_fe S k' + e') = vl_I (jv_u S.2 7 (4096 * k + e) 1 7 (4096 * k' + e')) ∧ jv_u S.2 7 (4096 * k + e) 1 7 (4096 * k' + e') ≤ 1
    by_cases c : k' = k ∧ e' = e
    · obtain ⟨c1, c2⟩ := c
      subst c1; subst c2
      rw [jv_u_self, jv_u_self]; exact ⟨rfl, Nat.le_refl 1⟩
    · have st := vm_sh_t hs hk h1
      have st' := vm_sh_t hs hk' z
      rw [vk_ux (fun w => c (by have := vm_fe_inj hs hk h1 he hk' z he' w.2.symm; omega)), vk_ux (fun w => c (by omega))]
      exact a8 k' e' hk' z he'
  · rw [es.1] at hk'
    rw [o 183 k' (by decide), o 184 k' (by decide), o 185 k' (by decide), o 186 k' (by decide), o 187 k' (by decide), o 188 k' (by decide), o 189 k' (by decide), (vm_es_fe es k').1, (vm_es_fe es k').2]
    show _ = vl_I (jv_u S.2 7 (4096 * k + e) 1 8 k') ∧ _ = vl_I (jv_u S.2 7 (4096 * k + e) 1 9 k') ∧ _ = vl_I (jv_u S.2 7 (4096 * k + e) 1 10 k') ∧ _ = vl_I (jv_u S.2 7 (4096 * k + e) 1 11 k') ∧ _ = vl_I (jv_u S.2 7 (4096 * k + e) 1 12 k') ∧ _
    rw [oS 8 k' (by decide), oS 9 k' (by decide), oS 10 k' (by decide), oS 11 k' (by decide), oS 12 k' (by decide)]
    exact a10.2 k' hk'
theorem vr_seekM (hW : jv_rW K R) (hD : R 180 2 = .ref 225) (hA : vr_all Z I L S) (hk : k < vm_cnt S) (h2 : S.2 8 k ≠ 2) (hg : vm_gat 1073750016 1073758208 S 2 (S.2 9 k) = some key) : ∃ I1, (∀ n sl, jv_Ms 398 [.ref 178, .int (vl_I k)] (jv_H K I L R) n sl (some (.long (vm_sk 1073758208 S k key).1), jv_H K I1 L R, n, sl)) ∧ vr_all Z I1 L (vm_sk 1073758208 S k key).2 ∧ vc_ff vr_Eca I L I1 L := by
  have hm := vr_mk_of hA hk
  have sn := vm_sh_n hA.2.2.1 hk h2
  have hks := vr_ks32 hA hk h2
  obtain ⟨a, hG2, hkey, hgt⟩ := vr_gatM hW hA (r := 2) (by decide) hg
  obtain ⟨I1, hGA, hA1, f1, b1, -⟩ := hgt 0 (by omega)
  have hr : vr_row K I1 225 0 (S.2 9 k) key := ⟨hW.1 (225, 101, 512) (by decide), Or.inr rfl, by omega, fun j hj => ⟨b1 j hj, hkey j hj⟩⟩
  obtain ⟨I2, hF, hA2, f2, -⟩ := vr_findM hW hD hA1 hk h2 hr
  have f12 := vc_ff_trans f1 (vc_ff_le vr_EmEc f2)
  cases q : vm_ent S k key with
  | none =>
    rw [q] at hF
    have es : vm_sk 1073758208 S k key = (0, S) := by unfold vm_sk; rw [q]
    rw [es]
    exact ⟨I2, fun n sl => vr_seek_n hW hm.1 hm.2.2.1 hG2 hGA hF, hA2, f12⟩
  | some e =>
    rw [q] at hF
    have he := vr_ent_at hA hk h2 q
    have es : vm_sk 1073758208 S k key = (vm_i (1073758208 + vm_at S k e), if S.2 8 k = 0 then S else (S.1, jv_u S.2 7 (4096 * k + e) 1)) := by unfold vm_sk; rw [q]
    have at_ := vm_at_in hA.2.2.1 hk h2 he
    have ff := vm_fill_ge (S.2 10 k)
    rw [es, ← vr_ptr (x := vm_at S k e) (by omega)]
    have hO : ∀ n sl, jv_Ms 366 [.ref 178, .int (vl_I (vm_at S k e))] (jv_H K I2 L R) n sl (some (.int (if S.2 8 k = 0 then (-1 : Int32) else vl_I (vm_fe S k + e))), jv_H K I2 L R, n, sl) := fun n sl => vr_owner hW hA.2.2.1 hA2.1.2.2.2.2.2.2.2.2.2 hk h2 he (Nat.le_refl _) (by omega)
    by_cases z : S.2 8 k = 0
    · rw [if_pos z] at hO
      rw [if_pos z]
      exact ⟨I2, fun n sl => vr_seek_0 hW hm.1 hm.2.2.1 hG2 hGA (by omega) hF hO, hA2, f12⟩
    · rw [if_neg z] at hO
      rw [if_neg z]
      have h1 : S.2 8 k = 1 := by omega
      have fi := vm_fe_in hA.2.2.1 hk h1
      exact ⟨_, fun n sl => vr_seek_1 hW hm.1 hm.2.2.1 hG2 hGA (by omega) (by omega) hF hO, vr_all_found hA2 hk h1 he, vc_ff_trans f12 (vc_ff_u (by unfold vr_Eca; omega))⟩
/-- the end of a call: registers 1 to 5 have nothing, register 0 the answer -/
theorem vr_all_ans (hA : vr_all Z I L S) (x : Int64) : vr_all Z (jv_u (vm_wr I 221 1 5 (fun _ => ((0 : Int32) &&& 1))) 221 0 1) (jv_u L 220 0 x) (vm_ans S x) := by
  have o : ∀ q i, q ≠ 221 → jv_u (vm_wr I 221 1 5 (fun _ => ((0 : Int32) &&& 1))) 221 0 1 q i = I q i := fun q i z => (jv_u_o _ _ _ _ z).trans (vm_wr_o (fun w => z w.1))
  have oL : ∀ q i, q ≠ 220 → jv_u L 220 0 x q i = L q i := fun q i z => jv_u_o _ _ _ _ z
  have oS : ∀ c i, c ≠ 1 → (vm_ans S x).2 c i = S.2 c i := fun c i z => (jv_u_o _ _ _ _ z).trans (vm_clr_o z)
  have t1 : ∀ i, (vm_ans S x).2 1 i = if i = 0 then 1 else if 1 ≤ i ∧ i ≤ 5 then 0 else S.2 1 i := fun i => by
    show jv_u (vm_clr S).2 1 0 1 1 i = _
    by_cases c : i = 0
    · rw [c, jv_u_self, if_pos rfl]
    · rw [jv_u_j _ _ _ _ c, if_neg c]
      show (if 1 = 1 ∧ 1 ≤ i ∧ i ≤ 5 then 0 else S.2 1 i) = _
      by_cases d : 1 ≤ i ∧ i ≤ 5
      · rw [if_pos ⟨rfl, d⟩, if_pos d]
      · rw [if_neg (fun z => d z.2), if_neg d]
  have em : vm_em S (vm_ans S x) := fun c i hc => oS c i (by omega)
  have es := vm_em_s em
  have sz : vm_size (vm_ans S x) = vm_size S := oS 0 0 (by decide)
  obtain ⟨a1, a2, a3, a4, a5, a6, a7, a8, a9, a10⟩ := hA.1
  refine ⟨⟨by rw [o 178 11 (by decide), sz]; exact a1, fun r hr => ?_, fun r hr g => ?_, fun j hj => by rw [o 223 j (by decide), o 222 j (by decide), oS 3 j (by decide), oS 2 j (by decide)]; exact a4 j hj, fun j hj => by rw [o 218 j (by decide), oS 4 j (by decide)]; exact a5 j hj, fun j h16 hj => by rw [o 219 j (by decide), oS 5 j (by decide)]; exact a6 j h16 hj, fun j hj => by rw [o 182 j (by decide), oS 6 j (by decide)]; exact a7 j hj, fun k e hk z he => ?_, (oL 178 13 (by decide)).trans a9, (o 180 5 (by decide)).trans (by rw [es.1]; exact a10.1), fun k hk => ?_⟩, vr_mt_em em hA.2.1 (fun q i z => o q i (by omega)) (fun q i z => oL q i (by omega)), vm_ok_em em hA.2.2⟩
  · rw [t1]
    by_cases c : r = 0
    · rw [c, jv_u_self, if_pos rfl]; exact ⟨rfl, Nat.le_refl 1⟩
    · rw [jv_u_j _ _ _ _ c, if_neg c]
      by_cases d : 1 ≤ r ∧ r ≤ 5
      · have y := vm_wr_i (I := I) (r := 221) (a := 1) (n := 5) (k := r - 1) (f := fun _ => ((0 : Int32) &&& 1)) (by omega)
        rw [show 1 + (r - 1) = r by omega] at y
        rw [y, if_pos d]; exact ⟨rfl, Nat.zero_le 1⟩
      · rw [vm_wr_o (fun w => d (by omega)), if_neg d]; exact a2 r hr
  · rw [t1] at g
    by_cases c : r = 0
    · rw [c, jv_u_self]; exact (jv_u_self S.1 0 0 x).symm
    · rw [if_neg c] at g
      by_cases d : 1 ≤ r ∧ r ≤ 5
      · rw [if_pos d] at g; cases g
      · rw [if_neg d] at g
        rw [jv_u_j _ _ _ _ c]
        exact (a3 r hr g).trans (jv_u_j S.1 0 _ x c).symm
  · rw [es.1] at hk
    rw [oS 8 k (by decide)] at z
    rw [oS 11 k (by decide)] at he
    rw [o 224 _ (by decide), (vm_es_fe es k).1, oS 7 _ (by decide)]; exact a8 k e hk z he
  · rw [es.1] at hk
    rw [o 183 k (by decide), o 184 k (by decide), o 185 k (by decide), o 186 k (by decide), o 187 k (by decide), o 188 k (by decide), o 189 k (by decide), (vm_es_fe es k).1, (vm_es_fe es k).2, oS 8 k (by decide), oS 9 k (by decide), oS 10 k (by decide), oS 11 k (by decide), oS 12 k (by decide)]
    exact a10.2 k hk
theorem vr_ff_ans (x : Int64) : vc_ff vr_Eca I L (jv_u (vm_wr I 221 1 5 (fun _ => ((0 : Int32) &&& 1))) 221 0 1) (jv_u L 220 0 x) := ⟨fun q i z => (vk_ux (fun y => z (by unfold vr_Eca; omega))).trans (vm_wr_o (fun y => z (by unfold vr_Eca; omega))), fun q i z => vk_ux (fun y => z (by unfold vr_Eca; omega))⟩
theorem vr_all_clock (hA : vr_all Z I L S) (v : Int64) : vr_all Z I (jv_u L 178 13 v) (jv_u S.1 1 0 v, S.2) := by
  obtain ⟨⟨a1, a2, a3, a4, a5, a6, a7, a8, a9, a10⟩, hM, ok⟩ := hA
  have es : vm_es S (jv_u S.1 1 0 v, S.2) := ⟨rfl, rfl, fun _ _ _ => rfl⟩
  refine ⟨⟨a1, a2, fun r hr g => ?_, a4, a5, a6, a7, fun k e hk z he => by rw [(vm_es_fe es k).1]; exact a8 k e hk z he, ?_, a10.1, fun k hk => by rw [(vm_es_fe es k).1, (vm_es_fe es k).2]; exact a10.2 k hk⟩, vr_mt_em (S := S) (fun _ _ _ => rfl) hM (fun _ _ _ => rfl) (fun q i z => jv_u_o _ _ _ _ (by omega)), vm_ok_em (S := S) (fun _ _ _ => rfl) ok⟩
  · show jv_u L 178 13 v 220 r = jv_u S.1 1 0 v 0 r
    rw [jv_u_o _ _ _ _ (show 220 ≠ 178 by decide), jv_u_o _ _ _ _ (show 0 ≠ 1 by decide)]; exact a3 r hr g
  · show jv_u L 178 13 v 178 13 = jv_u S.1 1 0 v 1 0
    rw [jv_u_self, jv_u_self]
theorem vr_all_size (hA : vr_all Z I L S) {s : Nat} (hs : s ≤ 2048) : vr_all Z (jv_u I 178 11 (vl_I s)) L (S.1, jv_u S.2 0 0 s) := by
  have oS : ∀ c i, ¬ (c = 0 ∧ i = 0) → jv_u S.2 0 0 s c i = S.2 c i := fun c i z => vk_ux z
  have o : ∀ q i, ¬ (q = 178 ∧ i = 11) → jv_u I 178 11 (vl_I s) q i = I q i := fun q i z => vk_ux z
  have em : vm_em S (S.1, jv_u S.2 0 0 s) := fun c i hc => oS c i (by omega)
  have es := vm_em_s em
  obtain ⟨⟨a1, a2, a3, a4, a5, a6, a7, a8, a9, a10⟩, hM, ok⟩ := hA
  refine ⟨⟨⟨(jv_u_self _ _ _ _).trans (by show _ = vl_I (jv_u S.2 0 0 s 0 0); rw [jv_u_self]), by show jv_u S.2 0 0 s 0 0 ≤ 2048; rw [jv_u_self]; exact hs⟩, fun r hr => ?_, fun r hr g => a3 r hr ((oS 1 r (by omega)).symm.trans g), fun j hj => ?_, fun j hj => ?_, fun j h16 hj => ?_, fun j hj => ?_, fun k e hk z he => ?_, a9, (o 180 5 (by omega)).trans (by rw [es.1]; exact a10.1), fun k hk => ?_⟩, vr_mt_em em hM (fun q i z => o q i (by omega)) (fun _ _ _ => rfl), vm_ok_em em ok⟩
  · rw [o 221 r (by omega)]
    show _ = vl_I (jv_u S.2 0 0 s 1 r) ∧ jv_u S.2 0 0 s 1 r ≤ 1
    rw [oS 1 r (by omega)]; exact a2 r hr
  · rw [o 223 j (by omega), o 222 j (by omega)]
    show _ = vl_I (jv_u S.2 0 0 s 3 j) ∧ jv_u S.2 0 0 s 3 j ≤ 1 ∧ (jv_u S.2 0 0 s 3 j = 1 → _ = vl_I (jv_u S.2 0 0 s 2 j) ∧ jv_u S.2 0 0 s 2 j < 256)
    rw [oS 3 j (by omega), oS 2 j (by omega)]; exact a4 j hj
  · rw [o 218 j (by omega)]
    show _ = vl_I (jv_u S.2 0 0 s 4 j) ∧ jv_u S.2 0 0 s 4 j < 256
    rw [oS 4 j (by omega)]; exact a5 j hj
  · rw [o 219 j (by omega)]
    show _ = vl_I (jv_u S.2 0 0 s 5 j) ∧ jv_u S.2 0 0 s 5 j < 256
    rw [oS 5 j (by omega)]; exact a6 j h16 hj
  · rw [o 182 j (by omega)]
    show _ = vl_sb (jv_u S.2 0 0 s 6 j) ∧ jv_u S.2 0 0 s 6 j < 256
    rw [oS 6 j (by omega)]; exact a7 j hj
  · rw [es.1] at hk
    have z : S.2 8 k = 1 := (oS 8 k (by omega)).symm.trans z
    have he : e < S.2 11 k := by rw [← oS 11 k (by omega)]; exact he
    rw [o 224 _ (by omega), (vm_es_fe es k).1]
    show _ = vl_I (jv_u S.2 0 0 s 7 _) ∧ jv_u S.2 0 0 s 7 _ ≤ 1
    rw [oS 7 _ (by omega)]; exact a8 k e hk z he
  · rw [es.1] at hk
    rw [o 183 k (by omega), o 184 k (by omega), o 185 k (by omega), o 186 k (by omega), o 187 k (by omega), o 188 k (by omega), o 189 k (by omega), (vm_es_fe es k).1, (vm_es_fe es k).2]
    show _ = vl_I (jv_u S.2 0 0 s 8 k) ∧ _ = vl_I (jv_u S.2 0 0 s 9 k) ∧ _ = vl_I (jv_u S.2 0 0 s 10 k) ∧ _ = vl_I (jv_u S.2 0 0 s 11 k) ∧ _ = vl_I (jv_u S.2 0 0 s 12 k) ∧ _
    rw [oS 8 k (by omega), oS 9 k (by omega), oS 10 k (by omega), oS 11 k (by omega), oS 12 k (by omega)]
    exact a10.2 k hk
theorem vr_mapM (hW : jv_rW K R) (hA : vr_all Z I L S) (hm : vm_map S = some k) : k < vm_cnt S ∧ ∀ n sl, jv_Ms 397 [.ref 178] (jv_H K I L R) n sl (some (.int (vl_I k)), jv_H K I L R, n, sl) := by
  obtain ⟨m, h1, h2⟩ := Option.bind_eq_some_iff.mp hm
  have h2 : (if 0 ≤ m.toInt ∧ m.toInt < vm_cnt S then some m.toInt.toNat else none) = some k := h2
  by_cases c : 0 ≤ m.toInt ∧ m.toInt < vm_cnt S
  · rw [if_pos c] at h2
    have e := Option.some.inj h2
    have hk : k < vm_cnt S := by omega
    have c8 := hA.2.2.1.1
    have h0 : ¬ m < (0 : Int64) := fun z => by
      have := Int64.lt_iff_toInt_lt.mp z
      rw [show (0 : Int64).toInt = 0 from by decide] at this; omega
    have hl : ¬ (vl_I (vm_cnt S)).toInt64 ≤ m := fun z => by
      have := Int64.le_iff_toInt_le.mp z
      rw [vi_I64 (by omega)] at this; omega
    have em : m.toInt32 = vl_I k := Int32.toInt_inj.mp (by rw [Int64.toInt_toInt32, vl_I_i (by omega), Int.bmod_def]; split <;> omega)
    rw [← em]
    exact ⟨hk, fun n sl => vr_map_w hW hA.1.2.2.2.2.2.2.2.2.2.1 h0 hl (fun n sl => vr_readR hW hA.1 (r := 1) (by decide) h1)⟩
  · rw [if_neg c] at h2; cases h2
theorem vr_rowD (hW : jv_rW K R) {t m : Nat} (ht : t + m ≤ 512) (hb : ∀ j, j < m → I 225 (t + j) = vl_sb (key j)) (hl : ∀ j, j < m → key j < 256) : vr_row K I 225 t m key := ⟨hW.1 (225, 101, 512) (by decide), Or.inr rfl, ht, fun j hj => ⟨hb j hj, hl j hj⟩⟩
theorem vr_callM (hW : jv_rW K R) (hD : R 180 2 = .ref 181) (hZ : Z ≤ 1000000000) (hA : vr_all Z I L S) {i : Int} (hi : 1 ≤ i ∧ i ≤ 6) (ei : (I 178 29).toInt = i) (hc : vm_call 1073750016 1073758208 i S = some T) : ∃ I1 L1, (∀ n sl, jv_Ms 401 [.ref 178] (jv_H K I L R) n sl (none, jv_H K I1 L1 R, n, sl)) ∧ vr_all Z I1 L1 T ∧ vc_ff vr_Eca I L I1 L1 := by
  have i6 : i = 1 ∨ i = 2 ∨ i = 3 ∨ i = 4 ∨ i = 5 ∨ i = 6 := by omega
  have lit : ∀ {x : Int32}, x.toInt = i → I 178 29 = x := fun h => Int32.toInt_inj.mp (ei.trans h.symm)
  obtain ⟨R1, eR⟩ : ∃ R1, R1 = jv_u R 180 2 (.ref 225) := ⟨_, rfl⟩
  have hW1 : jv_rW K R1 := by rw [eR]; exact vr_deskW hW
  have hD1 : R1 180 2 = .ref 225 := by rw [eR]; exact jv_u_self _ _ _ _
  have c8 := hA.2.2.1.1
  unfold vm_call at hc
  rcases i6 with e | e | e | e | e | e <;> subst e
  · rw [if_neg (by decide), if_neg (by decide)] at hc
    obtain ⟨k, hm, hc⟩ := Option.bind_eq_some_iff.mp hc
    rw [if_pos rfl] at hc
    obtain ⟨hk, g1⟩ := vr_mapM hW hA hm
    by_cases z : S.2 8 k = 2
    · rw [if_pos z] at hc; cases hc
    · rw [if_neg z] at hc
      obtain ⟨key, hg, eT⟩ := Option.map_eq_some_iff.mp hc
      obtain ⟨I1, p1, p2, p3⟩ := vr_seekM hW1 hD1 hA hk z hg
      have eT2 : T = vm_ans (vm_sk 1073758208 S k key).2 (vm_sk 1073758208 S k key).1 := by
        rw [← eT]
        unfold vm_sk
        cases vm_ent S k key with
        | none => rfl
        | some e => rfl
      rw [eT2]
      rw [eR] at p1
      exact ⟨_, _, fun n sl => vr_call_1 hW (lit rfl) (by omega) g1 (fun n sl => vr_cm_1 hW hD (lit rfl) p1), vr_all_ans p2 _, vc_ff_trans p3 (vr_ff_ans _)⟩
  · rw [if_neg (by decide), if_neg (by decide)] at hc
    obtain ⟨k, hm, hc⟩ := Option.bind_eq_some_iff.mp hc
    rw [if_neg (by decide), if_pos rfl] at hc
    obtain ⟨hk, g1⟩ := vr_mapM hW hA hm
    by_cases z : S.2 8 k = 2
    · rw [if_pos z] at hc; cases hc
    · rw [if_neg z] at hc
      obtain ⟨key, hg, hc⟩ := Option.bind_eq_some_iff.mp hc
      obtain ⟨val, hv, hc⟩ := Option.bind_eq_some_iff.mp hc
      obtain ⟨fl, hf, eT⟩ := Option.map_eq_some_iff.mp hc
      have hmk := vr_mk_of hA hk
      have sn := vm_sh_n hA.2.2.1 hk z
      have hks := vr_ks32 hA hk z
      obtain ⟨a, hG2, hkey, hgt⟩ := vr_gatM hW1 hA (r := 2) (by decide) hg
      obtain ⟨I1, hGA, hA1, f1, b1, o1⟩ := hgt 0 (by omega)
      obtain ⟨b, hG3, hval, hgt3⟩ := vr_gatM hW1 hA1 (r := 3) (by decide) hv
      obtain ⟨I2, hGA2, hA2, f2, b2, o2⟩ := hgt3 64 (by omega)
      have hG4 := fun n sl => vr_readR (n := n) (sl := sl) hW1 hA2.1 (r := 4) (by decide) hf
      obtain ⟨I3, hU, hA3, f3, -⟩ := vr_updM hW1 hD1 hA2 hk z (a := 0) (b := 64) (vr_rowD hW1 (by omega) (fun j hj => (o2 _ _ (by omega)).trans (b1 j hj)) hkey) (vr_rowD hW1 (by omega) b2 hval) fl.toInt32
      rw [← eT, ← vk_ai (vm_upd_v S k key val fl.toInt32.toInt)]
      subst eR
      exact ⟨_, _, fun n sl => vr_call_2 hW (lit rfl) (by omega) g1 (fun n sl => vr_cm_2 hW hD (by omega) (lit rfl) hmk.2.2.1 ((o1 185 k (by omega)).trans hmk.2.2.2.1) hG2 hGA hG3 hGA2 hG4 hU), vr_all_ans hA3 _, vc_ff_trans f1 (vc_ff_trans f2 (vc_ff_trans (vc_ff_le vr_EmEc f3) (vr_ff_ans _)))⟩
  · rw [if_neg (by decide), if_neg (by decide)] at hc
    obtain ⟨k, hm, hc⟩ := Option.bind_eq_some_iff.mp hc
    rw [if_neg (by decide), if_neg (by decide), if_pos rfl] at hc
    obtain ⟨hk, g1⟩ := vr_mapM hW hA hm
    by_cases z : S.2 8 k = 1
    · rw [if_pos z] at hc
      obtain ⟨key, hg, eT⟩ := Option.map_eq_some_iff.mp hc
      have hmk := vr_mk_of hA hk
      have st := vm_sh_t hA.2.2.1 hk z
      obtain ⟨a, hG2, hkey, hgt⟩ := vr_gatM hW1 hA (r := 2) (by decide) hg
      obtain ⟨I1, hGA, hA1, f1, b1, o1⟩ := hgt 0 (by omega)
      obtain ⟨I3, hU, hA3, f3, -⟩ := vr_dropM hW1 hD1 hA1 hk z (a := 0) (vr_rowD hW1 (by omega) b1 hkey)
      rw [← eT, ← vk_ai (vm_drop_v S k key)]
      subst eR
      exact ⟨_, _, fun n sl => vr_call_3 hW (lit rfl) (by omega) g1 (fun n sl => vr_cm_3 hW hD (by omega) (lit rfl) hmk.2.2.1 hG2 hGA hU), vr_all_ans hA3 _, vc_ff_trans f1 (vc_ff_trans (vc_ff_le vr_EmEc f3) (vr_ff_ans _))⟩
    · rw [if_neg z] at hc; cases hc
  · rw [if_neg (by decide), if_neg (by decide)] at hc
    obtain ⟨k, hm, hc⟩ := Option.bind_eq_some_iff.mp hc
    rw [if_neg (by decide), if_neg (by decide), if_neg (by decide), if_pos rfl] at hc
    obtain ⟨hk, g1⟩ := vr_mapM hW hA hm
    by_cases z : S.2 8 k = 2
    · rw [if_pos z] at hc
      obtain ⟨w, hw, hc⟩ := Option.bind_eq_some_iff.mp hc
      have hc : (if 1 ≤ w.toInt ∧ w.toInt ≤ 256 then (vm_gat 1073750016 1073758208 S 2 w.toInt.toNat).map fun data => vm_ans (vm_send S k data w.toInt.toNat).2 (vm_i (vm_send S k data w.toInt.toNat).1) else none) = some T := hc
      by_cases y : 1 ≤ w.toInt ∧ w.toInt ≤ 256
      · rw [if_pos y] at hc
        obtain ⟨key, hg, eT⟩ := Option.map_eq_some_iff.mp hc
        have em : w.toInt32 = vl_I w.toInt.toNat := Int32.toInt_inj.mp (by rw [Int64.toInt_toInt32, vl_I_i (by omega), Int.bmod_def]; split <;> omega)
        have hG3 := fun n sl => vr_readR (n := n) (sl := sl) hW1 hA.1 (r := 3) (by decide) hw
        obtain ⟨a, hG2, hkey, hgt⟩ := vr_gatM hW1 hA (r := 2) (by decide) hg
        obtain ⟨I1, hGA, hA1, f1, b1, o1⟩ := hgt 0 (by omega)
        obtain ⟨I3, L3, hU, hA3, f3, -⟩ := vr_sendM hW1 hD1 hZ hA1 hk z (a := 0) (w := w.toInt.toNat) (vr_rowD hW1 (by omega) b1 hkey) (by omega)
        rw [← em] at hGA hU
        rw [← eT, ← vk_ai (vm_send_v S k key w.toInt.toNat)]
        subst eR
        exact ⟨_, _, fun n sl => vr_call_4 hW (lit rfl) (by omega) g1 (fun n sl => vr_cm_4 hW hD (by omega) (lit rfl) (fun z => by have := Int64.le_iff_toInt_le.mp z; rw [show (0 : Int64).toInt = 0 from by decide] at this; omega) (fun z => by have := Int64.le_iff_toInt_le.mp z; rw [show (257 : Int64).toInt = 257 from by decide] at this; omega) hG3 hG2 hGA hU), vr_all_ans hA3 _, vc_ff_trans f1 (vc_ff_trans (vc_ff_le vr_EmEc f3) (vr_ff_ans _))⟩
      · rw [if_neg y] at hc; cases hc
    · rw [if_neg z] at hc; cases hc
  · rw [if_pos rfl] at hc
    have e13 := hA.1.2.2.2.2.2.2.2.2.1
    rw [← Option.some.inj hc]
    exact ⟨_, _, fun n sl => vr_call_5 hW (lit rfl) e13, vr_all_ans (vr_all_clock hA (S.1 1 0 + (1 : Int64))) (S.1 1 0), vc_ff_trans ⟨fun _ _ _ => rfl, fun q i z => vk_ux (fun y => z (by unfold vr_Eca; omega))⟩ (vr_ff_ans _)⟩
  · rw [if_neg (by decide), if_pos rfl] at hc
    obtain ⟨c, h1, hc⟩ := Option.bind_eq_some_iff.mp hc
    obtain ⟨w, h2, hc⟩ := Option.bind_eq_some_iff.mp hc
    have hG1 := fun n sl => vr_readR (n := n) (sl := sl) hW hA.1 (r := 1) (by decide) h1
    have hG2 := fun n sl => vr_readR (n := n) (sl := sl) hW hA.1 (r := 2) (by decide) h2
    obtain ⟨e11, sz⟩ := hA.1.1
    have e64 : (vl_I (vm_size S)).toInt64.toBitVec.toNat = vm_size S := by
      rw [vm_J_I (by omega)]
      show (BitVec.ofNat 64 (vm_size S)).toNat = _
      rw [BitVec.toNat_ofNat]; omega
    have ew := BitVec.toInt_eq_toNat_cond w.toBitVec
    have wl := w.toBitVec.isLt
    have ewi : w.toInt = w.toBitVec.toInt := rfl
    have lt : ((vl_I (vm_size S)).toInt64.toBitVec < w.toBitVec) ↔ ¬ (0 ≤ w.toInt ∧ w.toInt ≤ vm_size S) := by
      rw [BitVec.lt_def, e64, ewi, ew]
      split <;> omega
    by_cases d : c.toInt = 1073745920
    · have hc : (if 0 ≤ w.toInt ∧ w.toInt ≤ vm_size S then some (vm_ans (S.1, jv_u S.2 0 0 w.toInt.toNat) 0) else some (vm_ans S (-22))) = some T := (if_pos d).symm.trans hc
      have ec : c = (1073745920 : Int64) := Int64.toInt_inj.mp (d.trans (by decide))
      by_cases y : 0 ≤ w.toInt ∧ w.toInt ≤ vm_size S
      · rw [if_pos y] at hc
        have ew : w.toInt32 = vl_I w.toInt.toNat := Int32.toInt_inj.mp (by rw [Int64.toInt_toInt32, vl_I_i (by omega), Int.bmod_def]; split <;> omega)
        have hIL : ∀ n sl, jv_Ms 376 [.long (vl_I (vm_size S)).toInt64, .long w] (jv_H K I L R) n sl (some (.int (0 : Int32)), jv_H K I L R, n, sl) := fun n sl => by
          have u := vr_isLess (G := jv_H K I L R) (a := (vl_I (vm_size S)).toInt64) (b := w) (m := n) (sl := sl)
          rw [decide_eq_false (fun z => (lt.mp z) y)] at u
          exact u
        have hT := fun n sl => vr_trim_y (n := n) (sl := sl) hW ec e11 hG1 hG2 hIL
        rw [ew] at hT
        rw [← Option.some.inj hc]
        exact ⟨_, _, fun n sl => vr_call_6 hW (lit rfl) hT, vr_all_ans (vr_all_size hA (by omega)) (0 : Int64), vc_ff_trans (vc_ff_u (by unfold vr_Eca; omega)) (vr_ff_ans _)⟩
      · rw [if_neg y] at hc
        have hIL : ∀ n sl, jv_Ms 376 [.long (vl_I (vm_size S)).toInt64, .long w] (jv_H K I L R) n sl (some (.int (1 : Int32)), jv_H K I L R, n, sl) := fun n sl => by
          have u := vr_isLess (G := jv_H K I L R) (a := (vl_I (vm_size S)).toInt64) (b := w) (m := n) (sl := sl)
          rw [decide_eq_true (lt.mpr y)] at u
          exact u
        have hT := fun n sl => vr_trim_n (n := n) (sl := sl) hW ec e11 hG1 hG2 hIL
        have eI : jv_u I 178 11 (vl_I (vm_size S)) = I := by rw [← e11]; exact jv_u_id _ _ _
        rw [eI] at hT
        rw [← Option.some.inj hc]
        exact ⟨_, _, fun n sl => vr_call_6 hW (lit rfl) hT, vr_all_ans hA (-22 : Int64), vr_ff_ans _⟩
    · have hc : none = some T := (if_neg d).symm.trans hc
      cases hc
end
