/-! part g48: the host's drawing from a ring, of the reference (a hand text: this part is the source) -/
/-- the bytes of a ring from its tail on, and the length that its next record tells -/
def vh_B (S : vm_S) (k j : Nat) : Nat := S.2 6 (S.2 12 k + (S.2 16 k + j) % S.2 11 k)
def vh_X (S : vm_S) (k : Nat) : Nat := vm_le (vh_B S k) 0 4
/-- what drawing answers; the state and the desk then -/
def vh_tk (S : vm_S) (D : Nat → Nat) (k : Nat) (z : Int) : Option (Int32 × vm_S × (Nat → Nat)) :=
  if S.2 8 k ≠ 2 ∨ S.2 18 k = 1 then some (-22, S, D)
  else if S.2 15 k = S.2 16 k then some (-2, S, D)
  else if vh_X S k < 1 ∨ 256 < vh_X S k ∨ S.2 15 k < S.2 16 k + (8 + vm_fill (vh_X S k)) then some (-22, (S.1, jv_u S.2 18 k 1), D)
  else if 0 ≤ z ∧ z + vh_X S k ≤ 512 then some (vl_I (vh_X S k), (S.1, jv_u S.2 16 k (S.2 16 k + (8 + vm_fill (vh_X S k)))), vh_put D z.toNat (vh_X S k) (fun j => vh_B S k (8 + j)))
  else none
def vh_take (S : vm_S) (D : Nat → Nat) (x z : Int) : Option (Int32 × vm_S × (Nat → Nat)) := (vh_m S x).bind fun k => vh_tk S D k z
/-- state and desk behind a call -/
def vh_t (S : vm_S) (D : Nat → Nat) (o : Option (Int32 × vm_S × (Nat → Nat))) : vm_S × (Nat → Nat) := match o with
  | none => (S, D)
  | some r => r.2
section
variable {Z Z1 : Nat} {K : Nat → Option (Nat × Nat)} {I I1 : Nat → Nat → Int32} {L L1 : Nat → Nat → Int64} {R : Nat → Nat → Value} {S T : vm_S} {D : Nat → Nat} {k kd ks vs en bg fe fk : Nat}
theorem vm_ok_le (h : Z ≤ Z1) (ok : vm_ok Z S) : vm_ok Z1 S := ⟨ok.1, ok.2.1, fun k hk z => by have := ok.2.2 k hk z; omega⟩
theorem vr_all_le (h : Z ≤ Z1) (hA : vr_all Z I L S) : vr_all Z1 I L S := ⟨hA.1, hA.2.1, vm_ok_le h hA.2.2⟩
/-- tail or state of a ring has changed -/
theorem vr_all_ring (hA : vr_all Z I L S) (hk : k < vm_cnt S) (h2 : S.2 8 k = 2) (hz : Z ≤ Z1) (oS : ∀ c i, ¬ ((c = 16 ∨ c = 18) ∧ i = k) → T.2 c i = S.2 c i) (t1 : T.1 = S.1) (o : ∀ q i, ¬ (q = 195 ∧ i = k) → I1 q i = I q i) (oL : ∀ q i, ¬ (q = 193 ∧ i = k) → L1 q i = L q i) (n16 : L1 193 k = vm_J (T.2 16 k)) (n18 : I1 195 k = vl_I (T.2 18 k)) (ok : T.2 18 k ≤ 1 ∧ T.2 16 k ≤ T.2 15 k ∧ T.2 15 k ≤ T.2 16 k + T.2 11 k ∧ 16 * T.2 17 k ≤ T.2 15 k ∧ T.2 16 k ≤ Z1) : vr_all Z1 I1 L1 T := by
  have es : vm_es S T := ⟨oS 0 1 (by omega), oS 0 2 (by omega), fun c i hc => oS c i (by omega)⟩
  have cs : ∀ k', k' < vm_cnt S → k' ≠ k → vm_emk S T k' := fun k' _ hn => ⟨fun c hc => oS c k' (by omega), fun y _ => oS 13 _ (by omega), fun y j _ _ => oS 14 _ (by omega)⟩
  have hok : vm_ok Z1 T := vm_ok_one es (vm_ok_le hz hA.2.2) cs (fun z => by omega) (fun _ => ok)
  refine ⟨vm_r_new hA.1 (fun q i z => o q i (fun y => z (by unfold vr_Em; omega))) (fun q i z => oL q i (by omega)) t1 (fun c i y _ => oS c i (by omega)) (fun j hj => by rw [o 182 j (by omega), oS 6 j (by omega)]; exact hA.1.2.2.2.2.2.2.1 j hj), ⟨fun k' hk' z => ?_, fun k' hk' z => ?_⟩, hok⟩
  · rw [es.1] at hk'
    rw [es.2.2 8 k' (by omega)] at z
    have kn : k' ≠ k := fun y => by rw [y] at z; omega
    have y := hA.2.1.1 k' hk' z
    have c11 := vm_sh_t hA.2.2.1 hk' z
    rw [(vm_es_fe es k').1, (vm_es_fe es k').2, es.2.2 11 k' (by omega), es.2.2 9 k' (by omega)]
    refine ⟨fun e he => ?_, fun e j he hj => ?_⟩
    · rw [o 190 _ (by omega), (cs k' hk' kn).2.1 e (by omega)]; exact y.1 e he
    · rw [o 191 _ (by omega), (cs k' hk' kn).2.2 e j (by omega) (by omega)]; exact y.2 e j he hj
  · rw [es.1] at hk'
    rw [es.2.2 8 k' (by omega)] at z
    obtain ⟨e15, e16, e17, e18⟩ := hA.2.1.2 k' hk' z
    by_cases c : k' = k
    · subst c
      rw [oL 192 _ (by omega), o 194 _ (by omega), oS 15 _ (by omega), oS 17 _ (by omega)]
      exact ⟨e15, n16, e17, n18⟩
    · have m := (cs k' hk' c).1
      rw [m 15 (by omega), m 16 (by omega), m 17 (by omega), m 18 (by omega), oL 192 _ (by omega), oL 193 _ (by omega), o 194 _ (by omega), o 195 _ (by omega)]
      exact ⟨e15, e16, e17, e18⟩
/-- the host's drawing from a ring -/
theorem vr_htake (hW : jv_rW K R) (hD : R 180 2 = .ref 181) (hZ : Z ≤ 1000000000) (hA : vr_all Z I L S) (hdk : vk_by I 181 0 512 D) (x z : Int32) : ∃ I1 L1 r0, (∀ n sl, jv_Ms 415 [.ref 178, .int x, .int z] (jv_H K I L R) n sl (some (.int r0), jv_H K I1 L1 R, n, sl)) ∧ I1 178 0 = vh_c (vh_take S D x.toInt z.toInt) ∧ (∀ r, vh_take S D x.toInt z.toInt = some r → r0 = r.1) ∧ vk_by I1 181 0 512 (vh_t S D (vh_take S D x.toInt z.toInt)).2 ∧ vr_all (Z + 264) I1 L1 (vh_t S D (vh_take S D x.toInt z.toInt)).1 ∧ vc_ff vr_Ehd I L I1 L1 := by
  have zl : Z ≤ Z + 264 := by omega
  have d0 : ∀ {J : Nat → Nat → Int32} (c : Int32), (∀ i, J 181 i = I 181 i) → vk_by (jv_u J 178 0 c) 181 0 512 D := fun c o j hj => by rw [jv_u_o _ _ _ _ (show 181 ≠ 178 by decide), o]; exact hdk j hj
  have oc : ∀ (c : Int32) i, jv_u I 180 0 c 181 i = I 181 i := fun c i => jv_u_o _ _ _ _ (by decide)
  have lh : ∀ {I1 : Nat → Nat → Int32} {L1 : Nat → Nat → Int64}, vc_ff vr_Eh I L I1 L1 → vc_ff vr_Ehd I L I1 L1 := fun h => vc_ff_le (fun _ _ z => Or.inl z) h
  cases hm : vh_m S x.toInt with
  | none =>
    have e : vh_take S D x.toInt z.toInt = none := by unfold vh_take; rw [hm]; rfl
    rw [e]
    exact ⟨_, _, _, fun n sl => vr_f_take hW (fun n sl => vr_take_nm hW (vr_bad hW hA hm)) (jv_u_self _ _ _ _), jv_u_self _ _ _ _, (fun r z => by cases z), d0 1 (oc 1), vr_all_le zl (vr_all_th (vr_all_code hA 1) 1), lh (vr_ff_th (vr_ff_code 1) 1)⟩
  | some k =>
    obtain ⟨hk, ex⟩ := vh_m_some hA.2.2.1.1 hm
    have hmk := vr_mk_of hA hk
    have hNM := vr_noMapM hW hA hk
    have e0 : vh_take S D x.toInt z.toInt = vh_tk S D k z.toInt := by unfold vh_take; rw [hm]; rfl
    rw [e0, ex]
    have same : ∀ {r : Int32}, (∀ n sl, jv_Ms 347 [.ref 180, .int (vl_I k), .int z] (jv_H K I L R) n sl (some (.int r), jv_H K (jv_u I 180 0 (0 : Int32)) L R, n, sl)) → vh_tk S D k z.toInt = some (r, S, D) → ∃ I1 L1 r0, (∀ n sl, jv_Ms 415 [.ref 178, .int (vl_I k), .int z] (jv_H K I L R) n sl (some (.int r0), jv_H K I1 L1 R, n, sl)) ∧ I1 178 0 = vh_c (vh_tk S D k z.toInt) ∧ (∀ r, vh_tk S D k z.toInt = some r → r0 = r.1) ∧ vk_by I1 181 0 512 (vh_t S D (vh_tk S D k z.toInt)).2 ∧ vr_all (Z + 264) I1 L1 (vh_t S D (vh_tk S D k z.toInt)).1 ∧ vc_ff vr_Ehd I L I1 L1 := fun hS e => by
      rw [e]
      exact ⟨_, _, _, fun n sl => vr_f_take hW hS (jv_u_self _ _ _ _), jv_u_self _ _ _ _, (fun r z => by rw [← Option.some.inj z]), d0 0 (oc 0), vr_all_le zl (vr_all_th (vr_all_code hA 0) 0), lh (vr_ff_th (vr_ff_code 0) 0)⟩
    by_cases h2 : S.2 8 k = 2
    · obtain ⟨e15, e16, e17, e18⟩ := hA.2.1.2 k hk h2
      obtain ⟨q18, q16, q15, q17, qZ⟩ := hA.2.2.2.2 k hk h2
      have s : 64 ≤ S.2 11 k ∧ S.2 11 k ≤ 16384 := by
        rcases hA.2.2.1.2.1 k hk with y | y
        · exact ⟨y.2.1, y.2.2.1⟩
        · omega
      have end_ : S.2 12 k + S.2 11 k ≤ 65536 := by
        have y := vm_bg_mono S (k := k + 1) (m := vm_cnt S) hk
        have z : vm_bg S (k + 1) = vm_bg S k + S.2 11 k := by show vm_bg S k + vm_szof S k = _; unfold vm_szof; rw [if_pos h2]
        have := hA.2.2.1.2.2.1 k hk
        have := hA.2.2.1.2.2.2.1
        omega
      by_cases cb : S.2 18 k = 1
      · exact same (fun n sl => vr_take_b hW hmk hNM h2 e18 cb) (if_pos (Or.inr cb))
      · have cb0 : S.2 18 k = 0 := by omega
        have nb : ¬ (S.2 8 k ≠ 2 ∨ S.2 18 k = 1) := by omega
        by_cases he : S.2 15 k = S.2 16 k
        · exact same (fun n sl => vr_take_e hW hmk hNM h2 e15 e16 e18 cb0 (by rw [he])) ((if_neg nb).trans (if_pos he))
        · have nJ : ¬ vm_J (S.2 15 k) = vm_J (S.2 16 k) := fun y => by
            have := congrArg Int64.toInt y
            rw [vm_J_i (by omega), vm_J_i (by omega)] at this
            omega
          have bt : ∀ j, I 182 (S.2 12 k + (S.2 16 k + j) % S.2 11 k) = vl_sb (vh_B S k j) ∧ vh_B S k j < 256 := fun j => by
            have := Nat.mod_lt (S.2 16 k + j) (show 0 < S.2 11 k by omega)
            exact hA.1.2.2.2.2.2.2.1 _ (by omega)
          have hm0 : vr_mk (jv_u I 180 0 (0 : Int32)) k (S.2 8 k) (S.2 9 k) (S.2 10 k) (S.2 11 k) (S.2 12 k) (vm_fe S k) (vm_fk S k) := vr_mk_ext hmk (fun q i a b => jv_u_o _ _ _ _ (by omega))
          have hNR : ∀ n sl, jv_Ms 345 [.ref 180, .int (vl_I k), .long (vm_J (S.2 16 k))] (jv_H K (jv_u I 180 0 (0 : Int32)) L R) n sl (some (.long (vm_J (vh_X S k))), jv_H K (jv_u I 180 0 (0 : Int32)) L R, n, sl) := fun n sl => vr_numberInRing (B := vh_B S k) hW hm0 (by omega) end_ rfl (by omega) (fun j _ => by rw [jv_u_o _ _ _ _ (show 182 ≠ 180 by decide)]; exact bt j)
          have xl : vh_X S k < 4294967296 := vm_le_lt 4 0 (fun i _ => (bt _).2)
          have ff := vm_fill_ge (vh_X S k)
          have c1 : vm_J (vh_X S k) < (1 : Int64) ↔ vh_X S k < 1 := by rw [Int64.lt_iff_toInt_lt, vm_J_i (by omega), show (1 : Int64).toInt = 1 from by decide]; omega
          have c2 : (256 : Int64) < vm_J (vh_X S k) ↔ 256 < vh_X S k := by rw [Int64.lt_iff_toInt_lt, vm_J_i (by omega), show (256 : Int64).toInt = 256 from by decide]; omega
          have c3 : vh_X S k ≤ 256 → (((8 : Int32) + vl_I (vm_fill (vh_X S k))).toInt64 ≤ vm_J (S.2 15 k) - vm_J (S.2 16 k) ↔ S.2 16 k + (8 + vm_fill (vh_X S k)) ≤ S.2 15 k) := fun y => by
            rw [show (8 : Int32) + vl_I (vm_fill (vh_X S k)) = vl_I (8 + vm_fill (vh_X S k)) from vl_I_add 8 _, vm_J_I (by omega), vm_J_sub q16, vm_J_le (by omega) (by omega)]
            omega
          by_cases bad : vh_X S k < 1 ∨ 256 < vh_X S k ∨ S.2 15 k < S.2 16 k + (8 + vm_fill (vh_X S k))
          · have e : vh_tk S D k z.toInt = some (-22, (S.1, jv_u S.2 18 k 1), D) := (if_neg nb).trans ((if_neg he).trans (if_pos bad))
            have hS : ∀ n sl, jv_Ms 347 [.ref 180, .int (vl_I k), .int z] (jv_H K I L R) n sl (some (.int (-22 : Int32)), jv_H K (jv_u (jv_u I 180 0 (0 : Int32)) 195 k ((1 : Int32) &&& 1)) L R, n, sl) := fun n sl => by
              by_cases b1 : vh_X S k < 1
              · exact vr_take_w1 hW hmk hNM h2 e15 e16 e18 cb0 nJ hNR (c1.mpr b1)
              · by_cases b2 : 256 < vh_X S k
                · exact vr_take_w2 hW hmk hNM h2 e15 e16 e18 cb0 nJ hNR (fun y => b1 (c1.mp y)) (c2.mpr b2)
                · exact vr_take_w3 hW hmk hNM h2 e15 e16 e18 cb0 nJ hNR (by omega) (fun y => b1 (c1.mp y)) (fun y => b2 (c2.mp y)) (fun y => by have := (c3 (by omega)).mp y; omega)
            rw [e]
            have oS : ∀ c i, ¬ ((c = 16 ∨ c = 18) ∧ i = k) → jv_u S.2 18 k 1 c i = S.2 c i := fun c i w => vk_ux (by omega)
            have ring := vr_all_ring (I1 := jv_u (jv_u I 180 0 (0 : Int32)) 195 k ((1 : Int32) &&& 1)) (L1 := L) (T := (S.1, jv_u S.2 18 k 1)) (vr_all_code hA 0) hk h2 zl oS rfl (fun q i w => vk_ux w) (fun _ _ _ => rfl) (by show L 193 k = vm_J (jv_u S.2 18 k 1 16 k); rw [vk_ux (by omega)]; exact e16) (by show _ = vl_I (jv_u S.2 18 k 1 18 k); rw [jv_u_self, jv_u_self]; rfl) (by
              show jv_u S.2 18 k 1 18 k ≤ 1 ∧ jv_u S.2 18 k 1 16 k ≤ jv_u S.2 18 k 1 15 k ∧ jv_u S.2 18 k 1 15 k ≤ jv_u S.2 18 k 1 16 k + jv_u S.2 18 k 1 11 k ∧ 16 * jv_u S.2 18 k 1 17 k ≤ jv_u S.2 18 k 1 15 k ∧ jv_u S.2 18 k 1 16 k ≤ Z + 264
              rw [jv_u_self, vk_ux (by omega), vk_ux (by omega), vk_ux (by omega), vk_ux (by omega)]
              omega)
            exact ⟨_, _, _, fun n sl => vr_f_take hW hS ((vk_ux (by omega)).trans (jv_u_self _ _ _ _)), jv_u_self _ _ _ _, (fun r z => by rw [← Option.some.inj z]), d0 0 (fun i => (vk_ux (by omega)).trans (oc 0 i)), vr_all_th ring 0, lh (vr_ff_th (vc_ff_trans (vr_ff_code 0) (vc_ff_u (by unfold vr_Em; omega))) 0)⟩
          · have h1' : ¬ vm_J (vh_X S k) < (1 : Int64) := fun y => bad (Or.inl (c1.mp y))
            have h2' : ¬ (256 : Int64) < vm_J (vh_X S k) := fun y => bad (Or.inr (Or.inl (c2.mp y)))
            have h3' := (c3 (by omega)).mpr (by omega)
            by_cases hd : 0 ≤ z.toInt ∧ z.toInt + vh_X S k ≤ 512
            · have e : vh_tk S D k z.toInt = some (vl_I (vh_X S k), (S.1, jv_u S.2 16 k (S.2 16 k + (8 + vm_fill (vh_X S k)))), vh_put D z.toInt.toNat (vh_X S k) (fun j => vh_B S k (8 + j))) := (if_neg nb).trans ((if_neg he).trans ((if_neg bad).trans (if_pos hd)))
              obtain ⟨ez, az⟩ := vh_y hd
              obtain ⟨J, eJ, hJ, fJ, oJ, J0⟩ := vr_code2 hA
              obtain ⟨I1, eI⟩ : ∃ I1, I1 = vm_wr J 181 z.toInt.toNat (vh_X S k) (fun j => vl_sb (vh_B S k (8 + j))) := ⟨_, rfl⟩
              obtain ⟨L1, eL⟩ : ∃ L1, L1 = jv_u L 193 k (vm_J (S.2 16 k + (8 + vm_fill (vh_X S k)))) := ⟨_, rfl⟩
              have oI : ∀ q i, q ≠ 181 → I1 q i = J q i := fun q i w => by rw [eI]; exact vm_wr_o (fun y => w y.1)
              have hmJ : vr_mk J k (S.2 8 k) (S.2 9 k) (S.2 10 k) (S.2 11 k) (S.2 12 k) (vm_fe S k) (vm_fk S k) := vr_mk_ext hmk (fun q i a b => oJ q i (by omega))
              have hm1 : vr_mk I1 k (S.2 8 k) (S.2 9 k) (S.2 10 k) (S.2 11 k) (S.2 12 k) (vm_fe S k) (vm_fk S k) := vr_mk_ext hmJ (fun q i a b => oI q i (by omega))
              have eW : vm_wr J 181 z.toInt.toNat (vh_X S k) (fun j => J 182 (S.2 12 k + (S.2 16 k + 8 + j) % S.2 11 k)) = I1 := by
                rw [eI]
                exact vm_wr_e (fun j _ => by rw [oJ 182 _ (by decide), show S.2 16 k + 8 + j = S.2 16 k + (8 + j) by omega]; exact (bt (8 + j)).1)
              have eT : vm_J (S.2 16 k) + ((8 : Int32) + vl_I (vm_fill (vh_X S k))).toInt64 = vm_J (S.2 16 k + (8 + vm_fill (vh_X S k))) := by
                rw [show (8 : Int32) + vl_I (vm_fill (vh_X S k)) = vl_I (8 + vm_fill (vh_X S k)) from vl_I_add 8 _]; exact vm_J_nx (by omega)
              have hS : ∀ n sl, jv_Ms 347 [.ref 180, .int (vl_I k), .int z] (jv_H K I L R) n sl (some (.int (vl_I (vh_X S k))), jv_H K I1 L1 R, n, sl) := fun n sl => by
                have fin := vr_take_x (n := n) (sl := sl) (a := z.toInt.toNat) (w := vh_X S k) (s3 := vm_J (vh_X S k)) (I := I1) (L := L) (Q := fun X => X = (some (.int (vl_I (vh_X S k))), jv_H K I1 L1 R, n, sl)) hW hm1 (by omega) e16 (by rw [eT, eL])
                have lp := vr_take_l (n := n) (sl := sl) (I := J) (L := L) (a := z.toInt.toNat) (w := vh_X S k) (Tl := S.2 16 k) (s3 := vm_J (vh_X S k)) (Q := fun X => X = (some (.int (vl_I (vh_X S k))), jv_H K I1 L1 R, n, sl)) hW hD (hW.1 (181, 101, 512) (by decide)) hmJ (by omega) end_ (by omega) az e16 rfl (by omega) (by decide) (fun i hi => by
                  have y := hJ.1.2.2.2.2.2.2.1 i hi
                  rw [y.1]; exact vl_sb_sb y.2) (by rw [eW]; exact fin) (vh_X S k) 0 (Nat.zero_add _)
                rw [vm_wr_0] at lp
                rw [← ez] at lp
                obtain ⟨X, kk, eX⟩ := vr_take_0 (n := n) (sl := sl) (Q := fun X => X = (some (.int (vl_I (vh_X S k))), jv_H K I1 L1 R, n, sl)) hW hmk hNM h2 e15 e16 e18 cb0 nJ hNR (by omega) h1' h2' h3' hd (by rw [← eJ]; exact lp)
                subst eX
                exact kk
              have oS : ∀ c i, ¬ ((c = 16 ∨ c = 18) ∧ i = k) → jv_u S.2 16 k (S.2 16 k + (8 + vm_fill (vh_X S k))) c i = S.2 c i := fun c i w => vk_ux (by omega)
              have hJ1 : vr_all Z I1 L S := vr_all_d hJ oI
              have ring := vr_all_ring (I1 := I1) (L1 := L1) (T := (S.1, jv_u S.2 16 k (S.2 16 k + (8 + vm_fill (vh_X S k))))) hJ1 hk h2 zl oS rfl (fun _ _ _ => rfl) (fun q i w => by rw [eL]; exact vk_ux w) (by show _ = vm_J (jv_u S.2 16 k (S.2 16 k + (8 + vm_fill (vh_X S k))) 16 k); rw [eL, jv_u_self, jv_u_self]) (by show _ = vl_I (jv_u S.2 16 k (S.2 16 k + (8 + vm_fill (vh_X S k))) 18 k); rw [vk_ux (by omega), oI 195 _ (by decide), oJ 195 _ (by decide)]; exact e18) (by
                show jv_u S.2 16 k (S.2 16 k + (8 + vm_fill (vh_X S k))) 18 k ≤ 1 ∧ jv_u S.2 16 k (S.2 16 k + (8 + vm_fill (vh_X S k))) 16 k ≤ jv_u S.2 16 k (S.2 16 k + (8 + vm_fill (vh_X S k))) 15 k ∧ jv_u S.2 16 k (S.2 16 k + (8 + vm_fill (vh_X S k))) 15 k ≤ jv_u S.2 16 k (S.2 16 k + (8 + vm_fill (vh_X S k))) 16 k + jv_u S.2 16 k (S.2 16 k + (8 + vm_fill (vh_X S k))) 11 k ∧ 16 * jv_u S.2 16 k (S.2 16 k + (8 + vm_fill (vh_X S k))) 17 k ≤ jv_u S.2 16 k (S.2 16 k + (8 + vm_fill (vh_X S k))) 15 k ∧ jv_u S.2 16 k (S.2 16 k + (8 + vm_fill (vh_X S k))) 16 k ≤ Z + 264
                rw [jv_u_self, vk_ux (by omega), vk_ux (by omega), vk_ux (by omega), vk_ux (by omega)]
                omega)
              have bI : vk_by I1 181 0 512 (vh_put D z.toInt.toNat (vh_X S k) (fun j => vh_B S k (8 + j))) := by
                rw [eI]
                exact vh_put_by (fun j hj => by rw [oJ 181 _ (by decide)]; exact hdk j hj) (fun j _ => (bt (8 + j)).2)
              rw [e]
              refine ⟨_, _, _, fun n sl => vr_f_take hW hS ((oI 180 0 (by decide)).trans J0), jv_u_self _ _ _ _, (fun r z => by rw [← Option.some.inj z]), fun j hj => by rw [jv_u_o _ _ _ _ (show 181 ≠ 178 by decide)]; exact bI j hj, vr_all_th ring 0, ⟨fun q i w => ?_, fun q i w => ?_⟩⟩
              · unfold vr_Ehd vr_Eh at w
                rw [vk_ux (by omega), oI q i (by omega)]
                exact fJ.1 q i (fun y => w (Or.inl (Or.inl y)))
              · rw [eL]
                exact vk_ux (fun y => w (by unfold vr_Ehd vr_Eh vr_Em; omega))
            · have e : vh_tk S D k z.toInt = none := (if_neg nb).trans ((if_neg he).trans ((if_neg bad).trans (if_neg hd)))
              rw [e]
              exact ⟨_, _, _, fun n sl => vr_f_take hW (fun n sl => vr_take_d hW hmk hNM h2 e15 e16 e18 cb0 nJ hNR (by omega) h1' h2' h3' hd) (jv_u_self _ _ _ _), jv_u_self _ _ _ _, (fun r z => by cases z), d0 1 (fun i => (jv_u_o _ _ _ _ (by decide)).trans (oc 0 i)), vr_all_le zl (vr_all_th (vr_all_code (vr_all_code hA 0) 1) 1), lh (vr_ff_th (vc_ff_trans (vr_ff_code 0) (vr_ff_code 1)) 1)⟩
    · have k3 : S.2 8 k < 3 := by
        rcases hA.2.2.1.2.1 k hk with y | y <;> omega
      exact same (fun n sl => vr_take_r hW hmk hNM h2 k3) (if_pos (Or.inl h2))
end
