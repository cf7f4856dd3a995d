/-! part c21: what a register reaches (gen/tc20.py) -/
def vr_re (M : vf_M) (A : vt_A) (t : vt_T) (o : Int) (z : Nat) (w : Bool) : Nat := if t.sort = 0 then 1 else vx_reach M A t o z w
theorem vi_remz {z : Nat} (hz : z = 1 ∨ z = 2 ∨ z = 4 ∨ z = 8) {a : Int64} (h : -1099511627776 ≤ a.toInt ∧ a.toInt ≤ 1099511627776) : (a - a / (vl_I z).toInt64 * (vl_I z).toInt64 = 0) ↔ a.toInt % (z : Int) = 0 := by
  have ez : ((vl_I z).toInt64).toInt = (z : Int) := (Int32.toInt_toInt64 _).trans (vl_I_int (by omega))
  have td : a.toInt.tdiv (z : Int) = if 0 ≤ a.toInt then a.toInt / (z : Int) else -((-a.toInt) / (z : Int)) := by
    by_cases c : 0 ≤ a.toInt
    · rw [if_pos c, Int.tdiv_eq_ediv_of_nonneg c]
    · rw [if_neg c, ← Int.tdiv_eq_ediv_of_nonneg (show 0 ≤ -a.toInt by omega), Int.neg_tdiv, Int.neg_neg]
  have e1 : (a / (vl_I z).toInt64).toInt = a.toInt.tdiv (z : Int) := by
    rw [Int64.toInt_div, ez]
    refine vi_bm ?_ ?_
    · rw [td]; split <;> rcases hz with e | e | e | e <;> subst e <;> omega
    · rw [td]; split <;> rcases hz with e | e | e | e <;> subst e <;> omega
  have e2 : (a / (vl_I z).toInt64 * (vl_I z).toInt64).toInt = a.toInt.tdiv (z : Int) * (z : Int) := by
    rw [Int64.toInt_mul, e1, ez]
    refine vi_bm ?_ ?_
    · rw [td]; split <;> rcases hz with e | e | e | e <;> subst e <;> omega
    · rw [td]; split <;> rcases hz with e | e | e | e <;> subst e <;> omega
  have e3 : (a - a / (vl_I z).toInt64 * (vl_I z).toInt64).toInt = a.toInt - a.toInt.tdiv (z : Int) * (z : Int) := by
    rw [Int64.toInt_sub, e2]
    refine vi_bm ?_ ?_
    · rw [td]; split <;> rcases hz with e | e | e | e <;> subst e <;> omega
    · rw [td]; split <;> rcases hz with e | e | e | e <;> subst e <;> omega
  rw [← Int64.toInt_inj, e3, td, show (0 : Int64).toInt = 0 from rfl]
  split <;> rcases hz with e | e | e | e <;> subst e <;> omega
theorem vi_ifc {p q : Prop} [Decidable p] [Decidable q] {x y : Nat} (h : p ↔ q) : (if p then x else y) = if q then x else y := by
  by_cases c : p
  · rw [if_pos c, if_pos (h.mp c)]
  · rw [if_neg c, if_neg (fun z => c (h.mpr z))]
theorem vx_r2w {M : vf_M} {A : vt_A} {t : vt_T} {o : Int} {z : Nat} {w : Bool} (h : t.sort = 2) (hz : z = 1 ∨ z = 2 ∨ z = 4 ∨ z = 8) : vx_reach M A t o z w = if 0 ≤ t.det + o ∧ t.det + o ≤ 64 - (z : Int) ∧ (t.det + o) % (z : Int) = 0 ∧ (w = true → 32 ≤ t.det + o) ∧ (w = false → 16 ≤ t.det + o ∨ (z = 8 ∧ (t.det + o = 0 ∨ t.det + o = 8))) then 0 else 4 := by
  rw [vx_r2 h]
  generalize t.det + o = a
  cases w with
  | false =>
    rcases hz with e | e | e | e <;> subst e
    · rw [show (if (false = true) then (32 : Int) else if (1 : Nat) = 8 then 0 else 16) = 16 from rfl]
      exact vi_ifc ⟨fun z => ⟨by omega, z.2.1, z.2.2, fun y => absurd y (by decide), fun _ => by omega⟩, fun z => ⟨by have := z.2.2.2.2 rfl; omega, z.2.1, z.2.2.1⟩⟩
    · rw [show (if (false = true) then (32 : Int) else if (2 : Nat) = 8 then 0 else 16) = 16 from rfl]
      exact vi_ifc ⟨fun z => ⟨by omega, z.2.1, z.2.2, fun y => absurd y (by decide), fun _ => by omega⟩, fun z => ⟨by have := z.2.2.2.2 rfl; omega, z.2.1, z.2.2.1⟩⟩
    · rw [show (if (false = true) then (32 : Int) else if (4 : Nat) = 8 then 0 else 16) = 16 from rfl]
      exact vi_ifc ⟨fun z => ⟨by omega, z.2.1, z.2.2, fun y => absurd y (by decide), fun _ => by omega⟩, fun z => ⟨by have := z.2.2.2.2 rfl; omega, z.2.1, z.2.2.1⟩⟩
    · rw [show (if (false = true) then (32 : Int) else if (8 : Nat) = 8 then 0 else 16) = 0 from rfl]
      exact vi_ifc ⟨fun z => ⟨by omega, z.2.1, z.2.2, fun y => absurd y (by decide), fun _ => by omega⟩, fun z => ⟨by have := z.2.2.2.2 rfl; omega, z.2.1, z.2.2.1⟩⟩
  | true => exact vi_ifc ⟨fun z => ⟨by have : (32 : Int) ≤ a := z.1; omega, z.2.1, z.2.2, fun _ => z.1, fun y => absurd y (by decide)⟩, fun z => ⟨z.2.2.2.1 rfl, z.2.1, z.2.2.1⟩⟩
theorem jv_i290 : jv_I 290 9 (some .int) 2 49 jv_c290 := ⟨rfl, rfl, rfl, rfl, rfl⟩
theorem vq_reach_ {K : Nat → Option (Nat × Nat)} {I : Nat → Nat → Int32} {L : Nat → Nat → Int64} {R : Nat → Nat → Value} (M : vf_M) (f : vf_F) (k kd z : Nat) (w : Bool) (hW : jv_rW K R) (hM : vr_M I M) (D : vr_dec I f) (ok : vr_ok I (76800 + k) k) (hk : k < 11) (hz : z = 1 ∨ z = 2 ∨ z = 4 ∨ z = 8) (k8 : kd < 8) (hkd : I 205 (76800 + k) = 6 ∨ I 205 (76800 + k) = 7 → I 206 (76800 + k) = vl_I kd) {n sl : Nat} : ∃ I1 L1, jv_Ms 290 [.ref 196, .int (vl_I k), .int (vl_I z), .int (vr_b w)] (jv_H K I L R) n sl (some (.int (vl_I (vr_re M (vr_A I L 1024) (vr_T I L (76800 + k)) f.o z w))), jv_H K I1 L1 R, n, sl) ∧ I1 = I ∧ L1 = L := by
  obtain ⟨Q, hQ⟩ : ∃ Q : jv_R → Prop, Q = fun X => ∃ I1 L1, X = (some (.int (vl_I (vr_re M (vr_A I L 1024) (vr_T I L (76800 + k)) f.o z w))), jv_H K I1 L1 R, n, sl) ∧ I1 = I ∧ L1 = L := ⟨_, rfl⟩
  suffices h : jv_Wp 290 0 [(0, .ref 196), (1, .int (vl_I k)), (2, .int (vl_I z)), (3, .int (vr_b w))] [] (jv_H K I L R) n sl Q by
    rw [hQ] at h
    obtain ⟨X, h, I1, L1, e, h'⟩ := h
    subst e
    exact ⟨I1, L1, h, h'⟩
  have g6 := (hM kd k8).2.2.2.2.2
  have hz0 : ¬ (vl_I z).toInt64 = 0 := by rcases hz with e | e | e | e <;> subst e <;> decide
  have d1 := Int32.toInt_lt (I 206 (76800 + k))
  have d2 := Int32.le_toInt (I 206 (76800 + k))
  have o1 := Int32.toInt_lt (Int32.ofInt f.o)
  have o2 := Int32.le_toInt (Int32.ofInt f.o)
  rw [vr_dO D] at o1 o2
  refine jv_Wp.lift (fun _ Kz => jv_Ev.steps jv_i290 2 (pc' := 2) (l' := [(0, .ref 196), (1, .int (vl_I k)), (2, .int (vl_I z)), (3, .int (vr_b w))]) (st' := [.int (vl_I k), .ref 196]) rfl Kz) ?_
  refine jv_Wp.lift (fun _ Kz => jv_Ev.c jv_i290 (pc' := 5) (S' := [.int (I 205 (76800 + k))]) jv_i271 [.ref 196, .int (vl_I k)] rfl rfl rfl rfl (jv_cal rfl (jv_H_at (jv_rwK hW 196 12 24 (by decide))) rfl rfl) rfl (vq_sortOf k hW (by omega)) rfl rfl Kz) ?_
  refine jv_Wp.lift (fun _ Kz => jv_Ev.steps jv_i290 2 (pc' := 8) (l' := [(4, .int (I 205 (76800 + k))), (0, .ref 196), (1, .int (vl_I k)), (2, .int (vl_I z)), (3, .int (vr_b w))]) (st' := [.ref 196]) rfl Kz) ?_
  refine jv_Wp.lift (fun _ Kz => jv_Ev.m jv_i290 (pc' := 11) (st' := [.ref 206]) (G' := (jv_H K I L R)) rfl rfl (jv_m_getR (jv_rwK hW 196 12 24 (by decide)) rfl rfl (jv_rwR hW 196 14 206 (by decide))) Kz) ?_
  refine jv_Wp.lift (fun _ Kz => jv_Ev.steps jv_i290 2 (pc' := 15) (l' := [(4, .int (I 205 (76800 + k))), (0, .ref 196), (1, .int (vl_I k)), (2, .int (vl_I z)), (3, .int (vr_b w))]) (st' := [.int (vl_I k), .int (1024 : Int32), .ref 206]) rfl Kz) ?_
  refine jv_Wp.lift (fun _ Kz => jv_Ev.c jv_i290 (pc' := 18) (S' := [.int (vl_I (76800 + k)), .ref 206]) jv_i253 [.int (1024 : Int32), .int (vl_I k)] rfl rfl rfl rfl rfl rfl (vq_thing 1024 k) rfl rfl Kz) ?_
  refine jv_Wp.lift (fun _ Kz => jv_Ev.m jv_i290 (pc' := 19) (st' := [.int (I 206 (76800 + k))]) (G' := (jv_H K I L R)) rfl rfl (jv_m_ialdv (jv_rwK hW 206 102 77100 (by decide)) rfl (vl_I_ix (by omega) (by decide)) rfl ((congrArg (I 206) (vl_I_nat (by omega))).trans rfl)) Kz) ?_
  refine jv_Wp.lift (fun _ Kz => jv_Ev.steps jv_i290 2 (pc' := 21) (l' := [(4, .int (I 205 (76800 + k))), (0, .ref 196), (1, .int (vl_I k)), (2, .int (vl_I z)), (3, .int (vr_b w))]) (st' := [.ref 196, .long (I 206 (76800 + k)).toInt64]) rfl Kz) ?_
  refine jv_Wp.lift (fun _ Kz => jv_Ev.m jv_i290 (pc' := 24) (st' := [.int (Int32.ofInt f.o), .long (I 206 (76800 + k)).toInt64]) (G' := (jv_H K I L R)) rfl rfl (jv_m_getI (jv_rwK hW 196 12 24 (by decide)) rfl rfl (vr_dI D)) Kz) ?_
  refine jv_Wp.lift (fun _ Kz => jv_Ev.steps jv_i290 4 (pc' := 30) (l' := [(5, .long ((I 206 (76800 + k)).toInt64 + (Int32.ofInt f.o).toInt64)), (4, .int (I 205 (76800 + k))), (0, .ref 196), (1, .int (vl_I k)), (2, .int (vl_I z)), (3, .int (vr_b w))]) (st' := [.int (I 205 (76800 + k))]) rfl Kz) ?_
  refine jv_Wp.bys (q := ((I 205 (76800 + k)) = Int32.ofInt 0)) (fun h1 => ?_) (fun h1 => ?_)
  · refine jv_Wp.lift (fun _ Kz => jv_Ev.br jv_i290 (pc' := 76) (st' := []) rfl (by rw [h1]; rfl) Kz) ?_
    refine jv_Wp.lift (fun _ Kz => jv_Ev.steps jv_i290 1 (pc' := 77) (l' := [(5, .long ((I 206 (76800 + k)).toInt64 + (Int32.ofInt f.o).toInt64)), (4, .int (I 205 (76800 + k))), (0, .ref 196), (1, .int (vl_I k)), (2, .int (vl_I z)), (3, .int (vr_b w))]) (st' := [.int (1 : Int32)]) rfl Kz) ?_
    refine jv_Wp.of (jv_Ev.ret jv_i290 rfl rfl) ?_
    rw [hQ]
    have ev : (1 : Int32) = vl_I (vr_re M (vr_A I L 1024) (vr_T I L (76800 + k)) f.o z w) := by
      have e : vr_re M (vr_A I L 1024) (vr_T I L (76800 + k)) f.o z w = 1 := by
        unfold vr_re; exact if_pos ((vr_isN ok hk).mpr h1)
      rw [e]; rfl
    exact ⟨_, _, by rw [ev], rfl, rfl⟩
  · refine jv_Wp.bys (q := ((I 205 (76800 + k)) = Int32.ofInt 2)) (fun h2 => ?_) (fun h2 => ?_)
    · refine jv_Wp.lift (fun _ Kz => jv_Ev.br jv_i290 (pc' := 112) (st' := []) rfl (by rw [h2]; rfl) Kz) ?_
      refine jv_Wp.lift (fun _ Kz => jv_Ev.steps jv_i290 3 (pc' := 116) (l' := [(5, .long ((I 206 (76800 + k)).toInt64 + (Int32.ofInt f.o).toInt64)), (4, .int (I 205 (76800 + k))), (0, .ref 196), (1, .int (vl_I k)), (2, .int (vl_I z)), (3, .int (vr_b w))]) (st' := [.int (lg_cmp ((I 206 (76800 + k)).toInt64 + (Int32.ofInt f.o).toInt64) (0 : Int64))]) rfl Kz) ?_
      refine jv_Wp.cnd jv_i290 (pt := 145) (pe := 119) (p := ((lg_cmp ((I 206 (76800 + k)).toInt64 + (Int32.ofInt f.o).toInt64) (0 : Int64)) < 0)) (q := (((I 206 (76800 + k)).toInt64 + (Int32.ofInt f.o).toInt64) < (0 : Int64))) rfl jv_bi_lt rfl rfl (lg_cmp_lt ((I 206 (76800 + k)).toInt64 + (Int32.ofInt f.o).toInt64) (0 : Int64)) (fun h3 => ?_) (fun h3 => ?_)
      · refine jv_Wp.lift (fun _ Kz => jv_Ev.steps jv_i290 4 (pc' := 151) (l' := [(7, .int (0 : Int32)), (5, .long ((I 206 (76800 + k)).toInt64 + (Int32.ofInt f.o).toInt64)), (4, .int (I 205 (76800 + k))), (0, .ref 196), (1, .int (vl_I k)), (2, .int (vl_I z)), (3, .int (vr_b w))]) (st' := [.int (8 : Int32), .int (vl_I z)]) rfl Kz) ?_
        refine jv_Wp.cnd jv_i290 (pt := 174) (pe := 154) (p := (¬ (vl_I z) = (8 : Int32))) (q := (¬ (vl_I z) = (8 : Int32))) rfl jv_bc_ne rfl rfl Iff.rfl (fun h4 => ?_) (fun h4 => ?_)
        · refine jv_Wp.lift (fun _ Kz => jv_Ev.steps jv_i290 3 (pc' := 179) (l' := [(8, .int (0 : Int32)), (7, .int (0 : Int32)), (5, .long ((I 206 (76800 + k)).toInt64 + (Int32.ofInt f.o).toInt64)), (4, .int (I 205 (76800 + k))), (0, .ref 196), (1, .int (vl_I k)), (2, .int (vl_I z)), (3, .int (vr_b w))]) (st' := [.int (0 : Int32)]) rfl Kz) ?_
          refine jv_Wp.lift (fun _ Kz => jv_Ev.br jv_i290 (pc' := 216) (st' := []) rfl (by rfl) Kz) ?_
          refine jv_Wp.lift (fun _ Kz => jv_Ev.steps jv_i290 1 (pc' := 217) (l' := [(8, .int (0 : Int32)), (7, .int (0 : Int32)), (5, .long ((I 206 (76800 + k)).toInt64 + (Int32.ofInt f.o).toInt64)), (4, .int (I 205 (76800 + k))), (0, .ref 196), (1, .int (vl_I k)), (2, .int (vl_I z)), (3, .int (vr_b w))]) (st' := [.int (4 : Int32)]) rfl Kz) ?_
          refine jv_Wp.of (jv_Ev.ret jv_i290 rfl rfl) ?_
          rw [hQ]
          have zs : (vr_T I L (76800 + k)).sort = 2 := ((vr_is (L := L) 2 (by decide) ok).mpr h2)
          have t0 : ¬ (vr_T I L (76800 + k)).sort = 0 := by omega
          have dt : (vr_T I L (76800 + k)).det = (I 206 (76800 + k)).toInt := rfl
          have ea : ((I 206 (76800 + k)).toInt64 + (Int32.ofInt f.o).toInt64).toInt = (I 206 (76800 + k)).toInt + f.o := by rw [vi_add (by rw [Int32.toInt_toInt64]; omega), Int32.toInt_toInt64, vr_dO D]
          have ez : ((vl_I z).toInt64).toInt = (z : Int) := (Int32.toInt_toInt64 _).trans (vl_I_int (by omega))
          have en : ((-(vl_I z)).toInt64).toInt = -(z : Int) := by rw [Int32.toInt_toInt64, Int32.toInt_neg, show (vl_I z).toInt = (z : Int) from vl_I_int (by omega)]; exact vi_bm32 (by omega) (by omega)
          have e64 : ((64 : Int64) - (vl_I z).toInt64).toInt = 64 - (z : Int) := by rw [Int64.toInt_sub, ez]; exact vi_bm (by show -9223372036854775808 ≤ 64 - (z : Int); omega) (by show 64 - (z : Int) < 9223372036854775808; omega)
          have l0 : (0 : Int64).toInt = 0 := rfl
          have y1 : ¬ (vl_I z).toInt64.toInt = (0 : Int64).toInt := fun z => hz0 (Int64.toInt_inj.mp z)
          have y2 : ((I 206 (76800 + k)).toInt64 + (Int32.ofInt f.o).toInt64).toInt < (0 : Int64).toInt := Int64.lt_iff_toInt_lt.mp h3
          have z8 : ¬ z = 8 := fun y => h4 (by rw [y]; rfl)
          have ev : (4 : Int32) = vl_I (vr_re M (vr_A I L 1024) (vr_T I L (76800 + k)) f.o z w) := by
            have e : vr_re M (vr_A I L 1024) (vr_T I L (76800 + k)) f.o z w = 4 := by
              unfold vr_re; rw [if_neg t0, vx_r2w zs hz, dt]
              exact if_neg (fun y => by omega)
            rw [e]; rfl
          exact ⟨_, _, by rw [ev], rfl, rfl⟩
        · refine jv_Wp.lift (fun _ Kz => jv_Ev.steps jv_i290 3 (pc' := 158) (l' := [(7, .int (0 : Int32)), (5, .long ((I 206 (76800 + k)).toInt64 + (Int32.ofInt f.o).toInt64)), (4, .int (I 205 (76800 + k))), (0, .ref 196), (1, .int (vl_I k)), (2, .int (vl_I z)), (3, .int (vr_b w))]) (st' := [.int (lg_cmp ((I 206 (76800 + k)).toInt64 + (Int32.ofInt f.o).toInt64) (0 : Int64))]) rfl Kz) ?_
          refine jv_Wp.cnd jv_i290 (pt := 170) (pe := 161) (p := ((lg_cmp ((I 206 (76800 + k)).toInt64 + (Int32.ofInt f.o).toInt64) (0 : Int64)) = 0)) (q := (((I 206 (76800 + k)).toInt64 + (Int32.ofInt f.o).toInt64) = (0 : Int64))) rfl jv_bi_eq rfl rfl (lg_cmp_eq ((I 206 (76800 + k)).toInt64 + (Int32.ofInt f.o).toInt64) (0 : Int64)) (fun h5 => ?_) (fun h5 => ?_)
          · refine jv_Wp.lift (fun _ Kz => jv_Ev.steps jv_i290 4 (pc' := 179) (l' := [(8, .int (1 : Int32)), (7, .int (0 : Int32)), (5, .long ((I 206 (76800 + k)).toInt64 + (Int32.ofInt f.o).toInt64)), (4, .int (I 205 (76800 + k))), (0, .ref 196), (1, .int (vl_I k)), (2, .int (vl_I z)), (3, .int (vr_b w))]) (st' := [.int (0 : Int32)]) rfl Kz) ?_
            refine jv_Wp.lift (fun _ Kz => jv_Ev.br jv_i290 (pc' := 216) (st' := []) rfl (by rfl) Kz) ?_
            refine jv_Wp.lift (fun _ Kz => jv_Ev.steps jv_i290 1 (pc' := 217) (l' := [(8, .int (1 : Int32)), (7, .int (0 : Int32)), (5, .long ((I 206 (76800 + k)).toInt64 + (Int32.ofInt f.o).toInt64)), (4, .int (I 205 (76800 + k))), (0, .ref 196), (1, .int (vl_I k)), (2, .int (vl_I z)), (3, .int (vr_b w))]) (st' := [.int (4 : Int32)]) rfl Kz) ?_
            refine jv_Wp.of (jv_Ev.ret jv_i290 rfl rfl) ?_
            rw [hQ]
            have zs : (vr_T I L (76800 + k)).sort = 2 := ((vr_is (L := L) 2 (by decide) ok).mpr h2)
            have t0 : ¬ (vr_T I L (76800 + k)).sort = 0 := by omega
            have dt : (vr_T I L (76800 + k)).det = (I 206 (76800 + k)).toInt := rfl
            have ea : ((I 206 (76800 + k)).toInt64 + (Int32.ofInt f.o).toInt64).toInt = (I 206 (76800 + k)).toInt + f.o := by rw [vi_add (by rw [Int32.toInt_toInt64]; omega), Int32.toInt_toInt64, vr_dO D]
            have ez : ((vl_I z).toInt64).toInt = (z : Int) := (Int32.toInt_toInt64 _).trans (vl_I_int (by omega))
            have en : ((-(vl_I z)).toInt64).toInt = -(z : Int) := by rw [Int32.toInt_toInt64, Int32.toInt_neg, show (vl_I z).toInt = (z : Int) from vl_I_int (by omega)]; exact vi_bm32 (by omega) (by omega)
            have e64 : ((64 : Int64) - (vl_I z).toInt64).toInt = 64 - (z : Int) := by rw [Int64.toInt_sub, ez]; exact vi_bm (by show -9223372036854775808 ≤ 64 - (z : Int); omega) (by show 64 - (z : Int) < 9223372036854775808; omega)
            have l0 : (0 : Int64).toInt = 0 := rfl
            have y1 : ¬ (vl_I z).toInt64.toInt = (0 : Int64).toInt := fun z => hz0 (Int64.toInt_inj.mp z)
            have y2 : ((I 206 (76800 + k)).toInt64 + (Int32.ofInt f.o).toInt64).toInt < (0 : Int64).toInt := Int64.lt_iff_toInt_lt.mp h3
            have y3 : ((I 206 (76800 + k)).toInt64 + (Int32.ofInt f.o).toInt64).toInt = (0 : Int64).toInt := congrArg Int64.toInt h5
            have z8 : z = 8 := (vl_I_inj (b := 8) (by omega) (by decide)).mp (Classical.not_not.mp h4)
            have ev : (4 : Int32) = vl_I (vr_re M (vr_A I L 1024) (vr_T I L (76800 + k)) f.o z w) := by
              have e : vr_re M (vr_A I L 1024) (vr_T I L (76800 + k)) f.o z w = 4 := by
                unfold vr_re; rw [if_neg t0, vx_r2w zs hz, dt]
                exact if_neg (fun y => by omega)
              rw [e]; rfl
            exact ⟨_, _, by rw [ev], rfl, rfl⟩
          · refine jv_Wp.lift (fun _ Kz => jv_Ev.steps jv_i290 3 (pc' := 167) (l' := [(7, .int (0 : Int32)), (5, .long ((I 206 (76800 + k)).toInt64 + (Int32.ofInt f.o).toInt64)), (4, .int (I 205 (76800 + k))), (0, .ref 196), (1, .int (vl_I k)), (2, .int (vl_I z)), (3, .int (vr_b w))]) (st' := [.int (lg_cmp ((I 206 (76800 + k)).toInt64 + (Int32.ofInt f.o).toInt64) (8 : Int64))]) rfl Kz) ?_
            refine jv_Wp.cnd jv_i290 (pt := 174) (pe := 170) (p := (¬ (lg_cmp ((I 206 (76800 + k)).toInt64 + (Int32.ofInt f.o).toInt64) (8 : Int64)) = 0)) (q := (¬ ((I 206 (76800 + k)).toInt64 + (Int32.ofInt f.o).toInt64) = (8 : Int64))) rfl jv_bi_ne rfl rfl (not_congr (lg_cmp_eq ((I 206 (76800 + k)).toInt64 + (Int32.ofInt f.o).toInt64) (8 : Int64))) (fun h6 => ?_) (fun h6 => ?_)
            · refine jv_Wp.lift (fun _ Kz => jv_Ev.steps jv_i290 3 (pc' := 179) (l' := [(8, .int (0 : Int32)), (7, .int (0 : Int32)), (5, .long ((I 206 (76800 + k)).toInt64 + (Int32.ofInt f.o).toInt64)), (4, .int (I 205 (76800 + k))), (0, .ref 196), (1, .int (vl_I k)), (2, .int (vl_I z)), (3, .int (vr_b w))]) (st' := [.int (0 : Int32)]) rfl Kz) ?_
              refine jv_Wp.lift (fun _ Kz => jv_Ev.br jv_i290 (pc' := 216) (st' := []) rfl (by rfl) Kz) ?_
              refine jv_Wp.lift (fun _ Kz => jv_Ev.steps jv_i290 1 (pc' := 217) (l' := [(8, .int (0 : Int32)), (7, .int (0 : Int32)), (5, .long ((I 206 (76800 + k)).toInt64 + (Int32.ofInt f.o).toInt64)), (4, .int (I 205 (76800 + k))), (0, .ref 196), (1, .int (vl_I k)), (2, .int (vl_I z)), (3, .int (vr_b w))]) (st' := [.int (4 : Int32)]) rfl Kz) ?_
              refine jv_Wp.of (jv_Ev.ret jv_i290 rfl rfl) ?_
              rw [hQ]
              have zs : (vr_T I L (76800 + k)).sort = 2 := ((vr_is (L := L) 2 (by decide) ok).mpr h2)
              have t0 : ¬ (vr_T I L (76800 + k)).sort = 0 := by omega
              have dt : (vr_T I L (76800 + k)).det = (I 206 (76800 + k)).toInt := rfl
              have ea : ((I 206 (76800 + k)).toInt64 + (Int32.ofInt f.o).toInt64).toInt = (I 206 (76800 + k)).toInt + f.o := by rw [vi_add (by rw [Int32.toInt_toInt64]; omega), Int32.toInt_toInt64, vr_dO D]
              have ez : ((vl_I z).toInt64).toInt = (z : Int) := (Int32.toInt_toInt64 _).trans (vl_I_int (by omega))
              have en : ((-(vl_I z)).toInt64).toInt = -(z : Int) := by rw [Int32.toInt_toInt64, Int32.toInt_neg, show (vl_I z).toInt = (z : Int) from vl_I_int (by omega)]; exact vi_bm32 (by omega) (by omega)
              have e64 : ((64 : Int64) - (vl_I z).toInt64).toInt = 64 - (z : Int) := by rw [Int64.toInt_sub, ez]; exact vi_bm (by show -9223372036854775808 ≤ 64 - (z : Int); omega) (by show 64 - (z : Int) < 9223372036854775808; omega)
              have l0 : (0 : Int64).toInt = 0 := rfl
              have l8 : (8 : Int64).toInt = 8 := rfl
              have y1 : ¬ (vl_I z).toInt64.toInt = (0 : Int64).toInt := fun z => hz0 (Int64.toInt_inj.mp z)
              have y2 : ((I 206 (76800 + k)).toInt64 + (Int32.ofInt f.o).toInt64).toInt < (0 : Int64).toInt := Int64.lt_iff_toInt_lt.mp h3
              have y3 : ¬ ((I 206 (76800 + k)).toInt64 + (Int32.ofInt f.o).toInt64).toInt = (0 : Int64).toInt := fun z => h5 (Int64.toInt_inj.mp z)
              have y4 : ¬ ((I 206 (76800 + k)).toInt64 + (Int32.ofInt f.o).toInt64).toInt = (8 : Int64).toInt := fun z => h6 (Int64.toInt_inj.mp z)
              have z8 : z = 8 := (vl_I_inj (b := 8) (by omega) (by decide)).mp (Classical.not_not.mp h4)
              have ev : (4 : Int32) = vl_I (vr_re M (vr_A I L 1024) (vr_T I L (76800 + k)) f.o z w) := by
                have e : vr_re M (vr_A I L 1024) (vr_T I L (76800 + k)) f.o z w = 4 := by
                  unfold vr_re; rw [if_neg t0, vx_r2w zs hz, dt]
                  exact if_neg (fun y => by omega)
                rw [e]; rfl
              exact ⟨_, _, by rw [ev], rfl, rfl⟩
            · refine jv_Wp.lift (fun _ Kz => jv_Ev.steps jv_i290 4 (pc' := 179) (l' := [(8, .int (1 : Int32)), (7, .int (0 : Int32)), (5, .long ((I 206 (76800 + k)).toInt64 + (Int32.ofInt f.o).toInt64)), (4, .int (I 205 (76800 + k))), (0, .ref 196), (1, .int (vl_I k)), (2, .int (vl_I z)), (3, .int (vr_b w))]) (st' := [.int (0 : Int32)]) rfl Kz) ?_
              refine jv_Wp.lift (fun _ Kz => jv_Ev.br jv_i290 (pc' := 216) (st' := []) rfl (by rfl) Kz) ?_
              refine jv_Wp.lift (fun _ Kz => jv_Ev.steps jv_i290 1 (pc' := 217) (l' := [(8, .int (1 : Int32)), (7, .int (0 : Int32)), (5, .long ((I 206 (76800 + k)).toInt64 + (Int32.ofInt f.o).toInt64)), (4, .int (I 205 (76800 + k))), (0, .ref 196), (1, .int (vl_I k)), (2, .int (vl_I z)), (3, .int (vr_b w))]) (st' := [.int (4 : Int32)]) rfl Kz) ?_
              refine jv_Wp.of (jv_Ev.ret jv_i290 rfl rfl) ?_
              rw [hQ]
              have zs : (vr_T I L (76800 + k)).sort = 2 := ((vr_is (L := L) 2 (by decide) ok).mpr h2)
              have t0 : ¬ (vr_T I L (76800 + k)).sort = 0 := by omega
              have dt : (vr_T I L (76800 + k)).det = (I 206 (76800 + k)).toInt := rfl
              have ea : ((I 206 (76800 + k)).toInt64 + (Int32.ofInt f.o).toInt64).toInt = (I 206 (76800 + k)).toInt + f.o := by rw [vi_add (by rw [Int32.toInt_toInt64]; omega), Int32.toInt_toInt64, vr_dO D]
              have ez : ((vl_I z).toInt64).toInt = (z : Int) := (Int32.toInt_toInt64 _).trans (vl_I_int (by omega))
              have en : ((-(vl_I z)).toInt64).toInt = -(z : Int) := by rw [Int32.toInt_toInt64, Int32.toInt_neg, show (vl_I z).toInt = (z : Int) from vl_I_int (by omega)]; exact vi_bm32 (by omega) (by omega)
              have e64 : ((64 : Int64) - (vl_I z).toInt64).toInt = 64 - (z : Int) := by rw [Int64.toInt_sub, ez]; exact vi_bm (by show -9223372036854775808 ≤ 64 - (z : Int); omega) (by show 64 - (z : Int) < 9223372036854775808; omega)
              have l0 : (0 : Int64).toInt = 0 := rfl
              have l8 : (8 : Int64).toInt = 8 := rfl
              have y1 : ¬ (vl_I z).toInt64.toInt = (0 : Int64).toInt := fun z => hz0 (Int64.toInt_inj.mp z)
              have y2 : ((I 206 (76800 + k)).toInt64 + (Int32.ofInt f.o).toInt64).toInt < (0 : Int64).toInt := Int64.lt_iff_toInt_lt.mp h3
              have y3 : ¬ ((I 206 (76800 + k)).toInt64 + (Int32.ofInt f.o).toInt64).toInt = (0 : Int64).toInt := fun z => h5 (Int64.toInt_inj.mp z)
              have y4 : ((I 206 (76800 + k)).toInt64 + (Int32.ofInt f.o).toInt64).toInt = (8 : Int64).toInt := congrArg Int64.toInt (Classical.not_not.mp h6)
              have z8 : z = 8 := (vl_I_inj (b := 8) (by omega) (by decide)).mp (Classical.not_not.mp h4)
              have ev : (4 : Int32) = vl_I (vr_re M (vr_A I L 1024) (vr_T I L (76800 + k)) f.o z w) := by
                have e : vr_re M (vr_A I L 1024) (vr_T I L (76800 + k)) f.o z w = 4 := by
                  unfold vr_re; rw [if_neg t0, vx_r2w zs hz, dt]
                  exact if_neg (fun y => by omega)
                rw [e]; rfl
              exact ⟨_, _, by rw [ev], rfl, rfl⟩
      · refine jv_Wp.lift (fun _ Kz => jv_Ev.steps jv_i290 6 (pc' := 128) (l' := [(5, .long ((I 206 (76800 + k)).toInt64 + (Int32.ofInt f.o).toInt64)), (4, .int (I 205 (76800 + k))), (0, .ref 196), (1, .int (vl_I k)), (2, .int (vl_I z)), (3, .int (vr_b w))]) (st' := [.int (lg_cmp ((I 206 (76800 + k)).toInt64 + (Int32.ofInt f.o).toInt64) ((64 : Int64) - (vl_I z).toInt64))]) rfl Kz) ?_
        refine jv_Wp.cnd jv_i290 (pt := 145) (pe := 131) (p := (0 < (lg_cmp ((I 206 (76800 + k)).toInt64 + (Int32.ofInt f.o).toInt64) ((64 : Int64) - (vl_I z).toInt64)))) (q := (((64 : Int64) - (vl_I z).toInt64) < ((I 206 (76800 + k)).toInt64 + (Int32.ofInt f.o).toInt64))) rfl jv_bi_gt rfl rfl (lg_cmp_gt ((I 206 (76800 + k)).toInt64 + (Int32.ofInt f.o).toInt64) ((64 : Int64) - (vl_I z).toInt64)) (fun h7 => ?_) (fun h7 => ?_)
        · refine jv_Wp.lift (fun _ Kz => jv_Ev.steps jv_i290 4 (pc' := 151) (l' := [(7, .int (0 : Int32)), (5, .long ((I 206 (76800 + k)).toInt64 + (Int32.ofInt f.o).toInt64)), (4, .int (I 205 (76800 + k))), (0, .ref 196), (1, .int (vl_I k)), (2, .int (vl_I z)), (3, .int (vr_b w))]) (st' := [.int (8 : Int32), .int (vl_I z)]) rfl Kz) ?_
          refine jv_Wp.cnd jv_i290 (pt := 174) (pe := 154) (p := (¬ (vl_I z) = (8 : Int32))) (q := (¬ (vl_I z) = (8 : Int32))) rfl jv_bc_ne rfl rfl Iff.rfl (fun h8 => ?_) (fun h8 => ?_)
          · refine jv_Wp.lift (fun _ Kz => jv_Ev.steps jv_i290 3 (pc' := 179) (l' := [(8, .int (0 : Int32)), (7, .int (0 : Int32)), (5, .long ((I 206 (76800 + k)).toInt64 + (Int32.ofInt f.o).toInt64)), (4, .int (I 205 (76800 + k))), (0, .ref 196), (1, .int (vl_I k)), (2, .int (vl_I z)), (3, .int (vr_b w))]) (st' := [.int (0 : Int32)]) rfl Kz) ?_
            refine jv_Wp.lift (fun _ Kz => jv_Ev.br jv_i290 (pc' := 216) (st' := []) rfl (by rfl) Kz) ?_
            refine jv_Wp.lift (fun _ Kz => jv_Ev.steps jv_i290 1 (pc' := 217) (l' := [(8, .int (0 : Int32)), (7, .int (0 : Int32)), (5, .long ((I 206 (76800 + k)).toInt64 + (Int32.ofInt f.o).toInt64)), (4, .int (I 205 (76800 + k))), (0, .ref 196), (1, .int (vl_I k)), (2, .int (vl_I z)), (3, .int (vr_b w))]) (st' := [.int (4 : Int32)]) rfl Kz) ?_
            refine jv_Wp.of (jv_Ev.ret jv_i290 rfl rfl) ?_
            rw [hQ]
            have zs : (vr_T I L (76800 + k)).sort = 2 := ((vr_is (L := L) 2 (by decide) ok).mpr h2)
            have t0 : ¬ (vr_T I L (76800 + k)).sort = 0 := by omega
            have dt : (vr_T I L (76800 + k)).det = (I 206 (76800 + k)).toInt := rfl
            have ea : ((I 206 (76800 + k)).toInt64 + (Int32.ofInt f.o).toInt64).toInt = (I 206 (76800 + k)).toInt + f.o := by rw [vi_add (by rw [Int32.toInt_toInt64]; omega), Int32.toInt_toInt64, vr_dO D]
            have ez : ((vl_I z).toInt64).toInt = (z : Int) := (Int32.toInt_toInt64 _).trans (vl_I_int (by omega))
            have en : ((-(vl_I z)).toInt64).toInt = -(z : Int) := by rw [Int32.toInt_toInt64, Int32.toInt_neg, show (vl_I z).toInt = (z : Int) from vl_I_int (by omega)]; exact vi_bm32 (by omega) (by omega)
            have e64 : ((64 : Int64) - (vl_I z).toInt64).toInt = 64 - (z : Int) := by rw [Int64.toInt_sub, ez]; exact vi_bm (by show -9223372036854775808 ≤ 64 - (z : Int); omega) (by show 64 - (z : Int) < 9223372036854775808; omega)
            have l0 : (0 : Int64).toInt = 0 := rfl
            have y1 : ¬ (vl_I z).toInt64.toInt = (0 : Int64).toInt := fun z => hz0 (Int64.toInt_inj.mp z)
            have y2 : ¬ ((I 206 (76800 + k)).toInt64 + (Int32.ofInt f.o).toInt64).toInt < (0 : Int64).toInt := fun z => h3 (Int64.lt_iff_toInt_lt.mpr z)
            have y3 : ((64 : Int64) - (vl_I z).toInt64).toInt < ((I 206 (76800 + k)).toInt64 + (Int32.ofInt f.o).toInt64).toInt := Int64.lt_iff_toInt_lt.mp h7
            have z8 : ¬ z = 8 := fun y => h8 (by rw [y]; rfl)
            have ev : (4 : Int32) = vl_I (vr_re M (vr_A I L 1024) (vr_T I L (76800 + k)) f.o z w) := by
              have e : vr_re M (vr_A I L 1024) (vr_T I L (76800 + k)) f.o z w = 4 := by
                unfold vr_re; rw [if_neg t0, vx_r2w zs hz, dt]
                exact if_neg (fun y => by omega)
              rw [e]; rfl
            exact ⟨_, _, by rw [ev], rfl, rfl⟩
          · refine jv_Wp.lift (fun _ Kz => jv_Ev.steps jv_i290 3 (pc' := 158) (l' := [(7, .int (0 : Int32)), (5, .long ((I 206 (76800 + k)).toInt64 + (Int32.ofInt f.o).toInt64)), (4, .int (I 205 (76800 + k))), (0, .ref 196), (1, .int (vl_I k)), (2, .int (vl_I z)), (3, .int (vr_b w))]) (st' := [.int (lg_cmp ((I 206 (76800 + k)).toInt64 + (Int32.ofInt f.o).toInt64) (0 : Int64))]) rfl Kz) ?_
            refine jv_Wp.cnd jv_i290 (pt := 170) (pe := 161) (p := ((lg_cmp ((I 206 (76800 + k)).toInt64 + (Int32.ofInt f.o).toInt64) (0 : Int64)) = 0)) (q := (((I 206 (76800 + k)).toInt64 + (Int32.ofInt f.o).toInt64) = (0 : Int64))) rfl jv_bi_eq rfl rfl (lg_cmp_eq ((I 206 (76800 + k)).toInt64 + (Int32.ofInt f.o).toInt64) (0 : Int64)) (fun h9 => ?_) (fun h9 => ?_)
            · refine jv_Wp.lift (fun _ Kz => jv_Ev.steps jv_i290 4 (pc' := 179) (l' := [(8, .int (1 : Int32)), (7, .int (0 : Int32)), (5, .long ((I 206 (76800 + k)).toInt64 + (Int32.ofInt f.o).toInt64)), (4, .int (I 205 (76800 + k))), (0, .ref 196), (1, .int (vl_I k)), (2, .int (vl_I z)), (3, .int (vr_b w))]) (st' := [.int (0 : Int32)]) rfl Kz) ?_
              refine jv_Wp.lift (fun _ Kz => jv_Ev.br jv_i290 (pc' := 216) (st' := []) rfl (by rfl) Kz) ?_
              refine jv_Wp.lift (fun _ Kz => jv_Ev.steps jv_i290 1 (pc' := 217) (l' := [(8, .int (1 : Int32)), (7, .int (0 : Int32)), (5, .long ((I 206 (76800 + k)).toInt64 + (Int32.ofInt f.o).toInt64)), (4, .int (I 205 (76800 + k))), (0, .ref 196), (1, .int (vl_I k)), (2, .int (vl_I z)), (3, .int (vr_b w))]) (st' := [.int (4 : Int32)]) rfl Kz) ?_
              refine jv_Wp.of (jv_Ev.ret jv_i290 rfl rfl) ?_
              rw [hQ]
              have zs : (vr_T I L (76800 + k)).sort = 2 := ((vr_is (L := L) 2 (by decide) ok).mpr h2)
              have t0 : ¬ (vr_T I L (76800 + k)).sort = 0 := by omega
              have dt : (vr_T I L (76800 + k)).det = (I 206 (76800 + k)).toInt := rfl
              have ea : ((I 206 (76800 + k)).toInt64 + (Int32.ofInt f.o).toInt64).toInt = (I 206 (76800 + k)).toInt + f.o := by rw [vi_add (by rw [Int32.toInt_toInt64]; omega), Int32.toInt_toInt64, vr_dO D]
              have ez : ((vl_I z).toInt64).toInt = (z : Int) := (Int32.toInt_toInt64 _).trans (vl_I_int (by omega))
              have en : ((-(vl_I z)).toInt64).toInt = -(z : Int) := by rw [Int32.toInt_toInt64, Int32.toInt_neg, show (vl_I z).toInt = (z : Int) from vl_I_int (by omega)]; exact vi_bm32 (by omega) (by omega)
              have e64 : ((64 : Int64) - (vl_I z).toInt64).toInt = 64 - (z : Int) := by rw [Int64.toInt_sub, ez]; exact vi_bm (by show -9223372036854775808 ≤ 64 - (z : Int); omega) (by show 64 - (z : Int) < 9223372036854775808; omega)
              have l0 : (0 : Int64).toInt = 0 := rfl
              have y1 : ¬ (vl_I z).toInt64.toInt = (0 : Int64).toInt := fun z => hz0 (Int64.toInt_inj.mp z)
              have y2 : ¬ ((I 206 (76800 + k)).toInt64 + (Int32.ofInt f.o).toInt64).toInt < (0 : Int64).toInt := fun z => h3 (Int64.lt_iff_toInt_lt.mpr z)
              have y3 : ((64 : Int64) - (vl_I z).toInt64).toInt < ((I 206 (76800 + k)).toInt64 + (Int32.ofInt f.o).toInt64).toInt := Int64.lt_iff_toInt_lt.mp h7
              have y4 : ((I 206 (76800 + k)).toInt64 + (Int32.ofInt f.o).toInt64).toInt = (0 : Int64).toInt := congrArg Int64.toInt h9
              have z8 : z = 8 := (vl_I_inj (b := 8) (by omega) (by decide)).mp (Classical.not_not.mp h8)
              have ev : (4 : Int32) = vl_I (vr_re M (vr_A I L 1024) (vr_T I L (76800 + k)) f.o z w) := by
                have e : vr_re M (vr_A I L 1024) (vr_T I L (76800 + k)) f.o z w = 4 := by
                  unfold vr_re; rw [if_neg t0, vx_r2w zs hz, dt]
                  exact if_neg (fun y => by omega)
                rw [e]; rfl
              exact ⟨_, _, by rw [ev], rfl, rfl⟩
            · refine jv_Wp.lift (fun _ Kz => jv_Ev.steps jv_i290 3 (pc' := 167) (l' := [(7, .int (0 : Int32)), (5, .long ((I 206 (76800 + k)).toInt64 + (Int32.ofInt f.o).toInt64)), (4, .int (I 205 (76800 + k))), (0, .ref 196), (1, .int (vl_I k)), (2, .int (vl_I z)), (3, .int (vr_b w))]) (st' := [.int (lg_cmp ((I 206 (76800 + k)).toInt64 + (Int32.ofInt f.o).toInt64) (8 : Int64))]) rfl Kz) ?_
              refine jv_Wp.cnd jv_i290 (pt := 174) (pe := 170) (p := (¬ (lg_cmp ((I 206 (76800 + k)).toInt64 + (Int32.ofInt f.o).toInt64) (8 : Int64)) = 0)) (q := (¬ ((I 206 (76800 + k)).toInt64 + (Int32.ofInt f.o).toInt64) = (8 : Int64))) rfl jv_bi_ne rfl rfl (not_congr (lg_cmp_eq ((I 206 (76800 + k)).toInt64 + (Int32.ofInt f.o).toInt64) (8 : Int64))) (fun h10 => ?_) (fun h10 => ?_)
              · refine jv_Wp.lift (fun _ Kz => jv_Ev.steps jv_i290 3 (pc' := 179) (l' := [(8, .int (0 : Int32)), (7, .int (0 : Int32)), (5, .long ((I 206 (76800 + k)).toInt64 + (Int32.ofInt f.o).toInt64)), (4, .int (I 205 (76800 + k))), (0, .ref 196), (1, .int (vl_I k)), (2, .int (vl_I z)), (3, .int (vr_b w))]) (st' := [.int (0 : Int32)]) rfl Kz) ?_
                refine jv_Wp.lift (fun _ Kz => jv_Ev.br jv_i290 (pc' := 216) (st' := []) rfl (by rfl) Kz) ?_
                refine jv_Wp.lift (fun _ Kz => jv_Ev.steps jv_i290 1 (pc' := 217) (l' := [(8, .int (0 : Int32)), (7, .int (0 : Int32)), (5, .long ((I 206 (76800 + k)).toInt64 + (Int32.ofInt f.o).toInt64)), (4, .int (I 205 (76800 + k))), (0, .ref 196), (1, .int (vl_I k)), (2, .int (vl_I z)), (3, .int (vr_b w))]) (st' := [.int (4 : Int32)]) rfl Kz) ?_
                refine jv_Wp.of (jv_Ev.ret jv_i290 rfl rfl) ?_
                rw [hQ]
                have zs : (vr_T I L (76800 + k)).sort = 2 := ((vr_is (L := L) 2 (by decide) ok).mpr h2)
                have t0 : ¬ (vr_T I L (76800 + k)).sort = 0 := by omega
                have dt : (vr_T I L (76800 + k)).det = (I 206 (76800 + k)).toInt := rfl
                have ea : ((I 206 (76800 + k)).toInt64 + (Int32.ofInt f.o).toInt64).toInt = (I 206 (76800 + k)).toInt + f.o := by rw [vi_add (by rw [Int32.toInt_toInt64]; omega), Int32.toInt_toInt64, vr_dO D]
                have ez : ((vl_I z).toInt64).toInt = (z : Int) := (Int32.toInt_toInt64 _).trans (vl_I_int (by omega))
                have en : ((-(vl_I z)).toInt64).toInt = -(z : Int) := by rw [Int32.toInt_toInt64, Int32.toInt_neg, show (vl_I z).toInt = (z : Int) from vl_I_int (by omega)]; exact vi_bm32 (by omega) (by omega)
                have e64 : ((64 : Int64) - (vl_I z).toInt64).toInt = 64 - (z : Int) := by rw [Int64.toInt_sub, ez]; exact vi_bm (by show -9223372036854775808 ≤ 64 - (z : Int); omega) (by show 64 - (z : Int) < 9223372036854775808; omega)
                have l0 : (0 : Int64).toInt = 0 := rfl
                have l8 : (8 : Int64).toInt = 8 := rfl
                have y1 : ¬ (vl_I z).toInt64.toInt = (0 : Int64).toInt := fun z => hz0 (Int64.toInt_inj.mp z)
                have y2 : ¬ ((I 206 (76800 + k)).toInt64 + (Int32.ofInt f.o).toInt64).toInt < (0 : Int64).toInt := fun z => h3 (Int64.lt_iff_toInt_lt.mpr z)
                have y3 : ((64 : Int64) - (vl_I z).toInt64).toInt < ((I 206 (76800 + k)).toInt64 + (Int32.ofInt f.o).toInt64).toInt := Int64.lt_iff_toInt_lt.mp h7
                have y4 : ¬ ((I 206 (76800 + k)).toInt64 + (Int32.ofInt f.o).toInt64).toInt = (0 : Int64).toInt := fun z => h9 (Int64.toInt_inj.mp z)
                have y5 : ¬ ((I 206 (76800 + k)).toInt64 + (Int32.ofInt f.o).toInt64).toInt = (8 : Int64).toInt := fun z => h10 (Int64.toInt_inj.mp z)
                have z8 : z = 8 := (vl_I_inj (b := 8) (by omega) (by decide)).mp (Classical.not_not.mp h8)
                have ev : (4 : Int32) = vl_I (vr_re M (vr_A I L 1024) (vr_T I L (76800 + k)) f.o z w) := by
                  have e : vr_re M (vr_A I L 1024) (vr_T I L (76800 + k)) f.o z w = 4 := by
                    unfold vr_re; rw [if_neg t0, vx_r2w zs hz, dt]
                    exact if_neg (fun y => by omega)
                  rw [e]; rfl
                exact ⟨_, _, by rw [ev], rfl, rfl⟩
              · refine jv_Wp.lift (fun _ Kz => jv_Ev.steps jv_i290 4 (pc' := 179) (l' := [(8, .int (1 : Int32)), (7, .int (0 : Int32)), (5, .long ((I 206 (76800 + k)).toInt64 + (Int32.ofInt f.o).toInt64)), (4, .int (I 205 (76800 + k))), (0, .ref 196), (1, .int (vl_I k)), (2, .int (vl_I z)), (3, .int (vr_b w))]) (st' := [.int (0 : Int32)]) rfl Kz) ?_
                refine jv_Wp.lift (fun _ Kz => jv_Ev.br jv_i290 (pc' := 216) (st' := []) rfl (by rfl) Kz) ?_
                refine jv_Wp.lift (fun _ Kz => jv_Ev.steps jv_i290 1 (pc' := 217) (l' := [(8, .int (1 : Int32)), (7, .int (0 : Int32)), (5, .long ((I 206 (76800 + k)).toInt64 + (Int32.ofInt f.o).toInt64)), (4, .int (I 205 (76800 + k))), (0, .ref 196), (1, .int (vl_I k)), (2, .int (vl_I z)), (3, .int (vr_b w))]) (st' := [.int (4 : Int32)]) rfl Kz) ?_
                refine jv_Wp.of (jv_Ev.ret jv_i290 rfl rfl) ?_
                rw [hQ]
                have zs : (vr_T I L (76800 + k)).sort = 2 := ((vr_is (L := L) 2 (by decide) ok).mpr h2)
                have t0 : ¬ (vr_T I L (76800 + k)).sort = 0 := by omega
                have dt : (vr_T I L (76800 + k)).det = (I 206 (76800 + k)).toInt := rfl
                have ea : ((I 206 (76800 + k)).toInt64 + (Int32.ofInt f.o).toInt64).toInt = (I 206 (76800 + k)).toInt + f.o := by rw [vi_add (by rw [Int32.toInt_toInt64]; omega), Int32.toInt_toInt64, vr_dO D]
                have ez : ((vl_I z).toInt64).toInt = (z : Int) := (Int32.toInt_toInt64 _).trans (vl_I_int (by omega))
                have en : ((-(vl_I z)).toInt64).toInt = -(z : Int) := by rw [Int32.toInt_toInt64, Int32.toInt_neg, show (vl_I z).toInt = (z : Int) from vl_I_int (by omega)]; exact vi_bm32 (by omega) (by omega)
                have e64 : ((64 : Int64) - (vl_I z).toInt64).toInt = 64 - (z : Int) := by rw [Int64.toInt_sub, ez]; exact vi_bm (by show -9223372036854775808 ≤ 64 - (z : Int); omega) (by show 64 - (z : Int) < 9223372036854775808; omega)
                have l0 : (0 : Int64).toInt = 0 := rfl
                have l8 : (8 : Int64).toInt = 8 := rfl
                have y1 : ¬ (vl_I z).toInt64.toInt = (0 : Int64).toInt := fun z => hz0 (Int64.toInt_inj.mp z)
                have y2 : ¬ ((I 206 (76800 + k)).toInt64 + (Int32.ofInt f.o).toInt64).toInt < (0 : Int64).toInt := fun z => h3 (Int64.lt_iff_toInt_lt.mpr z)
                have y3 : ((64 : Int64) - (vl_I z).toInt64).toInt < ((I 206 (76800 + k)).toInt64 + (Int32.ofInt f.o).toInt64).toInt := Int64.lt_iff_toInt_lt.mp h7
                have y4 : ¬ ((I 206 (76800 + k)).toInt64 + (Int32.ofInt f.o).toInt64).toInt = (0 : Int64).toInt := fun z => h9 (Int64.toInt_inj.mp z)
                have y5 : ((I 206 (76800 + k)).toInt64 + (Int32.ofInt f.o).toInt64).toInt = (8 : Int64).toInt := congrArg Int64.toInt (Classical.not_not.mp h10)
                have z8 : z = 8 := (vl_I_inj (b := 8) (by omega) (by decide)).mp (Classical.not_not.mp h8)
                have ev : (4 : Int32) = vl_I (vr_re M (vr_A I L 1024) (vr_T I L (76800 + k)) f.o z w) := by
                  have e : vr_re M (vr_A I L 1024) (vr_T I L (76800 + k)) f.o z w = 4 := by
                    unfold vr_re; rw [if_neg t0, vx_r2w zs hz, dt]
                    exact if_neg (fun y => by omega)
                  rw [e]; rfl
                exact ⟨_, _, by rw [ev], rfl, rfl⟩
        · refine jv_Wp.lift (fun _ Kz => jv_Ev.steps jv_i290 3 (pc' := 135) (l' := [(5, .long ((I 206 (76800 + k)).toInt64 + (Int32.ofInt f.o).toInt64)), (4, .int (I 205 (76800 + k))), (0, .ref 196), (1, .int (vl_I k)), (2, .int (vl_I z)), (3, .int (vr_b w))]) (st' := [.long (vl_I z).toInt64, .long ((I 206 (76800 + k)).toInt64 + (Int32.ofInt f.o).toInt64)]) rfl Kz) ?_
          refine jv_Wp.lift (fun _ Kz => jv_Ev.op jv_i290 (pc' := 136) (l' := [(5, .long ((I 206 (76800 + k)).toInt64 + (Int32.ofInt f.o).toInt64)), (4, .int (I 205 (76800 + k))), (0, .ref 196), (1, .int (vl_I k)), (2, .int (vl_I z)), (3, .int (vr_b w))]) (st' := [.long (((I 206 (76800 + k)).toInt64 + (Int32.ofInt f.o).toInt64) - ((I 206 (76800 + k)).toInt64 + (Int32.ofInt f.o).toInt64) / (vl_I z).toInt64 * (vl_I z).toInt64)]) rfl (jv_op_lrem hz0) Kz) ?_
          refine jv_Wp.lift (fun _ Kz => jv_Ev.steps jv_i290 2 (pc' := 138) (l' := [(5, .long ((I 206 (76800 + k)).toInt64 + (Int32.ofInt f.o).toInt64)), (4, .int (I 205 (76800 + k))), (0, .ref 196), (1, .int (vl_I k)), (2, .int (vl_I z)), (3, .int (vr_b w))]) (st' := [.int (lg_cmp (((I 206 (76800 + k)).toInt64 + (Int32.ofInt f.o).toInt64) - ((I 206 (76800 + k)).toInt64 + (Int32.ofInt f.o).toInt64) / (vl_I z).toInt64 * (vl_I z).toInt64) (0 : Int64))]) rfl Kz) ?_
          refine jv_Wp.cnd jv_i290 (pt := 145) (pe := 141) (p := (¬ (lg_cmp (((I 206 (76800 + k)).toInt64 + (Int32.ofInt f.o).toInt64) - ((I 206 (76800 + k)).toInt64 + (Int32.ofInt f.o).toInt64) / (vl_I z).toInt64 * (vl_I z).toInt64) (0 : Int64)) = 0)) (q := (¬ (((I 206 (76800 + k)).toInt64 + (Int32.ofInt f.o).toInt64) - ((I 206 (76800 + k)).toInt64 + (Int32.ofInt f.o).toInt64) / (vl_I z).toInt64 * (vl_I z).toInt64) = (0 : Int64))) rfl jv_bi_ne rfl rfl (not_congr (lg_cmp_eq (((I 206 (76800 + k)).toInt64 + (Int32.ofInt f.o).toInt64) - ((I 206 (76800 + k)).toInt64 + (Int32.ofInt f.o).toInt64) / (vl_I z).toInt64 * (vl_I z).toInt64) (0 : Int64))) (fun h11 => ?_) (fun h11 => ?_)
          · refine jv_Wp.lift (fun _ Kz => jv_Ev.steps jv_i290 4 (pc' := 151) (l' := [(7, .int (0 : Int32)), (5, .long ((I 206 (76800 + k)).toInt64 + (Int32.ofInt f.o).toInt64)), (4, .int (I 205 (76800 + k))), (0, .ref 196), (1, .int (vl_I k)), (2, .int (vl_I z)), (3, .int (vr_b w))]) (st' := [.int (8 : Int32), .int (vl_I z)]) rfl Kz) ?_
            refine jv_Wp.cnd jv_i290 (pt := 174) (pe := 154) (p := (¬ (vl_I z) = (8 : Int32))) (q := (¬ (vl_I z) = (8 : Int32))) rfl jv_bc_ne rfl rfl Iff.rfl (fun h12 => ?_) (fun h12 => ?_)
            · refine jv_Wp.lift (fun _ Kz => jv_Ev.steps jv_i290 3 (pc' := 179) (l' := [(8, .int (0 : Int32)), (7, .int (0 : Int32)), (5, .long ((I 206 (76800 + k)).toInt64 + (Int32.ofInt f.o).toInt64)), (4, .int (I 205 (76800 + k))), (0, .ref 196), (1, .int (vl_I k)), (2, .int (vl_I z)), (3, .int (vr_b w))]) (st' := [.int (0 : Int32)]) rfl Kz) ?_
              refine jv_Wp.lift (fun _ Kz => jv_Ev.br jv_i290 (pc' := 216) (st' := []) rfl (by rfl) Kz) ?_
              refine jv_Wp.lift (fun _ Kz => jv_Ev.steps jv_i290 1 (pc' := 217) (l' := [(8, .int (0 : Int32)), (7, .int (0 : Int32)), (5, .long ((I 206 (76800 + k)).toInt64 + (Int32.ofInt f.o).toInt64)), (4, .int (I 205 (76800 + k))), (0, .ref 196), (1, .int (vl_I k)), (2, .int (vl_I z)), (3, .int (vr_b w))]) (st' := [.int (4 : Int32)]) rfl Kz) ?_
              refine jv_Wp.of (jv_Ev.ret jv_i290 rfl rfl) ?_
              rw [hQ]
              have zs : (vr_T I L (76800 + k)).sort = 2 := ((vr_is (L := L) 2 (by decide) ok).mpr h2)
              have t0 : ¬ (vr_T I L (76800 + k)).sort = 0 := by omega
              have dt : (vr_T I L (76800 + k)).det = (I 206 (76800 + k)).toInt := rfl
              have ea : ((I 206 (76800 + k)).toInt64 + (Int32.ofInt f.o).toInt64).toInt = (I 206 (76800 + k)).toInt + f.o := by rw [vi_add (by rw [Int32.toInt_toInt64]; omega), Int32.toInt_toInt64, vr_dO D]
              have ez : ((vl_I z).toInt64).toInt = (z : Int) := (Int32.toInt_toInt64 _).trans (vl_I_int (by omega))
              have en : ((-(vl_I z)).toInt64).toInt = -(z : Int) := by rw [Int32.toInt_toInt64, Int32.toInt_neg, show (vl_I z).toInt = (z : Int) from vl_I_int (by omega)]; exact vi_bm32 (by omega) (by omega)
              have e64 : ((64 : Int64) - (vl_I z).toInt64).toInt = 64 - (z : Int) := by rw [Int64.toInt_sub, ez]; exact vi_bm (by show -9223372036854775808 ≤ 64 - (z : Int); omega) (by show 64 - (z : Int) < 9223372036854775808; omega)
              have l0 : (0 : Int64).toInt = 0 := rfl
              have y1 : ¬ (vl_I z).toInt64.toInt = (0 : Int64).toInt := fun z => hz0 (Int64.toInt_inj.mp z)
              have y2 : ¬ ((I 206 (76800 + k)).toInt64 + (Int32.ofInt f.o).toInt64).toInt < (0 : Int64).toInt := fun z => h3 (Int64.lt_iff_toInt_lt.mpr z)
              have y3 : ¬ ((64 : Int64) - (vl_I z).toInt64).toInt < ((I 206 (76800 + k)).toInt64 + (Int32.ofInt f.o).toInt64).toInt := fun z => h7 (Int64.lt_iff_toInt_lt.mpr z)
              have er : ¬ ((I 206 (76800 + k)).toInt + f.o) % (z : Int) = 0 := by rw [← ea]; exact fun y => h11 ((vi_remz hz ⟨by omega, by omega⟩).mpr y)
              have z8 : ¬ z = 8 := fun y => h12 (by rw [y]; rfl)
              have ev : (4 : Int32) = vl_I (vr_re M (vr_A I L 1024) (vr_T I L (76800 + k)) f.o z w) := by
                have e : vr_re M (vr_A I L 1024) (vr_T I L (76800 + k)) f.o z w = 4 := by
                  unfold vr_re; rw [if_neg t0, vx_r2w zs hz, dt]
                  exact if_neg (fun y => er y.2.2.1)
                rw [e]; rfl
              exact ⟨_, _, by rw [ev], rfl, rfl⟩
            · refine jv_Wp.lift (fun _ Kz => jv_Ev.steps jv_i290 3 (pc' := 158) (l' := [(7, .int (0 : Int32)), (5, .long ((I 206 (76800 + k)).toInt64 + (Int32.ofInt f.o).toInt64)), (4, .int (I 205 (76800 + k))), (0, .ref 196), (1, .int (vl_I k)), (2, .int (vl_I z)), (3, .int (vr_b w))]) (st' := [.int (lg_cmp ((I 206 (76800 + k)).toInt64 + (Int32.ofInt f.o).toInt64) (0 : Int64))]) rfl Kz) ?_
              refine jv_Wp.cnd jv_i290 (pt := 170) (pe := 161) (p := ((lg_cmp ((I 206 (76800 + k)).toInt64 + (Int32.ofInt f.o).toInt64) (0 : Int64)) = 0)) (q := (((I 206 (76800 + k)).toInt64 + (Int32.ofInt f.o).toInt64) = (0 : Int64))) rfl jv_bi_eq rfl rfl (lg_cmp_eq ((I 206 (76800 + k)).toInt64 + (Int32.ofInt f.o).toInt64) (0 : Int64)) (fun h13 => ?_) (fun h13 => ?_)
              · refine jv_Wp.lift (fun _ Kz => jv_Ev.steps jv_i290 4 (pc' := 179) (l' := [(8, .int (1 : Int32)), (7, .int (0 : Int32)), (5, .long ((I 206 (76800 + k)).toInt64 + (Int32.ofInt f.o).toInt64)), (4, .int (I 205 (76800 + k))), (0, .ref 196), (1, .int (vl_I k)), (2, .int (vl_I z)), (3, .int (vr_b w))]) (st' := [.int (0 : Int32)]) rfl Kz) ?_
                refine jv_Wp.lift (fun _ Kz => jv_Ev.br jv_i290 (pc' := 216) (st' := []) rfl (by rfl) Kz) ?_
                refine jv_Wp.lift (fun _ Kz => jv_Ev.steps jv_i290 1 (pc' := 217) (l' := [(8, .int (1 : Int32)), (7, .int (0 : Int32)), (5, .long ((I 206 (76800 + k)).toInt64 + (Int32.ofInt f.o).toInt64)), (4, .int (I 205 (76800 + k))), (0, .ref 196), (1, .int (vl_I k)), (2, .int (vl_I z)), (3, .int (vr_b w))]) (st' := [.int (4 : Int32)]) rfl Kz) ?_
                refine jv_Wp.of (jv_Ev.ret jv_i290 rfl rfl) ?_
                rw [hQ]
                have zs : (vr_T I L (76800 + k)).sort = 2 := ((vr_is (L := L) 2 (by decide) ok).mpr h2)
                have t0 : ¬ (vr_T I L (76800 + k)).sort = 0 := by omega
                have dt : (vr_T I L (76800 + k)).det = (I 206 (76800 + k)).toInt := rfl
                have ea : ((I 206 (76800 + k)).toInt64 + (Int32.ofInt f.o).toInt64).toInt = (I 206 (76800 + k)).toInt + f.o := by rw [vi_add (by rw [Int32.toInt_toInt64]; omega), Int32.toInt_toInt64, vr_dO D]
                have ez : ((vl_I z).toInt64).toInt = (z : Int) := (Int32.toInt_toInt64 _).trans (vl_I_int (by omega))
                have en : ((-(vl_I z)).toInt64).toInt = -(z : Int) := by rw [Int32.toInt_toInt64, Int32.toInt_neg, show (vl_I z).toInt = (z : Int) from vl_I_int (by omega)]; exact vi_bm32 (by omega) (by omega)
                have e64 : ((64 : Int64) - (vl_I z).toInt64).toInt = 64 - (z : Int) := by rw [Int64.toInt_sub, ez]; exact vi_bm (by show -9223372036854775808 ≤ 64 - (z : Int); omega) (by show 64 - (z : Int) < 9223372036854775808; omega)
                have l0 : (0 : Int64).toInt = 0 := rfl
                have y1 : ¬ (vl_I z).toInt64.toInt = (0 : Int64).toInt := fun z => hz0 (Int64.toInt_inj.mp z)
                have y2 : ¬ ((I 206 (76800 + k)).toInt64 + (Int32.ofInt f.o).toInt64).toInt < (0 : Int64).toInt := fun z => h3 (Int64.lt_iff_toInt_lt.mpr z)
                have y3 : ¬ ((64 : Int64) - (vl_I z).toInt64).toInt < ((I 206 (76800 + k)).toInt64 + (Int32.ofInt f.o).toInt64).toInt := fun z => h7 (Int64.lt_iff_toInt_lt.mpr z)
                have y4 : ((I 206 (76800 + k)).toInt64 + (Int32.ofInt f.o).toInt64).toInt = (0 : Int64).toInt := congrArg Int64.toInt h13
                have er : ¬ ((I 206 (76800 + k)).toInt + f.o) % (z : Int) = 0 := by rw [← ea]; exact fun y => h11 ((vi_remz hz ⟨by omega, by omega⟩).mpr y)
                have z8 : z = 8 := (vl_I_inj (b := 8) (by omega) (by decide)).mp (Classical.not_not.mp h12)
                have ev : (4 : Int32) = vl_I (vr_re M (vr_A I L 1024) (vr_T I L (76800 + k)) f.o z w) := by
                  have e : vr_re M (vr_A I L 1024) (vr_T I L (76800 + k)) f.o z w = 4 := by
                    unfold vr_re; rw [if_neg t0, vx_r2w zs hz, dt]
                    exact if_neg (fun y => er y.2.2.1)
                  rw [e]; rfl
                exact ⟨_, _, by rw [ev], rfl, rfl⟩
              · refine jv_Wp.lift (fun _ Kz => jv_Ev.steps jv_i290 3 (pc' := 167) (l' := [(7, .int (0 : Int32)), (5, .long ((I 206 (76800 + k)).toInt64 + (Int32.ofInt f.o).toInt64)), (4, .int (I 205 (76800 + k))), (0, .ref 196), (1, .int (vl_I k)), (2, .int (vl_I z)), (3, .int (vr_b w))]) (st' := [.int (lg_cmp ((I 206 (76800 + k)).toInt64 + (Int32.ofInt f.o).toInt64) (8 : Int64))]) rfl Kz) ?_
                refine jv_Wp.cnd jv_i290 (pt := 174) (pe := 170) (p := (¬ (lg_cmp ((I 206 (76800 + k)).toInt64 + (Int32.ofInt f.o).toInt64) (8 : Int64)) = 0)) (q := (¬ ((I 206 (76800 + k)).toInt64 + (Int32.ofInt f.o).toInt64) = (8 : Int64))) rfl jv_bi_ne rfl rfl (not_congr (lg_cmp_eq ((I 206 (76800 + k)).toInt64 + (Int32.ofInt f.o).toInt64) (8 : Int64))) (fun h14 => ?_) (fun h14 => ?_)
                · refine jv_Wp.lift (fun _ Kz => jv_Ev.steps jv_i290 3 (pc' := 179) (l' := [(8, .int (0 : Int32)), (7, .int (0 : Int32)), (5, .long ((I 206 (76800 + k)).toInt64 + (Int32.ofInt f.o).toInt64)), (4, .int (I 205 (76800 + k))), (0, .ref 196), (1, .int (vl_I k)), (2, .int (vl_I z)), (3, .int (vr_b w))]) (st' := [.int (0 : Int32)]) rfl Kz) ?_
                  refine jv_Wp.lift (fun _ Kz => jv_Ev.br jv_i290 (pc' := 216) (st' := []) rfl (by rfl) Kz) ?_
                  refine jv_Wp.lift (fun _ Kz => jv_Ev.steps jv_i290 1 (pc' := 217) (l' := [(8, .int (0 : Int32)), (7, .int (0 : Int32)), (5, .long ((I 206 (76800 + k)).toInt64 + (Int32.ofInt f.o).toInt64)), (4, .int (I 205 (76800 + k))), (0, .ref 196), (1, .int (vl_I k)), (2, .int (vl_I z)), (3, .int (vr_b w))]) (st' := [.int (4 : Int32)]) rfl Kz) ?_
                  refine jv_Wp.of (jv_Ev.ret jv_i290 rfl rfl) ?_
                  rw [hQ]
                  have zs : (vr_T I L (76800 + k)).sort = 2 := ((vr_is (L := L) 2 (by decide) ok).mpr h2)
                  have t0 : ¬ (vr_T I L (76800 + k)).sort = 0 := by omega
                  have dt : (vr_T I L (76800 + k)).det = (I 206 (76800 + k)).toInt := rfl
                  have ea : ((I 206 (76800 + k)).toInt64 + (Int32.ofInt f.o).toInt64).toInt = (I 206 (76800 + k)).toInt + f.o := by rw [vi_add (by rw [Int32.toInt_toInt64]; omega), Int32.toInt_toInt64, vr_dO D]
                  have ez : ((vl_I z).toInt64).toInt = (z : Int) := (Int32.toInt_toInt64 _).trans (vl_I_int (by omega))
                  have en : ((-(vl_I z)).toInt64).toInt = -(z : Int) := by rw [Int32.toInt_toInt64, Int32.toInt_neg, show (vl_I z).toInt = (z : Int) from vl_I_int (by omega)]; exact vi_bm32 (by omega) (by omega)
                  have e64 : ((64 : Int64) - (vl_I z).toInt64).toInt = 64 - (z : Int) := by rw [Int64.toInt_sub, ez]; exact vi_bm (by show -9223372036854775808 ≤ 64 - (z : Int); omega) (by show 64 - (z : Int) < 9223372036854775808; omega)
                  have l0 : (0 : Int64).toInt = 0 := rfl
                  have l8 : (8 : Int64).toInt = 8 := rfl
                  have y1 : ¬ (vl_I z).toInt64.toInt = (0 : Int64).toInt := fun z => hz0 (Int64.toInt_inj.mp z)
                  have y2 : ¬ ((I 206 (76800 + k)).toInt64 + (Int32.ofInt f.o).toInt64).toInt < (0 : Int64).toInt := fun z => h3 (Int64.lt_iff_toInt_lt.mpr z)
                  have y3 : ¬ ((64 : Int64) - (vl_I z).toInt64).toInt < ((I 206 (76800 + k)).toInt64 + (Int32.ofInt f.o).toInt64).toInt := fun z => h7 (Int64.lt_iff_toInt_lt.mpr z)
                  have y4 : ¬ ((I 206 (76800 + k)).toInt64 + (Int32.ofInt f.o).toInt64).toInt = (0 : Int64).toInt := fun z => h13 (Int64.toInt_inj.mp z)
                  have y5 : ¬ ((I 206 (76800 + k)).toInt64 + (Int32.ofInt f.o).toInt64).toInt = (8 : Int64).toInt := fun z => h14 (Int64.toInt_inj.mp z)
                  have er : ¬ ((I 206 (76800 + k)).toInt + f.o) % (z : Int) = 0 := by rw [← ea]; exact fun y => h11 ((vi_remz hz ⟨by omega, by omega⟩).mpr y)
                  have z8 : z = 8 := (vl_I_inj (b := 8) (by omega) (by decide)).mp (Classical.not_not.mp h12)
                  have ev : (4 : Int32) = vl_I (vr_re M (vr_A I L 1024) (vr_T I L (76800 + k)) f.o z w) := by
                    have e : vr_re M (vr_A I L 1024) (vr_T I L (76800 + k)) f.o z w = 4 := by
                      unfold vr_re; rw [if_neg t0, vx_r2w zs hz, dt]
                      exact if_neg (fun y => er y.2.2.1)
                    rw [e]; rfl
                  exact ⟨_, _, by rw [ev], rfl, rfl⟩
                · refine jv_Wp.lift (fun _ Kz => jv_Ev.steps jv_i290 4 (pc' := 179) (l' := [(8, .int (1 : Int32)), (7, .int (0 : Int32)), (5, .long ((I 206 (76800 + k)).toInt64 + (Int32.ofInt f.o).toInt64)), (4, .int (I 205 (76800 + k))), (0, .ref 196), (1, .int (vl_I k)), (2, .int (vl_I z)), (3, .int (vr_b w))]) (st' := [.int (0 : Int32)]) rfl Kz) ?_
                  refine jv_Wp.lift (fun _ Kz => jv_Ev.br jv_i290 (pc' := 216) (st' := []) rfl (by rfl) Kz) ?_
                  refine jv_Wp.lift (fun _ Kz => jv_Ev.steps jv_i290 1 (pc' := 217) (l' := [(8, .int (1 : Int32)), (7, .int (0 : Int32)), (5, .long ((I 206 (76800 + k)).toInt64 + (Int32.ofInt f.o).toInt64)), (4, .int (I 205 (76800 + k))), (0, .ref 196), (1, .int (vl_I k)), (2, .int (vl_I z)), (3, .int (vr_b w))]) (st' := [.int (4 : Int32)]) rfl Kz) ?_
                  refine jv_Wp.of (jv_Ev.ret jv_i290 rfl rfl) ?_
                  rw [hQ]
                  have zs : (vr_T I L (76800 + k)).sort = 2 := ((vr_is (L := L) 2 (by decide) ok).mpr h2)
                  have t0 : ¬ (vr_T I L (76800 + k)).sort = 0 := by omega
                  have dt : (vr_T I L (76800 + k)).det = (I 206 (76800 + k)).toInt := rfl
                  have ea : ((I 206 (76800 + k)).toInt64 + (Int32.ofInt f.o).toInt64).toInt = (I 206 (76800 + k)).toInt + f.o := by rw [vi_add (by rw [Int32.toInt_toInt64]; omega), Int32.toInt_toInt64, vr_dO D]
                  have ez : ((vl_I z).toInt64).toInt = (z : Int) := (Int32.toInt_toInt64 _).trans (vl_I_int (by omega))
                  have en : ((-(vl_I z)).toInt64).toInt = -(z : Int) := by rw [Int32.toInt_toInt64, Int32.toInt_neg, show (vl_I z).toInt = (z : Int) from vl_I_int (by omega)]; exact vi_bm32 (by omega) (by omega)
                  have e64 : ((64 : Int64) - (vl_I z).toInt64).toInt = 64 - (z : Int) := by rw [Int64.toInt_sub, ez]; exact vi_bm (by show -9223372036854775808 ≤ 64 - (z : Int); omega) (by show 64 - (z : Int) < 9223372036854775808; omega)
                  have l0 : (0 : Int64).toInt = 0 := rfl
                  have l8 : (8 : Int64).toInt = 8 := rfl
                  have y1 : ¬ (vl_I z).toInt64.toInt = (0 : Int64).toInt := fun z => hz0 (Int64.toInt_inj.mp z)
                  have y2 : ¬ ((I 206 (76800 + k)).toInt64 + (Int32.ofInt f.o).toInt64).toInt < (0 : Int64).toInt := fun z => h3 (Int64.lt_iff_toInt_lt.mpr z)
                  have y3 : ¬ ((64 : Int64) - (vl_I z).toInt64).toInt < ((I 206 (76800 + k)).toInt64 + (Int32.ofInt f.o).toInt64).toInt := fun z => h7 (Int64.lt_iff_toInt_lt.mpr z)
                  have y4 : ¬ ((I 206 (76800 + k)).toInt64 + (Int32.ofInt f.o).toInt64).toInt = (0 : Int64).toInt := fun z => h13 (Int64.toInt_inj.mp z)
                  have y5 : ((I 206 (76800 + k)).toInt64 + (Int32.ofInt f.o).toInt64).toInt = (8 : Int64).toInt := congrArg Int64.toInt (Classical.not_not.mp h14)
                  have er : ¬ ((I 206 (76800 + k)).toInt + f.o) % (z : Int) = 0 := by rw [← ea]; exact fun y => h11 ((vi_remz hz ⟨by omega, by omega⟩).mpr y)
                  have z8 : z = 8 := (vl_I_inj (b := 8) (by omega) (by decide)).mp (Classical.not_not.mp h12)
                  have ev : (4 : Int32) = vl_I (vr_re M (vr_A I L 1024) (vr_T I L (76800 + k)) f.o z w) := by
                    have e : vr_re M (vr_A I L 1024) (vr_T I L (76800 + k)) f.o z w = 4 := by
                      unfold vr_re; rw [if_neg t0, vx_r2w zs hz, dt]
                      exact if_neg (fun y => er y.2.2.1)
                    rw [e]; rfl
                  exact ⟨_, _, by rw [ev], rfl, rfl⟩
          · refine jv_Wp.lift (fun _ Kz => jv_Ev.steps jv_i290 5 (pc' := 151) (l' := [(7, .int (1 : Int32)), (5, .long ((I 206 (76800 + k)).toInt64 + (Int32.ofInt f.o).toInt64)), (4, .int (I 205 (76800 + k))), (0, .ref 196), (1, .int (vl_I k)), (2, .int (vl_I z)), (3, .int (vr_b w))]) (st' := [.int (8 : Int32), .int (vl_I z)]) rfl Kz) ?_
            refine jv_Wp.cnd jv_i290 (pt := 174) (pe := 154) (p := (¬ (vl_I z) = (8 : Int32))) (q := (¬ (vl_I z) = (8 : Int32))) rfl jv_bc_ne rfl rfl Iff.rfl (fun h15 => ?_) (fun h15 => ?_)
            · refine jv_Wp.lift (fun _ Kz => jv_Ev.steps jv_i290 3 (pc' := 179) (l' := [(8, .int (0 : Int32)), (7, .int (1 : Int32)), (5, .long ((I 206 (76800 + k)).toInt64 + (Int32.ofInt f.o).toInt64)), (4, .int (I 205 (76800 + k))), (0, .ref 196), (1, .int (vl_I k)), (2, .int (vl_I z)), (3, .int (vr_b w))]) (st' := [.int (1 : Int32)]) rfl Kz) ?_
              refine jv_Wp.lift (fun _ Kz => jv_Ev.br jv_i290 (pc' := 182) (st' := []) rfl (by rfl) Kz) ?_
              refine jv_Wp.lift (fun _ Kz => jv_Ev.steps jv_i290 1 (pc' := 183) (l' := [(8, .int (0 : Int32)), (7, .int (1 : Int32)), (5, .long ((I 206 (76800 + k)).toInt64 + (Int32.ofInt f.o).toInt64)), (4, .int (I 205 (76800 + k))), (0, .ref 196), (1, .int (vl_I k)), (2, .int (vl_I z)), (3, .int (vr_b w))]) (st' := [.int (vr_b w)]) rfl Kz) ?_
              refine jv_Wp.cnd jv_i290 (pt := 198) (pe := 186) (p := ((vr_b w) = 0)) (q := ((vr_b w) = 0)) rfl jv_bi_eq rfl rfl Iff.rfl (fun h16 => ?_) (fun h16 => ?_)
              · refine jv_Wp.lift (fun _ Kz => jv_Ev.steps jv_i290 3 (pc' := 204) (l' := [(8, .int (0 : Int32)), (7, .int (1 : Int32)), (5, .long ((I 206 (76800 + k)).toInt64 + (Int32.ofInt f.o).toInt64)), (4, .int (I 205 (76800 + k))), (0, .ref 196), (1, .int (vl_I k)), (2, .int (vl_I z)), (3, .int (vr_b w))]) (st' := [.int (lg_cmp ((I 206 (76800 + k)).toInt64 + (Int32.ofInt f.o).toInt64) (16 : Int64))]) rfl Kz) ?_
                refine jv_Wp.cnd jv_i290 (pt := 212) (pe := 207) (p := (0 ≤ (lg_cmp ((I 206 (76800 + k)).toInt64 + (Int32.ofInt f.o).toInt64) (16 : Int64)))) (q := ((16 : Int64) ≤ ((I 206 (76800 + k)).toInt64 + (Int32.ofInt f.o).toInt64))) rfl jv_bi_ge rfl rfl (lg_cmp_ge ((I 206 (76800 + k)).toInt64 + (Int32.ofInt f.o).toInt64) (16 : Int64)) (fun h17 => ?_) (fun h17 => ?_)
                · refine jv_Wp.lift (fun _ Kz => jv_Ev.steps jv_i290 2 (pc' := 217) (l' := [(8, .int (0 : Int32)), (7, .int (1 : Int32)), (5, .long ((I 206 (76800 + k)).toInt64 + (Int32.ofInt f.o).toInt64)), (4, .int (I 205 (76800 + k))), (0, .ref 196), (1, .int (vl_I k)), (2, .int (vl_I z)), (3, .int (vr_b w))]) (st' := [.int (0 : Int32)]) rfl Kz) ?_
                  refine jv_Wp.of (jv_Ev.ret jv_i290 rfl rfl) ?_
                  rw [hQ]
                  have zs : (vr_T I L (76800 + k)).sort = 2 := ((vr_is (L := L) 2 (by decide) ok).mpr h2)
                  have t0 : ¬ (vr_T I L (76800 + k)).sort = 0 := by omega
                  have dt : (vr_T I L (76800 + k)).det = (I 206 (76800 + k)).toInt := rfl
                  have ea : ((I 206 (76800 + k)).toInt64 + (Int32.ofInt f.o).toInt64).toInt = (I 206 (76800 + k)).toInt + f.o := by rw [vi_add (by rw [Int32.toInt_toInt64]; omega), Int32.toInt_toInt64, vr_dO D]
                  have ez : ((vl_I z).toInt64).toInt = (z : Int) := (Int32.toInt_toInt64 _).trans (vl_I_int (by omega))
                  have en : ((-(vl_I z)).toInt64).toInt = -(z : Int) := by rw [Int32.toInt_toInt64, Int32.toInt_neg, show (vl_I z).toInt = (z : Int) from vl_I_int (by omega)]; exact vi_bm32 (by omega) (by omega)
                  have e64 : ((64 : Int64) - (vl_I z).toInt64).toInt = 64 - (z : Int) := by rw [Int64.toInt_sub, ez]; exact vi_bm (by show -9223372036854775808 ≤ 64 - (z : Int); omega) (by show 64 - (z : Int) < 9223372036854775808; omega)
                  have l0 : (0 : Int64).toInt = 0 := rfl
                  have l16 : (16 : Int64).toInt = 16 := rfl
                  have y1 : ¬ (vl_I z).toInt64.toInt = (0 : Int64).toInt := fun z => hz0 (Int64.toInt_inj.mp z)
                  have y2 : ¬ ((I 206 (76800 + k)).toInt64 + (Int32.ofInt f.o).toInt64).toInt < (0 : Int64).toInt := fun z => h3 (Int64.lt_iff_toInt_lt.mpr z)
                  have y3 : ¬ ((64 : Int64) - (vl_I z).toInt64).toInt < ((I 206 (76800 + k)).toInt64 + (Int32.ofInt f.o).toInt64).toInt := fun z => h7 (Int64.lt_iff_toInt_lt.mpr z)
                  have y4 : (16 : Int64).toInt ≤ ((I 206 (76800 + k)).toInt64 + (Int32.ofInt f.o).toInt64).toInt := Int64.le_iff_toInt_le.mp h17
                  have er : ((I 206 (76800 + k)).toInt + f.o) % (z : Int) = 0 := by rw [← ea]; exact (vi_remz hz ⟨by omega, by omega⟩).mp (Classical.not_not.mp h11)
                  have z8 : ¬ z = 8 := fun y => h15 (by rw [y]; rfl)
                  have bw : w = false := vr_b_f h16
                  have ev : (0 : Int32) = vl_I (vr_re M (vr_A I L 1024) (vr_T I L (76800 + k)) f.o z w) := by
                    have e : vr_re M (vr_A I L 1024) (vr_T I L (76800 + k)) f.o z w = 0 := by
                      unfold vr_re; rw [if_neg t0, vx_r2w zs hz, dt]
                      exact if_pos ⟨by omega, by omega, er, fun y => absurd (bw.symm.trans y) (by decide), fun _ => by omega⟩
                    rw [e]; rfl
                  exact ⟨_, _, by rw [ev], rfl, rfl⟩
                · refine jv_Wp.lift (fun _ Kz => jv_Ev.steps jv_i290 1 (pc' := 209) (l' := [(8, .int (0 : Int32)), (7, .int (1 : Int32)), (5, .long ((I 206 (76800 + k)).toInt64 + (Int32.ofInt f.o).toInt64)), (4, .int (I 205 (76800 + k))), (0, .ref 196), (1, .int (vl_I k)), (2, .int (vl_I z)), (3, .int (vr_b w))]) (st' := [.int (0 : Int32)]) rfl Kz) ?_
                  refine jv_Wp.lift (fun _ Kz => jv_Ev.br jv_i290 (pc' := 216) (st' := []) rfl (by rfl) Kz) ?_
                  refine jv_Wp.lift (fun _ Kz => jv_Ev.steps jv_i290 1 (pc' := 217) (l' := [(8, .int (0 : Int32)), (7, .int (1 : Int32)), (5, .long ((I 206 (76800 + k)).toInt64 + (Int32.ofInt f.o).toInt64)), (4, .int (I 205 (76800 + k))), (0, .ref 196), (1, .int (vl_I k)), (2, .int (vl_I z)), (3, .int (vr_b w))]) (st' := [.int (4 : Int32)]) rfl Kz) ?_
                  refine jv_Wp.of (jv_Ev.ret jv_i290 rfl rfl) ?_
                  rw [hQ]
                  have zs : (vr_T I L (76800 + k)).sort = 2 := ((vr_is (L := L) 2 (by decide) ok).mpr h2)
                  have t0 : ¬ (vr_T I L (76800 + k)).sort = 0 := by omega
                  have dt : (vr_T I L (76800 + k)).det = (I 206 (76800 + k)).toInt := rfl
                  have ea : ((I 206 (76800 + k)).toInt64 + (Int32.ofInt f.o).toInt64).toInt = (I 206 (76800 + k)).toInt + f.o := by rw [vi_add (by rw [Int32.toInt_toInt64]; omega), Int32.toInt_toInt64, vr_dO D]
                  have ez : ((vl_I z).toInt64).toInt = (z : Int) := (Int32.toInt_toInt64 _).trans (vl_I_int (by omega))
                  have en : ((-(vl_I z)).toInt64).toInt = -(z : Int) := by rw [Int32.toInt_toInt64, Int32.toInt_neg, show (vl_I z).toInt = (z : Int) from vl_I_int (by omega)]; exact vi_bm32 (by omega) (by omega)
                  have e64 : ((64 : Int64) - (vl_I z).toInt64).toInt = 64 - (z : Int) := by rw [Int64.toInt_sub, ez]; exact vi_bm (by show -9223372036854775808 ≤ 64 - (z : Int); omega) (by show 64 - (z : Int) < 9223372036854775808; omega)
                  have l0 : (0 : Int64).toInt = 0 := rfl
                  have l16 : (16 : Int64).toInt = 16 := rfl
                  have y1 : ¬ (vl_I z).toInt64.toInt = (0 : Int64).toInt := fun z => hz0 (Int64.toInt_inj.mp z)
                  have y2 : ¬ ((I 206 (76800 + k)).toInt64 + (Int32.ofInt f.o).toInt64).toInt < (0 : Int64).toInt := fun z => h3 (Int64.lt_iff_toInt_lt.mpr z)
                  have y3 : ¬ ((64 : Int64) - (vl_I z).toInt64).toInt < ((I 206 (76800 + k)).toInt64 + (Int32.ofInt f.o).toInt64).toInt := fun z => h7 (Int64.lt_iff_toInt_lt.mpr z)
                  have y4 : ¬ (16 : Int64).toInt ≤ ((I 206 (76800 + k)).toInt64 + (Int32.ofInt f.o).toInt64).toInt := fun z => h17 (Int64.le_iff_toInt_le.mpr z)
                  have er : ((I 206 (76800 + k)).toInt + f.o) % (z : Int) = 0 := by rw [← ea]; exact (vi_remz hz ⟨by omega, by omega⟩).mp (Classical.not_not.mp h11)
                  have z8 : ¬ z = 8 := fun y => h15 (by rw [y]; rfl)
                  have bw : w = false := vr_b_f h16
                  have ev : (4 : Int32) = vl_I (vr_re M (vr_A I L 1024) (vr_T I L (76800 + k)) f.o z w) := by
                    have e : vr_re M (vr_A I L 1024) (vr_T I L (76800 + k)) f.o z w = 4 := by
                      unfold vr_re; rw [if_neg t0, vx_r2w zs hz, dt]
                      exact if_neg (fun y => by have := y.2.2.2.2 bw; omega)
                    rw [e]; rfl
                  exact ⟨_, _, by rw [ev], rfl, rfl⟩
              · refine jv_Wp.lift (fun _ Kz => jv_Ev.steps jv_i290 3 (pc' := 192) (l' := [(8, .int (0 : Int32)), (7, .int (1 : Int32)), (5, .long ((I 206 (76800 + k)).toInt64 + (Int32.ofInt f.o).toInt64)), (4, .int (I 205 (76800 + k))), (0, .ref 196), (1, .int (vl_I k)), (2, .int (vl_I z)), (3, .int (vr_b w))]) (st' := [.int (lg_cmp ((I 206 (76800 + k)).toInt64 + (Int32.ofInt f.o).toInt64) (32 : Int64))]) rfl Kz) ?_
                refine jv_Wp.cnd jv_i290 (pt := 216) (pe := 195) (p := ((lg_cmp ((I 206 (76800 + k)).toInt64 + (Int32.ofInt f.o).toInt64) (32 : Int64)) < 0)) (q := (((I 206 (76800 + k)).toInt64 + (Int32.ofInt f.o).toInt64) < (32 : Int64))) rfl jv_bi_lt rfl rfl (lg_cmp_lt ((I 206 (76800 + k)).toInt64 + (Int32.ofInt f.o).toInt64) (32 : Int64)) (fun h18 => ?_) (fun h18 => ?_)
                · refine jv_Wp.lift (fun _ Kz => jv_Ev.steps jv_i290 1 (pc' := 217) (l' := [(8, .int (0 : Int32)), (7, .int (1 : Int32)), (5, .long ((I 206 (76800 + k)).toInt64 + (Int32.ofInt f.o).toInt64)), (4, .int (I 205 (76800 + k))), (0, .ref 196), (1, .int (vl_I k)), (2, .int (vl_I z)), (3, .int (vr_b w))]) (st' := [.int (4 : Int32)]) rfl Kz) ?_
                  refine jv_Wp.of (jv_Ev.ret jv_i290 rfl rfl) ?_
                  rw [hQ]
                  have zs : (vr_T I L (76800 + k)).sort = 2 := ((vr_is (L := L) 2 (by decide) ok).mpr h2)
                  have t0 : ¬ (vr_T I L (76800 + k)).sort = 0 := by omega
                  have dt : (vr_T I L (76800 + k)).det = (I 206 (76800 + k)).toInt := rfl
                  have ea : ((I 206 (76800 + k)).toInt64 + (Int32.ofInt f.o).toInt64).toInt = (I 206 (76800 + k)).toInt + f.o := by rw [vi_add (by rw [Int32.toInt_toInt64]; omega), Int32.toInt_toInt64, vr_dO D]
                  have ez : ((vl_I z).toInt64).toInt = (z : Int) := (Int32.toInt_toInt64 _).trans (vl_I_int (by omega))
                  have en : ((-(vl_I z)).toInt64).toInt = -(z : Int) := by rw [Int32.toInt_toInt64, Int32.toInt_neg, show (vl_I z).toInt = (z : Int) from vl_I_int (by omega)]; exact vi_bm32 (by omega) (by omega)
                  have e64 : ((64 : Int64) - (vl_I z).toInt64).toInt = 64 - (z : Int) := by rw [Int64.toInt_sub, ez]; exact vi_bm (by show -9223372036854775808 ≤ 64 - (z : Int); omega) (by show 64 - (z : Int) < 9223372036854775808; omega)
                  have l0 : (0 : Int64).toInt = 0 := rfl
                  have l32 : (32 : Int64).toInt = 32 := rfl
                  have y1 : ¬ (vl_I z).toInt64.toInt = (0 : Int64).toInt := fun z => hz0 (Int64.toInt_inj.mp z)
                  have y2 : ¬ ((I 206 (76800 + k)).toInt64 + (Int32.ofInt f.o).toInt64).toInt < (0 : Int64).toInt := fun z => h3 (Int64.lt_iff_toInt_lt.mpr z)
                  have y3 : ¬ ((64 : Int64) - (vl_I z).toInt64).toInt < ((I 206 (76800 + k)).toInt64 + (Int32.ofInt f.o).toInt64).toInt := fun z => h7 (Int64.lt_iff_toInt_lt.mpr z)
                  have y4 : ((I 206 (76800 + k)).toInt64 + (Int32.ofInt f.o).toInt64).toInt < (32 : Int64).toInt := Int64.lt_iff_toInt_lt.mp h18
                  have er : ((I 206 (76800 + k)).toInt + f.o) % (z : Int) = 0 := by rw [← ea]; exact (vi_remz hz ⟨by omega, by omega⟩).mp (Classical.not_not.mp h11)
                  have z8 : ¬ z = 8 := fun y => h15 (by rw [y]; rfl)
                  have bw : w = true := vr_b_t h16
                  have ev : (4 : Int32) = vl_I (vr_re M (vr_A I L 1024) (vr_T I L (76800 + k)) f.o z w) := by
                    have e : vr_re M (vr_A I L 1024) (vr_T I L (76800 + k)) f.o z w = 4 := by
                      unfold vr_re; rw [if_neg t0, vx_r2w zs hz, dt]
                      exact if_neg (fun y => by have := y.2.2.2.1 bw; omega)
                    rw [e]; rfl
                  exact ⟨_, _, by rw [ev], rfl, rfl⟩
                · refine jv_Wp.lift (fun _ Kz => jv_Ev.steps jv_i290 3 (pc' := 217) (l' := [(8, .int (0 : Int32)), (7, .int (1 : Int32)), (5, .long ((I 206 (76800 + k)).toInt64 + (Int32.ofInt f.o).toInt64)), (4, .int (I 205 (76800 + k))), (0, .ref 196), (1, .int (vl_I k)), (2, .int (vl_I z)), (3, .int (vr_b w))]) (st' := [.int (0 : Int32)]) rfl Kz) ?_
                  refine jv_Wp.of (jv_Ev.ret jv_i290 rfl rfl) ?_
                  rw [hQ]
                  have zs : (vr_T I L (76800 + k)).sort = 2 := ((vr_is (L := L) 2 (by decide) ok).mpr h2)
                  have t0 : ¬ (vr_T I L (76800 + k)).sort = 0 := by omega
                  have dt : (vr_T I L (76800 + k)).det = (I 206 (76800 + k)).toInt := rfl
                  have ea : ((I 206 (76800 + k)).toInt64 + (Int32.ofInt f.o).toInt64).toInt = (I 206 (76800 + k)).toInt + f.o := by rw [vi_add (by rw [Int32.toInt_toInt64]; omega), Int32.toInt_toInt64, vr_dO D]
                  have ez : ((vl_I z).toInt64).toInt = (z : Int) := (Int32.toInt_toInt64 _).trans (vl_I_int (by omega))
                  have en : ((-(vl_I z)).toInt64).toInt = -(z : Int) := by rw [Int32.toInt_toInt64, Int32.toInt_neg, show (vl_I z).toInt = (z : Int) from vl_I_int (by omega)]; exact vi_bm32 (by omega) (by omega)
                  have e64 : ((64 : Int64) - (vl_I z).toInt64).toInt = 64 - (z : Int) := by rw [Int64.toInt_sub, ez]; exact vi_bm (by show -9223372036854775808 ≤ 64 - (z : Int); omega) (by show 64 - (z : Int) < 9223372036854775808; omega)
                  have l0 : (0 : Int64).toInt = 0 := rfl
                  have l32 : (32 : Int64).toInt = 32 := rfl
                  have y1 : ¬ (vl_I z).toInt64.toInt = (0 : Int64).toInt := fun z => hz0 (Int64.toInt_inj.mp z)
                  have y2 : ¬ ((I 206 (76800 + k)).toInt64 + (Int32.ofInt f.o).toInt64).toInt < (0 : Int64).toInt := fun z => h3 (Int64.lt_iff_toInt_lt.mpr z)
                  have y3 : ¬ ((64 : Int64) - (vl_I z).toInt64).toInt < ((I 206 (76800 + k)).toInt64 + (Int32.ofInt f.o).toInt64).toInt := fun z => h7 (Int64.lt_iff_toInt_lt.mpr z)
                  have y4 : ¬ ((I 206 (76800 + k)).toInt64 + (Int32.ofInt f.o).toInt64).toInt < (32 : Int64).toInt := fun z => h18 (Int64.lt_iff_toInt_lt.mpr z)
                  have er : ((I 206 (76800 + k)).toInt + f.o) % (z : Int) = 0 := by rw [← ea]; exact (vi_remz hz ⟨by omega, by omega⟩).mp (Classical.not_not.mp h11)
                  have z8 : ¬ z = 8 := fun y => h15 (by rw [y]; rfl)
                  have bw : w = true := vr_b_t h16
                  have ev : (0 : Int32) = vl_I (vr_re M (vr_A I L 1024) (vr_T I L (76800 + k)) f.o z w) := by
                    have e : vr_re M (vr_A I L 1024) (vr_T I L (76800 + k)) f.o z w = 0 := by
                      unfold vr_re; rw [if_neg t0, vx_r2w zs hz, dt]
                      exact if_pos ⟨by omega, by omega, er, fun _ => by omega, fun y => absurd (bw.symm.trans y) (by decide)⟩
                    rw [e]; rfl
                  exact ⟨_, _, by rw [ev], rfl, rfl⟩
            · refine jv_Wp.lift (fun _ Kz => jv_Ev.steps jv_i290 3 (pc' := 158) (l' := [(7, .int (1 : Int32)), (5, .long ((I 206 (76800 + k)).toInt64 + (Int32.ofInt f.o).toInt64)), (4, .int (I 205 (76800 + k))), (0, .ref 196), (1, .int (vl_I k)), (2, .int (vl_I z)), (3, .int (vr_b w))]) (st' := [.int (lg_cmp ((I 206 (76800 + k)).toInt64 + (Int32.ofInt f.o).toInt64) (0 : Int64))]) rfl Kz) ?_
              refine jv_Wp.cnd jv_i290 (pt := 170) (pe := 161) (p := ((lg_cmp ((I 206 (76800 + k)).toInt64 + (Int32.ofInt f.o).toInt64) (0 : Int64)) = 0)) (q := (((I 206 (76800 + k)).toInt64 + (Int32.ofInt f.o).toInt64) = (0 : Int64))) rfl jv_bi_eq rfl rfl (lg_cmp_eq ((I 206 (76800 + k)).toInt64 + (Int32.ofInt f.o).toInt64) (0 : Int64)) (fun h19 => ?_) (fun h19 => ?_)
              · refine jv_Wp.lift (fun _ Kz => jv_Ev.steps jv_i290 4 (pc' := 179) (l' := [(8, .int (1 : Int32)), (7, .int (1 : Int32)), (5, .long ((I 206 (76800 + k)).toInt64 + (Int32.ofInt f.o).toInt64)), (4, .int (I 205 (76800 + k))), (0, .ref 196), (1, .int (vl_I k)), (2, .int (vl_I z)), (3, .int (vr_b w))]) (st' := [.int (1 : Int32)]) rfl Kz) ?_
                refine jv_Wp.lift (fun _ Kz => jv_Ev.br jv_i290 (pc' := 182) (st' := []) rfl (by rfl) Kz) ?_
                refine jv_Wp.lift (fun _ Kz => jv_Ev.steps jv_i290 1 (pc' := 183) (l' := [(8, .int (1 : Int32)), (7, .int (1 : Int32)), (5, .long ((I 206 (76800 + k)).toInt64 + (Int32.ofInt f.o).toInt64)), (4, .int (I 205 (76800 + k))), (0, .ref 196), (1, .int (vl_I k)), (2, .int (vl_I z)), (3, .int (vr_b w))]) (st' := [.int (vr_b w)]) rfl Kz) ?_
                refine jv_Wp.cnd jv_i290 (pt := 198) (pe := 186) (p := ((vr_b w) = 0)) (q := ((vr_b w) = 0)) rfl jv_bi_eq rfl rfl Iff.rfl (fun h20 => ?_) (fun h20 => ?_)
                · refine jv_Wp.lift (fun _ Kz => jv_Ev.steps jv_i290 3 (pc' := 204) (l' := [(8, .int (1 : Int32)), (7, .int (1 : Int32)), (5, .long ((I 206 (76800 + k)).toInt64 + (Int32.ofInt f.o).toInt64)), (4, .int (I 205 (76800 + k))), (0, .ref 196), (1, .int (vl_I k)), (2, .int (vl_I z)), (3, .int (vr_b w))]) (st' := [.int (lg_cmp ((I 206 (76800 + k)).toInt64 + (Int32.ofInt f.o).toInt64) (16 : Int64))]) rfl Kz) ?_
                  refine jv_Wp.cnd jv_i290 (pt := 212) (pe := 207) (p := (0 ≤ (lg_cmp ((I 206 (76800 + k)).toInt64 + (Int32.ofInt f.o).toInt64) (16 : Int64)))) (q := ((16 : Int64) ≤ ((I 206 (76800 + k)).toInt64 + (Int32.ofInt f.o).toInt64))) rfl jv_bi_ge rfl rfl (lg_cmp_ge ((I 206 (76800 + k)).toInt64 + (Int32.ofInt f.o).toInt64) (16 : Int64)) (fun h21 => ?_) (fun h21 => ?_)
                  · refine jv_Wp.lift (fun _ Kz => jv_Ev.steps jv_i290 2 (pc' := 217) (l' := [(8, .int (1 : Int32)), (7, .int (1 : Int32)), (5, .long ((I 206 (76800 + k)).toInt64 + (Int32.ofInt f.o).toInt64)), (4, .int (I 205 (76800 + k))), (0, .ref 196), (1, .int (vl_I k)), (2, .int (vl_I z)), (3, .int (vr_b w))]) (st' := [.int (0 : Int32)]) rfl Kz) ?_
                    refine jv_Wp.of (jv_Ev.ret jv_i290 rfl rfl) ?_
                    rw [hQ]
                    have zs : (vr_T I L (76800 + k)).sort = 2 := ((vr_is (L := L) 2 (by decide) ok).mpr h2)
                    have t0 : ¬ (vr_T I L (76800 + k)).sort = 0 := by omega
                    have dt : (vr_T I L (76800 + k)).det = (I 206 (76800 + k)).toInt := rfl
                    have ea : ((I 206 (76800 + k)).toInt64 + (Int32.ofInt f.o).toInt64).toInt = (I 206 (76800 + k)).toInt + f.o := by rw [vi_add (by rw [Int32.toInt_toInt64]; omega), Int32.toInt_toInt64, vr_dO D]
                    have ez : ((vl_I z).toInt64).toInt = (z : Int) := (Int32.toInt_toInt64 _).trans (vl_I_int (by omega))
                    have en : ((-(vl_I z)).toInt64).toInt = -(z : Int) := by rw [Int32.toInt_toInt64, Int32.toInt_neg, show (vl_I z).toInt = (z : Int) from vl_I_int (by omega)]; exact vi_bm32 (by omega) (by omega)
                    have e64 : ((64 : Int64) - (vl_I z).toInt64).toInt = 64 - (z : Int) := by rw [Int64.toInt_sub, ez]; exact vi_bm (by show -9223372036854775808 ≤ 64 - (z : Int); omega) (by show 64 - (z : Int) < 9223372036854775808; omega)
                    have l0 : (0 : Int64).toInt = 0 := rfl
                    have l16 : (16 : Int64).toInt = 16 := rfl
                    have y1 : ¬ (vl_I z).toInt64.toInt = (0 : Int64).toInt := fun z => hz0 (Int64.toInt_inj.mp z)
                    have y2 : ¬ ((I 206 (76800 + k)).toInt64 + (Int32.ofInt f.o).toInt64).toInt < (0 : Int64).toInt := fun z => h3 (Int64.lt_iff_toInt_lt.mpr z)
                    have y3 : ¬ ((64 : Int64) - (vl_I z).toInt64).toInt < ((I 206 (76800 + k)).toInt64 + (Int32.ofInt f.o).toInt64).toInt := fun z => h7 (Int64.lt_iff_toInt_lt.mpr z)
                    have y4 : ((I 206 (76800 + k)).toInt64 + (Int32.ofInt f.o).toInt64).toInt = (0 : Int64).toInt := congrArg Int64.toInt h19
                    have y5 : (16 : Int64).toInt ≤ ((I 206 (76800 + k)).toInt64 + (Int32.ofInt f.o).toInt64).toInt := Int64.le_iff_toInt_le.mp h21
                    have er : ((I 206 (76800 + k)).toInt + f.o) % (z : Int) = 0 := by rw [← ea]; exact (vi_remz hz ⟨by omega, by omega⟩).mp (Classical.not_not.mp h11)
                    have z8 : z = 8 := (vl_I_inj (b := 8) (by omega) (by decide)).mp (Classical.not_not.mp h15)
                    have bw : w = false := vr_b_f h20
                    have ev : (0 : Int32) = vl_I (vr_re M (vr_A I L 1024) (vr_T I L (76800 + k)) f.o z w) := by
                      have e : vr_re M (vr_A I L 1024) (vr_T I L (76800 + k)) f.o z w = 0 := by
                        unfold vr_re; rw [if_neg t0, vx_r2w zs hz, dt]
                        exact if_pos ⟨by omega, by omega, er, fun y => absurd (bw.symm.trans y) (by decide), fun _ => by omega⟩
                      rw [e]; rfl
                    exact ⟨_, _, by rw [ev], rfl, rfl⟩
                  · refine jv_Wp.lift (fun _ Kz => jv_Ev.steps jv_i290 1 (pc' := 209) (l' := [(8, .int (1 : Int32)), (7, .int (1 : Int32)), (5, .long ((I 206 (76800 + k)).toInt64 + (Int32.ofInt f.o).toInt64)), (4, .int (I 205 (76800 + k))), (0, .ref 196), (1, .int (vl_I k)), (2, .int (vl_I z)), (3, .int (vr_b w))]) (st' := [.int (1 : Int32)]) rfl Kz) ?_
                    refine jv_Wp.lift (fun _ Kz => jv_Ev.br jv_i290 (pc' := 212) (st' := []) rfl (by rfl) Kz) ?_
                    refine jv_Wp.lift (fun _ Kz => jv_Ev.steps jv_i290 2 (pc' := 217) (l' := [(8, .int (1 : Int32)), (7, .int (1 : Int32)), (5, .long ((I 206 (76800 + k)).toInt64 + (Int32.ofInt f.o).toInt64)), (4, .int (I 205 (76800 + k))), (0, .ref 196), (1, .int (vl_I k)), (2, .int (vl_I z)), (3, .int (vr_b w))]) (st' := [.int (0 : Int32)]) rfl Kz) ?_
                    refine jv_Wp.of (jv_Ev.ret jv_i290 rfl rfl) ?_
                    rw [hQ]
                    have zs : (vr_T I L (76800 + k)).sort = 2 := ((vr_is (L := L) 2 (by decide) ok).mpr h2)
                    have t0 : ¬ (vr_T I L (76800 + k)).sort = 0 := by omega
                    have dt : (vr_T I L (76800 + k)).det = (I 206 (76800 + k)).toInt := rfl
                    have ea : ((I 206 (76800 + k)).toInt64 + (Int32.ofInt f.o).toInt64).toInt = (I 206 (76800 + k)).toInt + f.o := by rw [vi_add (by rw [Int32.toInt_toInt64]; omega), Int32.toInt_toInt64, vr_dO D]
                    have ez : ((vl_I z).toInt64).toInt = (z : Int) := (Int32.toInt_toInt64 _).trans (vl_I_int (by omega))
                    have en : ((-(vl_I z)).toInt64).toInt = -(z : Int) := by rw [Int32.toInt_toInt64, Int32.toInt_neg, show (vl_I z).toInt = (z : Int) from vl_I_int (by omega)]; exact vi_bm32 (by omega) (by omega)
                    have e64 : ((64 : Int64) - (vl_I z).toInt64).toInt = 64 - (z : Int) := by rw [Int64.toInt_sub, ez]; exact vi_bm (by show -9223372036854775808 ≤ 64 - (z : Int); omega) (by show 64 - (z : Int) < 9223372036854775808; omega)
                    have l0 : (0 : Int64).toInt = 0 := rfl
                    have l16 : (16 : Int64).toInt = 16 := rfl
                    have y1 : ¬ (vl_I z).toInt64.toInt = (0 : Int64).toInt := fun z => hz0 (Int64.toInt_inj.mp z)
                    have y2 : ¬ ((I 206 (76800 + k)).toInt64 + (Int32.ofInt f.o).toInt64).toInt < (0 : Int64).toInt := fun z => h3 (Int64.lt_iff_toInt_lt.mpr z)
                    have y3 : ¬ ((64 : Int64) - (vl_I z).toInt64).toInt < ((I 206 (76800 + k)).toInt64 + (Int32.ofInt f.o).toInt64).toInt := fun z => h7 (Int64.lt_iff_toInt_lt.mpr z)
                    have y4 : ((I 206 (76800 + k)).toInt64 + (Int32.ofInt f.o).toInt64).toInt = (0 : Int64).toInt := congrArg Int64.toInt h19
                    have y5 : ¬ (16 : Int64).toInt ≤ ((I 206 (76800 + k)).toInt64 + (Int32.ofInt f.o).toInt64).toInt := fun z => h21 (Int64.le_iff_toInt_le.mpr z)
                    have er : ((I 206 (76800 + k)).toInt + f.o) % (z : Int) = 0 := by rw [← ea]; exact (vi_remz hz ⟨by omega, by omega⟩).mp (Classical.not_not.mp h11)
                    have z8 : z = 8 := (vl_I_inj (b := 8) (by omega) (by decide)).mp (Classical.not_not.mp h15)
                    have bw : w = false := vr_b_f h20
                    have ev : (0 : Int32) = vl_I (vr_re M (vr_A I L 1024) (vr_T I L (76800 + k)) f.o z w) := by
                      have e : vr_re M (vr_A I L 1024) (vr_T I L (76800 + k)) f.o z w = 0 := by
                        unfold vr_re; rw [if_neg t0, vx_r2w zs hz, dt]
                        exact if_pos ⟨by omega, by omega, er, fun y => absurd (bw.symm.trans y) (by decide), fun _ => by omega⟩
                      rw [e]; rfl
                    exact ⟨_, _, by rw [ev], rfl, rfl⟩
                · refine jv_Wp.lift (fun _ Kz => jv_Ev.steps jv_i290 3 (pc' := 192) (l' := [(8, .int (1 : Int32)), (7, .int (1 : Int32)), (5, .long ((I 206 (76800 + k)).toInt64 + (Int32.ofInt f.o).toInt64)), (4, .int (I 205 (76800 + k))), (0, .ref 196), (1, .int (vl_I k)), (2, .int (vl_I z)), (3, .int (vr_b w))]) (st' := [.int (lg_cmp ((I 206 (76800 + k)).toInt64 + (Int32.ofInt f.o).toInt64) (32 : Int64))]) rfl Kz) ?_
                  refine jv_Wp.cnd jv_i290 (pt := 216) (pe := 195) (p := ((lg_cmp ((I 206 (76800 + k)).toInt64 + (Int32.ofInt f.o).toInt64) (32 : Int64)) < 0)) (q := (((I 206 (76800 + k)).toInt64 + (Int32.ofInt f.o).toInt64) < (32 : Int64))) rfl jv_bi_lt rfl rfl (lg_cmp_lt ((I 206 (76800 + k)).toInt64 + (Int32.ofInt f.o).toInt64) (32 : Int64)) (fun h22 => ?_) (fun h22 => ?_)
                  · refine jv_Wp.lift (fun _ Kz => jv_Ev.steps jv_i290 1 (pc' := 217) (l' := [(8, .int (1 : Int32)), (7, .int (1 : Int32)), (5, .long ((I 206 (76800 + k)).toInt64 + (Int32.ofInt f.o).toInt64)), (4, .int (I 205 (76800 + k))), (0, .ref 196), (1, .int (vl_I k)), (2, .int (vl_I z)), (3, .int (vr_b w))]) (st' := [.int (4 : Int32)]) rfl Kz) ?_
                    refine jv_Wp.of (jv_Ev.ret jv_i290 rfl rfl) ?_
                    rw [hQ]
                    have zs : (vr_T I L (76800 + k)).sort = 2 := ((vr_is (L := L) 2 (by decide) ok).mpr h2)
                    have t0 : ¬ (vr_T I L (76800 + k)).sort = 0 := by omega
                    have dt : (vr_T I L (76800 + k)).det = (I 206 (76800 + k)).toInt := rfl
                    have ea : ((I 206 (76800 + k)).toInt64 + (Int32.ofInt f.o).toInt64).toInt = (I 206 (76800 + k)).toInt + f.o := by rw [vi_add (by rw [Int32.toInt_toInt64]; omega), Int32.toInt_toInt64, vr_dO D]
                    have ez : ((vl_I z).toInt64).toInt = (z : Int) := (Int32.toInt_toInt64 _).trans (vl_I_int (by omega))
                    have en : ((-(vl_I z)).toInt64).toInt = -(z : Int) := by rw [Int32.toInt_toInt64, Int32.toInt_neg, show (vl_I z).toInt = (z : Int) from vl_I_int (by omega)]; exact vi_bm32 (by omega) (by omega)
                    have e64 : ((64 : Int64) - (vl_I z).toInt64).toInt = 64 - (z : Int) := by rw [Int64.toInt_sub, ez]; exact vi_bm (by show -9223372036854775808 ≤ 64 - (z : Int); omega) (by show 64 - (z : Int) < 9223372036854775808; omega)
                    have l0 : (0 : Int64).toInt = 0 := rfl
                    have l32 : (32 : Int64).toInt = 32 := rfl
                    have y1 : ¬ (vl_I z).toInt64.toInt = (0 : Int64).toInt := fun z => hz0 (Int64.toInt_inj.mp z)
                    have y2 : ¬ ((I 206 (76800 + k)).toInt64 + (Int32.ofInt f.o).toInt64).toInt < (0 : Int64).toInt := fun z => h3 (Int64.lt_iff_toInt_lt.mpr z)
                    have y3 : ¬ ((64 : Int64) - (vl_I z).toInt64).toInt < ((I 206 (76800 + k)).toInt64 + (Int32.ofInt f.o).toInt64).toInt := fun z => h7 (Int64.lt_iff_toInt_lt.mpr z)
                    have y4 : ((I 206 (76800 + k)).toInt64 + (Int32.ofInt f.o).toInt64).toInt = (0 : Int64).toInt := congrArg Int64.toInt h19
                    have y5 : ((I 206 (76800 + k)).toInt64 + (Int32.ofInt f.o).toInt64).toInt < (32 : Int64).toInt := Int64.lt_iff_toInt_lt.mp h22
                    have er : ((I 206 (76800 + k)).toInt + f.o) % (z : Int) = 0 := by rw [← ea]; exact (vi_remz hz ⟨by omega, by omega⟩).mp (Classical.not_not.mp h11)
                    have z8 : z = 8 := (vl_I_inj (b := 8) (by omega) (by decide)).mp (Classical.not_not.mp h15)
                    have bw : w = true := vr_b_t h20
                    have ev : (4 : Int32) = vl_I (vr_re M (vr_A I L 1024) (vr_T I L (76800 + k)) f.o z w) := by
                      have e : vr_re M (vr_A I L 1024) (vr_T I L (76800 + k)) f.o z w = 4 := by
                        unfold vr_re; rw [if_neg t0, vx_r2w zs hz, dt]
                        exact if_neg (fun y => by have := y.2.2.2.1 bw; omega)
                      rw [e]; rfl
                    exact ⟨_, _, by rw [ev], rfl, rfl⟩
                  · refine jv_Wp.lift (fun _ Kz => jv_Ev.steps jv_i290 3 (pc' := 217) (l' := [(8, .int (1 : Int32)), (7, .int (1 : Int32)), (5, .long ((I 206 (76800 + k)).toInt64 + (Int32.ofInt f.o).toInt64)), (4, .int (I 205 (76800 + k))), (0, .ref 196), (1, .int (vl_I k)), (2, .int (vl_I z)), (3, .int (vr_b w))]) (st' := [.int (0 : Int32)]) rfl Kz) ?_
                    refine jv_Wp.of (jv_Ev.ret jv_i290 rfl rfl) ?_
                    rw [hQ]
                    have zs : (vr_T I L (76800 + k)).sort = 2 := ((vr_is (L := L) 2 (by decide) ok).mpr h2)
                    have t0 : ¬ (vr_T I L (76800 + k)).sort = 0 := by omega
                    have dt : (vr_T I L (76800 + k)).det = (I 206 (76800 + k)).toInt := rfl
                    have ea : ((I 206 (76800 + k)).toInt64 + (Int32.ofInt f.o).toInt64).toInt = (I 206 (76800 + k)).toInt + f.o := by rw [vi_add (by rw [Int32.toInt_toInt64]; omega), Int32.toInt_toInt64, vr_dO D]
                    have ez : ((vl_I z).toInt64).toInt = (z : Int) := (Int32.toInt_toInt64 _).trans (vl_I_int (by omega))
                    have en : ((-(vl_I z)).toInt64).toInt = -(z : Int) := by rw [Int32.toInt_toInt64, Int32.toInt_neg, show (vl_I z).toInt = (z : Int) from vl_I_int (by omega)]; exact vi_bm32 (by omega) (by omega)
                    have e64 : ((64 : Int64) - (vl_I z).toInt64).toInt = 64 - (z : Int) := by rw [Int64.toInt_sub, ez]; exact vi_bm (by show -9223372036854775808 ≤ 64 - (z : Int); omega) (by show 64 - (z : Int) < 9223372036854775808; omega)
                    have l0 : (0 : Int64).toInt = 0 := rfl
                    have l32 : (32 : Int64).toInt = 32 := rfl
                    have y1 : ¬ (vl_I z).toInt64.toInt = (0 : Int64).toInt := fun z => hz0 (Int64.toInt_inj.mp z)
                    have y2 : ¬ ((I 206 (76800 + k)).toInt64 + (Int32.ofInt f.o).toInt64).toInt < (0 : Int64).toInt := fun z => h3 (Int64.lt_iff_toInt_lt.mpr z)
                    have y3 : ¬ ((64 : Int64) - (vl_I z).toInt64).toInt < ((I 206 (76800 + k)).toInt64 + (Int32.ofInt f.o).toInt64).toInt := fun z => h7 (Int64.lt_iff_toInt_lt.mpr z)
                    have y4 : ((I 206 (76800 + k)).toInt64 + (Int32.ofInt f.o).toInt64).toInt = (0 : Int64).toInt := congrArg Int64.toInt h19
                    have y5 : ¬ ((I 206 (76800 + k)).toInt64 + (Int32.ofInt f.o).toInt64).toInt < (32 : Int64).toInt := fun z => h22 (Int64.lt_iff_toInt_lt.mpr z)
                    have er : ((I 206 (76800 + k)).toInt + f.o) % (z : Int) = 0 := by rw [← ea]; exact (vi_remz hz ⟨by omega, by omega⟩).mp (Classical.not_not.mp h11)
                    have z8 : z = 8 := (vl_I_inj (b := 8) (by omega) (by decide)).mp (Classical.not_not.mp h15)
                    have bw : w = true := vr_b_t h20
                    have ev : (0 : Int32) = vl_I (vr_re M (vr_A I L 1024) (vr_T I L (76800 + k)) f.o z w) := by
                      have e : vr_re M (vr_A I L 1024) (vr_T I L (76800 + k)) f.o z w = 0 := by
                        unfold vr_re; rw [if_neg t0, vx_r2w zs hz, dt]
                        exact if_pos ⟨by omega, by omega, er, fun _ => by omega, fun y => absurd (bw.symm.trans y) (by decide)⟩
                      rw [e]; rfl
                    exact ⟨_, _, by rw [ev], rfl, rfl⟩
              · refine jv_Wp.lift (fun _ Kz => jv_Ev.steps jv_i290 3 (pc' := 167) (l' := [(7, .int (1 : Int32)), (5, .long ((I 206 (76800 + k)).toInt64 + (Int32.ofInt f.o).toInt64)), (4, .int (I 205 (76800 + k))), (0, .ref 196), (1, .int (vl_I k)), (2, .int (vl_I z)), (3, .int (vr_b w))]) (st' := [.int (lg_cmp ((I 206 (76800 + k)).toInt64 + (Int32.ofInt f.o).toInt64) (8 : Int64))]) rfl Kz) ?_
                refine jv_Wp.cnd jv_i290 (pt := 174) (pe := 170) (p := (¬ (lg_cmp ((I 206 (76800 + k)).toInt64 + (Int32.ofInt f.o).toInt64) (8 : Int64)) = 0)) (q := (¬ ((I 206 (76800 + k)).toInt64 + (Int32.ofInt f.o).toInt64) = (8 : Int64))) rfl jv_bi_ne rfl rfl (not_congr (lg_cmp_eq ((I 206 (76800 + k)).toInt64 + (Int32.ofInt f.o).toInt64) (8 : Int64))) (fun h23 => ?_) (fun h23 => ?_)
                · refine jv_Wp.lift (fun _ Kz => jv_Ev.steps jv_i290 3 (pc' := 179) (l' := [(8, .int (0 : Int32)), (7, .int (1 : Int32)), (5, .long ((I 206 (76800 + k)).toInt64 + (Int32.ofInt f.o).toInt64)), (4, .int (I 205 (76800 + k))), (0, .ref 196), (1, .int (vl_I k)), (2, .int (vl_I z)), (3, .int (vr_b w))]) (st' := [.int (1 : Int32)]) rfl Kz) ?_
                  refine jv_Wp.lift (fun _ Kz => jv_Ev.br jv_i290 (pc' := 182) (st' := []) rfl (by rfl) Kz) ?_
                  refine jv_Wp.lift (fun _ Kz => jv_Ev.steps jv_i290 1 (pc' := 183) (l' := [(8, .int (0 : Int32)), (7, .int (1 : Int32)), (5, .long ((I 206 (76800 + k)).toInt64 + (Int32.ofInt f.o).toInt64)), (4, .int (I 205 (76800 + k))), (0, .ref 196), (1, .int (vl_I k)), (2, .int (vl_I z)), (3, .int (vr_b w))]) (st' := [.int (vr_b w)]) rfl Kz) ?_
                  refine jv_Wp.cnd jv_i290 (pt := 198) (pe := 186) (p := ((vr_b w) = 0)) (q := ((vr_b w) = 0)) rfl jv_bi_eq rfl rfl Iff.rfl (fun h24 => ?_) (fun h24 => ?_)
                  · refine jv_Wp.lift (fun _ Kz => jv_Ev.steps jv_i290 3 (pc' := 204) (l' := [(8, .int (0 : Int32)), (7, .int (1 : Int32)), (5, .long ((I 206 (76800 + k)).toInt64 + (Int32.ofInt f.o).toInt64)), (4, .int (I 205 (76800 + k))), (0, .ref 196), (1, .int (vl_I k)), (2, .int (vl_I z)), (3, .int (vr_b w))]) (st' := [.int (lg_cmp ((I 206 (76800 + k)).toInt64 + (Int32.ofInt f.o).toInt64) (16 : Int64))]) rfl Kz) ?_
                    refine jv_Wp.cnd jv_i290 (pt := 212) (pe := 207) (p := (0 ≤ (lg_cmp ((I 206 (76800 + k)).toInt64 + (Int32.ofInt f.o).toInt64) (16 : Int64)))) (q := ((16 : Int64) ≤ ((I 206 (76800 + k)).toInt64 + (Int32.ofInt f.o).toInt64))) rfl jv_bi_ge rfl rfl (lg_cmp_ge ((I 206 (76800 + k)).toInt64 + (Int32.ofInt f.o).toInt64) (16 : Int64)) (fun h25 => ?_) (fun h25 => ?_)
                    · refine jv_Wp.lift (fun _ Kz => jv_Ev.steps jv_i290 2 (pc' := 217) (l' := [(8, .int (0 : Int32)), (7, .int (1 : Int32)), (5, .long ((I 206 (76800 + k)).toInt64 + (Int32.ofInt f.o).toInt64)), (4, .int (I 205 (76800 + k))), (0, .ref 196), (1, .int (vl_I k)), (2, .int (vl_I z)), (3, .int (vr_b w))]) (st' := [.int (0 : Int32)]) rfl Kz) ?_
                      refine jv_Wp.of (jv_Ev.ret jv_i290 rfl rfl) ?_
                      rw [hQ]
                      have zs : (vr_T I L (76800 + k)).sort = 2 := ((vr_is (L := L) 2 (by decide) ok).mpr h2)
                      have t0 : ¬ (vr_T I L (76800 + k)).sort = 0 := by omega
                      have dt : (vr_T I L (76800 + k)).det = (I 206 (76800 + k)).toInt := rfl
                      have ea : ((I 206 (76800 + k)).toInt64 + (Int32.ofInt f.o).toInt64).toInt = (I 206 (76800 + k)).toInt + f.o := by rw [vi_add (by rw [Int32.toInt_toInt64]; omega), Int32.toInt_toInt64, vr_dO D]
                      have ez : ((vl_I z).toInt64).toInt = (z : Int) := (Int32.toInt_toInt64 _).trans (vl_I_int (by omega))
                      have en : ((-(vl_I z)).toInt64).toInt = -(z : Int) := by rw [Int32.toInt_toInt64, Int32.toInt_neg, show (vl_I z).toInt = (z : Int) from vl_I_int (by omega)]; exact vi_bm32 (by omega) (by omega)
                      have e64 : ((64 : Int64) - (vl_I z).toInt64).toInt = 64 - (z : Int) := by rw [Int64.toInt_sub, ez]; exact vi_bm (by show -9223372036854775808 ≤ 64 - (z : Int); omega) (by show 64 - (z : Int) < 9223372036854775808; omega)
                      have l0 : (0 : Int64).toInt = 0 := rfl
                      have l16 : (16 : Int64).toInt = 16 := rfl
                      have l8 : (8 : Int64).toInt = 8 := rfl
                      have y1 : ¬ (vl_I z).toInt64.toInt = (0 : Int64).toInt := fun z => hz0 (Int64.toInt_inj.mp z)
                      have y2 : ¬ ((I 206 (76800 + k)).toInt64 + (Int32.ofInt f.o).toInt64).toInt < (0 : Int64).toInt := fun z => h3 (Int64.lt_iff_toInt_lt.mpr z)
                      have y3 : ¬ ((64 : Int64) - (vl_I z).toInt64).toInt < ((I 206 (76800 + k)).toInt64 + (Int32.ofInt f.o).toInt64).toInt := fun z => h7 (Int64.lt_iff_toInt_lt.mpr z)
                      have y4 : ¬ ((I 206 (76800 + k)).toInt64 + (Int32.ofInt f.o).toInt64).toInt = (0 : Int64).toInt := fun z => h19 (Int64.toInt_inj.mp z)
                      have y5 : ¬ ((I 206 (76800 + k)).toInt64 + (Int32.ofInt f.o).toInt64).toInt = (8 : Int64).toInt := fun z => h23 (Int64.toInt_inj.mp z)
                      have y6 : (16 : Int64).toInt ≤ ((I 206 (76800 + k)).toInt64 + (Int32.ofInt f.o).toInt64).toInt := Int64.le_iff_toInt_le.mp h25
                      have er : ((I 206 (76800 + k)).toInt + f.o) % (z : Int) = 0 := by rw [← ea]; exact (vi_remz hz ⟨by omega, by omega⟩).mp (Classical.not_not.mp h11)
                      have z8 : z = 8 := (vl_I_inj (b := 8) (by omega) (by decide)).mp (Classical.not_not.mp h15)
                      have bw : w = false := vr_b_f h24
                      have ev : (0 : Int32) = vl_I (vr_re M (vr_A I L 1024) (vr_T I L (76800 + k)) f.o z w) := by
                        have e : vr_re M (vr_A I L 1024) (vr_T I L (76800 + k)) f.o z w = 0 := by
                          unfold vr_re; rw [if_neg t0, vx_r2w zs hz, dt]
                          exact if_pos ⟨by omega, by omega, er, fun y => absurd (bw.symm.trans y) (by decide), fun _ => by omega⟩
                        rw [e]; rfl
                      exact ⟨_, _, by rw [ev], rfl, rfl⟩
                    · refine jv_Wp.lift (fun _ Kz => jv_Ev.steps jv_i290 1 (pc' := 209) (l' := [(8, .int (0 : Int32)), (7, .int (1 : Int32)), (5, .long ((I 206 (76800 + k)).toInt64 + (Int32.ofInt f.o).toInt64)), (4, .int (I 205 (76800 + k))), (0, .ref 196), (1, .int (vl_I k)), (2, .int (vl_I z)), (3, .int (vr_b w))]) (st' := [.int (0 : Int32)]) rfl Kz) ?_
                      refine jv_Wp.lift (fun _ Kz => jv_Ev.br jv_i290 (pc' := 216) (st' := []) rfl (by rfl) Kz) ?_
                      refine jv_Wp.lift (fun _ Kz => jv_Ev.steps jv_i290 1 (pc' := 217) (l' := [(8, .int (0 : Int32)), (7, .int (1 : Int32)), (5, .long ((I 206 (76800 + k)).toInt64 + (Int32.ofInt f.o).toInt64)), (4, .int (I 205 (76800 + k))), (0, .ref 196), (1, .int (vl_I k)), (2, .int (vl_I z)), (3, .int (vr_b w))]) (st' := [.int (4 : Int32)]) rfl Kz) ?_
                      refine jv_Wp.of (jv_Ev.ret jv_i290 rfl rfl) ?_
                      rw [hQ]
                      have zs : (vr_T I L (76800 + k)).sort = 2 := ((vr_is (L := L) 2 (by decide) ok).mpr h2)
                      have t0 : ¬ (vr_T I L (76800 + k)).sort = 0 := by omega
                      have dt : (vr_T I L (76800 + k)).det = (I 206 (76800 + k)).toInt := rfl
                      have ea : ((I 206 (76800 + k)).toInt64 + (Int32.ofInt f.o).toInt64).toInt = (I 206 (76800 + k)).toInt + f.o := by rw [vi_add (by rw [Int32.toInt_toInt64]; omega), Int32.toInt_toInt64, vr_dO D]
                      have ez : ((vl_I z).toInt64).toInt = (z : Int) := (Int32.toInt_toInt64 _).trans (vl_I_int (by omega))
                      have en : ((-(vl_I z)).toInt64).toInt = -(z : Int) := by rw [Int32.toInt_toInt64, Int32.toInt_neg, show (vl_I z).toInt = (z : Int) from vl_I_int (by omega)]; exact vi_bm32 (by omega) (by omega)
                      have e64 : ((64 : Int64) - (vl_I z).toInt64).toInt = 64 - (z : Int) := by rw [Int64.toInt_sub, ez]; exact vi_bm (by show -9223372036854775808 ≤ 64 - (z : Int); omega) (by show 64 - (z : Int) < 9223372036854775808; omega)
                      have l0 : (0 : Int64).toInt = 0 := rfl
                      have l16 : (16 : Int64).toInt = 16 := rfl
                      have l8 : (8 : Int64).toInt = 8 := rfl
                      have y1 : ¬ (vl_I z).toInt64.toInt = (0 : Int64).toInt := fun z => hz0 (Int64.toInt_inj.mp z)
                      have y2 : ¬ ((I 206 (76800 + k)).toInt64 + (Int32.ofInt f.o).toInt64).toInt < (0 : Int64).toInt := fun z => h3 (Int64.lt_iff_toInt_lt.mpr z)
                      have y3 : ¬ ((64 : Int64) - (vl_I z).toInt64).toInt < ((I 206 (76800 + k)).toInt64 + (Int32.ofInt f.o).toInt64).toInt := fun z => h7 (Int64.lt_iff_toInt_lt.mpr z)
                      have y4 : ¬ ((I 206 (76800 + k)).toInt64 + (Int32.ofInt f.o).toInt64).toInt = (0 : Int64).toInt := fun z => h19 (Int64.toInt_inj.mp z)
                      have y5 : ¬ ((I 206 (76800 + k)).toInt64 + (Int32.ofInt f.o).toInt64).toInt = (8 : Int64).toInt := fun z => h23 (Int64.toInt_inj.mp z)
                      have y6 : ¬ (16 : Int64).toInt ≤ ((I 206 (76800 + k)).toInt64 + (Int32.ofInt f.o).toInt64).toInt := fun z => h25 (Int64.le_iff_toInt_le.mpr z)
                      have er : ((I 206 (76800 + k)).toInt + f.o) % (z : Int) = 0 := by rw [← ea]; exact (vi_remz hz ⟨by omega, by omega⟩).mp (Classical.not_not.mp h11)
                      have z8 : z = 8 := (vl_I_inj (b := 8) (by omega) (by decide)).mp (Classical.not_not.mp h15)
                      have bw : w = false := vr_b_f h24
                      have ev : (4 : Int32) = vl_I (vr_re M (vr_A I L 1024) (vr_T I L (76800 + k)) f.o z w) := by
                        have e : vr_re M (vr_A I L 1024) (vr_T I L (76800 + k)) f.o z w = 4 := by
                          unfold vr_re; rw [if_neg t0, vx_r2w zs hz, dt]
                          exact if_neg (fun y => by have := y.2.2.2.2 bw; omega)
                        rw [e]; rfl
                      exact ⟨_, _, by rw [ev], rfl, rfl⟩
                  · refine jv_Wp.lift (fun _ Kz => jv_Ev.steps jv_i290 3 (pc' := 192) (l' := [(8, .int (0 : Int32)), (7, .int (1 : Int32)), (5, .long ((I 206 (76800 + k)).toInt64 + (Int32.ofInt f.o).toInt64)), (4, .int (I 205 (76800 + k))), (0, .ref 196), (1, .int (vl_I k)), (2, .int (vl_I z)), (3, .int (vr_b w))]) (st' := [.int (lg_cmp ((I 206 (76800 + k)).toInt64 + (Int32.ofInt f.o).toInt64) (32 : Int64))]) rfl Kz) ?_
                    refine jv_Wp.cnd jv_i290 (pt := 216) (pe := 195) (p := ((lg_cmp ((I 206 (76800 + k)).toInt64 + (Int32.ofInt f.o).toInt64) (32 : Int64)) < 0)) (q := (((I 206 (76800 + k)).toInt64 + (Int32.ofInt f.o).toInt64) < (32 : Int64))) rfl jv_bi_lt rfl rfl (lg_cmp_lt ((I 206 (76800 + k)).toInt64 + (Int32.ofInt f.o).toInt64) (32 : Int64)) (fun h26 => ?_) (fun h26 => ?_)
                    · refine jv_Wp.lift (fun _ Kz => jv_Ev.steps jv_i290 1 (pc' := 217) (l' := [(8, .int (0 : Int32)), (7, .int (1 : Int32)), (5, .long ((I 206 (76800 + k)).toInt64 + (Int32.ofInt f.o).toInt64)), (4, .int (I 205 (76800 + k))), (0, .ref 196), (1, .int (vl_I k)), (2, .int (vl_I z)), (3, .int (vr_b w))]) (st' := [.int (4 : Int32)]) rfl Kz) ?_
                      refine jv_Wp.of (jv_Ev.ret jv_i290 rfl rfl) ?_
                      rw [hQ]
                      have zs : (vr_T I L (76800 + k)).sort = 2 := ((vr_is (L := L) 2 (by decide) ok).mpr h2)
                      have t0 : ¬ (vr_T I L (76800 + k)).sort = 0 := by omega
                      have dt : (vr_T I L (76800 + k)).det = (I 206 (76800 + k)).toInt := rfl
                      have ea : ((I 206 (76800 + k)).toInt64 + (Int32.ofInt f.o).toInt64).toInt = (I 206 (76800 + k)).toInt + f.o := by rw [vi_add (by rw [Int32.toInt_toInt64]; omega), Int32.toInt_toInt64, vr_dO D]
                      have ez : ((vl_I z).toInt64).toInt = (z : Int) := (Int32.toInt_toInt64 _).trans (vl_I_int (by omega))
                      have en : ((-(vl_I z)).toInt64).toInt = -(z : Int) := by rw [Int32.toInt_toInt64, Int32.toInt_neg, show (vl_I z).toInt = (z : Int) from vl_I_int (by omega)]; exact vi_bm32 (by omega) (by omega)
                      have e64 : ((64 : Int64) - (vl_I z).toInt64).toInt = 64 - (z : Int) := by rw [Int64.toInt_sub, ez]; exact vi_bm (by show -9223372036854775808 ≤ 64 - (z : Int); omega) (by show 64 - (z : Int) < 9223372036854775808; omega)
                      have l0 : (0 : Int64).toInt = 0 := rfl
                      have l32 : (32 : Int64).toInt = 32 := rfl
                      have l8 : (8 : Int64).toInt = 8 := rfl
                      have y1 : ¬ (vl_I z).toInt64.toInt = (0 : Int64).toInt := fun z => hz0 (Int64.toInt_inj.mp z)
                      have y2 : ¬ ((I 206 (76800 + k)).toInt64 + (Int32.ofInt f.o).toInt64).toInt < (0 : Int64).toInt := fun z => h3 (Int64.lt_iff_toInt_lt.mpr z)
                      have y3 : ¬ ((64 : Int64) - (vl_I z).toInt64).toInt < ((I 206 (76800 + k)).toInt64 + (Int32.ofInt f.o).toInt64).toInt := fun z => h7 (Int64.lt_iff_toInt_lt.mpr z)
                      have y4 : ¬ ((I 206 (76800 + k)).toInt64 + (Int32.ofInt f.o).toInt64).toInt = (0 : Int64).toInt := fun z => h19 (Int64.toInt_inj.mp z)
                      have y5 : ¬ ((I 206 (76800 + k)).toInt64 + (Int32.ofInt f.o).toInt64).toInt = (8 : Int64).toInt := fun z => h23 (Int64.toInt_inj.mp z)
                      have y6 : ((I 206 (76800 + k)).toInt64 + (Int32.ofInt f.o).toInt64).toInt < (32 : Int64).toInt := Int64.lt_iff_toInt_lt.mp h26
                      have er : ((I 206 (76800 + k)).toInt + f.o) % (z : Int) = 0 := by rw [← ea]; exact (vi_remz hz ⟨by omega, by omega⟩).mp (Classical.not_not.mp h11)
                      have z8 : z = 8 := (vl_I_inj (b := 8) (by omega) (by decide)).mp (Classical.not_not.mp h15)
                      have bw : w = true := vr_b_t h24
                      have ev : (4 : Int32) = vl_I (vr_re M (vr_A I L 1024) (vr_T I L (76800 + k)) f.o z w) := by
                        have e : vr_re M (vr_A I L 1024) (vr_T I L (76800 + k)) f.o z w = 4 := by
                          unfold vr_re; rw [if_neg t0, vx_r2w zs hz, dt]
                          exact if_neg (fun y => by have := y.2.2.2.1 bw; omega)
                        rw [e]; rfl
                      exact ⟨_, _, by rw [ev], rfl, rfl⟩
                    · refine jv_Wp.lift (fun _ Kz => jv_Ev.steps jv_i290 3 (pc' := 217) (l' := [(8, .int (0 : Int32)), (7, .int (1 : Int32)), (5, .long ((I 206 (76800 + k)).toInt64 + (Int32.ofInt f.o).toInt64)), (4, .int (I 205 (76800 + k))), (0, .ref 196), (1, .int (vl_I k)), (2, .int (vl_I z)), (3, .int (vr_b w))]) (st' := [.int (0 : Int32)]) rfl Kz) ?_
                      refine jv_Wp.of (jv_Ev.ret jv_i290 rfl rfl) ?_
                      rw [hQ]
                      have zs : (vr_T I L (76800 + k)).sort = 2 := ((vr_is (L := L) 2 (by decide) ok).mpr h2)
                      have t0 : ¬ (vr_T I L (76800 + k)).sort = 0 := by omega
                      have dt : (vr_T I L (76800 + k)).det = (I 206 (76800 + k)).toInt := rfl
                      have ea : ((I 206 (76800 + k)).toInt64 + (Int32.ofInt f.o).toInt64).toInt = (I 206 (76800 + k)).toInt + f.o := by rw [vi_add (by rw [Int32.toInt_toInt64]; omega), Int32.toInt_toInt64, vr_dO D]
                      have ez : ((vl_I z).toInt64).toInt = (z : Int) := (Int32.toInt_toInt64 _).trans (vl_I_int (by omega))
                      have en : ((-(vl_I z)).toInt64).toInt = -(z : Int) := by rw [Int32.toInt_toInt64, Int32.toInt_neg, show (vl_I z).toInt = (z : Int) from vl_I_int (by omega)]; exact vi_bm32 (by omega) (by omega)
                      have e64 : ((64 : Int64) - (vl_I z).toInt64).toInt = 64 - (z : Int) := by rw [Int64.toInt_sub, ez]; exact vi_bm (by show -9223372036854775808 ≤ 64 - (z : Int); omega) (by show 64 - (z : Int) < 9223372036854775808; omega)
                      have l0 : (0 : Int64).toInt = 0 := rfl
                      have l32 : (32 : Int64).toInt = 32 := rfl
                      have l8 : (8 : Int64).toInt = 8 := rfl
                      have y1 : ¬ (vl_I z).toInt64.toInt = (0 : Int64).toInt := fun z => hz0 (Int64.toInt_inj.mp z)
                      have y2 : ¬ ((I 206 (76800 + k)).toInt64 + (Int32.ofInt f.o).toInt64).toInt < (0 : Int64).toInt := fun z => h3 (Int64.lt_iff_toInt_lt.mpr z)
                      have y3 : ¬ ((64 : Int64) - (vl_I z).toInt64).toInt < ((I 206 (76800 + k)).toInt64 + (Int32.ofInt f.o).toInt64).toInt := fun z => h7 (Int64.lt_iff_toInt_lt.mpr z)
                      have y4 : ¬ ((I 206 (76800 + k)).toInt64 + (Int32.ofInt f.o).toInt64).toInt = (0 : Int64).toInt := fun z => h19 (Int64.toInt_inj.mp z)
                      have y5 : ¬ ((I 206 (76800 + k)).toInt64 + (Int32.ofInt f.o).toInt64).toInt = (8 : Int64).toInt := fun z => h23 (Int64.toInt_inj.mp z)
                      have y6 : ¬ ((I 206 (76800 + k)).toInt64 + (Int32.ofInt f.o).toInt64).toInt < (32 : Int64).toInt := fun z => h26 (Int64.lt_iff_toInt_lt.mpr z)
                      have er : ((I 206 (76800 + k)).toInt + f.o) % (z : Int) = 0 := by rw [← ea]; exact (vi_remz hz ⟨by omega, by omega⟩).mp (Classical.not_not.mp h11)
                      have z8 : z = 8 := (vl_I_inj (b := 8) (by omega) (by decide)).mp (Classical.not_not.mp h15)
                      have bw : w = true := vr_b_t h24
                      have ev : (0 : Int32) = vl_I (vr_re M (vr_A I L 1024) (vr_T I L (76800 + k)) f.o z w) := by
                        have e : vr_re M (vr_A I L 1024) (vr_T I L (76800 + k)) f.o z w = 0 := by
                          unfold vr_re; rw [if_neg t0, vx_r2w zs hz, dt]
                          exact if_pos ⟨by omega, by omega, er, fun _ => by omega, fun y => absurd (bw.symm.trans y) (by decide)⟩
                        rw [e]; rfl
                      exact ⟨_, _, by rw [ev], rfl, rfl⟩
                · refine jv_Wp.lift (fun _ Kz => jv_Ev.steps jv_i290 4 (pc' := 179) (l' := [(8, .int (1 : Int32)), (7, .int (1 : Int32)), (5, .long ((I 206 (76800 + k)).toInt64 + (Int32.ofInt f.o).toInt64)), (4, .int (I 205 (76800 + k))), (0, .ref 196), (1, .int (vl_I k)), (2, .int (vl_I z)), (3, .int (vr_b w))]) (st' := [.int (1 : Int32)]) rfl Kz) ?_
                  refine jv_Wp.lift (fun _ Kz => jv_Ev.br jv_i290 (pc' := 182) (st' := []) rfl (by rfl) Kz) ?_
                  refine jv_Wp.lift (fun _ Kz => jv_Ev.steps jv_i290 1 (pc' := 183) (l' := [(8, .int (1 : Int32)), (7, .int (1 : Int32)), (5, .long ((I 206 (76800 + k)).toInt64 + (Int32.ofInt f.o).toInt64)), (4, .int (I 205 (76800 + k))), (0, .ref 196), (1, .int (vl_I k)), (2, .int (vl_I z)), (3, .int (vr_b w))]) (st' := [.int (vr_b w)]) rfl Kz) ?_
                  refine jv_Wp.cnd jv_i290 (pt := 198) (pe := 186) (p := ((vr_b w) = 0)) (q := ((vr_b w) = 0)) rfl jv_bi_eq rfl rfl Iff.rfl (fun h27 => ?_) (fun h27 => ?_)
                  · refine jv_Wp.lift (fun _ Kz => jv_Ev.steps jv_i290 3 (pc' := 204) (l' := [(8, .int (1 : Int32)), (7, .int (1 : Int32)), (5, .long ((I 206 (76800 + k)).toInt64 + (Int32.ofInt f.o).toInt64)), (4, .int (I 205 (76800 + k))), (0, .ref 196), (1, .int (vl_I k)), (2, .int (vl_I z)), (3, .int (vr_b w))]) (st' := [.int (lg_cmp ((I 206 (76800 + k)).toInt64 + (Int32.ofInt f.o).toInt64) (16 : Int64))]) rfl Kz) ?_
                    refine jv_Wp.cnd jv_i290 (pt := 212) (pe := 207) (p := (0 ≤ (lg_cmp ((I 206 (76800 + k)).toInt64 + (Int32.ofInt f.o).toInt64) (16 : Int64)))) (q := ((16 : Int64) ≤ ((I 206 (76800 + k)).toInt64 + (Int32.ofInt f.o).toInt64))) rfl jv_bi_ge rfl rfl (lg_cmp_ge ((I 206 (76800 + k)).toInt64 + (Int32.ofInt f.o).toInt64) (16 : Int64)) (fun h28 => ?_) (fun h28 => ?_)
                    · refine jv_Wp.lift (fun _ Kz => jv_Ev.steps jv_i290 2 (pc' := 217) (l' := [(8, .int (1 : Int32)), (7, .int (1 : Int32)), (5, .long ((I 206 (76800 + k)).toInt64 + (Int32.ofInt f.o).toInt64)), (4, .int (I 205 (76800 + k))), (0, .ref 196), (1, .int (vl_I k)), (2, .int (vl_I z)), (3, .int (vr_b w))]) (st' := [.int (0 : Int32)]) rfl Kz) ?_
                      refine jv_Wp.of (jv_Ev.ret jv_i290 rfl rfl) ?_
                      rw [hQ]
                      have zs : (vr_T I L (76800 + k)).sort = 2 := ((vr_is (L := L) 2 (by decide) ok).mpr h2)
                      have t0 : ¬ (vr_T I L (76800 + k)).sort = 0 := by omega
                      have dt : (vr_T I L (76800 + k)).det = (I 206 (76800 + k)).toInt := rfl
                      have ea : ((I 206 (76800 + k)).toInt64 + (Int32.ofInt f.o).toInt64).toInt = (I 206 (76800 + k)).toInt + f.o := by rw [vi_add (by rw [Int32.toInt_toInt64]; omega), Int32.toInt_toInt64, vr_dO D]
                      have ez : ((vl_I z).toInt64).toInt = (z : Int) := (Int32.toInt_toInt64 _).trans (vl_I_int (by omega))
                      have en : ((-(vl_I z)).toInt64).toInt = -(z : Int) := by rw [Int32.toInt_toInt64, Int32.toInt_neg, show (vl_I z).toInt = (z : Int) from vl_I_int (by omega)]; exact vi_bm32 (by omega) (by omega)
                      have e64 : ((64 : Int64) - (vl_I z).toInt64).toInt = 64 - (z : Int) := by rw [Int64.toInt_sub, ez]; exact vi_bm (by show -9223372036854775808 ≤ 64 - (z : Int); omega) (by show 64 - (z : Int) < 9223372036854775808; omega)
                      have l0 : (0 : Int64).toInt = 0 := rfl
                      have l16 : (16 : Int64).toInt = 16 := rfl
                      have l8 : (8 : Int64).toInt = 8 := rfl
                      have y1 : ¬ (vl_I z).toInt64.toInt = (0 : Int64).toInt := fun z => hz0 (Int64.toInt_inj.mp z)
                      have y2 : ¬ ((I 206 (76800 + k)).toInt64 + (Int32.ofInt f.o).toInt64).toInt < (0 : Int64).toInt := fun z => h3 (Int64.lt_iff_toInt_lt.mpr z)
                      have y3 : ¬ ((64 : Int64) - (vl_I z).toInt64).toInt < ((I 206 (76800 + k)).toInt64 + (Int32.ofInt f.o).toInt64).toInt := fun z => h7 (Int64.lt_iff_toInt_lt.mpr z)
                      have y4 : ¬ ((I 206 (76800 + k)).toInt64 + (Int32.ofInt f.o).toInt64).toInt = (0 : Int64).toInt := fun z => h19 (Int64.toInt_inj.mp z)
                      have y5 : ((I 206 (76800 + k)).toInt64 + (Int32.ofInt f.o).toInt64).toInt = (8 : Int64).toInt := congrArg Int64.toInt (Classical.not_not.mp h23)
                      have y6 : (16 : Int64).toInt ≤ ((I 206 (76800 + k)).toInt64 + (Int32.ofInt f.o).toInt64).toInt := Int64.le_iff_toInt_le.mp h28
                      have er : ((I 206 (76800 + k)).toInt + f.o) % (z : Int) = 0 := by rw [← ea]; exact (vi_remz hz ⟨by omega, by omega⟩).mp (Classical.not_not.mp h11)
                      have z8 : z = 8 := (vl_I_inj (b := 8) (by omega) (by decide)).mp (Classical.not_not.mp h15)
                      have bw : w = false := vr_b_f h27
                      have ev : (0 : Int32) = vl_I (vr_re M (vr_A I L 1024) (vr_T I L (76800 + k)) f.o z w) := by
                        have e : vr_re M (vr_A I L 1024) (vr_T I L (76800 + k)) f.o z w = 0 := by
                          unfold vr_re; rw [if_neg t0, vx_r2w zs hz, dt]
                          exact if_pos ⟨by omega, by omega, er, fun y => absurd (bw.symm.trans y) (by decide), fun _ => by omega⟩
                        rw [e]; rfl
                      exact ⟨_, _, by rw [ev], rfl, rfl⟩
                    · refine jv_Wp.lift (fun _ Kz => jv_Ev.steps jv_i290 1 (pc' := 209) (l' := [(8, .int (1 : Int32)), (7, .int (1 : Int32)), (5, .long ((I 206 (76800 + k)).toInt64 + (Int32.ofInt f.o).toInt64)), (4, .int (I 205 (76800 + k))), (0, .ref 196), (1, .int (vl_I k)), (2, .int (vl_I z)), (3, .int (vr_b w))]) (st' := [.int (1 : Int32)]) rfl Kz) ?_
                      refine jv_Wp.lift (fun _ Kz => jv_Ev.br jv_i290 (pc' := 212) (st' := []) rfl (by rfl) Kz) ?_
                      refine jv_Wp.lift (fun _ Kz => jv_Ev.steps jv_i290 2 (pc' := 217) (l' := [(8, .int (1 : Int32)), (7, .int (1 : Int32)), (5, .long ((I 206 (76800 + k)).toInt64 + (Int32.ofInt f.o).toInt64)), (4, .int (I 205 (76800 + k))), (0, .ref 196), (1, .int (vl_I k)), (2, .int (vl_I z)), (3, .int (vr_b w))]) (st' := [.int (0 : Int32)]) rfl Kz) ?_
                      refine jv_Wp.of (jv_Ev.ret jv_i290 rfl rfl) ?_
                      rw [hQ]
                      have zs : (vr_T I L (76800 + k)).sort = 2 := ((vr_is (L := L) 2 (by decide) ok).mpr h2)
                      have t0 : ¬ (vr_T I L (76800 + k)).sort = 0 := by omega
                      have dt : (vr_T I L (76800 + k)).det = (I 206 (76800 + k)).toInt := rfl
                      have ea : ((I 206 (76800 + k)).toInt64 + (Int32.ofInt f.o).toInt64).toInt = (I 206 (76800 + k)).toInt + f.o := by rw [vi_add (by rw [Int32.toInt_toInt64]; omega), Int32.toInt_toInt64, vr_dO D]
                      have ez : ((vl_I z).toInt64).toInt = (z : Int) := (Int32.toInt_toInt64 _).trans (vl_I_int (by omega))
                      have en : ((-(vl_I z)).toInt64).toInt = -(z : Int) := by rw [Int32.toInt_toInt64, Int32.toInt_neg, show (vl_I z).toInt = (z : Int) from vl_I_int (by omega)]; exact vi_bm32 (by omega) (by omega)
                      have e64 : ((64 : Int64) - (vl_I z).toInt64).toInt = 64 - (z : Int) := by rw [Int64.toInt_sub, ez]; exact vi_bm (by show -9223372036854775808 ≤ 64 - (z : Int); omega) (by show 64 - (z : Int) < 9223372036854775808; omega)
                      have l0 : (0 : Int64).toInt = 0 := rfl
                      have l16 : (16 : Int64).toInt = 16 := rfl
                      have l8 : (8 : Int64).toInt = 8 := rfl
                      have y1 : ¬ (vl_I z).toInt64.toInt = (0 : Int64).toInt := fun z => hz0 (Int64.toInt_inj.mp z)
                      have y2 : ¬ ((I 206 (76800 + k)).toInt64 + (Int32.ofInt f.o).toInt64).toInt < (0 : Int64).toInt := fun z => h3 (Int64.lt_iff_toInt_lt.mpr z)
                      have y3 : ¬ ((64 : Int64) - (vl_I z).toInt64).toInt < ((I 206 (76800 + k)).toInt64 + (Int32.ofInt f.o).toInt64).toInt := fun z => h7 (Int64.lt_iff_toInt_lt.mpr z)
                      have y4 : ¬ ((I 206 (76800 + k)).toInt64 + (Int32.ofInt f.o).toInt64).toInt = (0 : Int64).toInt := fun z => h19 (Int64.toInt_inj.mp z)
                      have y5 : ((I 206 (76800 + k)).toInt64 + (Int32.ofInt f.o).toInt64).toInt = (8 : Int64).toInt := congrArg Int64.toInt (Classical.not_not.mp h23)
                      have y6 : ¬ (16 : Int64).toInt ≤ ((I 206 (76800 + k)).toInt64 + (Int32.ofInt f.o).toInt64).toInt := fun z => h28 (Int64.le_iff_toInt_le.mpr z)
                      have er : ((I 206 (76800 + k)).toInt + f.o) % (z : Int) = 0 := by rw [← ea]; exact (vi_remz hz ⟨by omega, by omega⟩).mp (Classical.not_not.mp h11)
                      have z8 : z = 8 := (vl_I_inj (b := 8) (by omega) (by decide)).mp (Classical.not_not.mp h15)
                      have bw : w = false := vr_b_f h27
                      have ev : (0 : Int32) = vl_I (vr_re M (vr_A I L 1024) (vr_T I L (76800 + k)) f.o z w) := by
                        have e : vr_re M (vr_A I L 1024) (vr_T I L (76800 + k)) f.o z w = 0 := by
                          unfold vr_re; rw [if_neg t0, vx_r2w zs hz, dt]
                          exact if_pos ⟨by omega, by omega, er, fun y => absurd (bw.symm.trans y) (by decide), fun _ => by omega⟩
                        rw [e]; rfl
                      exact ⟨_, _, by rw [ev], rfl, rfl⟩
                  · refine jv_Wp.lift (fun _ Kz => jv_Ev.steps jv_i290 3 (pc' := 192) (l' := [(8, .int (1 : Int32)), (7, .int (1 : Int32)), (5, .long ((I 206 (76800 + k)).toInt64 + (Int32.ofInt f.o).toInt64)), (4, .int (I 205 (76800 + k))), (0, .ref 196), (1, .int (vl_I k)), (2, .int (vl_I z)), (3, .int (vr_b w))]) (st' := [.int (lg_cmp ((I 206 (76800 + k)).toInt64 + (Int32.ofInt f.o).toInt64) (32 : Int64))]) rfl Kz) ?_
                    refine jv_Wp.cnd jv_i290 (pt := 216) (pe := 195) (p := ((lg_cmp ((I 206 (76800 + k)).toInt64 + (Int32.ofInt f.o).toInt64) (32 : Int64)) < 0)) (q := (((I 206 (76800 + k)).toInt64 + (Int32.ofInt f.o).toInt64) < (32 : Int64))) rfl jv_bi_lt rfl rfl (lg_cmp_lt ((I 206 (76800 + k)).toInt64 + (Int32.ofInt f.o).toInt64) (32 : Int64)) (fun h29 => ?_) (fun h29 => ?_)
                    · refine jv_Wp.lift (fun _ Kz => jv_Ev.steps jv_i290 1 (pc' := 217) (l' := [(8, .int (1 : Int32)), (7, .int (1 : Int32)), (5, .long ((I 206 (76800 + k)).toInt64 + (Int32.ofInt f.o).toInt64)), (4, .int (I 205 (76800 + k))), (0, .ref 196), (1, .int (vl_I k)), (2, .int (vl_I z)), (3, .int (vr_b w))]) (st' := [.int (4 : Int32)]) rfl Kz) ?_
                      refine jv_Wp.of (jv_Ev.ret jv_i290 rfl rfl) ?_
                      rw [hQ]
                      have zs : (vr_T I L (76800 + k)).sort = 2 := ((vr_is (L := L) 2 (by decide) ok).mpr h2)
                      have t0 : ¬ (vr_T I L (76800 + k)).sort = 0 := by omega
                      have dt : (vr_T I L (76800 + k)).det = (I 206 (76800 + k)).toInt := rfl
                      have ea : ((I 206 (76800 + k)).toInt64 + (Int32.ofInt f.o).toInt64).toInt = (I 206 (76800 + k)).toInt + f.o := by rw [vi_add (by rw [Int32.toInt_toInt64]; omega), Int32.toInt_toInt64, vr_dO D]
                      have ez : ((vl_I z).toInt64).toInt = (z : Int) := (Int32.toInt_toInt64 _).trans (vl_I_int (by omega))
                      have en : ((-(vl_I z)).toInt64).toInt = -(z : Int) := by rw [Int32.toInt_toInt64, Int32.toInt_neg, show (vl_I z).toInt = (z : Int) from vl_I_int (by omega)]; exact vi_bm32 (by omega) (by omega)
                      have e64 : ((64 : Int64) - (vl_I z).toInt64).toInt = 64 - (z : Int) := by rw [Int64.toInt_sub, ez]; exact vi_bm (by show -9223372036854775808 ≤ 64 - (z : Int); omega) (by show 64 - (z : Int) < 9223372036854775808; omega)
                      have l0 : (0 : Int64).toInt = 0 := rfl
                      have l32 : (32 : Int64).toInt = 32 := rfl
                      have l8 : (8 : Int64).toInt = 8 := rfl
                      have y1 : ¬ (vl_I z).toInt64.toInt = (0 : Int64).toInt := fun z => hz0 (Int64.toInt_inj.mp z)
                      have y2 : ¬ ((I 206 (76800 + k)).toInt64 + (Int32.ofInt f.o).toInt64).toInt < (0 : Int64).toInt := fun z => h3 (Int64.lt_iff_toInt_lt.mpr z)
                      have y3 : ¬ ((64 : Int64) - (vl_I z).toInt64).toInt < ((I 206 (76800 + k)).toInt64 + (Int32.ofInt f.o).toInt64).toInt := fun z => h7 (Int64.lt_iff_toInt_lt.mpr z)
                      have y4 : ¬ ((I 206 (76800 + k)).toInt64 + (Int32.ofInt f.o).toInt64).toInt = (0 : Int64).toInt := fun z => h19 (Int64.toInt_inj.mp z)
                      have y5 : ((I 206 (76800 + k)).toInt64 + (Int32.ofInt f.o).toInt64).toInt = (8 : Int64).toInt := congrArg Int64.toInt (Classical.not_not.mp h23)
                      have y6 : ((I 206 (76800 + k)).toInt64 + (Int32.ofInt f.o).toInt64).toInt < (32 : Int64).toInt := Int64.lt_iff_toInt_lt.mp h29
                      have er : ((I 206 (76800 + k)).toInt + f.o) % (z : Int) = 0 := by rw [← ea]; exact (vi_remz hz ⟨by omega, by omega⟩).mp (Classical.not_not.mp h11)
                      have z8 : z = 8 := (vl_I_inj (b := 8) (by omega) (by decide)).mp (Classical.not_not.mp h15)
                      have bw : w = true := vr_b_t h27
                      have ev : (4 : Int32) = vl_I (vr_re M (vr_A I L 1024) (vr_T I L (76800 + k)) f.o z w) := by
                        have e : vr_re M (vr_A I L 1024) (vr_T I L (76800 + k)) f.o z w = 4 := by
                          unfold vr_re; rw [if_neg t0, vx_r2w zs hz, dt]
                          exact if_neg (fun y => by have := y.2.2.2.1 bw; omega)
                        rw [e]; rfl
                      exact ⟨_, _, by rw [ev], rfl, rfl⟩
                    · refine jv_Wp.lift (fun _ Kz => jv_Ev.steps jv_i290 3 (pc' := 217) (l' := [(8, .int (1 : Int32)), (7, .int (1 : Int32)), (5, .long ((I 206 (76800 + k)).toInt64 + (Int32.ofInt f.o).toInt64)), (4, .int (I 205 (76800 + k))), (0, .ref 196), (1, .int (vl_I k)), (2, .int (vl_I z)), (3, .int (vr_b w))]) (st' := [.int (0 : Int32)]) rfl Kz) ?_
                      refine jv_Wp.of (jv_Ev.ret jv_i290 rfl rfl) ?_
                      rw [hQ]
                      have zs : (vr_T I L (76800 + k)).sort = 2 := ((vr_is (L := L) 2 (by decide) ok).mpr h2)
                      have t0 : ¬ (vr_T I L (76800 + k)).sort = 0 := by omega
                      have dt : (vr_T I L (76800 + k)).det = (I 206 (76800 + k)).toInt := rfl
                      have ea : ((I 206 (76800 + k)).toInt64 + (Int32.ofInt f.o).toInt64).toInt = (I 206 (76800 + k)).toInt + f.o := by rw [vi_add (by rw [Int32.toInt_toInt64]; omega), Int32.toInt_toInt64, vr_dO D]
                      have ez : ((vl_I z).toInt64).toInt = (z : Int) := (Int32.toInt_toInt64 _).trans (vl_I_int (by omega))
                      have en : ((-(vl_I z)).toInt64).toInt = -(z : Int) := by rw [Int32.toInt_toInt64, Int32.toInt_neg, show (vl_I z).toInt = (z : Int) from vl_I_int (by omega)]; exact vi_bm32 (by omega) (by omega)
                      have e64 : ((64 : Int64) - (vl_I z).toInt64).toInt = 64 - (z : Int) := by rw [Int64.toInt_sub, ez]; exact vi_bm (by show -9223372036854775808 ≤ 64 - (z : Int); omega) (by show 64 - (z : Int) < 9223372036854775808; omega)
                      have l0 : (0 : Int64).toInt = 0 := rfl
                      have l32 : (32 : Int64).toInt = 32 := rfl
                      have l8 : (8 : Int64).toInt = 8 := rfl
                      have y1 : ¬ (vl_I z).toInt64.toInt = (0 : Int64).toInt := fun z => hz0 (Int64.toInt_inj.mp z)
                      have y2 : ¬ ((I 206 (76800 + k)).toInt64 + (Int32.ofInt f.o).toInt64).toInt < (0 : Int64).toInt := fun z => h3 (Int64.lt_iff_toInt_lt.mpr z)
                      have y3 : ¬ ((64 : Int64) - (vl_I z).toInt64).toInt < ((I 206 (76800 + k)).toInt64 + (Int32.ofInt f.o).toInt64).toInt := fun z => h7 (Int64.lt_iff_toInt_lt.mpr z)
                      have y4 : ¬ ((I 206 (76800 + k)).toInt64 + (Int32.ofInt f.o).toInt64).toInt = (0 : Int64).toInt := fun z => h19 (Int64.toInt_inj.mp z)
                      have y5 : ((I 206 (76800 + k)).toInt64 + (Int32.ofInt f.o).toInt64).toInt = (8 : Int64).toInt := congrArg Int64.toInt (Classical.not_not.mp h23)
                      have y6 : ¬ ((I 206 (76800 + k)).toInt64 + (Int32.ofInt f.o).toInt64).toInt < (32 : Int64).toInt := fun z => h29 (Int64.lt_iff_toInt_lt.mpr z)
                      have er : ((I 206 (76800 + k)).toInt + f.o) % (z : Int) = 0 := by rw [← ea]; exact (vi_remz hz ⟨by omega, by omega⟩).mp (Classical.not_not.mp h11)
                      have z8 : z = 8 := (vl_I_inj (b := 8) (by omega) (by decide)).mp (Classical.not_not.mp h15)
                      have bw : w = true := vr_b_t h27
                      have ev : (0 : Int32) = vl_I (vr_re M (vr_A I L 1024) (vr_T I L (76800 + k)) f.o z w) := by
                        have e : vr_re M (vr_A I L 1024) (vr_T I L (76800 + k)) f.o z w = 0 := by
                          unfold vr_re; rw [if_neg t0, vx_r2w zs hz, dt]
                          exact if_pos ⟨by omega, by omega, er, fun _ => by omega, fun y => absurd (bw.symm.trans y) (by decide)⟩
                        rw [e]; rfl
                      exact ⟨_, _, by rw [ev], rfl, rfl⟩
    · refine jv_Wp.bys (q := ((I 205 (76800 + k)) = Int32.ofInt 3)) (fun h30 => ?_) (fun h30 => ?_)
      · refine jv_Wp.lift (fun _ Kz => jv_Ev.br jv_i290 (pc' := 78) (st' := []) rfl (by rw [h30]; rfl) Kz) ?_
        refine jv_Wp.lift (fun _ Kz => jv_Ev.steps jv_i290 3 (pc' := 84) (l' := [(5, .long ((I 206 (76800 + k)).toInt64 + (Int32.ofInt f.o).toInt64)), (4, .int (I 205 (76800 + k))), (0, .ref 196), (1, .int (vl_I k)), (2, .int (vl_I z)), (3, .int (vr_b w))]) (st' := [.int (lg_cmp ((I 206 (76800 + k)).toInt64 + (Int32.ofInt f.o).toInt64) (-512 : Int64))]) rfl Kz) ?_
        refine jv_Wp.cnd jv_i290 (pt := 110) (pe := 87) (p := ((lg_cmp ((I 206 (76800 + k)).toInt64 + (Int32.ofInt f.o).toInt64) (-512 : Int64)) < 0)) (q := (((I 206 (76800 + k)).toInt64 + (Int32.ofInt f.o).toInt64) < (-512 : Int64))) rfl jv_bi_lt rfl rfl (lg_cmp_lt ((I 206 (76800 + k)).toInt64 + (Int32.ofInt f.o).toInt64) (-512 : Int64)) (fun h31 => ?_) (fun h31 => ?_)
        · refine jv_Wp.lift (fun _ Kz => jv_Ev.steps jv_i290 1 (pc' := 111) (l' := [(5, .long ((I 206 (76800 + k)).toInt64 + (Int32.ofInt f.o).toInt64)), (4, .int (I 205 (76800 + k))), (0, .ref 196), (1, .int (vl_I k)), (2, .int (vl_I z)), (3, .int (vr_b w))]) (st' := [.int (4 : Int32)]) rfl Kz) ?_
          refine jv_Wp.of (jv_Ev.ret jv_i290 rfl rfl) ?_
          rw [hQ]
          have zs : (vr_T I L (76800 + k)).sort = 3 := ((vr_is (L := L) 3 (by decide) ok).mpr h30)
          have t0 : ¬ (vr_T I L (76800 + k)).sort = 0 := by omega
          have dt : (vr_T I L (76800 + k)).det = (I 206 (76800 + k)).toInt := rfl
          have ea : ((I 206 (76800 + k)).toInt64 + (Int32.ofInt f.o).toInt64).toInt = (I 206 (76800 + k)).toInt + f.o := by rw [vi_add (by rw [Int32.toInt_toInt64]; omega), Int32.toInt_toInt64, vr_dO D]
          have ez : ((vl_I z).toInt64).toInt = (z : Int) := (Int32.toInt_toInt64 _).trans (vl_I_int (by omega))
          have en : ((-(vl_I z)).toInt64).toInt = -(z : Int) := by rw [Int32.toInt_toInt64, Int32.toInt_neg, show (vl_I z).toInt = (z : Int) from vl_I_int (by omega)]; exact vi_bm32 (by omega) (by omega)
          have e64 : ((64 : Int64) - (vl_I z).toInt64).toInt = 64 - (z : Int) := by rw [Int64.toInt_sub, ez]; exact vi_bm (by show -9223372036854775808 ≤ 64 - (z : Int); omega) (by show 64 - (z : Int) < 9223372036854775808; omega)
          have lm512 : (-512 : Int64).toInt = -512 := rfl
          have l0 : (0 : Int64).toInt = 0 := rfl
          have y1 : ¬ (vl_I z).toInt64.toInt = (0 : Int64).toInt := fun z => hz0 (Int64.toInt_inj.mp z)
          have y2 : ((I 206 (76800 + k)).toInt64 + (Int32.ofInt f.o).toInt64).toInt < (-512 : Int64).toInt := Int64.lt_iff_toInt_lt.mp h31
          have ev : (4 : Int32) = vl_I (vr_re M (vr_A I L 1024) (vr_T I L (76800 + k)) f.o z w) := by
            have e : vr_re M (vr_A I L 1024) (vr_T I L (76800 + k)) f.o z w = 4 := by
              unfold vr_re; rw [if_neg t0, vx_r3 zs, dt]
              exact if_neg (by omega)
            rw [e]; rfl
          exact ⟨_, _, by rw [ev], rfl, rfl⟩
        · refine jv_Wp.lift (fun _ Kz => jv_Ev.steps jv_i290 5 (pc' := 93) (l' := [(5, .long ((I 206 (76800 + k)).toInt64 + (Int32.ofInt f.o).toInt64)), (4, .int (I 205 (76800 + k))), (0, .ref 196), (1, .int (vl_I k)), (2, .int (vl_I z)), (3, .int (vr_b w))]) (st' := [.int (lg_cmp ((I 206 (76800 + k)).toInt64 + (Int32.ofInt f.o).toInt64) (-(vl_I z)).toInt64)]) rfl Kz) ?_
          refine jv_Wp.cnd jv_i290 (pt := 110) (pe := 96) (p := (0 < (lg_cmp ((I 206 (76800 + k)).toInt64 + (Int32.ofInt f.o).toInt64) (-(vl_I z)).toInt64))) (q := ((-(vl_I z)).toInt64 < ((I 206 (76800 + k)).toInt64 + (Int32.ofInt f.o).toInt64))) rfl jv_bi_gt rfl rfl (lg_cmp_gt ((I 206 (76800 + k)).toInt64 + (Int32.ofInt f.o).toInt64) (-(vl_I z)).toInt64) (fun h32 => ?_) (fun h32 => ?_)
          · refine jv_Wp.lift (fun _ Kz => jv_Ev.steps jv_i290 1 (pc' := 111) (l' := [(5, .long ((I 206 (76800 + k)).toInt64 + (Int32.ofInt f.o).toInt64)), (4, .int (I 205 (76800 + k))), (0, .ref 196), (1, .int (vl_I k)), (2, .int (vl_I z)), (3, .int (vr_b w))]) (st' := [.int (4 : Int32)]) rfl Kz) ?_
            refine jv_Wp.of (jv_Ev.ret jv_i290 rfl rfl) ?_
            rw [hQ]
            have zs : (vr_T I L (76800 + k)).sort = 3 := ((vr_is (L := L) 3 (by decide) ok).mpr h30)
            have t0 : ¬ (vr_T I L (76800 + k)).sort = 0 := by omega
            have dt : (vr_T I L (76800 + k)).det = (I 206 (76800 + k)).toInt := rfl
            have ea : ((I 206 (76800 + k)).toInt64 + (Int32.ofInt f.o).toInt64).toInt = (I 206 (76800 + k)).toInt + f.o := by rw [vi_add (by rw [Int32.toInt_toInt64]; omega), Int32.toInt_toInt64, vr_dO D]
            have ez : ((vl_I z).toInt64).toInt = (z : Int) := (Int32.toInt_toInt64 _).trans (vl_I_int (by omega))
            have en : ((-(vl_I z)).toInt64).toInt = -(z : Int) := by rw [Int32.toInt_toInt64, Int32.toInt_neg, show (vl_I z).toInt = (z : Int) from vl_I_int (by omega)]; exact vi_bm32 (by omega) (by omega)
            have e64 : ((64 : Int64) - (vl_I z).toInt64).toInt = 64 - (z : Int) := by rw [Int64.toInt_sub, ez]; exact vi_bm (by show -9223372036854775808 ≤ 64 - (z : Int); omega) (by show 64 - (z : Int) < 9223372036854775808; omega)
            have lm512 : (-512 : Int64).toInt = -512 := rfl
            have l0 : (0 : Int64).toInt = 0 := rfl
            have y1 : ¬ (vl_I z).toInt64.toInt = (0 : Int64).toInt := fun z => hz0 (Int64.toInt_inj.mp z)
            have y2 : ¬ ((I 206 (76800 + k)).toInt64 + (Int32.ofInt f.o).toInt64).toInt < (-512 : Int64).toInt := fun z => h31 (Int64.lt_iff_toInt_lt.mpr z)
            have y3 : (-(vl_I z)).toInt64.toInt < ((I 206 (76800 + k)).toInt64 + (Int32.ofInt f.o).toInt64).toInt := Int64.lt_iff_toInt_lt.mp h32
            have ev : (4 : Int32) = vl_I (vr_re M (vr_A I L 1024) (vr_T I L (76800 + k)) f.o z w) := by
              have e : vr_re M (vr_A I L 1024) (vr_T I L (76800 + k)) f.o z w = 4 := by
                unfold vr_re; rw [if_neg t0, vx_r3 zs, dt]
                exact if_neg (by omega)
              rw [e]; rfl
            exact ⟨_, _, by rw [ev], rfl, rfl⟩
          · refine jv_Wp.lift (fun _ Kz => jv_Ev.steps jv_i290 3 (pc' := 100) (l' := [(5, .long ((I 206 (76800 + k)).toInt64 + (Int32.ofInt f.o).toInt64)), (4, .int (I 205 (76800 + k))), (0, .ref 196), (1, .int (vl_I k)), (2, .int (vl_I z)), (3, .int (vr_b w))]) (st' := [.long (vl_I z).toInt64, .long ((I 206 (76800 + k)).toInt64 + (Int32.ofInt f.o).toInt64)]) rfl Kz) ?_
            refine jv_Wp.lift (fun _ Kz => jv_Ev.op jv_i290 (pc' := 101) (l' := [(5, .long ((I 206 (76800 + k)).toInt64 + (Int32.ofInt f.o).toInt64)), (4, .int (I 205 (76800 + k))), (0, .ref 196), (1, .int (vl_I k)), (2, .int (vl_I z)), (3, .int (vr_b w))]) (st' := [.long (((I 206 (76800 + k)).toInt64 + (Int32.ofInt f.o).toInt64) - ((I 206 (76800 + k)).toInt64 + (Int32.ofInt f.o).toInt64) / (vl_I z).toInt64 * (vl_I z).toInt64)]) rfl (jv_op_lrem hz0) Kz) ?_
            refine jv_Wp.lift (fun _ Kz => jv_Ev.steps jv_i290 2 (pc' := 103) (l' := [(5, .long ((I 206 (76800 + k)).toInt64 + (Int32.ofInt f.o).toInt64)), (4, .int (I 205 (76800 + k))), (0, .ref 196), (1, .int (vl_I k)), (2, .int (vl_I z)), (3, .int (vr_b w))]) (st' := [.int (lg_cmp (((I 206 (76800 + k)).toInt64 + (Int32.ofInt f.o).toInt64) - ((I 206 (76800 + k)).toInt64 + (Int32.ofInt f.o).toInt64) / (vl_I z).toInt64 * (vl_I z).toInt64) (0 : Int64))]) rfl Kz) ?_
            refine jv_Wp.cnd jv_i290 (pt := 110) (pe := 106) (p := (¬ (lg_cmp (((I 206 (76800 + k)).toInt64 + (Int32.ofInt f.o).toInt64) - ((I 206 (76800 + k)).toInt64 + (Int32.ofInt f.o).toInt64) / (vl_I z).toInt64 * (vl_I z).toInt64) (0 : Int64)) = 0)) (q := (¬ (((I 206 (76800 + k)).toInt64 + (Int32.ofInt f.o).toInt64) - ((I 206 (76800 + k)).toInt64 + (Int32.ofInt f.o).toInt64) / (vl_I z).toInt64 * (vl_I z).toInt64) = (0 : Int64))) rfl jv_bi_ne rfl rfl (not_congr (lg_cmp_eq (((I 206 (76800 + k)).toInt64 + (Int32.ofInt f.o).toInt64) - ((I 206 (76800 + k)).toInt64 + (Int32.ofInt f.o).toInt64) / (vl_I z).toInt64 * (vl_I z).toInt64) (0 : Int64))) (fun h33 => ?_) (fun h33 => ?_)
            · refine jv_Wp.lift (fun _ Kz => jv_Ev.steps jv_i290 1 (pc' := 111) (l' := [(5, .long ((I 206 (76800 + k)).toInt64 + (Int32.ofInt f.o).toInt64)), (4, .int (I 205 (76800 + k))), (0, .ref 196), (1, .int (vl_I k)), (2, .int (vl_I z)), (3, .int (vr_b w))]) (st' := [.int (4 : Int32)]) rfl Kz) ?_
              refine jv_Wp.of (jv_Ev.ret jv_i290 rfl rfl) ?_
              rw [hQ]
              have zs : (vr_T I L (76800 + k)).sort = 3 := ((vr_is (L := L) 3 (by decide) ok).mpr h30)
              have t0 : ¬ (vr_T I L (76800 + k)).sort = 0 := by omega
              have dt : (vr_T I L (76800 + k)).det = (I 206 (76800 + k)).toInt := rfl
              have ea : ((I 206 (76800 + k)).toInt64 + (Int32.ofInt f.o).toInt64).toInt = (I 206 (76800 + k)).toInt + f.o := by rw [vi_add (by rw [Int32.toInt_toInt64]; omega), Int32.toInt_toInt64, vr_dO D]
              have ez : ((vl_I z).toInt64).toInt = (z : Int) := (Int32.toInt_toInt64 _).trans (vl_I_int (by omega))
              have en : ((-(vl_I z)).toInt64).toInt = -(z : Int) := by rw [Int32.toInt_toInt64, Int32.toInt_neg, show (vl_I z).toInt = (z : Int) from vl_I_int (by omega)]; exact vi_bm32 (by omega) (by omega)
              have e64 : ((64 : Int64) - (vl_I z).toInt64).toInt = 64 - (z : Int) := by rw [Int64.toInt_sub, ez]; exact vi_bm (by show -9223372036854775808 ≤ 64 - (z : Int); omega) (by show 64 - (z : Int) < 9223372036854775808; omega)
              have lm512 : (-512 : Int64).toInt = -512 := rfl
              have l0 : (0 : Int64).toInt = 0 := rfl
              have y1 : ¬ (vl_I z).toInt64.toInt = (0 : Int64).toInt := fun z => hz0 (Int64.toInt_inj.mp z)
              have y2 : ¬ ((I 206 (76800 + k)).toInt64 + (Int32.ofInt f.o).toInt64).toInt < (-512 : Int64).toInt := fun z => h31 (Int64.lt_iff_toInt_lt.mpr z)
              have y3 : ¬ (-(vl_I z)).toInt64.toInt < ((I 206 (76800 + k)).toInt64 + (Int32.ofInt f.o).toInt64).toInt := fun z => h32 (Int64.lt_iff_toInt_lt.mpr z)
              have er : ¬ ((I 206 (76800 + k)).toInt + f.o) % (z : Int) = 0 := by rw [← ea]; exact fun y => h33 ((vi_remz hz ⟨by omega, by omega⟩).mpr y)
              have ev : (4 : Int32) = vl_I (vr_re M (vr_A I L 1024) (vr_T I L (76800 + k)) f.o z w) := by
                have e : vr_re M (vr_A I L 1024) (vr_T I L (76800 + k)) f.o z w = 4 := by
                  unfold vr_re; rw [if_neg t0, vx_r3 zs, dt]
                  exact if_neg (fun y => er y.2.2)
                rw [e]; rfl
              exact ⟨_, _, by rw [ev], rfl, rfl⟩
            · refine jv_Wp.lift (fun _ Kz => jv_Ev.steps jv_i290 2 (pc' := 111) (l' := [(5, .long ((I 206 (76800 + k)).toInt64 + (Int32.ofInt f.o).toInt64)), (4, .int (I 205 (76800 + k))), (0, .ref 196), (1, .int (vl_I k)), (2, .int (vl_I z)), (3, .int (vr_b w))]) (st' := [.int (0 : Int32)]) rfl Kz) ?_
              refine jv_Wp.of (jv_Ev.ret jv_i290 rfl rfl) ?_
              rw [hQ]
              have zs : (vr_T I L (76800 + k)).sort = 3 := ((vr_is (L := L) 3 (by decide) ok).mpr h30)
              have t0 : ¬ (vr_T I L (76800 + k)).sort = 0 := by omega
              have dt : (vr_T I L (76800 + k)).det = (I 206 (76800 + k)).toInt := rfl
              have ea : ((I 206 (76800 + k)).toInt64 + (Int32.ofInt f.o).toInt64).toInt = (I 206 (76800 + k)).toInt + f.o := by rw [vi_add (by rw [Int32.toInt_toInt64]; omega), Int32.toInt_toInt64, vr_dO D]
              have ez : ((vl_I z).toInt64).toInt = (z : Int) := (Int32.toInt_toInt64 _).trans (vl_I_int (by omega))
              have en : ((-(vl_I z)).toInt64).toInt = -(z : Int) := by rw [Int32.toInt_toInt64, Int32.toInt_neg, show (vl_I z).toInt = (z : Int) from vl_I_int (by omega)]; exact vi_bm32 (by omega) (by omega)
              have e64 : ((64 : Int64) - (vl_I z).toInt64).toInt = 64 - (z : Int) := by rw [Int64.toInt_sub, ez]; exact vi_bm (by show -9223372036854775808 ≤ 64 - (z : Int); omega) (by show 64 - (z : Int) < 9223372036854775808; omega)
              have lm512 : (-512 : Int64).toInt = -512 := rfl
              have l0 : (0 : Int64).toInt = 0 := rfl
              have y1 : ¬ (vl_I z).toInt64.toInt = (0 : Int64).toInt := fun z => hz0 (Int64.toInt_inj.mp z)
              have y2 : ¬ ((I 206 (76800 + k)).toInt64 + (Int32.ofInt f.o).toInt64).toInt < (-512 : Int64).toInt := fun z => h31 (Int64.lt_iff_toInt_lt.mpr z)
              have y3 : ¬ (-(vl_I z)).toInt64.toInt < ((I 206 (76800 + k)).toInt64 + (Int32.ofInt f.o).toInt64).toInt := fun z => h32 (Int64.lt_iff_toInt_lt.mpr z)
              have er : ((I 206 (76800 + k)).toInt + f.o) % (z : Int) = 0 := by rw [← ea]; exact (vi_remz hz ⟨by omega, by omega⟩).mp (Classical.not_not.mp h33)
              have ev : (0 : Int32) = vl_I (vr_re M (vr_A I L 1024) (vr_T I L (76800 + k)) f.o z w) := by
                have e : vr_re M (vr_A I L 1024) (vr_T I L (76800 + k)) f.o z w = 0 := by
                  unfold vr_re; rw [if_neg t0, vx_r3 zs, dt]
                  exact if_pos ⟨by omega, by omega, er⟩
                rw [e]; rfl
              exact ⟨_, _, by rw [ev], rfl, rfl⟩
      · refine jv_Wp.bys (q := ((I 205 (76800 + k)) = Int32.ofInt 4)) (fun h34 => ?_) (fun h34 => ?_)
        · refine jv_Wp.lift (fun _ Kz => jv_Ev.br jv_i290 (pc' := 218) (st' := []) rfl (by rw [h34]; rfl) Kz) ?_
          refine jv_Wp.lift (fun _ Kz => jv_Ev.steps jv_i290 3 (pc' := 221) (l' := [(5, .long ((I 206 (76800 + k)).toInt64 + (Int32.ofInt f.o).toInt64)), (4, .int (I 205 (76800 + k))), (0, .ref 196), (1, .int (vl_I k)), (2, .int (vl_I z)), (3, .int (vr_b w))]) (st' := [.ref 196, .int (vl_I k), .ref 196]) rfl Kz) ?_
          refine jv_Wp.lift (fun _ Kz => jv_Ev.m jv_i290 (pc' := 224) (st' := [.int (Int32.ofInt f.o), .int (vl_I k), .ref 196]) (G' := (jv_H K I L R)) rfl rfl (jv_m_getI (jv_rwK hW 196 12 24 (by decide)) rfl rfl (vr_dI D)) Kz) ?_
          refine jv_Wp.lift (fun _ Kz => jv_Ev.steps jv_i290 4 (pc' := 228) (l' := [(5, .long ((I 206 (76800 + k)).toInt64 + (Int32.ofInt f.o).toInt64)), (4, .int (I 205 (76800 + k))), (0, .ref 196), (1, .int (vl_I k)), (2, .int (vl_I z)), (3, .int (vr_b w))]) (st' := [.ref 196, .long (vl_I z).toInt64, .long (Int32.ofInt f.o).toInt64, .int (vl_I k), .ref 196]) rfl Kz) ?_
          refine jv_Wp.lift (fun _ Kz => jv_Ev.m jv_i290 (pc' := 231) (st' := [.ref 203, .long (vl_I z).toInt64, .long (Int32.ofInt f.o).toInt64, .int (vl_I k), .ref 196]) (G' := (jv_H K I L R)) rfl rfl (jv_m_getR (jv_rwK hW 196 12 24 (by decide)) rfl rfl (jv_rwR hW 196 11 203 (by decide))) Kz) ?_
          refine jv_Wp.lift (fun _ Kz => jv_Ev.steps jv_i290 1 (pc' := 234) (l' := [(5, .long ((I 206 (76800 + k)).toInt64 + (Int32.ofInt f.o).toInt64)), (4, .int (I 205 (76800 + k))), (0, .ref 196), (1, .int (vl_I k)), (2, .int (vl_I z)), (3, .int (vr_b w))]) (st' := [.int (1024 : Int32), .ref 203, .long (vl_I z).toInt64, .long (Int32.ofInt f.o).toInt64, .int (vl_I k), .ref 196]) rfl Kz) ?_
          refine jv_Wp.lift (fun _ Kz => jv_Ev.m jv_i290 (pc' := 235) (st' := [.int (I 203 1024), .long (vl_I z).toInt64, .long (Int32.ofInt f.o).toInt64, .int (vl_I k), .ref 196]) (G' := (jv_H K I L R)) rfl rfl (jv_m_ialdv (jv_rwK hW 203 102 1028 (by decide)) rfl (by decide) rfl rfl) Kz) ?_
          refine jv_Wp.lift (fun _ Kz => jv_Ev.steps jv_i290 1 (pc' := 236) (l' := [(5, .long ((I 206 (76800 + k)).toInt64 + (Int32.ofInt f.o).toInt64)), (4, .int (I 205 (76800 + k))), (0, .ref 196), (1, .int (vl_I k)), (2, .int (vl_I z)), (3, .int (vr_b w))]) (st' := [.long (I 203 1024).toInt64, .long (vl_I z).toInt64, .long (Int32.ofInt f.o).toInt64, .int (vl_I k), .ref 196]) rfl Kz) ?_
          refine jv_Wp.lift (fun _ Kz => jv_Ev.c jv_i290 (pc' := 239) (S' := [.int (vr_b (vr_wj (L 213 (8 + (76800 + k))) (L 214 (8 + (76800 + k))) (Int32.ofInt f.o).toInt64 (vl_I z).toInt64 (I 203 1024).toInt64))]) jv_i289 [.ref 196, .int (vl_I k), .long (Int32.ofInt f.o).toInt64, .long (vl_I z).toInt64, .long (I 203 1024).toInt64] rfl rfl rfl rfl (jv_cal rfl (jv_H_at (jv_rwK hW 196 12 24 (by decide))) rfl rfl) rfl (vq_isWithinJ k (Int32.ofInt f.o).toInt64 (vl_I z).toInt64 (I 203 1024).toInt64 hW (by omega)) rfl rfl Kz) ?_
          refine jv_Wp.cnd jv_i290 (pt := 246) (pe := 242) (p := ((vr_b (vr_wj (L 213 (8 + (76800 + k))) (L 214 (8 + (76800 + k))) (Int32.ofInt f.o).toInt64 (vl_I z).toInt64 (I 203 1024).toInt64)) = 0)) (q := ((vr_b (vr_wj (L 213 (8 + (76800 + k))) (L 214 (8 + (76800 + k))) (Int32.ofInt f.o).toInt64 (vl_I z).toInt64 (I 203 1024).toInt64)) = 0)) rfl jv_bi_eq rfl rfl Iff.rfl (fun h35 => ?_) (fun h35 => ?_)
          · refine jv_Wp.lift (fun _ Kz => jv_Ev.steps jv_i290 1 (pc' := 247) (l' := [(5, .long ((I 206 (76800 + k)).toInt64 + (Int32.ofInt f.o).toInt64)), (4, .int (I 205 (76800 + k))), (0, .ref 196), (1, .int (vl_I k)), (2, .int (vl_I z)), (3, .int (vr_b w))]) (st' := [.int (4 : Int32)]) rfl Kz) ?_
            refine jv_Wp.of (jv_Ev.ret jv_i290 rfl rfl) ?_
            rw [hQ]
            have zs : (vr_T I L (76800 + k)).sort = 4 := ((vr_is (L := L) 4 (by decide) ok).mpr h34)
            have t0 : ¬ (vr_T I L (76800 + k)).sort = 0 := by omega
            have dt : (vr_T I L (76800 + k)).det = (I 206 (76800 + k)).toInt := rfl
            have ea : ((I 206 (76800 + k)).toInt64 + (Int32.ofInt f.o).toInt64).toInt = (I 206 (76800 + k)).toInt + f.o := by rw [vi_add (by rw [Int32.toInt_toInt64]; omega), Int32.toInt_toInt64, vr_dO D]
            have wq : (vr_wj (L 213 (8 + (76800 + k))) (L 214 (8 + (76800 + k))) (Int32.ofInt f.o).toInt64 (vl_I z).toInt64 (I 203 1024).toInt64) = false := vr_b_f h35
            have ev0 : (vr_T I L (76800 + k)).val = (vb_toS (vr_S L (8 + (76800 + k)))) := vr_valv (by rw [(vr_is 4 (by decide) ok).mp zs]; rfl)
            have ez : ((vl_I z).toInt64).toInt = (z : Int) := (Int32.toInt_toInt64 _).trans (vl_I_int (by omega))
            have eo : ((Int32.ofInt f.o).toInt64).toInt = f.o := (Int32.toInt_toInt64 _).trans (vr_dO D)
            have e3 : ((I 203 1024).toInt64).toInt = (vr_A I L 1024).2 := Int32.toInt_toInt64 _
            have b1 := Int32.toInt_lt (I 203 1024)
            have b0 := Int32.le_toInt (I 203 1024)
            have e3b : (vr_A I L 1024).2 = (I 203 1024).toInt := rfl
            rw [vr_wj_wi ⟨by omega, by omega⟩ ⟨by omega, by omega⟩ ⟨by omega, by omega⟩, e3, ez, eo] at wq
            have ev : (4 : Int32) = vl_I (vr_re M (vr_A I L 1024) (vr_T I L (76800 + k)) f.o z w) := by
              have e : vr_re M (vr_A I L 1024) (vr_T I L (76800 + k)) f.o z w = 4 := by
                unfold vr_re; rw [if_neg t0, vx_r4 zs, ev0]
                have w2 := of_decide_eq_false wq
                exact if_neg (fun z => w2 ⟨by omega, by omega⟩)
              rw [e]; rfl
            exact ⟨_, _, by rw [ev], rfl, rfl⟩
          · refine jv_Wp.lift (fun _ Kz => jv_Ev.steps jv_i290 2 (pc' := 247) (l' := [(5, .long ((I 206 (76800 + k)).toInt64 + (Int32.ofInt f.o).toInt64)), (4, .int (I 205 (76800 + k))), (0, .ref 196), (1, .int (vl_I k)), (2, .int (vl_I z)), (3, .int (vr_b w))]) (st' := [.int (0 : Int32)]) rfl Kz) ?_
            refine jv_Wp.of (jv_Ev.ret jv_i290 rfl rfl) ?_
            rw [hQ]
            have zs : (vr_T I L (76800 + k)).sort = 4 := ((vr_is (L := L) 4 (by decide) ok).mpr h34)
            have t0 : ¬ (vr_T I L (76800 + k)).sort = 0 := by omega
            have dt : (vr_T I L (76800 + k)).det = (I 206 (76800 + k)).toInt := rfl
            have ea : ((I 206 (76800 + k)).toInt64 + (Int32.ofInt f.o).toInt64).toInt = (I 206 (76800 + k)).toInt + f.o := by rw [vi_add (by rw [Int32.toInt_toInt64]; omega), Int32.toInt_toInt64, vr_dO D]
            have wq : (vr_wj (L 213 (8 + (76800 + k))) (L 214 (8 + (76800 + k))) (Int32.ofInt f.o).toInt64 (vl_I z).toInt64 (I 203 1024).toInt64) = true := vr_b_t h35
            have ev0 : (vr_T I L (76800 + k)).val = (vb_toS (vr_S L (8 + (76800 + k)))) := vr_valv (by rw [(vr_is 4 (by decide) ok).mp zs]; rfl)
            have ez : ((vl_I z).toInt64).toInt = (z : Int) := (Int32.toInt_toInt64 _).trans (vl_I_int (by omega))
            have eo : ((Int32.ofInt f.o).toInt64).toInt = f.o := (Int32.toInt_toInt64 _).trans (vr_dO D)
            have e3 : ((I 203 1024).toInt64).toInt = (vr_A I L 1024).2 := Int32.toInt_toInt64 _
            have b1 := Int32.toInt_lt (I 203 1024)
            have b0 := Int32.le_toInt (I 203 1024)
            have e3b : (vr_A I L 1024).2 = (I 203 1024).toInt := rfl
            rw [vr_wj_wi ⟨by omega, by omega⟩ ⟨by omega, by omega⟩ ⟨by omega, by omega⟩, e3, ez, eo] at wq
            have ev : (0 : Int32) = vl_I (vr_re M (vr_A I L 1024) (vr_T I L (76800 + k)) f.o z w) := by
              have e : vr_re M (vr_A I L 1024) (vr_T I L (76800 + k)) f.o z w = 0 := by
                unfold vr_re; rw [if_neg t0, vx_r4 zs, ev0]
                have w2 := of_decide_eq_true wq
                exact if_pos ⟨by omega, by omega⟩
              rw [e]; rfl
            exact ⟨_, _, by rw [ev], rfl, rfl⟩
        · refine jv_Wp.bys (q := ((I 205 (76800 + k)) = Int32.ofInt 7)) (fun h36 => ?_) (fun h36 => ?_)
          · refine jv_Wp.lift (fun _ Kz => jv_Ev.br jv_i290 (pc' := 248) (st' := []) rfl (by rw [h36]; rfl) Kz) ?_
            refine jv_Wp.lift (fun _ Kz => jv_Ev.steps jv_i290 3 (pc' := 251) (l' := [(5, .long ((I 206 (76800 + k)).toInt64 + (Int32.ofInt f.o).toInt64)), (4, .int (I 205 (76800 + k))), (0, .ref 196), (1, .int (vl_I k)), (2, .int (vl_I z)), (3, .int (vr_b w))]) (st' := [.ref 196, .int (vl_I k), .ref 196]) rfl Kz) ?_
            refine jv_Wp.lift (fun _ Kz => jv_Ev.m jv_i290 (pc' := 254) (st' := [.int (Int32.ofInt f.o), .int (vl_I k), .ref 196]) (G' := (jv_H K I L R)) rfl rfl (jv_m_getI (jv_rwK hW 196 12 24 (by decide)) rfl rfl (vr_dI D)) Kz) ?_
            refine jv_Wp.lift (fun _ Kz => jv_Ev.steps jv_i290 4 (pc' := 258) (l' := [(5, .long ((I 206 (76800 + k)).toInt64 + (Int32.ofInt f.o).toInt64)), (4, .int (I 205 (76800 + k))), (0, .ref 196), (1, .int (vl_I k)), (2, .int (vl_I z)), (3, .int (vr_b w))]) (st' := [.ref 196, .long (vl_I z).toInt64, .long (Int32.ofInt f.o).toInt64, .int (vl_I k), .ref 196]) rfl Kz) ?_
            refine jv_Wp.lift (fun _ Kz => jv_Ev.m jv_i290 (pc' := 261) (st' := [.ref 201, .long (vl_I z).toInt64, .long (Int32.ofInt f.o).toInt64, .int (vl_I k), .ref 196]) (G' := (jv_H K I L R)) rfl rfl (jv_m_getR (jv_rwK hW 196 12 24 (by decide)) rfl rfl (jv_rwR hW 196 9 201 (by decide))) Kz) ?_
            refine jv_Wp.lift (fun _ Kz => jv_Ev.steps jv_i290 1 (pc' := 262) (l' := [(5, .long ((I 206 (76800 + k)).toInt64 + (Int32.ofInt f.o).toInt64)), (4, .int (I 205 (76800 + k))), (0, .ref 196), (1, .int (vl_I k)), (2, .int (vl_I z)), (3, .int (vr_b w))]) (st' := [.ref 196, .ref 201, .long (vl_I z).toInt64, .long (Int32.ofInt f.o).toInt64, .int (vl_I k), .ref 196]) rfl Kz) ?_
            refine jv_Wp.lift (fun _ Kz => jv_Ev.m jv_i290 (pc' := 265) (st' := [.ref 206, .ref 201, .long (vl_I z).toInt64, .long (Int32.ofInt f.o).toInt64, .int (vl_I k), .ref 196]) (G' := (jv_H K I L R)) rfl rfl (jv_m_getR (jv_rwK hW 196 12 24 (by decide)) rfl rfl (jv_rwR hW 196 14 206 (by decide))) Kz) ?_
            refine jv_Wp.lift (fun _ Kz => jv_Ev.steps jv_i290 2 (pc' := 269) (l' := [(5, .long ((I 206 (76800 + k)).toInt64 + (Int32.ofInt f.o).toInt64)), (4, .int (I 205 (76800 + k))), (0, .ref 196), (1, .int (vl_I k)), (2, .int (vl_I z)), (3, .int (vr_b w))]) (st' := [.int (vl_I k), .int (1024 : Int32), .ref 206, .ref 201, .long (vl_I z).toInt64, .long (Int32.ofInt f.o).toInt64, .int (vl_I k), .ref 196]) rfl Kz) ?_
            refine jv_Wp.lift (fun _ Kz => jv_Ev.c jv_i290 (pc' := 272) (S' := [.int (vl_I (76800 + k)), .ref 206, .ref 201, .long (vl_I z).toInt64, .long (Int32.ofInt f.o).toInt64, .int (vl_I k), .ref 196]) jv_i253 [.int (1024 : Int32), .int (vl_I k)] rfl rfl rfl rfl rfl rfl (vq_thing 1024 k) rfl rfl Kz) ?_
            refine jv_Wp.lift (fun _ Kz => jv_Ev.m jv_i290 (pc' := 273) (st' := [.int (vl_I kd), .ref 201, .long (vl_I z).toInt64, .long (Int32.ofInt f.o).toInt64, .int (vl_I k), .ref 196]) (G' := (jv_H K I L R)) rfl rfl (jv_m_ialdv (jv_rwK hW 206 102 77100 (by decide)) rfl (vl_I_ix (by omega) (by decide)) rfl ((congrArg (I 206) (vl_I_nat (by omega))).trans (hkd (Or.inr h36)))) Kz) ?_
            refine jv_Wp.lift (fun _ Kz => jv_Ev.m jv_i290 (pc' := 274) (st' := [.int (vl_I (M.value kd)), .long (vl_I z).toInt64, .long (Int32.ofInt f.o).toInt64, .int (vl_I k), .ref 196]) (G' := (jv_H K I L R)) rfl rfl (jv_m_ialdv (jv_rwK hW 201 102 8 (by decide)) rfl (vl_I_ix (by omega) (by decide)) rfl ((congrArg (I 201) (vl_I_nat (by omega))).trans (hM kd k8).2.2.1)) Kz) ?_
            refine jv_Wp.lift (fun _ Kz => jv_Ev.steps jv_i290 1 (pc' := 275) (l' := [(5, .long ((I 206 (76800 + k)).toInt64 + (Int32.ofInt f.o).toInt64)), (4, .int (I 205 (76800 + k))), (0, .ref 196), (1, .int (vl_I k)), (2, .int (vl_I z)), (3, .int (vr_b w))]) (st' := [.long (vl_I (M.value kd)).toInt64, .long (vl_I z).toInt64, .long (Int32.ofInt f.o).toInt64, .int (vl_I k), .ref 196]) rfl Kz) ?_
            refine jv_Wp.lift (fun _ Kz => jv_Ev.c jv_i290 (pc' := 278) (S' := [.int (vr_b (vr_wj (L 213 (8 + (76800 + k))) (L 214 (8 + (76800 + k))) (Int32.ofInt f.o).toInt64 (vl_I z).toInt64 (vl_I (M.value kd)).toInt64))]) jv_i289 [.ref 196, .int (vl_I k), .long (Int32.ofInt f.o).toInt64, .long (vl_I z).toInt64, .long (vl_I (M.value kd)).toInt64] rfl rfl rfl rfl (jv_cal rfl (jv_H_at (jv_rwK hW 196 12 24 (by decide))) rfl rfl) rfl (vq_isWithinJ k (Int32.ofInt f.o).toInt64 (vl_I z).toInt64 (vl_I (M.value kd)).toInt64 hW (by omega)) rfl rfl Kz) ?_
            refine jv_Wp.cnd jv_i290 (pt := 285) (pe := 281) (p := ((vr_b (vr_wj (L 213 (8 + (76800 + k))) (L 214 (8 + (76800 + k))) (Int32.ofInt f.o).toInt64 (vl_I z).toInt64 (vl_I (M.value kd)).toInt64)) = 0)) (q := ((vr_b (vr_wj (L 213 (8 + (76800 + k))) (L 214 (8 + (76800 + k))) (Int32.ofInt f.o).toInt64 (vl_I z).toInt64 (vl_I (M.value kd)).toInt64)) = 0)) rfl jv_bi_eq rfl rfl Iff.rfl (fun h37 => ?_) (fun h37 => ?_)
            · refine jv_Wp.lift (fun _ Kz => jv_Ev.steps jv_i290 1 (pc' := 286) (l' := [(5, .long ((I 206 (76800 + k)).toInt64 + (Int32.ofInt f.o).toInt64)), (4, .int (I 205 (76800 + k))), (0, .ref 196), (1, .int (vl_I k)), (2, .int (vl_I z)), (3, .int (vr_b w))]) (st' := [.int (4 : Int32)]) rfl Kz) ?_
              refine jv_Wp.of (jv_Ev.ret jv_i290 rfl rfl) ?_
              rw [hQ]
              have zs : (vr_T I L (76800 + k)).sort = 7 := ((vr_is (L := L) 7 (by decide) ok).mpr h36)
              have t0 : ¬ (vr_T I L (76800 + k)).sort = 0 := by omega
              have dt : (vr_T I L (76800 + k)).det = (I 206 (76800 + k)).toInt := rfl
              have ea : ((I 206 (76800 + k)).toInt64 + (Int32.ofInt f.o).toInt64).toInt = (I 206 (76800 + k)).toInt + f.o := by rw [vi_add (by rw [Int32.toInt_toInt64]; omega), Int32.toInt_toInt64, vr_dO D]
              have wq : (vr_wj (L 213 (8 + (76800 + k))) (L 214 (8 + (76800 + k))) (Int32.ofInt f.o).toInt64 (vl_I z).toInt64 (vl_I (M.value kd)).toInt64) = false := vr_b_f h37
              have ev0 : (vr_T I L (76800 + k)).val = (vb_toS (vr_S L (8 + (76800 + k)))) := vr_valv (by rw [(vr_is 7 (by decide) ok).mp zs]; rfl)
              have ez : ((vl_I z).toInt64).toInt = (z : Int) := (Int32.toInt_toInt64 _).trans (vl_I_int (by omega))
              have eo : ((Int32.ofInt f.o).toInt64).toInt = f.o := (Int32.toInt_toInt64 _).trans (vr_dO D)
              have ek : (vl_I (M.value kd)).toInt = (M.value kd : Int) := vl_I_int (by omega)
              have e3 : ((vl_I (M.value kd)).toInt64).toInt = (M.value (vr_T I L (76800 + k)).det : Int) := by rw [Int32.toInt_toInt64, ek]; show _ = ((M.value (I 206 (76800 + k)).toInt : Nat) : Int); rw [hkd (Or.inr h36), show (vl_I kd).toInt = (kd : Int) from vl_I_int (by omega)]
              have b1 : ((vl_I (M.value kd)).toInt64).toInt ≤ 256 := by rw [Int32.toInt_toInt64, ek]; omega
              have b0 : 0 ≤ ((vl_I (M.value kd)).toInt64).toInt := by rw [Int32.toInt_toInt64, ek]; omega
              rw [vr_wj_wi ⟨by omega, by omega⟩ ⟨by omega, by omega⟩ ⟨by omega, by omega⟩, e3, ez, eo] at wq
              have ev : (4 : Int32) = vl_I (vr_re M (vr_A I L 1024) (vr_T I L (76800 + k)) f.o z w) := by
                have e : vr_re M (vr_A I L 1024) (vr_T I L (76800 + k)) f.o z w = 4 := by
                  unfold vr_re; rw [if_neg t0, vx_r7 zs, ev0]
                  have w2 := of_decide_eq_false wq
                  exact if_neg (fun z => w2 ⟨by omega, by omega⟩)
                rw [e]; rfl
              exact ⟨_, _, by rw [ev], rfl, rfl⟩
            · refine jv_Wp.lift (fun _ Kz => jv_Ev.steps jv_i290 2 (pc' := 286) (l' := [(5, .long ((I 206 (76800 + k)).toInt64 + (Int32.ofInt f.o).toInt64)), (4, .int (I 205 (76800 + k))), (0, .ref 196), (1, .int (vl_I k)), (2, .int (vl_I z)), (3, .int (vr_b w))]) (st' := [.int (0 : Int32)]) rfl Kz) ?_
              refine jv_Wp.of (jv_Ev.ret jv_i290 rfl rfl) ?_
              rw [hQ]
              have zs : (vr_T I L (76800 + k)).sort = 7 := ((vr_is (L := L) 7 (by decide) ok).mpr h36)
              have t0 : ¬ (vr_T I L (76800 + k)).sort = 0 := by omega
              have dt : (vr_T I L (76800 + k)).det = (I 206 (76800 + k)).toInt := rfl
              have ea : ((I 206 (76800 + k)).toInt64 + (Int32.ofInt f.o).toInt64).toInt = (I 206 (76800 + k)).toInt + f.o := by rw [vi_add (by rw [Int32.toInt_toInt64]; omega), Int32.toInt_toInt64, vr_dO D]
              have wq : (vr_wj (L 213 (8 + (76800 + k))) (L 214 (8 + (76800 + k))) (Int32.ofInt f.o).toInt64 (vl_I z).toInt64 (vl_I (M.value kd)).toInt64) = true := vr_b_t h37
              have ev0 : (vr_T I L (76800 + k)).val = (vb_toS (vr_S L (8 + (76800 + k)))) := vr_valv (by rw [(vr_is 7 (by decide) ok).mp zs]; rfl)
              have ez : ((vl_I z).toInt64).toInt = (z : Int) := (Int32.toInt_toInt64 _).trans (vl_I_int (by omega))
              have eo : ((Int32.ofInt f.o).toInt64).toInt = f.o := (Int32.toInt_toInt64 _).trans (vr_dO D)
              have ek : (vl_I (M.value kd)).toInt = (M.value kd : Int) := vl_I_int (by omega)
              have e3 : ((vl_I (M.value kd)).toInt64).toInt = (M.value (vr_T I L (76800 + k)).det : Int) := by rw [Int32.toInt_toInt64, ek]; show _ = ((M.value (I 206 (76800 + k)).toInt : Nat) : Int); rw [hkd (Or.inr h36), show (vl_I kd).toInt = (kd : Int) from vl_I_int (by omega)]
              have b1 : ((vl_I (M.value kd)).toInt64).toInt ≤ 256 := by rw [Int32.toInt_toInt64, ek]; omega
              have b0 : 0 ≤ ((vl_I (M.value kd)).toInt64).toInt := by rw [Int32.toInt_toInt64, ek]; omega
              rw [vr_wj_wi ⟨by omega, by omega⟩ ⟨by omega, by omega⟩ ⟨by omega, by omega⟩, e3, ez, eo] at wq
              have ev : (0 : Int32) = vl_I (vr_re M (vr_A I L 1024) (vr_T I L (76800 + k)) f.o z w) := by
                have e : vr_re M (vr_A I L 1024) (vr_T I L (76800 + k)) f.o z w = 0 := by
                  unfold vr_re; rw [if_neg t0, vx_r7 zs, ev0]
                  have w2 := of_decide_eq_true wq
                  exact if_pos ⟨by omega, by omega⟩
                rw [e]; rfl
              exact ⟨_, _, by rw [ev], rfl, rfl⟩
          · refine jv_Wp.lift (fun _ Kz => jv_Ev.br jv_i290 (pc' := 287) (st' := []) rfl (jv_tsw_def (fun i hi h => by match i, hi, h with 
                  | 0, _, h => exact absurd h (jv_ne_toInt (k := 0) h1) 
                  | 1, _, _ => rfl 
                  | 2, _, h => exact absurd h (jv_ne_toInt (k := 2) h2) 
                  | 3, _, h => exact absurd h (jv_ne_toInt (k := 3) h30) 
                  | 4, _, h => exact absurd h (jv_ne_toInt (k := 4) h34) 
                  | 5, _, _ => rfl 
                  | 6, _, _ => rfl 
                  | 7, _, h => exact absurd h (jv_ne_toInt (k := 7) h36) 
                  | i + 8, hi, _ => exact absurd hi (by simp)) rfl) Kz) ?_
            refine jv_Wp.lift (fun _ Kz => jv_Ev.steps jv_i290 1 (pc' := 288) (l' := [(5, .long ((I 206 (76800 + k)).toInt64 + (Int32.ofInt f.o).toInt64)), (4, .int (I 205 (76800 + k))), (0, .ref 196), (1, .int (vl_I k)), (2, .int (vl_I z)), (3, .int (vr_b w))]) (st' := [.int (3 : Int32)]) rfl Kz) ?_
            refine jv_Wp.of (jv_Ev.ret jv_i290 rfl rfl) ?_
            rw [hQ]
            have t0 : ¬ (vr_T I L (76800 + k)).sort = 0 := fun z => h1 ((vr_isN ok hk).mp z)
            have t2 : ¬ (vr_T I L (76800 + k)).sort = 2 := fun z => h2 ((vr_is 2 (by decide) ok).mp z)
            have t3 : ¬ (vr_T I L (76800 + k)).sort = 3 := fun z => h30 ((vr_is 3 (by decide) ok).mp z)
            have t4 : ¬ (vr_T I L (76800 + k)).sort = 4 := fun z => h34 ((vr_is 4 (by decide) ok).mp z)
            have t7 : ¬ (vr_T I L (76800 + k)).sort = 7 := fun z => h36 ((vr_is 7 (by decide) ok).mp z)
            have ev : (3 : Int32) = vl_I (vr_re M (vr_A I L 1024) (vr_T I L (76800 + k)) f.o z w) := by
              have e : vr_re M (vr_A I L 1024) (vr_T I L (76800 + k)) f.o z w = 3 := by
                unfold vr_re; exact (if_neg t0).trans (vx_r_ t2 t3 t4 t7)
              rw [e]; rfl
            exact ⟨_, _, by rw [ev], rfl, rfl⟩
theorem vq_reach {K : Nat → Option (Nat × Nat)} {I : Nat → Nat → Int32} {L : Nat → Nat → Int64} {R : Nat → Nat → Value} (M : vf_M) (f : vf_F) (k kd z : Nat) (w : Bool) (hW : jv_rW K R) (hM : vr_M I M) (D : vr_dec I f) (ok : vr_ok I (76800 + k) k) (hk : k < 11) (hz : z = 1 ∨ z = 2 ∨ z = 4 ∨ z = 8) (k8 : kd < 8) (hkd : I 205 (76800 + k) = 6 ∨ I 205 (76800 + k) = 7 → I 206 (76800 + k) = vl_I kd) {n sl : Nat} : jv_Ms 290 [.ref 196, .int (vl_I k), .int (vl_I z), .int (vr_b w)] (jv_H K I L R) n sl (some (.int (vl_I (vr_re M (vr_A I L 1024) (vr_T I L (76800 + k)) f.o z w))), jv_H K I L R, n, sl) := by
  obtain ⟨I1, L1, H, ei, el⟩ := vq_reach_ (n := n) (sl := sl) M f k kd z w hW hM D ok hk hz k8 hkd
  rw [ei, el] at H
  exact H