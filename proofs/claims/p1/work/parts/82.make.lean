/-! part 82: the loops of making a map -/
theorem jx_bound {I J : Nat → Nat → Int32} {o j : Nat} {x : Int32} (hJ : ∀ q i, q ≠ 8 → q ≠ 9 → J q i = I q i) (ho : o ≠ 8 ∧ o ≠ 9) : ∀ q i, q ≠ 8 → q ≠ 9 → J q i = I q i := hJ
theorem jx_ku {I J : Nat → Nat → Int32} {o j : Nat} {x : Int32} (hJ : ∀ q i, q ≠ 8 → q ≠ 9 → J q i = I q i) (ho : o = 8 ∨ o = 9) : ∀ q i, q ≠ 8 → q ≠ 9 → jv_u J o j x q i = I q i := fun q i h1 h2 => by
  rw [jv_u_o _ _ _ _ (by rcases ho with h | h <;> omega)]
  exact hJ q i h1 h2
theorem jx_i11 : jv_I 11 2 (some .int) 0 0 jv_c11 := ⟨rfl, rfl, rfl, rfl, rfl⟩
theorem jx_i125 : jv_I 125 9 (some .int) 3 73 jv_c125 := ⟨rfl, rfl, rfl, rfl, rfl⟩
section DL
variable {K : Nat → Option (Nat × Nat)} {L : Nat → Nat → Int64} {R : Nat → Nat → Value}
theorem jx_where {I : Nat → Nat → Int32} {mp kd len : Nat} (hK : K mp = some (kd, len)) (hs5 : (jv_sub 0 kd && Nat.blt 5 len) = true) (hs6 : (jv_sub 0 kd && Nat.blt 6 len) = true) (hv5 : jv_vk kd 5 = 0) (hv6 : jv_vk kd 6 = 0) {st : Int32} (h5 : I mp 5 = 0) (h6 : I mp 6 = st) (x : Int32) (n sl : Nat) : jv_Ms 11 [.ref mp, .int x] (jv_H K I L R) n sl (some (.int (0 + x * st)), jv_H K I L R, n, sl) := by
  show jv_Ev 11 0 [(0, .ref mp), (1, .int x)] [] (jv_H K I L R) n sl _
  refine jv_Ev.steps jx_i11 1 (pc' := 1) (l' := [(0, .ref mp), (1, .int x)]) (st' := [.ref mp]) rfl ?_
  refine jv_Ev.m jx_i11 (pc' := 4) (st' := [.int 0]) rfl rfl (jv_m_getI hK hs5 hv5 h5) ?_
  refine jv_Ev.steps jx_i11 2 (pc' := 6) (l' := [(0, .ref mp), (1, .int x)]) (st' := [.ref mp, .int x, .int 0]) rfl ?_
  refine jv_Ev.m jx_i11 (pc' := 9) (st' := [.int st, .int x, .int 0]) rfl rfl (jv_m_getI hK hs6 hv6 h6) ?_
  refine jv_Ev.steps jx_i11 2 (pc' := 11) (l' := [(0, .ref mp), (1, .int x)]) (st' := [.int (0 + x * st)]) rfl ?_
  exact jv_Ev.ret jx_i11 rfl rfl
/-- the grains of a map's values are told -/
theorem jx_dl0 {mp kd len V E S : Nat} {kk : Int32} (hKm : K mp = some (kd, len)) (hs5 : (jv_sub 0 kd && Nat.blt 5 len) = true) (hs6 : (jv_sub 0 kd && Nat.blt 6 len) = true) (hv5 : jv_vk kd 5 = 0) (hv6 : jv_vk kd 6 = 0) (hcal : ∀ (I : Nat → Nat → Int32) (x : Int32), jv_callee jv_Tb 5 98 [.ref mp, .int x] (jv_H K I L R) = some 11) (hm8 : mp ≠ 8 ∧ mp ≠ 9)
    (hK2 : K 2 = some (6, 11)) (hR9 : R 2 9 = .ref 8) (hR10 : R 2 10 = .ref 9) (hK8 : K 8 = some (101, 8192)) (hK9 : K 9 = some (102, 8192)) (hk2 : ¬ kk = 2) (hV : V ≤ 256) (hVS : V ≤ S) (hE : E ≤ 4096) (hES : E * S ≤ 65536) (I : Nat → Nat → Int32) (h5 : I mp 5 = 0) (h6 : I mp 6 = nI S) (key : Int32) :
    ∃ I9 : Nat → Nat → Int32, (∀ q i, q ≠ 8 → q ≠ 9 → I9 q i = I q i) ∧ ∀ (n sl : Nat) (X : jv_R), jv_Ev 125 162 [(0, .ref 2), (3, .int (nI V)), (4, .int (nI E)), (5, .ref mp)] [] (jv_H K I9 L R) n sl X → jv_Ev 125 81 [(0, .ref 2), (1, .int kk), (3, .int (nI V)), (4, .int (nI E)), (5, .ref mp), (6, .int (nI 0))] [] (jv_H K I L R) n sl X := by
  -- inner
  have inner : ∀ d i k, k + d = V + 8 → i < E → ∀ J : Nat → Nat → Int32, (∀ q j, q ≠ 8 → q ≠ 9 → J q j = I q j) → ∃ J9 : Nat → Nat → Int32, (∀ q j, q ≠ 8 → q ≠ 9 → J9 q j = I q j) ∧ ∀ (n sl : Nat) (X : jv_R), jv_Ev 125 156 [(0, .ref 2), (1, .int kk), (3, .int (nI V)), (4, .int (nI E)), (5, .ref mp), (6, .int (nI i))] [] (jv_H K J9 L R) n sl X → jv_Ev 125 96 [(0, .ref 2), (1, .int kk), (3, .int (nI V)), (4, .int (nI E)), (5, .ref mp), (6, .int (nI i)), (7, .int (nI k))] [] (jv_H K J L R) n sl X := by
    intro d
    induction d using Nat.strongRecOn with
    | _ d ih =>
      intro i k hkd hi J hJ
      by_cases hkV : k < V
      · obtain ⟨J9, hJ9, hgo⟩ := ih (d - 8) (by omega) i (k + 8) (by omega) hi (jv_u (jv_u J 8 ((i * S + k) / 8) ((if nI V - nI k < 8 then nI V - nI k else 8).toInt8.toInt32.toInt8.toInt32)) 9 ((i * S + k) / 8) (if kk = 0 then -1 else 0)) (jx_ku (jx_ku hJ (Or.inl rfl)) (Or.inr rfl))
        refine ⟨J9, hJ9, fun n sl X hX => ?_⟩
        have hX := hgo n sl X hX
        have hlt : (i * S + k) / 8 < 8192 := by
          have h1 : (i + 1) * S ≤ E * S := Nat.mul_le_mul_right S hi
          have h2 : (i + 1) * S = i * S + S := Nat.succ_mul i S
          omega
        have hb : i * S + k < 65536 := by
          have h1 : (i + 1) * S ≤ E * S := Nat.mul_le_mul_right S hi
          have h2 : (i + 1) * S = i * S + S := Nat.succ_mul i S
          omega
        have eg : (0 + nI i * nI S + nI k) / 8 = nI ((i * S + k) / 8) := by
          rw [pk_mul, Int32.zero_add, nI_add]
          exact pk_div (d := 8) (by omega) (by omega) (by omega)
        refine jv_Ev.steps jx_i125 2 (pc' := 99) (l' := [(0, .ref 2), (1, .int kk), (3, .int (nI V)), (4, .int (nI E)), (5, .ref mp), (6, .int (nI i)), (7, .int (nI k))]) (st' := [.int (nI V), .int (nI k)]) rfl ?_
        refine jv_Ev.br jx_i125 (pc' := 102) (st' := []) rfl (jv_bc_ge.trans (jx_gof (nI_ge hkV (by omega)))) ?_
        refine jv_Ev.steps jx_i125 2 (pc' := 106) (l' := [(0, .ref 2), (1, .int kk), (3, .int (nI V)), (4, .int (nI E)), (5, .ref mp), (6, .int (nI i)), (7, .int (nI k))]) (st' := [.int (nI i), .ref mp]) rfl ?_
        refine jv_Ev.c jx_i125 (pc' := 109) (S' := [.int (0 + nI i * nI S)]) jx_i11 [.ref mp, .int (nI i)] rfl rfl rfl rfl (hcal J (nI i)) rfl (jx_where hKm hs5 hs6 hv5 hv6 ((hJ mp 5 hm8.1 hm8.2).trans h5) ((hJ mp 6 hm8.1 hm8.2).trans h6) (nI i) n sl) rfl rfl ?_
        refine jv_Ev.steps jx_i125 3 (pc' := 114) (l' := [(0, .ref 2), (1, .int kk), (3, .int (nI V)), (4, .int (nI E)), (5, .ref mp), (6, .int (nI i)), (7, .int (nI k))]) (st' := [.int 8, .int (0 + nI i * nI S + nI k)]) rfl ?_
        refine jv_Ev.op jx_i125 (pc' := 115) (l' := [(0, .ref 2), (1, .int kk), (3, .int (nI V)), (4, .int (nI E)), (5, .ref mp), (6, .int (nI i)), (7, .int (nI k))]) (st' := [.int ((0 + nI i * nI S + nI k) / 8)]) rfl (jv_op_idiv (by decide)) ?_
        rw [eg]
        refine jv_Ev.steps jx_i125 2 (pc' := 118) (l' := [(8, .int (nI ((i * S + k) / 8))), (0, .ref 2), (1, .int kk), (3, .int (nI V)), (4, .int (nI E)), (5, .ref mp), (6, .int (nI i)), (7, .int (nI k))]) (st' := [.ref 2]) rfl ?_
        refine jv_Ev.m jx_i125 (pc' := 121) (st' := [.ref 8]) rfl rfl (jv_m_getR hK2 rfl rfl hR9) ?_
        refine jv_Ev.steps jx_i125 7 (pc' := 133) (l' := [(8, .int (nI ((i * S + k) / 8))), (0, .ref 2), (1, .int kk), (3, .int (nI V)), (4, .int (nI E)), (5, .ref mp), (6, .int (nI i)), (7, .int (nI k))]) (st' := [.int (if nI V - nI k < 8 then nI V - nI k else 8).toInt8.toInt32, .int (nI ((i * S + k) / 8)), .ref 8]) rfl ?_
        refine jv_Ev.m jx_i125 (pc' := 134) (st' := []) (G' := jv_H K (jv_u J 8 ((i * S + k) / 8) ((if nI V - nI k < 8 then nI V - nI k else 8).toInt8.toInt32.toInt8.toInt32)) L R) rfl rfl (by rw [jv_m_bast hK8 (jx_ix hlt (by omega)), show (nI ((i * S + k) / 8)).toNatClampNeg = (i * S + k) / 8 from nI_clamp (by omega)]) ?_
        refine jv_Ev.steps jx_i125 1 (pc' := 135) (l' := [(8, .int (nI ((i * S + k) / 8))), (0, .ref 2), (1, .int kk), (3, .int (nI V)), (4, .int (nI E)), (5, .ref mp), (6, .int (nI i)), (7, .int (nI k))]) (st' := [.ref 2]) rfl ?_
        refine jv_Ev.m jx_i125 (pc' := 138) (st' := [.ref 9]) rfl rfl (jv_m_getR hK2 rfl rfl hR10) ?_
        refine jv_Ev.steps jx_i125 2 (pc' := 141) (l' := [(8, .int (nI ((i * S + k) / 8))), (0, .ref 2), (1, .int kk), (3, .int (nI V)), (4, .int (nI E)), (5, .ref mp), (6, .int (nI i)), (7, .int (nI k))]) (st' := [.int kk, .int (nI ((i * S + k) / 8)), .ref 9]) rfl ?_
        have tail : jv_Ev 125 149 [(8, .int (nI ((i * S + k) / 8))), (0, .ref 2), (1, .int kk), (3, .int (nI V)), (4, .int (nI E)), (5, .ref mp), (6, .int (nI i)), (7, .int (nI k))] [.int (if kk = 0 then -1 else 0), .int (nI ((i * S + k) / 8)), .ref 9] (jv_H K (jv_u J 8 ((i * S + k) / 8) ((if nI V - nI k < 8 then nI V - nI k else 8).toInt8.toInt32.toInt8.toInt32)) L R) n sl X := by
          refine jv_Ev.m jx_i125 (pc' := 150) (st' := []) (G' := jv_H K (jv_u (jv_u J 8 ((i * S + k) / 8) ((if nI V - nI k < 8 then nI V - nI k else 8).toInt8.toInt32.toInt8.toInt32)) 9 ((i * S + k) / 8) (if kk = 0 then -1 else 0)) L R) rfl rfl (by rw [jv_m_iast hK9 (jx_ix hlt (by omega)), show (nI ((i * S + k) / 8)).toNatClampNeg = (i * S + k) / 8 from nI_clamp (by omega)]) ?_
          refine jv_Ev.steps jx_i125 2 (pc' := 96) (l' := [(7, .int (nI k + Int32.ofInt 8)), (8, .int (nI ((i * S + k) / 8))), (0, .ref 2), (1, .int kk), (3, .int (nI V)), (4, .int (nI E)), (5, .ref mp), (6, .int (nI i))]) (st' := []) rfl ?_
          have e1 : nI k + Int32.ofInt 8 = nI (k + 8) := nI_add k 8
          rw [e1]
          refine jv_Ev.loc (l := [(0, .ref 2), (1, .int kk), (3, .int (nI V)), (4, .int (nI E)), (5, .ref mp), (6, .int (nI i)), (7, .int (nI (k + 8)))]) ⟨?_, by show List.Nodup [7, 8, 0, 1, 3, 4, 5, 6]; decide⟩ hX
          simp
        by_cases hk0 : kk = 0
        · rw [if_pos hk0] at tail
          refine jv_Ev.br jx_i125 (pc' := 144) (st' := [.int (nI ((i * S + k) / 8)), .ref 9]) rfl (jv_bi_ne.trans (jx_gof (fun h => h hk0))) ?_
          refine jv_Ev.steps jx_i125 2 (pc' := 149) (l' := [(8, .int (nI ((i * S + k) / 8))), (0, .ref 2), (1, .int kk), (3, .int (nI V)), (4, .int (nI E)), (5, .ref mp), (6, .int (nI i)), (7, .int (nI k))]) (st' := [.int (-1), .int (nI ((i * S + k) / 8)), .ref 9]) rfl tail
        · rw [if_neg hk0] at tail
          refine jv_Ev.br jx_i125 (pc' := 148) (st' := [.int (nI ((i * S + k) / 8)), .ref 9]) rfl (jv_bi_ne.trans (jx_got hk0)) ?_
          refine jv_Ev.steps jx_i125 1 (pc' := 149) (l' := [(8, .int (nI ((i * S + k) / 8))), (0, .ref 2), (1, .int kk), (3, .int (nI V)), (4, .int (nI E)), (5, .ref mp), (6, .int (nI i)), (7, .int (nI k))]) (st' := [.int 0, .int (nI ((i * S + k) / 8)), .ref 9]) rfl tail
      · refine ⟨J, hJ, fun n sl X hX => ?_⟩
        refine jv_Ev.steps jx_i125 2 (pc' := 99) (l' := [(0, .ref 2), (1, .int kk), (3, .int (nI V)), (4, .int (nI E)), (5, .ref mp), (6, .int (nI i)), (7, .int (nI k))]) (st' := [.int (nI V), .int (nI k)]) rfl ?_
        refine jv_Ev.br jx_i125 (pc' := 156) (st' := []) rfl (jv_bc_ge.trans (jx_got (nI_le (Nat.not_lt.mp hkV) (by omega)))) ?_
        exact jv_Ev.loc (l := [(0, .ref 2), (1, .int kk), (3, .int (nI V)), (4, .int (nI E)), (5, .ref mp), (6, .int (nI i))]) ⟨by simp, by show List.Nodup [0, 1, 3, 4, 5, 6, 7]; decide⟩ hX
  have outer : ∀ d i, i + d = E → ∀ J : Nat → Nat → Int32, (∀ q j, q ≠ 8 → q ≠ 9 → J q j = I q j) → ∃ J9 : Nat → Nat → Int32, (∀ q j, q ≠ 8 → q ≠ 9 → J9 q j = I q j) ∧ ∀ (n sl : Nat) (X : jv_R), jv_Ev 125 162 [(0, .ref 2), (3, .int (nI V)), (4, .int (nI E)), (5, .ref mp)] [] (jv_H K J9 L R) n sl X → jv_Ev 125 81 [(0, .ref 2), (1, .int kk), (3, .int (nI V)), (4, .int (nI E)), (5, .ref mp), (6, .int (nI i))] [] (jv_H K J L R) n sl X := by
    intro d
    induction d with
    | zero =>
      intro i hi J hJ
      refine ⟨J, hJ, fun n sl X hX => ?_⟩
      have hi : i = E := by omega
      subst hi
      refine jv_Ev.steps jx_i125 2 (pc' := 85) (l' := [(0, .ref 2), (1, .int kk), (3, .int (nI V)), (4, .int (nI i)), (5, .ref mp), (6, .int (nI i))]) (st' := [.int (nI i), .int (nI i)]) rfl ?_
      refine jv_Ev.br jx_i125 (pc' := 162) (st' := []) rfl (jv_bc_ge.trans (jx_got (nI_le (Nat.le_refl _) (by omega)))) ?_
      exact jv_Ev.loc (l := [(0, .ref 2), (3, .int (nI V)), (4, .int (nI i)), (5, .ref mp)]) ⟨by simp, by show List.Nodup [0, 1, 3, 4, 5, 6]; decide⟩ hX
    | succ d ih =>
      intro i hi J hJ
      obtain ⟨J1, hJ1, hgo1⟩ := inner (V + 8) i 0 (by omega) (by omega) J hJ
      obtain ⟨J2, hJ2, hgo2⟩ := ih (i + 1) (by omega) J1 hJ1
      refine ⟨J2, hJ2, fun n sl X hX => ?_⟩
      refine jv_Ev.steps jx_i125 2 (pc' := 85) (l' := [(0, .ref 2), (1, .int kk), (3, .int (nI V)), (4, .int (nI E)), (5, .ref mp), (6, .int (nI i))]) (st' := [.int (nI E), .int (nI i)]) rfl ?_
      refine jv_Ev.br jx_i125 (pc' := 88) (st' := []) rfl (jv_bc_ge.trans (jx_gof (nI_ge (show i < E by omega) (by omega)))) ?_
      refine jv_Ev.steps jx_i125 2 (pc' := 90) (l' := [(0, .ref 2), (1, .int kk), (3, .int (nI V)), (4, .int (nI E)), (5, .ref mp), (6, .int (nI i))]) (st' := [.int 2, .int kk]) rfl ?_
      refine jv_Ev.br jx_i125 (pc' := 93) (st' := []) rfl (jv_bc_eq.trans (jx_gof hk2)) ?_
      refine jv_Ev.steps jx_i125 2 (pc' := 96) (l' := [(7, .int (nI 0)), (0, .ref 2), (1, .int kk), (3, .int (nI V)), (4, .int (nI E)), (5, .ref mp), (6, .int (nI i))]) (st' := []) rfl ?_
      refine jv_Ev.loc (l := [(0, .ref 2), (1, .int kk), (3, .int (nI V)), (4, .int (nI E)), (5, .ref mp), (6, .int (nI i)), (7, .int (nI 0))]) ⟨by simp, by show List.Nodup [7, 0, 1, 3, 4, 5, 6]; decide⟩ ?_
      refine hgo1 n sl X ?_
      refine jv_Ev.steps jx_i125 2 (pc' := 81) (l' := [(6, .int (nI i + Int32.ofInt 1)), (0, .ref 2), (1, .int kk), (3, .int (nI V)), (4, .int (nI E)), (5, .ref mp)]) (st' := []) rfl ?_
      have e1 : nI i + Int32.ofInt 1 = nI (i + 1) := (nI_succ i).symm
      rw [e1]
      refine jv_Ev.loc (l := [(0, .ref 2), (1, .int kk), (3, .int (nI V)), (4, .int (nI E)), (5, .ref mp), (6, .int (nI (i + 1)))]) ⟨by simp, by show List.Nodup [6, 0, 1, 3, 4, 5]; decide⟩ ?_
      exact hgo2 n sl X hX
  exact outer E 0 (by omega) I (fun _ _ _ _ => rfl)
end DL

theorem jx_i0 : jv_I 0 1 (some .int) 0 0 jv_c0 := ⟨rfl, rfl, rfl, rfl, rfl⟩
def jx_bc (x : Int32) : Int32 := ((((((((x - (((x.toUInt32 >>> ((1 : Int32).toUInt32 &&& Int32.toUInt32 31)).toInt32) &&& (1431655765 : Int32))) &&& (858993459 : Int32)) + ((((x - (((x.toUInt32 >>> ((1 : Int32).toUInt32 &&& Int32.toUInt32 31)).toInt32) &&& (1431655765 : Int32))).toUInt32 >>> ((2 : Int32).toUInt32 &&& Int32.toUInt32 31)).toInt32) &&& (858993459 : Int32))) + (((((x - (((x.toUInt32 >>> ((1 : Int32).toUInt32 &&& Int32.toUInt32 31)).toInt32) &&& (1431655765 : Int32))) &&& (858993459 : Int32)) + ((((x - (((x.toUInt32 >>> ((1 : Int32).toUInt32 &&& Int32.toUInt32 31)).toInt32) &&& (1431655765 : Int32))).toUInt32 >>> ((2 : Int32).toUInt32 &&& Int32.toUInt32 31)).toInt32) &&& (858993459 : Int32))).toUInt32 >>> ((4 : Int32).toUInt32 &&& Int32.toUInt32 31)).toInt32)) &&& (252645135 : Int32)) + (((((((x - (((x.toUInt32 >>> ((1 : Int32).toUInt32 &&& Int32.toUInt32 31)).toInt32) &&& (1431655765 : Int32))) &&& (858993459 : Int32)) + ((((x - (((x.toUInt32 >>> ((1 : Int32).toUInt32 &&& Int32.toUInt32 31)).toInt32) &&& (1431655765 : Int32))).toUInt32 >>> ((2 : Int32).toUInt32 &&& Int32.toUInt32 31)).toInt32) &&& (858993459 : Int32))) + (((((x - (((x.toUInt32 >>> ((1 : Int32).toUInt32 &&& Int32.toUInt32 31)).toInt32) &&& (1431655765 : Int32))) &&& (858993459 : Int32)) + ((((x - (((x.toUInt32 >>> ((1 : Int32).toUInt32 &&& Int32.toUInt32 31)).toInt32) &&& (1431655765 : Int32))).toUInt32 >>> ((2 : Int32).toUInt32 &&& Int32.toUInt32 31)).toInt32) &&& (858993459 : Int32))).toUInt32 >>> ((4 : Int32).toUInt32 &&& Int32.toUInt32 31)).toInt32)) &&& (252645135 : Int32)).toUInt32 >>> ((8 : Int32).toUInt32 &&& Int32.toUInt32 31)).toInt32)) + ((((((((x - (((x.toUInt32 >>> ((1 : Int32).toUInt32 &&& Int32.toUInt32 31)).toInt32) &&& (1431655765 : Int32))) &&& (858993459 : Int32)) + ((((x - (((x.toUInt32 >>> ((1 : Int32).toUInt32 &&& Int32.toUInt32 31)).toInt32) &&& (1431655765 : Int32))).toUInt32 >>> ((2 : Int32).toUInt32 &&& Int32.toUInt32 31)).toInt32) &&& (858993459 : Int32))) + (((((x - (((x.toUInt32 >>> ((1 : Int32).toUInt32 &&& Int32.toUInt32 31)).toInt32) &&& (1431655765 : Int32))) &&& (858993459 : Int32)) + ((((x - (((x.toUInt32 >>> ((1 : Int32).toUInt32 &&& Int32.toUInt32 31)).toInt32) &&& (1431655765 : Int32))).toUInt32 >>> ((2 : Int32).toUInt32 &&& Int32.toUInt32 31)).toInt32) &&& (858993459 : Int32))).toUInt32 >>> ((4 : Int32).toUInt32 &&& Int32.toUInt32 31)).toInt32)) &&& (252645135 : Int32)) + (((((((x - (((x.toUInt32 >>> ((1 : Int32).toUInt32 &&& Int32.toUInt32 31)).toInt32) &&& (1431655765 : Int32))) &&& (858993459 : Int32)) + ((((x - (((x.toUInt32 >>> ((1 : Int32).toUInt32 &&& Int32.toUInt32 31)).toInt32) &&& (1431655765 : Int32))).toUInt32 >>> ((2 : Int32).toUInt32 &&& Int32.toUInt32 31)).toInt32) &&& (858993459 : Int32))) + (((((x - (((x.toUInt32 >>> ((1 : Int32).toUInt32 &&& Int32.toUInt32 31)).toInt32) &&& (1431655765 : Int32))) &&& (858993459 : Int32)) + ((((x - (((x.toUInt32 >>> ((1 : Int32).toUInt32 &&& Int32.toUInt32 31)).toInt32) &&& (1431655765 : Int32))).toUInt32 >>> ((2 : Int32).toUInt32 &&& Int32.toUInt32 31)).toInt32) &&& (858993459 : Int32))).toUInt32 >>> ((4 : Int32).toUInt32 &&& Int32.toUInt32 31)).toInt32)) &&& (252645135 : Int32)).toUInt32 >>> ((8 : Int32).toUInt32 &&& Int32.toUInt32 31)).toInt32)).toUInt32 >>> ((16 : Int32).toUInt32 &&& Int32.toUInt32 31)).toInt32)) &&& (63 : Int32))
theorem jx_bc_run (x : Int32) (G : jv_G) (n sl : Nat) : jv_Ms 0 [.int x] G n sl (some (.int (jx_bc x)), G, n, sl) := by
  show jv_Ev 0 0 [(0, .int x)] [] G n sl _
  refine jv_Ev.steps jx_i0 41 (pc' := 52) (l' := [(0, .int (((((((x - (((x.toUInt32 >>> ((1 : Int32).toUInt32 &&& Int32.toUInt32 31)).toInt32) &&& (1431655765 : Int32))) &&& (858993459 : Int32)) + ((((x - (((x.toUInt32 >>> ((1 : Int32).toUInt32 &&& Int32.toUInt32 31)).toInt32) &&& (1431655765 : Int32))).toUInt32 >>> ((2 : Int32).toUInt32 &&& Int32.toUInt32 31)).toInt32) &&& (858993459 : Int32))) + (((((x - (((x.toUInt32 >>> ((1 : Int32).toUInt32 &&& Int32.toUInt32 31)).toInt32) &&& (1431655765 : Int32))) &&& (858993459 : Int32)) + ((((x - (((x.toUInt32 >>> ((1 : Int32).toUInt32 &&& Int32.toUInt32 31)).toInt32) &&& (1431655765 : Int32))).toUInt32 >>> ((2 : Int32).toUInt32 &&& Int32.toUInt32 31)).toInt32) &&& (858993459 : Int32))).toUInt32 >>> ((4 : Int32).toUInt32 &&& Int32.toUInt32 31)).toInt32)) &&& (252645135 : Int32)) + (((((((x - (((x.toUInt32 >>> ((1 : Int32).toUInt32 &&& Int32.toUInt32 31)).toInt32) &&& (1431655765 : Int32))) &&& (858993459 : Int32)) + ((((x - (((x.toUInt32 >>> ((1 : Int32).toUInt32 &&& Int32.toUInt32 31)).toInt32) &&& (1431655765 : Int32))).toUInt32 >>> ((2 : Int32).toUInt32 &&& Int32.toUInt32 31)).toInt32) &&& (858993459 : Int32))) + (((((x - (((x.toUInt32 >>> ((1 : Int32).toUInt32 &&& Int32.toUInt32 31)).toInt32) &&& (1431655765 : Int32))) &&& (858993459 : Int32)) + ((((x - (((x.toUInt32 >>> ((1 : Int32).toUInt32 &&& Int32.toUInt32 31)).toInt32) &&& (1431655765 : Int32))).toUInt32 >>> ((2 : Int32).toUInt32 &&& Int32.toUInt32 31)).toInt32) &&& (858993459 : Int32))).toUInt32 >>> ((4 : Int32).toUInt32 &&& Int32.toUInt32 31)).toInt32)) &&& (252645135 : Int32)).toUInt32 >>> ((8 : Int32).toUInt32 &&& Int32.toUInt32 31)).toInt32)) + ((((((((x - (((x.toUInt32 >>> ((1 : Int32).toUInt32 &&& Int32.toUInt32 31)).toInt32) &&& (1431655765 : Int32))) &&& (858993459 : Int32)) + ((((x - (((x.toUInt32 >>> ((1 : Int32).toUInt32 &&& Int32.toUInt32 31)).toInt32) &&& (1431655765 : Int32))).toUInt32 >>> ((2 : Int32).toUInt32 &&& Int32.toUInt32 31)).toInt32) &&& (858993459 : Int32))) + (((((x - (((x.toUInt32 >>> ((1 : Int32).toUInt32 &&& Int32.toUInt32 31)).toInt32) &&& (1431655765 : Int32))) &&& (858993459 : Int32)) + ((((x - (((x.toUInt32 >>> ((1 : Int32).toUInt32 &&& Int32.toUInt32 31)).toInt32) &&& (1431655765 : Int32))).toUInt32 >>> ((2 : Int32).toUInt32 &&& Int32.toUInt32 31)).toInt32) &&& (858993459 : Int32))).toUInt32 >>> ((4 : Int32).toUInt32 &&& Int32.toUInt32 31)).toInt32)) &&& (252645135 : Int32)) + (((((((x - (((x.toUInt32 >>> ((1 : Int32).toUInt32 &&& Int32.toUInt32 31)).toInt32) &&& (1431655765 : Int32))) &&& (858993459 : Int32)) + ((((x - (((x.toUInt32 >>> ((1 : Int32).toUInt32 &&& Int32.toUInt32 31)).toInt32) &&& (1431655765 : Int32))).toUInt32 >>> ((2 : Int32).toUInt32 &&& Int32.toUInt32 31)).toInt32) &&& (858993459 : Int32))) + (((((x - (((x.toUInt32 >>> ((1 : Int32).toUInt32 &&& Int32.toUInt32 31)).toInt32) &&& (1431655765 : Int32))) &&& (858993459 : Int32)) + ((((x - (((x.toUInt32 >>> ((1 : Int32).toUInt32 &&& Int32.toUInt32 31)).toInt32) &&& (1431655765 : Int32))).toUInt32 >>> ((2 : Int32).toUInt32 &&& Int32.toUInt32 31)).toInt32) &&& (858993459 : Int32))).toUInt32 >>> ((4 : Int32).toUInt32 &&& Int32.toUInt32 31)).toInt32)) &&& (252645135 : Int32)).toUInt32 >>> ((8 : Int32).toUInt32 &&& Int32.toUInt32 31)).toInt32)).toUInt32 >>> ((16 : Int32).toUInt32 &&& Int32.toUInt32 31)).toInt32)))]) (st' := [.int ((((((((x - (((x.toUInt32 >>> ((1 : Int32).toUInt32 &&& Int32.toUInt32 31)).toInt32) &&& (1431655765 : Int32))) &&& (858993459 : Int32)) + ((((x - (((x.toUInt32 >>> ((1 : Int32).toUInt32 &&& Int32.toUInt32 31)).toInt32) &&& (1431655765 : Int32))).toUInt32 >>> ((2 : Int32).toUInt32 &&& Int32.toUInt32 31)).toInt32) &&& (858993459 : Int32))) + (((((x - (((x.toUInt32 >>> ((1 : Int32).toUInt32 &&& Int32.toUInt32 31)).toInt32) &&& (1431655765 : Int32))) &&& (858993459 : Int32)) + ((((x - (((x.toUInt32 >>> ((1 : Int32).toUInt32 &&& Int32.toUInt32 31)).toInt32) &&& (1431655765 : Int32))).toUInt32 >>> ((2 : Int32).toUInt32 &&& Int32.toUInt32 31)).toInt32) &&& (858993459 : Int32))).toUInt32 >>> ((4 : Int32).toUInt32 &&& Int32.toUInt32 31)).toInt32)) &&& (252645135 : Int32)) + (((((((x - (((x.toUInt32 >>> ((1 : Int32).toUInt32 &&& Int32.toUInt32 31)).toInt32) &&& (1431655765 : Int32))) &&& (858993459 : Int32)) + ((((x - (((x.toUInt32 >>> ((1 : Int32).toUInt32 &&& Int32.toUInt32 31)).toInt32) &&& (1431655765 : Int32))).toUInt32 >>> ((2 : Int32).toUInt32 &&& Int32.toUInt32 31)).toInt32) &&& (858993459 : Int32))) + (((((x - (((x.toUInt32 >>> ((1 : Int32).toUInt32 &&& Int32.toUInt32 31)).toInt32) &&& (1431655765 : Int32))) &&& (858993459 : Int32)) + ((((x - (((x.toUInt32 >>> ((1 : Int32).toUInt32 &&& Int32.toUInt32 31)).toInt32) &&& (1431655765 : Int32))).toUInt32 >>> ((2 : Int32).toUInt32 &&& Int32.toUInt32 31)).toInt32) &&& (858993459 : Int32))).toUInt32 >>> ((4 : Int32).toUInt32 &&& Int32.toUInt32 31)).toInt32)) &&& (252645135 : Int32)).toUInt32 >>> ((8 : Int32).toUInt32 &&& Int32.toUInt32 31)).toInt32)) + ((((((((x - (((x.toUInt32 >>> ((1 : Int32).toUInt32 &&& Int32.toUInt32 31)).toInt32) &&& (1431655765 : Int32))) &&& (858993459 : Int32)) + ((((x - (((x.toUInt32 >>> ((1 : Int32).toUInt32 &&& Int32.toUInt32 31)).toInt32) &&& (1431655765 : Int32))).toUInt32 >>> ((2 : Int32).toUInt32 &&& Int32.toUInt32 31)).toInt32) &&& (858993459 : Int32))) + (((((x - (((x.toUInt32 >>> ((1 : Int32).toUInt32 &&& Int32.toUInt32 31)).toInt32) &&& (1431655765 : Int32))) &&& (858993459 : Int32)) + ((((x - (((x.toUInt32 >>> ((1 : Int32).toUInt32 &&& Int32.toUInt32 31)).toInt32) &&& (1431655765 : Int32))).toUInt32 >>> ((2 : Int32).toUInt32 &&& Int32.toUInt32 31)).toInt32) &&& (858993459 : Int32))).toUInt32 >>> ((4 : Int32).toUInt32 &&& Int32.toUInt32 31)).toInt32)) &&& (252645135 : Int32)) + (((((((x - (((x.toUInt32 >>> ((1 : Int32).toUInt32 &&& Int32.toUInt32 31)).toInt32) &&& (1431655765 : Int32))) &&& (858993459 : Int32)) + ((((x - (((x.toUInt32 >>> ((1 : Int32).toUInt32 &&& Int32.toUInt32 31)).toInt32) &&& (1431655765 : Int32))).toUInt32 >>> ((2 : Int32).toUInt32 &&& Int32.toUInt32 31)).toInt32) &&& (858993459 : Int32))) + (((((x - (((x.toUInt32 >>> ((1 : Int32).toUInt32 &&& Int32.toUInt32 31)).toInt32) &&& (1431655765 : Int32))) &&& (858993459 : Int32)) + ((((x - (((x.toUInt32 >>> ((1 : Int32).toUInt32 &&& Int32.toUInt32 31)).toInt32) &&& (1431655765 : Int32))).toUInt32 >>> ((2 : Int32).toUInt32 &&& Int32.toUInt32 31)).toInt32) &&& (858993459 : Int32))).toUInt32 >>> ((4 : Int32).toUInt32 &&& Int32.toUInt32 31)).toInt32)) &&& (252645135 : Int32)).toUInt32 >>> ((8 : Int32).toUInt32 &&& Int32.toUInt32 31)).toInt32)).toUInt32 >>> ((16 : Int32).toUInt32 &&& Int32.toUInt32 31)).toInt32)) &&& (63 : Int32))]) rfl ?_
  exact jv_Ev.ret jx_i0 rfl rfl
def jx_bt (k : Nat) : Bool := Nat.blt k 64 || (Nat.blt 16384 k || (Nat.beq k 64 || (Nat.beq k 128 || (Nat.beq k 256 || (Nat.beq k 512 || (Nat.beq k 1024 || (Nat.beq k 2048 || (Nat.beq k 4096 || (Nat.beq k 8192 || (Nat.beq k 16384 || !(decide (jx_bc (nI k) = 1))))))))))))
set_option maxRecDepth 100000 in
theorem jx_bt_all : (List.range 129).all (fun a => (List.range 128).all (fun b => jx_bt (128 * a + b))) = true := by decide +kernel
theorem jx_bc_no (x : Int32) (h1 : ¬ x < 64) (h2 : ¬ 16384 < x) (e0 : ¬ x = 64) (e1 : ¬ x = 128) (e2 : ¬ x = 256) (e3 : ¬ x = 512) (e4 : ¬ x = 1024) (e5 : ¬ x = 2048) (e6 : ¬ x = 4096) (e7 : ¬ x = 8192) (e8 : ¬ x = 16384) : ¬ jx_bc x = 1 := by
  obtain ⟨k, hk, rfl⟩ := nI_of2 (M := 16384) (n := 16384) rfl (fun h => h1 (Int32.lt_of_lt_of_le h (by decide))) (Int32.not_lt.mp h2)
  have h := List.all_eq_true.mp (List.all_eq_true.mp jx_bt_all (k / 128) (List.mem_range.mpr (by omega))) (k % 128) (List.mem_range.mpr (Nat.mod_lt _ (by decide)))
  rw [show 128 * (k / 128) + k % 128 = k from Nat.div_add_mod k 128] at h
  simp only [jx_bt, Bool.or_eq_true, Bool.not_eq_true', decide_eq_false_iff_not] at h
  rcases h with h | h | h | h | h | h | h | h | h | h | h | h
  · exact absurd ((nI_ltI (a := k) (b := 64) (by omega) (by omega)).mpr (Nat.le_of_ble_eq_true h)) h1
  · have := Nat.le_of_ble_eq_true h
    omega
  · exact absurd (congrArg nI (Nat.eq_of_beq_eq_true h)) e0
  · exact absurd (congrArg nI (Nat.eq_of_beq_eq_true h)) e1
  · exact absurd (congrArg nI (Nat.eq_of_beq_eq_true h)) e2
  · exact absurd (congrArg nI (Nat.eq_of_beq_eq_true h)) e3
  · exact absurd (congrArg nI (Nat.eq_of_beq_eq_true h)) e4
  · exact absurd (congrArg nI (Nat.eq_of_beq_eq_true h)) e5
  · exact absurd (congrArg nI (Nat.eq_of_beq_eq_true h)) e6
  · exact absurd (congrArg nI (Nat.eq_of_beq_eq_true h)) e7
  · exact absurd (congrArg nI (Nat.eq_of_beq_eq_true h)) e8
  · exact h
theorem jx_i319 : jv_I 319 1 (some .int) 0 0 jv_c319 := ⟨rfl, rfl, rfl, rfl, rfl⟩
def jx_fl (k : Nat) : Bool := decide ((nI k + 7) / 8 * 8 = (nI k + 7) &&& -8)
set_option maxRecDepth 100000 in
theorem jx_fl_all : (List.range 257).all jx_fl = true := by decide +kernel
theorem jx_fl_ok (x : Int32) (h1 : ¬ x < 1) (h2 : ¬ 256 < x) : (x + 7) / 8 * 8 = (x + 7) &&& -8 := by
  obtain ⟨k, hk, rfl⟩ := nI_of2 (M := 256) (n := 256) rfl (fun h => h1 (Int32.lt_of_lt_of_le h (by decide))) (Int32.not_lt.mp h2)
  exact of_decide_eq_true (List.all_eq_true.mp jx_fl_all k (List.mem_range.mpr (by omega)))
theorem jx_filled_run (x : Int32) (h1 : ¬ x < 1) (h2 : ¬ 256 < x) (G : jv_G) (n sl : Nat) : jv_Ms 319 [.int x] G n sl (some (.int ((x + (7 : Int32)) &&& (-8 : Int32))), G, n, sl) := by
  rw [← jx_fl_ok x h1 h2]
  show jv_Ev 319 0 [(0, .int x)] [] G n sl _
  refine jv_Ev.steps jx_i319 4 (pc' := 6) (l' := [(0, .int x)]) (st' := [.int (8 : Int32), .int (x + (7 : Int32))]) rfl ?_
  refine jv_Ev.op jx_i319 (pc' := 7) (l' := [(0, .int x)]) (st' := [.int ((x + (7 : Int32)) / (8 : Int32))]) rfl (jv_op_idiv (by decide)) ?_
  refine jv_Ev.steps jx_i319 2 (pc' := 10) (l' := [(0, .int x)]) (st' := [.int (((x + (7 : Int32)) / (8 : Int32)) * (8 : Int32))]) rfl ?_
  exact jv_Ev.ret jx_i319 rfl rfl
theorem jx_i130 : jv_I 130 8 none 2 46 jv_c130 := ⟨rfl, rfl, rfl, rfl, rfl⟩
def jx_chP (e c : Int32) : Prop := (0 ≤ c.toInt ∧ c.toInt ≤ 4096) ∧ ∀ (o : Nat) (G : jv_G) (n sl : Nat) (X : jv_R), jv_Ev 130 66 [(0, .ref o), (3, .int e), (6, .int c)] [] G n sl X → jv_Ev 130 42 [(0, .ref o), (3, .int e), (6, .int (1 : Int32)), (7, .int (2 : Int32))] [] G n sl X
theorem jx_chn_ex (e : Int32) (h1 : ¬ e < 1) (h2 : ¬ 4096 < e) : ∃ c, jx_chP e c := by
  by_cases g2 : e < 2
  · refine ⟨1, ⟨by decide, by decide⟩, fun o G n sl X K => ?_⟩
    refine jv_Ev.steps jx_i130 2 (pc' := 45) (l' := [(0, .ref o), (3, .int e), (6, .int (1 : Int32)), (7, .int (2 : Int32))]) (st' := [.int e, .int (2 : Int32)]) rfl ?_
    refine jv_Ev.br jx_i130 (pc' := 66) (st' := []) rfl (jv_bc_gt.trans (jx_got g2)) ?_
    exact jv_Ev.loc (l := [(0, .ref o), (3, .int e), (6, .int (1 : Int32))]) ⟨by simp, by show List.Nodup [0, 3, 6, 7]; decide⟩ K
  by_cases g4 : e < 4
  · refine ⟨2, ⟨by decide, by decide⟩, fun o G n sl X K => ?_⟩
    refine jv_Ev.steps jx_i130 2 (pc' := 45) (l' := [(0, .ref o), (3, .int e), (6, .int (1 : Int32)), (7, .int (2 : Int32))]) (st' := [.int e, .int (2 : Int32)]) rfl ?_
    refine jv_Ev.br jx_i130 (pc' := 48) (st' := []) rfl (jv_bc_gt.trans (jx_gof g2)) ?_
    refine jv_Ev.steps jx_i130 1 (pc' := 50) (l' := [(0, .ref o), (3, .int e), (6, .int (1 : Int32)), (7, .int (2 : Int32))]) (st' := [.int (2 : Int32)]) rfl ?_
    refine jv_Ev.br jx_i130 (pc' := 53) (st' := []) rfl (jv_bi_le.trans (jx_gof (by decide))) ?_
    refine jv_Ev.steps jx_i130 7 (pc' := 42) (l' := [(7, .int (4 : Int32)), (6, .int (2 : Int32)), (0, .ref o), (3, .int e)]) (st' := []) rfl ?_
    refine jv_Ev.loc (l := [(0, .ref o), (3, .int e), (6, .int (2 : Int32)), (7, .int (4 : Int32))]) ⟨by simp, by show List.Nodup [7, 6, 0, 3]; decide⟩ ?_
    refine jv_Ev.steps jx_i130 2 (pc' := 45) (l' := [(0, .ref o), (3, .int e), (6, .int (2 : Int32)), (7, .int (4 : Int32))]) (st' := [.int e, .int (4 : Int32)]) rfl ?_
    refine jv_Ev.br jx_i130 (pc' := 66) (st' := []) rfl (jv_bc_gt.trans (jx_got g4)) ?_
    exact jv_Ev.loc (l := [(0, .ref o), (3, .int e), (6, .int (2 : Int32))]) ⟨by simp, by show List.Nodup [0, 3, 6, 7]; decide⟩ K
  by_cases g8 : e < 8
  · refine ⟨4, ⟨by decide, by decide⟩, fun o G n sl X K => ?_⟩
    refine jv_Ev.steps jx_i130 2 (pc' := 45) (l' := [(0, .ref o), (3, .int e), (6, .int (1 : Int32)), (7, .int (2 : Int32))]) (st' := [.int e, .int (2 : Int32)]) rfl ?_
    refine jv_Ev.br jx_i130 (pc' := 48) (st' := []) rfl (jv_bc_gt.trans (jx_gof g2)) ?_
    refine jv_Ev.steps jx_i130 1 (pc' := 50) (l' := [(0, .ref o), (3, .int e), (6, .int (1 : Int32)), (7, .int (2 : Int32))]) (st' := [.int (2 : Int32)]) rfl ?_
    refine jv_Ev.br jx_i130 (pc' := 53) (st' := []) rfl (jv_bi_le.trans (jx_gof (by decide))) ?_
    refine jv_Ev.steps jx_i130 7 (pc' := 42) (l' := [(7, .int (4 : Int32)), (6, .int (2 : Int32)), (0, .ref o), (3, .int e)]) (st' := []) rfl ?_
    refine jv_Ev.loc (l := [(0, .ref o), (3, .int e), (6, .int (2 : Int32)), (7, .int (4 : Int32))]) ⟨by simp, by show List.Nodup [7, 6, 0, 3]; decide⟩ ?_
    refine jv_Ev.steps jx_i130 2 (pc' := 45) (l' := [(0, .ref o), (3, .int e), (6, .int (2 : Int32)), (7, .int (4 : Int32))]) (st' := [.int e, .int (4 : Int32)]) rfl ?_
    refine jv_Ev.br jx_i130 (pc' := 48) (st' := []) rfl (jv_bc_gt.trans (jx_gof g4)) ?_
    refine jv_Ev.steps jx_i130 1 (pc' := 50) (l' := [(0, .ref o), (3, .int e), (6, .int (2 : Int32)), (7, .int (4 : Int32))]) (st' := [.int (4 : Int32)]) rfl ?_
    refine jv_Ev.br jx_i130 (pc' := 53) (st' := []) rfl (jv_bi_le.trans (jx_gof (by decide))) ?_
    refine jv_Ev.steps jx_i130 7 (pc' := 42) (l' := [(7, .int (8 : Int32)), (6, .int (4 : Int32)), (0, .ref o), (3, .int e)]) (st' := []) rfl ?_
    refine jv_Ev.loc (l := [(0, .ref o), (3, .int e), (6, .int (4 : Int32)), (7, .int (8 : Int32))]) ⟨by simp, by show List.Nodup [7, 6, 0, 3]; decide⟩ ?_
    refine jv_Ev.steps jx_i130 2 (pc' := 45) (l' := [(0, .ref o), (3, .int e), (6, .int (4 : Int32)), (7, .int (8 : Int32))]) (st' := [.int e, .int (8 : Int32)]) rfl ?_
    refine jv_Ev.br jx_i130 (pc' := 66) (st' := []) rfl (jv_bc_gt.trans (jx_got g8)) ?_
    exact jv_Ev.loc (l := [(0, .ref o), (3, .int e), (6, .int (4 : Int32))]) ⟨by simp, by show List.Nodup [0, 3, 6, 7]; decide⟩ K
  by_cases g16 : e < 16
  · refine ⟨8, ⟨by decide, by decide⟩, fun o G n sl X K => ?_⟩
    refine jv_Ev.steps jx_i130 2 (pc' := 45) (l' := [(0, .ref o), (3, .int e), (6, .int (1 : Int32)), (7, .int (2 : Int32))]) (st' := [.int e, .int (2 : Int32)]) rfl ?_
    refine jv_Ev.br jx_i130 (pc' := 48) (st' := []) rfl (jv_bc_gt.trans (jx_gof g2)) ?_
    refine jv_Ev.steps jx_i130 1 (pc' := 50) (l' := [(0, .ref o), (3, .int e), (6, .int (1 : Int32)), (7, .int (2 : Int32))]) (st' := [.int (2 : Int32)]) rfl ?_
    refine jv_Ev.br jx_i130 (pc' := 53) (st' := []) rfl (jv_bi_le.trans (jx_gof (by decide))) ?_
    refine jv_Ev.steps jx_i130 7 (pc' := 42) (l' := [(7, .int (4 : Int32)), (6, .int (2 : Int32)), (0, .ref o), (3, .int e)]) (st' := []) rfl ?_
    refine jv_Ev.loc (l := [(0, .ref o), (3, .int e), (6, .int (2 : Int32)), (7, .int (4 : Int32))]) ⟨by simp, by show List.Nodup [7, 6, 0, 3]; decide⟩ ?_
    refine jv_Ev.steps jx_i130 2 (pc' := 45) (l' := [(0, .ref o), (3, .int e), (6, .int (2 : Int32)), (7, .int (4 : Int32))]) (st' := [.int e, .int (4 : Int32)]) rfl ?_
    refine jv_Ev.br jx_i130 (pc' := 48) (st' := []) rfl (jv_bc_gt.trans (jx_gof g4)) ?_
    refine jv_Ev.steps jx_i130 1 (pc' := 50) (l' := [(0, .ref o), (3, .int e), (6, .int (2 : Int32)), (7, .int (4 : Int32))]) (st' := [.int (4 : Int32)]) rfl ?_
    refine jv_Ev.br jx_i130 (pc' := 53) (st' := []) rfl (jv_bi_le.trans (jx_gof (by decide))) ?_
    refine jv_Ev.steps jx_i130 7 (pc' := 42) (l' := [(7, .int (8 : Int32)), (6, .int (4 : Int32)), (0, .ref o), (3, .int e)]) (st' := []) rfl ?_
    refine jv_Ev.loc (l := [(0, .ref o), (3, .int e), (6, .int (4 : Int32)), (7, .int (8 : Int32))]) ⟨by simp, by show List.Nodup [7, 6, 0, 3]; decide⟩ ?_
    refine jv_Ev.steps jx_i130 2 (pc' := 45) (l' := [(0, .ref o), (3, .int e), (6, .int (4 : Int32)), (7, .int (8 : Int32))]) (st' := [.int e, .int (8 : Int32)]) rfl ?_
    refine jv_Ev.br jx_i130 (pc' := 48) (st' := []) rfl (jv_bc_gt.trans (jx_gof g8)) ?_
    refine jv_Ev.steps jx_i130 1 (pc' := 50) (l' := [(0, .ref o), (3, .int e), (6, .int (4 : Int32)), (7, .int (8 : Int32))]) (st' := [.int (8 : Int32)]) rfl ?_
    refine jv_Ev.br jx_i130 (pc' := 53) (st' := []) rfl (jv_bi_le.trans (jx_gof (by decide))) ?_
    refine jv_Ev.steps jx_i130 7 (pc' := 42) (l' := [(7, .int (16 : Int32)), (6, .int (8 : Int32)), (0, .ref o), (3, .int e)]) (st' := []) rfl ?_
    refine jv_Ev.loc (l := [(0, .ref o), (3, .int e), (6, .int (8 : Int32)), (7, .int (16 : Int32))]) ⟨by simp, by show List.Nodup [7, 6, 0, 3]; decide⟩ ?_
    refine jv_Ev.steps jx_i130 2 (pc' := 45) (l' := [(0, .ref o), (3, .int e), (6, .int (8 : Int32)), (7, .int (16 : Int32))]) (st' := [.int e, .int (16 : Int32)]) rfl ?_
    refine jv_Ev.br jx_i130 (pc' := 66) (st' := []) rfl (jv_bc_gt.trans (jx_got g16)) ?_
    exact jv_Ev.loc (l := [(0, .ref o), (3, .int e), (6, .int (8 : Int32))]) ⟨by simp, by show List.Nodup [0, 3, 6, 7]; decide⟩ K
  by_cases g32 : e < 32
  · refine ⟨16, ⟨by decide, by decide⟩, fun o G n sl X K => ?_⟩
    refine jv_Ev.steps jx_i130 2 (pc' := 45) (l' := [(0, .ref o), (3, .int e), (6, .int (1 : Int32)), (7, .int (2 : Int32))]) (st' := [.int e, .int (2 : Int32)]) rfl ?_
    refine jv_Ev.br jx_i130 (pc' := 48) (st' := []) rfl (jv_bc_gt.trans (jx_gof g2)) ?_
    refine jv_Ev.steps jx_i130 1 (pc' := 50) (l' := [(0, .ref o), (3, .int e), (6, .int (1 : Int32)), (7, .int (2 : Int32))]) (st' := [.int (2 : Int32)]) rfl ?_
    refine jv_Ev.br jx_i130 (pc' := 53) (st' := []) rfl (jv_bi_le.trans (jx_gof (by decide))) ?_
    refine jv_Ev.steps jx_i130 7 (pc' := 42) (l' := [(7, .int (4 : Int32)), (6, .int (2 : Int32)), (0, .ref o), (3, .int e)]) (st' := []) rfl ?_
    refine jv_Ev.loc (l := [(0, .ref o), (3, .int e), (6, .int (2 : Int32)), (7, .int (4 : Int32))]) ⟨by simp, by show List.Nodup [7, 6, 0, 3]; decide⟩ ?_
    refine jv_Ev.steps jx_i130 2 (pc' := 45) (l' := [(0, .ref o), (3, .int e), (6, .int (2 : Int32)), (7, .int (4 : Int32))]) (st' := [.int e, .int (4 : Int32)]) rfl ?_
    refine jv_Ev.br jx_i130 (pc' := 48) (st' := []) rfl (jv_bc_gt.trans (jx_gof g4)) ?_
    refine jv_Ev.steps jx_i130 1 (pc' := 50) (l' := [(0, .ref o), (3, .int e), (6, .int (2 : Int32)), (7, .int (4 : Int32))]) (st' := [.int (4 : Int32)]) rfl ?_
    refine jv_Ev.br jx_i130 (pc' := 53) (st' := []) rfl (jv_bi_le.trans (jx_gof (by decide))) ?_
    refine jv_Ev.steps jx_i130 7 (pc' := 42) (l' := [(7, .int (8 : Int32)), (6, .int (4 : Int32)), (0, .ref o), (3, .int e)]) (st' := []) rfl ?_
    refine jv_Ev.loc (l := [(0, .ref o), (3, .int e), (6, .int (4 : Int32)), (7, .int (8 : Int32))]) ⟨by simp, by show List.Nodup [7, 6, 0, 3]; decide⟩ ?_
    refine jv_Ev.steps jx_i130 2 (pc' := 45) (l' := [(0, .ref o), (3, .int e), (6, .int (4 : Int32)), (7, .int (8 : Int32))]) (st' := [.int e, .int (8 : Int32)]) rfl ?_
    refine jv_Ev.br jx_i130 (pc' := 48) (st' := []) rfl (jv_bc_gt.trans (jx_gof g8)) ?_
    refine jv_Ev.steps jx_i130 1 (pc' := 50) (l' := [(0, .ref o), (3, .int e), (6, .int (4 : Int32)), (7, .int (8 : Int32))]) (st' := [.int (8 : Int32)]) rfl ?_
    refine jv_Ev.br jx_i130 (pc' := 53) (st' := []) rfl (jv_bi_le.trans (jx_gof (by decide))) ?_
    refine jv_Ev.steps jx_i130 7 (pc' := 42) (l' := [(7, .int (16 : Int32)), (6, .int (8 : Int32)), (0, .ref o), (3, .int e)]) (st' := []) rfl ?_
    refine jv_Ev.loc (l := [(0, .ref o), (3, .int e), (6, .int (8 : Int32)), (7, .int (16 : Int32))]) ⟨by simp, by show List.Nodup [7, 6, 0, 3]; decide⟩ ?_
    refine jv_Ev.steps jx_i130 2 (pc' := 45) (l' := [(0, .ref o), (3, .int e), (6, .int (8 : Int32)), (7, .int (16 : Int32))]) (st' := [.int e, .int (16 : Int32)]) rfl ?_
    refine jv_Ev.br jx_i130 (pc' := 48) (st' := []) rfl (jv_bc_gt.trans (jx_gof g16)) ?_
    refine jv_Ev.steps jx_i130 1 (pc' := 50) (l' := [(0, .ref o), (3, .int e), (6, .int (8 : Int32)), (7, .int (16 : Int32))]) (st' := [.int (16 : Int32)]) rfl ?_
    refine jv_Ev.br jx_i130 (pc' := 53) (st' := []) rfl (jv_bi_le.trans (jx_gof (by decide))) ?_
    refine jv_Ev.steps jx_i130 7 (pc' := 42) (l' := [(7, .int (32 : Int32)), (6, .int (16 : Int32)), (0, .ref o), (3, .int e)]) (st' := []) rfl ?_
    refine jv_Ev.loc (l := [(0, .ref o), (3, .int e), (6, .int (16 : Int32)), (7, .int (32 : Int32))]) ⟨by simp, by show List.Nodup [7, 6, 0, 3]; decide⟩ ?_
    refine jv_Ev.steps jx_i130 2 (pc' := 45) (l' := [(0, .ref o), (3, .int e), (6, .int (16 : Int32)), (7, .int (32 : Int32))]) (st' := [.int e, .int (32 : Int32)]) rfl ?_
    refine jv_Ev.br jx_i130 (pc' := 66) (st' := []) rfl (jv_bc_gt.trans (jx_got g32)) ?_
    exact jv_Ev.loc (l := [(0, .ref o), (3, .int e), (6, .int (16 : Int32))]) ⟨by simp, by show List.Nodup [0, 3, 6, 7]; decide⟩ K
  by_cases g64 : e < 64
  · refine ⟨32, ⟨by decide, by decide⟩, fun o G n sl X K => ?_⟩
    refine jv_Ev.steps jx_i130 2 (pc' := 45) (l' := [(0, .ref o), (3, .int e), (6, .int (1 : Int32)), (7, .int (2 : Int32))]) (st' := [.int e, .int (2 : Int32)]) rfl ?_
    refine jv_Ev.br jx_i130 (pc' := 48) (st' := []) rfl (jv_bc_gt.trans (jx_gof g2)) ?_
    refine jv_Ev.steps jx_i130 1 (pc' := 50) (l' := [(0, .ref o), (3, .int e), (6, .int (1 : Int32)), (7, .int (2 : Int32))]) (st' := [.int (2 : Int32)]) rfl ?_
    refine jv_Ev.br jx_i130 (pc' := 53) (st' := []) rfl (jv_bi_le.trans (jx_gof (by decide))) ?_
    refine jv_Ev.steps jx_i130 7 (pc' := 42) (l' := [(7, .int (4 : Int32)), (6, .int (2 : Int32)), (0, .ref o), (3, .int e)]) (st' := []) rfl ?_
    refine jv_Ev.loc (l := [(0, .ref o), (3, .int e), (6, .int (2 : Int32)), (7, .int (4 : Int32))]) ⟨by simp, by show List.Nodup [7, 6, 0, 3]; decide⟩ ?_
    refine jv_Ev.steps jx_i130 2 (pc' := 45) (l' := [(0, .ref o), (3, .int e), (6, .int (2 : Int32)), (7, .int (4 : Int32))]) (st' := [.int e, .int (4 : Int32)]) rfl ?_
    refine jv_Ev.br jx_i130 (pc' := 48) (st' := []) rfl (jv_bc_gt.trans (jx_gof g4)) ?_
    refine jv_Ev.steps jx_i130 1 (pc' := 50) (l' := [(0, .ref o), (3, .int e), (6, .int (2 : Int32)), (7, .int (4 : Int32))]) (st' := [.int (4 : Int32)]) rfl ?_
    refine jv_Ev.br jx_i130 (pc' := 53) (st' := []) rfl (jv_bi_le.trans (jx_gof (by decide))) ?_
    refine jv_Ev.steps jx_i130 7 (pc' := 42) (l' := [(7, .int (8 : Int32)), (6, .int (4 : Int32)), (0, .ref o), (3, .int e)]) (st' := []) rfl ?_
    refine jv_Ev.loc (l := [(0, .ref o), (3, .int e), (6, .int (4 : Int32)), (7, .int (8 : Int32))]) ⟨by simp, by show List.Nodup [7, 6, 0, 3]; decide⟩ ?_
    refine jv_Ev.steps jx_i130 2 (pc' := 45) (l' := [(0, .ref o), (3, .int e), (6, .int (4 : Int32)), (7, .int (8 : Int32))]) (st' := [.int e, .int (8 : Int32)]) rfl ?_
    refine jv_Ev.br jx_i130 (pc' := 48) (st' := []) rfl (jv_bc_gt.trans (jx_gof g8)) ?_
    refine jv_Ev.steps jx_i130 1 (pc' := 50) (l' := [(0, .ref o), (3, .int e), (6, .int (4 : Int32)), (7, .int (8 : Int32))]) (st' := [.int (8 : Int32)]) rfl ?_
    refine jv_Ev.br jx_i130 (pc' := 53) (st' := []) rfl (jv_bi_le.trans (jx_gof (by decide))) ?_
    refine jv_Ev.steps jx_i130 7 (pc' := 42) (l' := [(7, .int (16 : Int32)), (6, .int (8 : Int32)), (0, .ref o), (3, .int e)]) (st' := []) rfl ?_
    refine jv_Ev.loc (l := [(0, .ref o), (3, .int e), (6, .int (8 : Int32)), (7, .int (16 : Int32))]) ⟨by simp, by show List.Nodup [7, 6, 0, 3]; decide⟩ ?_
    refine jv_Ev.steps jx_i130 2 (pc' := 45) (l' := [(0, .ref o), (3, .int e), (6, .int (8 : Int32)), (7, .int (16 : Int32))]) (st' := [.int e, .int (16 : Int32)]) rfl ?_
    refine jv_Ev.br jx_i130 (pc' := 48) (st' := []) rfl (jv_bc_gt.trans (jx_gof g16)) ?_
    refine jv_Ev.steps jx_i130 1 (pc' := 50) (l' := [(0, .ref o), (3, .int e), (6, .int (8 : Int32)), (7, .int (16 : Int32))]) (st' := [.int (16 : Int32)]) rfl ?_
    refine jv_Ev.br jx_i130 (pc' := 53) (st' := []) rfl (jv_bi_le.trans (jx_gof (by decide))) ?_
    refine jv_Ev.steps jx_i130 7 (pc' := 42) (l' := [(7, .int (32 : Int32)), (6, .int (16 : Int32)), (0, .ref o), (3, .int e)]) (st' := []) rfl ?_
    refine jv_Ev.loc (l := [(0, .ref o), (3, .int e), (6, .int (16 : Int32)), (7, .int (32 : Int32))]) ⟨by simp, by show List.Nodup [7, 6, 0, 3]; decide⟩ ?_
    refine jv_Ev.steps jx_i130 2 (pc' := 45) (l' := [(0, .ref o), (3, .int e), (6, .int (16 : Int32)), (7, .int (32 : Int32))]) (st' := [.int e, .int (32 : Int32)]) rfl ?_
    refine jv_Ev.br jx_i130 (pc' := 48) (st' := []) rfl (jv_bc_gt.trans (jx_gof g32)) ?_
    refine jv_Ev.steps jx_i130 1 (pc' := 50) (l' := [(0, .ref o), (3, .int e), (6, .int (16 : Int32)), (7, .int (32 : Int32))]) (st' := [.int (32 : Int32)]) rfl ?_
    refine jv_Ev.br jx_i130 (pc' := 53) (st' := []) rfl (jv_bi_le.trans (jx_gof (by decide))) ?_
    refine jv_Ev.steps jx_i130 7 (pc' := 42) (l' := [(7, .int (64 : Int32)), (6, .int (32 : Int32)), (0, .ref o), (3, .int e)]) (st' := []) rfl ?_
    refine jv_Ev.loc (l := [(0, .ref o), (3, .int e), (6, .int (32 : Int32)), (7, .int (64 : Int32))]) ⟨by simp, by show List.Nodup [7, 6, 0, 3]; decide⟩ ?_
    refine jv_Ev.steps jx_i130 2 (pc' := 45) (l' := [(0, .ref o), (3, .int e), (6, .int (32 : Int32)), (7, .int (64 : Int32))]) (st' := [.int e, .int (64 : Int32)]) rfl ?_
    refine jv_Ev.br jx_i130 (pc' := 66) (st' := []) rfl (jv_bc_gt.trans (jx_got g64)) ?_
    exact jv_Ev.loc (l := [(0, .ref o), (3, .int e), (6, .int (32 : Int32))]) ⟨by simp, by show List.Nodup [0, 3, 6, 7]; decide⟩ K
  by_cases g128 : e < 128
  · refine ⟨64, ⟨by decide, by decide⟩, fun o G n sl X K => ?_⟩
    refine jv_Ev.steps jx_i130 2 (pc' := 45) (l' := [(0, .ref o), (3, .int e), (6, .int (1 : Int32)), (7, .int (2 : Int32))]) (st' := [.int e, .int (2 : Int32)]) rfl ?_
    refine jv_Ev.br jx_i130 (pc' := 48) (st' := []) rfl (jv_bc_gt.trans (jx_gof g2)) ?_
    refine jv_Ev.steps jx_i130 1 (pc' := 50) (l' := [(0, .ref o), (3, .int e), (6, .int (1 : Int32)), (7, .int (2 : Int32))]) (st' := [.int (2 : Int32)]) rfl ?_
    refine jv_Ev.br jx_i130 (pc' := 53) (st' := []) rfl (jv_bi_le.trans (jx_gof (by decide))) ?_
    refine jv_Ev.steps jx_i130 7 (pc' := 42) (l' := [(7, .int (4 : Int32)), (6, .int (2 : Int32)), (0, .ref o), (3, .int e)]) (st' := []) rfl ?_
    refine jv_Ev.loc (l := [(0, .ref o), (3, .int e), (6, .int (2 : Int32)), (7, .int (4 : Int32))]) ⟨by simp, by show List.Nodup [7, 6, 0, 3]; decide⟩ ?_
    refine jv_Ev.steps jx_i130 2 (pc' := 45) (l' := [(0, .ref o), (3, .int e), (6, .int (2 : Int32)), (7, .int (4 : Int32))]) (st' := [.int e, .int (4 : Int32)]) rfl ?_
    refine jv_Ev.br jx_i130 (pc' := 48) (st' := []) rfl (jv_bc_gt.trans (jx_gof g4)) ?_
    refine jv_Ev.steps jx_i130 1 (pc' := 50) (l' := [(0, .ref o), (3, .int e), (6, .int (2 : Int32)), (7, .int (4 : Int32))]) (st' := [.int (4 : Int32)]) rfl ?_
    refine jv_Ev.br jx_i130 (pc' := 53) (st' := []) rfl (jv_bi_le.trans (jx_gof (by decide))) ?_
    refine jv_Ev.steps jx_i130 7 (pc' := 42) (l' := [(7, .int (8 : Int32)), (6, .int (4 : Int32)), (0, .ref o), (3, .int e)]) (st' := []) rfl ?_
    refine jv_Ev.loc (l := [(0, .ref o), (3, .int e), (6, .int (4 : Int32)), (7, .int (8 : Int32))]) ⟨by simp, by show List.Nodup [7, 6, 0, 3]; decide⟩ ?_
    refine jv_Ev.steps jx_i130 2 (pc' := 45) (l' := [(0, .ref o), (3, .int e), (6, .int (4 : Int32)), (7, .int (8 : Int32))]) (st' := [.int e, .int (8 : Int32)]) rfl ?_
    refine jv_Ev.br jx_i130 (pc' := 48) (st' := []) rfl (jv_bc_gt.trans (jx_gof g8)) ?_
    refine jv_Ev.steps jx_i130 1 (pc' := 50) (l' := [(0, .ref o), (3, .int e), (6, .int (4 : Int32)), (7, .int (8 : Int32))]) (st' := [.int (8 : Int32)]) rfl ?_
    refine jv_Ev.br jx_i130 (pc' := 53) (st' := []) rfl (jv_bi_le.trans (jx_gof (by decide))) ?_
    refine jv_Ev.steps jx_i130 7 (pc' := 42) (l' := [(7, .int (16 : Int32)), (6, .int (8 : Int32)), (0, .ref o), (3, .int e)]) (st' := []) rfl ?_
    refine jv_Ev.loc (l := [(0, .ref o), (3, .int e), (6, .int (8 : Int32)), (7, .int (16 : Int32))]) ⟨by simp, by show List.Nodup [7, 6, 0, 3]; decide⟩ ?_
    refine jv_Ev.steps jx_i130 2 (pc' := 45) (l' := [(0, .ref o), (3, .int e), (6, .int (8 : Int32)), (7, .int (16 : Int32))]) (st' := [.int e, .int (16 : Int32)]) rfl ?_
    refine jv_Ev.br jx_i130 (pc' := 48) (st' := []) rfl (jv_bc_gt.trans (jx_gof g16)) ?_
    refine jv_Ev.steps jx_i130 1 (pc' := 50) (l' := [(0, .ref o), (3, .int e), (6, .int (8 : Int32)), (7, .int (16 : Int32))]) (st' := [.int (16 : Int32)]) rfl ?_
    refine jv_Ev.br jx_i130 (pc' := 53) (st' := []) rfl (jv_bi_le.trans (jx_gof (by decide))) ?_
    refine jv_Ev.steps jx_i130 7 (pc' := 42) (l' := [(7, .int (32 : Int32)), (6, .int (16 : Int32)), (0, .ref o), (3, .int e)]) (st' := []) rfl ?_
    refine jv_Ev.loc (l := [(0, .ref o), (3, .int e), (6, .int (16 : Int32)), (7, .int (32 : Int32))]) ⟨by simp, by show List.Nodup [7, 6, 0, 3]; decide⟩ ?_
    refine jv_Ev.steps jx_i130 2 (pc' := 45) (l' := [(0, .ref o), (3, .int e), (6, .int (16 : Int32)), (7, .int (32 : Int32))]) (st' := [.int e, .int (32 : Int32)]) rfl ?_
    refine jv_Ev.br jx_i130 (pc' := 48) (st' := []) rfl (jv_bc_gt.trans (jx_gof g32)) ?_
    refine jv_Ev.steps jx_i130 1 (pc' := 50) (l' := [(0, .ref o), (3, .int e), (6, .int (16 : Int32)), (7, .int (32 : Int32))]) (st' := [.int (32 : Int32)]) rfl ?_
    refine jv_Ev.br jx_i130 (pc' := 53) (st' := []) rfl (jv_bi_le.trans (jx_gof (by decide))) ?_
    refine jv_Ev.steps jx_i130 7 (pc' := 42) (l' := [(7, .int (64 : Int32)), (6, .int (32 : Int32)), (0, .ref o), (3, .int e)]) (st' := []) rfl ?_
    refine jv_Ev.loc (l := [(0, .ref o), (3, .int e), (6, .int (32 : Int32)), (7, .int (64 : Int32))]) ⟨by simp, by show List.Nodup [7, 6, 0, 3]; decide⟩ ?_
    refine jv_Ev.steps jx_i130 2 (pc' := 45) (l' := [(0, .ref o), (3, .int e), (6, .int (32 : Int32)), (7, .int (64 : Int32))]) (st' := [.int e, .int (64 : Int32)]) rfl ?_
    refine jv_Ev.br jx_i130 (pc' := 48) (st' := []) rfl (jv_bc_gt.trans (jx_gof g64)) ?_
    refine jv_Ev.steps jx_i130 1 (pc' := 50) (l' := [(0, .ref o), (3, .int e), (6, .int (32 : Int32)), (7, .int (64 : Int32))]) (st' := [.int (64 : Int32)]) rfl ?_
    refine jv_Ev.br jx_i130 (pc' := 53) (st' := []) rfl (jv_bi_le.trans (jx_gof (by decide))) ?_
    refine jv_Ev.steps jx_i130 7 (pc' := 42) (l' := [(7, .int (128 : Int32)), (6, .int (64 : Int32)), (0, .ref o), (3, .int e)]) (st' := []) rfl ?_
    refine jv_Ev.loc (l := [(0, .ref o), (3, .int e), (6, .int (64 : Int32)), (7, .int (128 : Int32))]) ⟨by simp, by show List.Nodup [7, 6, 0, 3]; decide⟩ ?_
    refine jv_Ev.steps jx_i130 2 (pc' := 45) (l' := [(0, .ref o), (3, .int e), (6, .int (64 : Int32)), (7, .int (128 : Int32))]) (st' := [.int e, .int (128 : Int32)]) rfl ?_
    refine jv_Ev.br jx_i130 (pc' := 66) (st' := []) rfl (jv_bc_gt.trans (jx_got g128)) ?_
    exact jv_Ev.loc (l := [(0, .ref o), (3, .int e), (6, .int (64 : Int32))]) ⟨by simp, by show List.Nodup [0, 3, 6, 7]; decide⟩ K
  by_cases g256 : e < 256
  · refine ⟨128, ⟨by decide, by decide⟩, fun o G n sl X K => ?_⟩
    refine jv_Ev.steps jx_i130 2 (pc' := 45) (l' := [(0, .ref o), (3, .int e), (6, .int (1 : Int32)), (7, .int (2 : Int32))]) (st' := [.int e, .int (2 : Int32)]) rfl ?_
    refine jv_Ev.br jx_i130 (pc' := 48) (st' := []) rfl (jv_bc_gt.trans (jx_gof g2)) ?_
    refine jv_Ev.steps jx_i130 1 (pc' := 50) (l' := [(0, .ref o), (3, .int e), (6, .int (1 : Int32)), (7, .int (2 : Int32))]) (st' := [.int (2 : Int32)]) rfl ?_
    refine jv_Ev.br jx_i130 (pc' := 53) (st' := []) rfl (jv_bi_le.trans (jx_gof (by decide))) ?_
    refine jv_Ev.steps jx_i130 7 (pc' := 42) (l' := [(7, .int (4 : Int32)), (6, .int (2 : Int32)), (0, .ref o), (3, .int e)]) (st' := []) rfl ?_
    refine jv_Ev.loc (l := [(0, .ref o), (3, .int e), (6, .int (2 : Int32)), (7, .int (4 : Int32))]) ⟨by simp, by show List.Nodup [7, 6, 0, 3]; decide⟩ ?_
    refine jv_Ev.steps jx_i130 2 (pc' := 45) (l' := [(0, .ref o), (3, .int e), (6, .int (2 : Int32)), (7, .int (4 : Int32))]) (st' := [.int e, .int (4 : Int32)]) rfl ?_
    refine jv_Ev.br jx_i130 (pc' := 48) (st' := []) rfl (jv_bc_gt.trans (jx_gof g4)) ?_
    refine jv_Ev.steps jx_i130 1 (pc' := 50) (l' := [(0, .ref o), (3, .int e), (6, .int (2 : Int32)), (7, .int (4 : Int32))]) (st' := [.int (4 : Int32)]) rfl ?_
    refine jv_Ev.br jx_i130 (pc' := 53) (st' := []) rfl (jv_bi_le.trans (jx_gof (by decide))) ?_
    refine jv_Ev.steps jx_i130 7 (pc' := 42) (l' := [(7, .int (8 : Int32)), (6, .int (4 : Int32)), (0, .ref o), (3, .int e)]) (st' := []) rfl ?_
    refine jv_Ev.loc (l := [(0, .ref o), (3, .int e), (6, .int (4 : Int32)), (7, .int (8 : Int32))]) ⟨by simp, by show List.Nodup [7, 6, 0, 3]; decide⟩ ?_
    refine jv_Ev.steps jx_i130 2 (pc' := 45) (l' := [(0, .ref o), (3, .int e), (6, .int (4 : Int32)), (7, .int (8 : Int32))]) (st' := [.int e, .int (8 : Int32)]) rfl ?_
    refine jv_Ev.br jx_i130 (pc' := 48) (st' := []) rfl (jv_bc_gt.trans (jx_gof g8)) ?_
    refine jv_Ev.steps jx_i130 1 (pc' := 50) (l' := [(0, .ref o), (3, .int e), (6, .int (4 : Int32)), (7, .int (8 : Int32))]) (st' := [.int (8 : Int32)]) rfl ?_
    refine jv_Ev.br jx_i130 (pc' := 53) (st' := []) rfl (jv_bi_le.trans (jx_gof (by decide))) ?_
    refine jv_Ev.steps jx_i130 7 (pc' := 42) (l' := [(7, .int (16 : Int32)), (6, .int (8 : Int32)), (0, .ref o), (3, .int e)]) (st' := []) rfl ?_
    refine jv_Ev.loc (l := [(0, .ref o), (3, .int e), (6, .int (8 : Int32)), (7, .int (16 : Int32))]) ⟨by simp, by show List.Nodup [7, 6, 0, 3]; decide⟩ ?_
    refine jv_Ev.steps jx_i130 2 (pc' := 45) (l' := [(0, .ref o), (3, .int e), (6, .int (8 : Int32)), (7, .int (16 : Int32))]) (st' := [.int e, .int (16 : Int32)]) rfl ?_
    refine jv_Ev.br jx_i130 (pc' := 48) (st' := []) rfl (jv_bc_gt.trans (jx_gof g16)) ?_
    refine jv_Ev.steps jx_i130 1 (pc' := 50) (l' := [(0, .ref o), (3, .int e), (6, .int (8 : Int32)), (7, .int (16 : Int32))]) (st' := [.int (16 : Int32)]) rfl ?_
    refine jv_Ev.br jx_i130 (pc' := 53) (st' := []) rfl (jv_bi_le.trans (jx_gof (by decide))) ?_
    refine jv_Ev.steps jx_i130 7 (pc' := 42) (l' := [(7, .int (32 : Int32)), (6, .int (16 : Int32)), (0, .ref o), (3, .int e)]) (st' := []) rfl ?_
    refine jv_Ev.loc (l := [(0, .ref o), (3, .int e), (6, .int (16 : Int32)), (7, .int (32 : Int32))]) ⟨by simp, by show List.Nodup [7, 6, 0, 3]; decide⟩ ?_
    refine jv_Ev.steps jx_i130 2 (pc' := 45) (l' := [(0, .ref o), (3, .int e), (6, .int (16 : Int32)), (7, .int (32 : Int32))]) (st' := [.int e, .int (32 : Int32)]) rfl ?_
    refine jv_Ev.br jx_i130 (pc' := 48) (st' := []) rfl (jv_bc_gt.trans (jx_gof g32)) ?_
    refine jv_Ev.steps jx_i130 1 (pc' := 50) (l' := [(0, .ref o), (3, .int e), (6, .int (16 : Int32)), (7, .int (32 : Int32))]) (st' := [.int (32 : Int32)]) rfl ?_
    refine jv_Ev.br jx_i130 (pc' := 53) (st' := []) rfl (jv_bi_le.trans (jx_gof (by decide))) ?_
    refine jv_Ev.steps jx_i130 7 (pc' := 42) (l' := [(7, .int (64 : Int32)), (6, .int (32 : Int32)), (0, .ref o), (3, .int e)]) (st' := []) rfl ?_
    refine jv_Ev.loc (l := [(0, .ref o), (3, .int e), (6, .int (32 : Int32)), (7, .int (64 : Int32))]) ⟨by simp, by show List.Nodup [7, 6, 0, 3]; decide⟩ ?_
    refine jv_Ev.steps jx_i130 2 (pc' := 45) (l' := [(0, .ref o), (3, .int e), (6, .int (32 : Int32)), (7, .int (64 : Int32))]) (st' := [.int e, .int (64 : Int32)]) rfl ?_
    refine jv_Ev.br jx_i130 (pc' := 48) (st' := []) rfl (jv_bc_gt.trans (jx_gof g64)) ?_
    refine jv_Ev.steps jx_i130 1 (pc' := 50) (l' := [(0, .ref o), (3, .int e), (6, .int (32 : Int32)), (7, .int (64 : Int32))]) (st' := [.int (64 : Int32)]) rfl ?_
    refine jv_Ev.br jx_i130 (pc' := 53) (st' := []) rfl (jv_bi_le.trans (jx_gof (by decide))) ?_
    refine jv_Ev.steps jx_i130 7 (pc' := 42) (l' := [(7, .int (128 : Int32)), (6, .int (64 : Int32)), (0, .ref o), (3, .int e)]) (st' := []) rfl ?_
    refine jv_Ev.loc (l := [(0, .ref o), (3, .int e), (6, .int (64 : Int32)), (7, .int (128 : Int32))]) ⟨by simp, by show List.Nodup [7, 6, 0, 3]; decide⟩ ?_
    refine jv_Ev.steps jx_i130 2 (pc' := 45) (l' := [(0, .ref o), (3, .int e), (6, .int (64 : Int32)), (7, .int (128 : Int32))]) (st' := [.int e, .int (128 : Int32)]) rfl ?_
    refine jv_Ev.br jx_i130 (pc' := 48) (st' := []) rfl (jv_bc_gt.trans (jx_gof g128)) ?_
    refine jv_Ev.steps jx_i130 1 (pc' := 50) (l' := [(0, .ref o), (3, .int e), (6, .int (64 : Int32)), (7, .int (128 : Int32))]) (st' := [.int (128 : Int32)]) rfl ?_
    refine jv_Ev.br jx_i130 (pc' := 53) (st' := []) rfl (jv_bi_le.trans (jx_gof (by decide))) ?_
    refine jv_Ev.steps jx_i130 7 (pc' := 42) (l' := [(7, .int (256 : Int32)), (6, .int (128 : Int32)), (0, .ref o), (3, .int e)]) (st' := []) rfl ?_
    refine jv_Ev.loc (l := [(0, .ref o), (3, .int e), (6, .int (128 : Int32)), (7, .int (256 : Int32))]) ⟨by simp, by show List.Nodup [7, 6, 0, 3]; decide⟩ ?_
    refine jv_Ev.steps jx_i130 2 (pc' := 45) (l' := [(0, .ref o), (3, .int e), (6, .int (128 : Int32)), (7, .int (256 : Int32))]) (st' := [.int e, .int (256 : Int32)]) rfl ?_
    refine jv_Ev.br jx_i130 (pc' := 66) (st' := []) rfl (jv_bc_gt.trans (jx_got g256)) ?_
    exact jv_Ev.loc (l := [(0, .ref o), (3, .int e), (6, .int (128 : Int32))]) ⟨by simp, by show List.Nodup [0, 3, 6, 7]; decide⟩ K
  by_cases g512 : e < 512
  · refine ⟨256, ⟨by decide, by decide⟩, fun o G n sl X K => ?_⟩
    refine jv_Ev.steps jx_i130 2 (pc' := 45) (l' := [(0, .ref o), (3, .int e), (6, .int (1 : Int32)), (7, .int (2 : Int32))]) (st' := [.int e, .int (2 : Int32)]) rfl ?_
    refine jv_Ev.br jx_i130 (pc' := 48) (st' := []) rfl (jv_bc_gt.trans (jx_gof g2)) ?_
    refine jv_Ev.steps jx_i130 1 (pc' := 50) (l' := [(0, .ref o), (3, .int e), (6, .int (1 : Int32)), (7, .int (2 : Int32))]) (st' := [.int (2 : Int32)]) rfl ?_
    refine jv_Ev.br jx_i130 (pc' := 53) (st' := []) rfl (jv_bi_le.trans (jx_gof (by decide))) ?_
    refine jv_Ev.steps jx_i130 7 (pc' := 42) (l' := [(7, .int (4 : Int32)), (6, .int (2 : Int32)), (0, .ref o), (3, .int e)]) (st' := []) rfl ?_
    refine jv_Ev.loc (l := [(0, .ref o), (3, .int e), (6, .int (2 : Int32)), (7, .int (4 : Int32))]) ⟨by simp, by show List.Nodup [7, 6, 0, 3]; decide⟩ ?_
    refine jv_Ev.steps jx_i130 2 (pc' := 45) (l' := [(0, .ref o), (3, .int e), (6, .int (2 : Int32)), (7, .int (4 : Int32))]) (st' := [.int e, .int (4 : Int32)]) rfl ?_
    refine jv_Ev.br jx_i130 (pc' := 48) (st' := []) rfl (jv_bc_gt.trans (jx_gof g4)) ?_
    refine jv_Ev.steps jx_i130 1 (pc' := 50) (l' := [(0, .ref o), (3, .int e), (6, .int (2 : Int32)), (7, .int (4 : Int32))]) (st' := [.int (4 : Int32)]) rfl ?_
    refine jv_Ev.br jx_i130 (pc' := 53) (st' := []) rfl (jv_bi_le.trans (jx_gof (by decide))) ?_
    refine jv_Ev.steps jx_i130 7 (pc' := 42) (l' := [(7, .int (8 : Int32)), (6, .int (4 : Int32)), (0, .ref o), (3, .int e)]) (st' := []) rfl ?_
    refine jv_Ev.loc (l := [(0, .ref o), (3, .int e), (6, .int (4 : Int32)), (7, .int (8 : Int32))]) ⟨by simp, by show List.Nodup [7, 6, 0, 3]; decide⟩ ?_
    refine jv_Ev.steps jx_i130 2 (pc' := 45) (l' := [(0, .ref o), (3, .int e), (6, .int (4 : Int32)), (7, .int (8 : Int32))]) (st' := [.int e, .int (8 : Int32)]) rfl ?_
    refine jv_Ev.br jx_i130 (pc' := 48) (st' := []) rfl (jv_bc_gt.trans (jx_gof g8)) ?_
    refine jv_Ev.steps jx_i130 1 (pc' := 50) (l' := [(0, .ref o), (3, .int e), (6, .int (4 : Int32)), (7, .int (8 : Int32))]) (st' := [.int (8 : Int32)]) rfl ?_
    refine jv_Ev.br jx_i130 (pc' := 53) (st' := []) rfl (jv_bi_le.trans (jx_gof (by decide))) ?_
    refine jv_Ev.steps jx_i130 7 (pc' := 42) (l' := [(7, .int (16 : Int32)), (6, .int (8 : Int32)), (0, .ref o), (3, .int e)]) (st' := []) rfl ?_
    refine jv_Ev.loc (l := [(0, .ref o), (3, .int e), (6, .int (8 : Int32)), (7, .int (16 : Int32))]) ⟨by simp, by show List.Nodup [7, 6, 0, 3]; decide⟩ ?_
    refine jv_Ev.steps jx_i130 2 (pc' := 45) (l' := [(0, .ref o), (3, .int e), (6, .int (8 : Int32)), (7, .int (16 : Int32))]) (st' := [.int e, .int (16 : Int32)]) rfl ?_
    refine jv_Ev.br jx_i130 (pc' := 48) (st' := []) rfl (jv_bc_gt.trans (jx_gof g16)) ?_
    refine jv_Ev.steps jx_i130 1 (pc' := 50) (l' := [(0, .ref o), (3, .int e), (6, .int (8 : Int32)), (7, .int (16 : Int32))]) (st' := [.int (16 : Int32)]) rfl ?_
    refine jv_Ev.br jx_i130 (pc' := 53) (st' := []) rfl (jv_bi_le.trans (jx_gof (by decide))) ?_
    refine jv_Ev.steps jx_i130 7 (pc' := 42) (l' := [(7, .int (32 : Int32)), (6, .int (16 : Int32)), (0, .ref o), (3, .int e)]) (st' := []) rfl ?_
    refine jv_Ev.loc (l := [(0, .ref o), (3, .int e), (6, .int (16 : Int32)), (7, .int (32 : Int32))]) ⟨by simp, by show List.Nodup [7, 6, 0, 3]; decide⟩ ?_
    refine jv_Ev.steps jx_i130 2 (pc' := 45) (l' := [(0, .ref o), (3, .int e), (6, .int (16 : Int32)), (7, .int (32 : Int32))]) (st' := [.int e, .int (32 : Int32)]) rfl ?_
    refine jv_Ev.br jx_i130 (pc' := 48) (st' := []) rfl (jv_bc_gt.trans (jx_gof g32)) ?_
    refine jv_Ev.steps jx_i130 1 (pc' := 50) (l' := [(0, .ref o), (3, .int e), (6, .int (16 : Int32)), (7, .int (32 : Int32))]) (st' := [.int (32 : Int32)]) rfl ?_
    refine jv_Ev.br jx_i130 (pc' := 53) (st' := []) rfl (jv_bi_le.trans (jx_gof (by decide))) ?_
    refine jv_Ev.steps jx_i130 7 (pc' := 42) (l' := [(7, .int (64 : Int32)), (6, .int (32 : Int32)), (0, .ref o), (3, .int e)]) (st' := []) rfl ?_
    refine jv_Ev.loc (l := [(0, .ref o), (3, .int e), (6, .int (32 : Int32)), (7, .int (64 : Int32))]) ⟨by simp, by show List.Nodup [7, 6, 0, 3]; decide⟩ ?_
    refine jv_Ev.steps jx_i130 2 (pc' := 45) (l' := [(0, .ref o), (3, .int e), (6, .int (32 : Int32)), (7, .int (64 : Int32))]) (st' := [.int e, .int (64 : Int32)]) rfl ?_
    refine jv_Ev.br jx_i130 (pc' := 48) (st' := []) rfl (jv_bc_gt.trans (jx_gof g64)) ?_
    refine jv_Ev.steps jx_i130 1 (pc' := 50) (l' := [(0, .ref o), (3, .int e), (6, .int (32 : Int32)), (7, .int (64 : Int32))]) (st' := [.int (64 : Int32)]) rfl ?_
    refine jv_Ev.br jx_i130 (pc' := 53) (st' := []) rfl (jv_bi_le.trans (jx_gof (by decide))) ?_
    refine jv_Ev.steps jx_i130 7 (pc' := 42) (l' := [(7, .int (128 : Int32)), (6, .int (64 : Int32)), (0, .ref o), (3, .int e)]) (st' := []) rfl ?_
    refine jv_Ev.loc (l := [(0, .ref o), (3, .int e), (6, .int (64 : Int32)), (7, .int (128 : Int32))]) ⟨by simp, by show List.Nodup [7, 6, 0, 3]; decide⟩ ?_
    refine jv_Ev.steps jx_i130 2 (pc' := 45) (l' := [(0, .ref o), (3, .int e), (6, .int (64 : Int32)), (7, .int (128 : Int32))]) (st' := [.int e, .int (128 : Int32)]) rfl ?_
    refine jv_Ev.br jx_i130 (pc' := 48) (st' := []) rfl (jv_bc_gt.trans (jx_gof g128)) ?_
    refine jv_Ev.steps jx_i130 1 (pc' := 50) (l' := [(0, .ref o), (3, .int e), (6, .int (64 : Int32)), (7, .int (128 : Int32))]) (st' := [.int (128 : Int32)]) rfl ?_
    refine jv_Ev.br jx_i130 (pc' := 53) (st' := []) rfl (jv_bi_le.trans (jx_gof (by decide))) ?_
    refine jv_Ev.steps jx_i130 7 (pc' := 42) (l' := [(7, .int (256 : Int32)), (6, .int (128 : Int32)), (0, .ref o), (3, .int e)]) (st' := []) rfl ?_
    refine jv_Ev.loc (l := [(0, .ref o), (3, .int e), (6, .int (128 : Int32)), (7, .int (256 : Int32))]) ⟨by simp, by show List.Nodup [7, 6, 0, 3]; decide⟩ ?_
    refine jv_Ev.steps jx_i130 2 (pc' := 45) (l' := [(0, .ref o), (3, .int e), (6, .int (128 : Int32)), (7, .int (256 : Int32))]) (st' := [.int e, .int (256 : Int32)]) rfl ?_
    refine jv_Ev.br jx_i130 (pc' := 48) (st' := []) rfl (jv_bc_gt.trans (jx_gof g256)) ?_
    refine jv_Ev.steps jx_i130 1 (pc' := 50) (l' := [(0, .ref o), (3, .int e), (6, .int (128 : Int32)), (7, .int (256 : Int32))]) (st' := [.int (256 : Int32)]) rfl ?_
    refine jv_Ev.br jx_i130 (pc' := 53) (st' := []) rfl (jv_bi_le.trans (jx_gof (by decide))) ?_
    refine jv_Ev.steps jx_i130 7 (pc' := 42) (l' := [(7, .int (512 : Int32)), (6, .int (256 : Int32)), (0, .ref o), (3, .int e)]) (st' := []) rfl ?_
    refine jv_Ev.loc (l := [(0, .ref o), (3, .int e), (6, .int (256 : Int32)), (7, .int (512 : Int32))]) ⟨by simp, by show List.Nodup [7, 6, 0, 3]; decide⟩ ?_
    refine jv_Ev.steps jx_i130 2 (pc' := 45) (l' := [(0, .ref o), (3, .int e), (6, .int (256 : Int32)), (7, .int (512 : Int32))]) (st' := [.int e, .int (512 : Int32)]) rfl ?_
    refine jv_Ev.br jx_i130 (pc' := 66) (st' := []) rfl (jv_bc_gt.trans (jx_got g512)) ?_
    exact jv_Ev.loc (l := [(0, .ref o), (3, .int e), (6, .int (256 : Int32))]) ⟨by simp, by show List.Nodup [0, 3, 6, 7]; decide⟩ K
  by_cases g1024 : e < 1024
  · refine ⟨512, ⟨by decide, by decide⟩, fun o G n sl X K => ?_⟩
    refine jv_Ev.steps jx_i130 2 (pc' := 45) (l' := [(0, .ref o), (3, .int e), (6, .int (1 : Int32)), (7, .int (2 : Int32))]) (st' := [.int e, .int (2 : Int32)]) rfl ?_
    refine jv_Ev.br jx_i130 (pc' := 48) (st' := []) rfl (jv_bc_gt.trans (jx_gof g2)) ?_
    refine jv_Ev.steps jx_i130 1 (pc' := 50) (l' := [(0, .ref o), (3, .int e), (6, .int (1 : Int32)), (7, .int (2 : Int32))]) (st' := [.int (2 : Int32)]) rfl ?_
    refine jv_Ev.br jx_i130 (pc' := 53) (st' := []) rfl (jv_bi_le.trans (jx_gof (by decide))) ?_
    refine jv_Ev.steps jx_i130 7 (pc' := 42) (l' := [(7, .int (4 : Int32)), (6, .int (2 : Int32)), (0, .ref o), (3, .int e)]) (st' := []) rfl ?_
    refine jv_Ev.loc (l := [(0, .ref o), (3, .int e), (6, .int (2 : Int32)), (7, .int (4 : Int32))]) ⟨by simp, by show List.Nodup [7, 6, 0, 3]; decide⟩ ?_
    refine jv_Ev.steps jx_i130 2 (pc' := 45) (l' := [(0, .ref o), (3, .int e), (6, .int (2 : Int32)), (7, .int (4 : Int32))]) (st' := [.int e, .int (4 : Int32)]) rfl ?_
    refine jv_Ev.br jx_i130 (pc' := 48) (st' := []) rfl (jv_bc_gt.trans (jx_gof g4)) ?_
    refine jv_Ev.steps jx_i130 1 (pc' := 50) (l' := [(0, .ref o), (3, .int e), (6, .int (2 : Int32)), (7, .int (4 : Int32))]) (st' := [.int (4 : Int32)]) rfl ?_
    refine jv_Ev.br jx_i130 (pc' := 53) (st' := []) rfl (jv_bi_le.trans (jx_gof (by decide))) ?_
    refine jv_Ev.steps jx_i130 7 (pc' := 42) (l' := [(7, .int (8 : Int32)), (6, .int (4 : Int32)), (0, .ref o), (3, .int e)]) (st' := []) rfl ?_
    refine jv_Ev.loc (l := [(0, .ref o), (3, .int e), (6, .int (4 : Int32)), (7, .int (8 : Int32))]) ⟨by simp, by show List.Nodup [7, 6, 0, 3]; decide⟩ ?_
    refine jv_Ev.steps jx_i130 2 (pc' := 45) (l' := [(0, .ref o), (3, .int e), (6, .int (4 : Int32)), (7, .int (8 : Int32))]) (st' := [.int e, .int (8 : Int32)]) rfl ?_
    refine jv_Ev.br jx_i130 (pc' := 48) (st' := []) rfl (jv_bc_gt.trans (jx_gof g8)) ?_
    refine jv_Ev.steps jx_i130 1 (pc' := 50) (l' := [(0, .ref o), (3, .int e), (6, .int (4 : Int32)), (7, .int (8 : Int32))]) (st' := [.int (8 : Int32)]) rfl ?_
    refine jv_Ev.br jx_i130 (pc' := 53) (st' := []) rfl (jv_bi_le.trans (jx_gof (by decide))) ?_
    refine jv_Ev.steps jx_i130 7 (pc' := 42) (l' := [(7, .int (16 : Int32)), (6, .int (8 : Int32)), (0, .ref o), (3, .int e)]) (st' := []) rfl ?_
    refine jv_Ev.loc (l := [(0, .ref o), (3, .int e), (6, .int (8 : Int32)), (7, .int (16 : Int32))]) ⟨by simp, by show List.Nodup [7, 6, 0, 3]; decide⟩ ?_
    refine jv_Ev.steps jx_i130 2 (pc' := 45) (l' := [(0, .ref o), (3, .int e), (6, .int (8 : Int32)), (7, .int (16 : Int32))]) (st' := [.int e, .int (16 : Int32)]) rfl ?_
    refine jv_Ev.br jx_i130 (pc' := 48) (st' := []) rfl (jv_bc_gt.trans (jx_gof g16)) ?_
    refine jv_Ev.steps jx_i130 1 (pc' := 50) (l' := [(0, .ref o), (3, .int e), (6, .int (8 : Int32)), (7, .int (16 : Int32))]) (st' := [.int (16 : Int32)]) rfl ?_
    refine jv_Ev.br jx_i130 (pc' := 53) (st' := []) rfl (jv_bi_le.trans (jx_gof (by decide))) ?_
    refine jv_Ev.steps jx_i130 7 (pc' := 42) (l' := [(7, .int (32 : Int32)), (6, .int (16 : Int32)), (0, .ref o), (3, .int e)]) (st' := []) rfl ?_
    refine jv_Ev.loc (l := [(0, .ref o), (3, .int e), (6, .int (16 : Int32)), (7, .int (32 : Int32))]) ⟨by simp, by show List.Nodup [7, 6, 0, 3]; decide⟩ ?_
    refine jv_Ev.steps jx_i130 2 (pc' := 45) (l' := [(0, .ref o), (3, .int e), (6, .int (16 : Int32)), (7, .int (32 : Int32))]) (st' := [.int e, .int (32 : Int32)]) rfl ?_
    refine jv_Ev.br jx_i130 (pc' := 48) (st' := []) rfl (jv_bc_gt.trans (jx_gof g32)) ?_
    refine jv_Ev.steps jx_i130 1 (pc' := 50) (l' := [(0, .ref o), (3, .int e), (6, .int (16 : Int32)), (7, .int (32 : Int32))]) (st' := [.int (32 : Int32)]) rfl ?_
    refine jv_Ev.br jx_i130 (pc' := 53) (st' := []) rfl (jv_bi_le.trans (jx_gof (by decide))) ?_
    refine jv_Ev.steps jx_i130 7 (pc' := 42) (l' := [(7, .int (64 : Int32)), (6, .int (32 : Int32)), (0, .ref o), (3, .int e)]) (st' := []) rfl ?_
    refine jv_Ev.loc (l := [(0, .ref o), (3, .int e), (6, .int (32 : Int32)), (7, .int (64 : Int32))]) ⟨by simp, by show List.Nodup [7, 6, 0, 3]; decide⟩ ?_
    refine jv_Ev.steps jx_i130 2 (pc' := 45) (l' := [(0, .ref o), (3, .int e), (6, .int (32 : Int32)), (7, .int (64 : Int32))]) (st' := [.int e, .int (64 : Int32)]) rfl ?_
    refine jv_Ev.br jx_i130 (pc' := 48) (st' := []) rfl (jv_bc_gt.trans (jx_gof g64)) ?_
    refine jv_Ev.steps jx_i130 1 (pc' := 50) (l' := [(0, .ref o), (3, .int e), (6, .int (32 : Int32)), (7, .int (64 : Int32))]) (st' := [.int (64 : Int32)]) rfl ?_
    refine jv_Ev.br jx_i130 (pc' := 53) (st' := []) rfl (jv_bi_le.trans (jx_gof (by decide))) ?_
    refine jv_Ev.steps jx_i130 7 (pc' := 42) (l' := [(7, .int (128 : Int32)), (6, .int (64 : Int32)), (0, .ref o), (3, .int e)]) (st' := []) rfl ?_
    refine jv_Ev.loc (l := [(0, .ref o), (3, .int e), (6, .int (64 : Int32)), (7, .int (128 : Int32))]) ⟨by simp, by show List.Nodup [7, 6, 0, 3]; decide⟩ ?_
    refine jv_Ev.steps jx_i130 2 (pc' := 45) (l' := [(0, .ref o), (3, .int e), (6, .int (64 : Int32)), (7, .int (128 : Int32))]) (st' := [.int e, .int (128 : Int32)]) rfl ?_
    refine jv_Ev.br jx_i130 (pc' := 48) (st' := []) rfl (jv_bc_gt.trans (jx_gof g128)) ?_
    refine jv_Ev.steps jx_i130 1 (pc' := 50) (l' := [(0, .ref o), (3, .int e), (6, .int (64 : Int32)), (7, .int (128 : Int32))]) (st' := [.int (128 : Int32)]) rfl ?_
    refine jv_Ev.br jx_i130 (pc' := 53) (st' := []) rfl (jv_bi_le.trans (jx_gof (by decide))) ?_
    refine jv_Ev.steps jx_i130 7 (pc' := 42) (l' := [(7, .int (256 : Int32)), (6, .int (128 : Int32)), (0, .ref o), (3, .int e)]) (st' := []) rfl ?_
    refine jv_Ev.loc (l := [(0, .ref o), (3, .int e), (6, .int (128 : Int32)), (7, .int (256 : Int32))]) ⟨by simp, by show List.Nodup [7, 6, 0, 3]; decide⟩ ?_
    refine jv_Ev.steps jx_i130 2 (pc' := 45) (l' := [(0, .ref o), (3, .int e), (6, .int (128 : Int32)), (7, .int (256 : Int32))]) (st' := [.int e, .int (256 : Int32)]) rfl ?_
    refine jv_Ev.br jx_i130 (pc' := 48) (st' := []) rfl (jv_bc_gt.trans (jx_gof g256)) ?_
    refine jv_Ev.steps jx_i130 1 (pc' := 50) (l' := [(0, .ref o), (3, .int e), (6, .int (128 : Int32)), (7, .int (256 : Int32))]) (st' := [.int (256 : Int32)]) rfl ?_
    refine jv_Ev.br jx_i130 (pc' := 53) (st' := []) rfl (jv_bi_le.trans (jx_gof (by decide))) ?_
    refine jv_Ev.steps jx_i130 7 (pc' := 42) (l' := [(7, .int (512 : Int32)), (6, .int (256 : Int32)), (0, .ref o), (3, .int e)]) (st' := []) rfl ?_
    refine jv_Ev.loc (l := [(0, .ref o), (3, .int e), (6, .int (256 : Int32)), (7, .int (512 : Int32))]) ⟨by simp, by show List.Nodup [7, 6, 0, 3]; decide⟩ ?_
    refine jv_Ev.steps jx_i130 2 (pc' := 45) (l' := [(0, .ref o), (3, .int e), (6, .int (256 : Int32)), (7, .int (512 : Int32))]) (st' := [.int e, .int (512 : Int32)]) rfl ?_
    refine jv_Ev.br jx_i130 (pc' := 48) (st' := []) rfl (jv_bc_gt.trans (jx_gof g512)) ?_
    refine jv_Ev.steps jx_i130 1 (pc' := 50) (l' := [(0, .ref o), (3, .int e), (6, .int (256 : Int32)), (7, .int (512 : Int32))]) (st' := [.int (512 : Int32)]) rfl ?_
    refine jv_Ev.br jx_i130 (pc' := 53) (st' := []) rfl (jv_bi_le.trans (jx_gof (by decide))) ?_
    refine jv_Ev.steps jx_i130 7 (pc' := 42) (l' := [(7, .int (1024 : Int32)), (6, .int (512 : Int32)), (0, .ref o), (3, .int e)]) (st' := []) rfl ?_
    refine jv_Ev.loc (l := [(0, .ref o), (3, .int e), (6, .int (512 : Int32)), (7, .int (1024 : Int32))]) ⟨by simp, by show List.Nodup [7, 6, 0, 3]; decide⟩ ?_
    refine jv_Ev.steps jx_i130 2 (pc' := 45) (l' := [(0, .ref o), (3, .int e), (6, .int (512 : Int32)), (7, .int (1024 : Int32))]) (st' := [.int e, .int (1024 : Int32)]) rfl ?_
    refine jv_Ev.br jx_i130 (pc' := 66) (st' := []) rfl (jv_bc_gt.trans (jx_got g1024)) ?_
    exact jv_Ev.loc (l := [(0, .ref o), (3, .int e), (6, .int (512 : Int32))]) ⟨by simp, by show List.Nodup [0, 3, 6, 7]; decide⟩ K
  by_cases g2048 : e < 2048
  · refine ⟨1024, ⟨by decide, by decide⟩, fun o G n sl X K => ?_⟩
    refine jv_Ev.steps jx_i130 2 (pc' := 45) (l' := [(0, .ref o), (3, .int e), (6, .int (1 : Int32)), (7, .int (2 : Int32))]) (st' := [.int e, .int (2 : Int32)]) rfl ?_
    refine jv_Ev.br jx_i130 (pc' := 48) (st' := []) rfl (jv_bc_gt.trans (jx_gof g2)) ?_
    refine jv_Ev.steps jx_i130 1 (pc' := 50) (l' := [(0, .ref o), (3, .int e), (6, .int (1 : Int32)), (7, .int (2 : Int32))]) (st' := [.int (2 : Int32)]) rfl ?_
    refine jv_Ev.br jx_i130 (pc' := 53) (st' := []) rfl (jv_bi_le.trans (jx_gof (by decide))) ?_
    refine jv_Ev.steps jx_i130 7 (pc' := 42) (l' := [(7, .int (4 : Int32)), (6, .int (2 : Int32)), (0, .ref o), (3, .int e)]) (st' := []) rfl ?_
    refine jv_Ev.loc (l := [(0, .ref o), (3, .int e), (6, .int (2 : Int32)), (7, .int (4 : Int32))]) ⟨by simp, by show List.Nodup [7, 6, 0, 3]; decide⟩ ?_
    refine jv_Ev.steps jx_i130 2 (pc' := 45) (l' := [(0, .ref o), (3, .int e), (6, .int (2 : Int32)), (7, .int (4 : Int32))]) (st' := [.int e, .int (4 : Int32)]) rfl ?_
    refine jv_Ev.br jx_i130 (pc' := 48) (st' := []) rfl (jv_bc_gt.trans (jx_gof g4)) ?_
    refine jv_Ev.steps jx_i130 1 (pc' := 50) (l' := [(0, .ref o), (3, .int e), (6, .int (2 : Int32)), (7, .int (4 : Int32))]) (st' := [.int (4 : Int32)]) rfl ?_
    refine jv_Ev.br jx_i130 (pc' := 53) (st' := []) rfl (jv_bi_le.trans (jx_gof (by decide))) ?_
    refine jv_Ev.steps jx_i130 7 (pc' := 42) (l' := [(7, .int (8 : Int32)), (6, .int (4 : Int32)), (0, .ref o), (3, .int e)]) (st' := []) rfl ?_
    refine jv_Ev.loc (l := [(0, .ref o), (3, .int e), (6, .int (4 : Int32)), (7, .int (8 : Int32))]) ⟨by simp, by show List.Nodup [7, 6, 0, 3]; decide⟩ ?_
    refine jv_Ev.steps jx_i130 2 (pc' := 45) (l' := [(0, .ref o), (3, .int e), (6, .int (4 : Int32)), (7, .int (8 : Int32))]) (st' := [.int e, .int (8 : Int32)]) rfl ?_
    refine jv_Ev.br jx_i130 (pc' := 48) (st' := []) rfl (jv_bc_gt.trans (jx_gof g8)) ?_
    refine jv_Ev.steps jx_i130 1 (pc' := 50) (l' := [(0, .ref o), (3, .int e), (6, .int (4 : Int32)), (7, .int (8 : Int32))]) (st' := [.int (8 : Int32)]) rfl ?_
    refine jv_Ev.br jx_i130 (pc' := 53) (st' := []) rfl (jv_bi_le.trans (jx_gof (by decide))) ?_
    refine jv_Ev.steps jx_i130 7 (pc' := 42) (l' := [(7, .int (16 : Int32)), (6, .int (8 : Int32)), (0, .ref o), (3, .int e)]) (st' := []) rfl ?_
    refine jv_Ev.loc (l := [(0, .ref o), (3, .int e), (6, .int (8 : Int32)), (7, .int (16 : Int32))]) ⟨by simp, by show List.Nodup [7, 6, 0, 3]; decide⟩ ?_
    refine jv_Ev.steps jx_i130 2 (pc' := 45) (l' := [(0, .ref o), (3, .int e), (6, .int (8 : Int32)), (7, .int (16 : Int32))]) (st' := [.int e, .int (16 : Int32)]) rfl ?_
    refine jv_Ev.br jx_i130 (pc' := 48) (st' := []) rfl (jv_bc_gt.trans (jx_gof g16)) ?_
    refine jv_Ev.steps jx_i130 1 (pc' := 50) (l' := [(0, .ref o), (3, .int e), (6, .int (8 : Int32)), (7, .int (16 : Int32))]) (st' := [.int (16 : Int32)]) rfl ?_
    refine jv_Ev.br jx_i130 (pc' := 53) (st' := []) rfl (jv_bi_le.trans (jx_gof (by decide))) ?_
    refine jv_Ev.steps jx_i130 7 (pc' := 42) (l' := [(7, .int (32 : Int32)), (6, .int (16 : Int32)), (0, .ref o), (3, .int e)]) (st' := []) rfl ?_
    refine jv_Ev.loc (l := [(0, .ref o), (3, .int e), (6, .int (16 : Int32)), (7, .int (32 : Int32))]) ⟨by simp, by show List.Nodup [7, 6, 0, 3]; decide⟩ ?_
    refine jv_Ev.steps jx_i130 2 (pc' := 45) (l' := [(0, .ref o), (3, .int e), (6, .int (16 : Int32)), (7, .int (32 : Int32))]) (st' := [.int e, .int (32 : Int32)]) rfl ?_
    refine jv_Ev.br jx_i130 (pc' := 48) (st' := []) rfl (jv_bc_gt.trans (jx_gof g32)) ?_
    refine jv_Ev.steps jx_i130 1 (pc' := 50) (l' := [(0, .ref o), (3, .int e), (6, .int (16 : Int32)), (7, .int (32 : Int32))]) (st' := [.int (32 : Int32)]) rfl ?_
    refine jv_Ev.br jx_i130 (pc' := 53) (st' := []) rfl (jv_bi_le.trans (jx_gof (by decide))) ?_
    refine jv_Ev.steps jx_i130 7 (pc' := 42) (l' := [(7, .int (64 : Int32)), (6, .int (32 : Int32)), (0, .ref o), (3, .int e)]) (st' := []) rfl ?_
    refine jv_Ev.loc (l := [(0, .ref o), (3, .int e), (6, .int (32 : Int32)), (7, .int (64 : Int32))]) ⟨by simp, by show List.Nodup [7, 6, 0, 3]; decide⟩ ?_
    refine jv_Ev.steps jx_i130 2 (pc' := 45) (l' := [(0, .ref o), (3, .int e), (6, .int (32 : Int32)), (7, .int (64 : Int32))]) (st' := [.int e, .int (64 : Int32)]) rfl ?_
    refine jv_Ev.br jx_i130 (pc' := 48) (st' := []) rfl (jv_bc_gt.trans (jx_gof g64)) ?_
    refine jv_Ev.steps jx_i130 1 (pc' := 50) (l' := [(0, .ref o), (3, .int e), (6, .int (32 : Int32)), (7, .int (64 : Int32))]) (st' := [.int (64 : Int32)]) rfl ?_
    refine jv_Ev.br jx_i130 (pc' := 53) (st' := []) rfl (jv_bi_le.trans (jx_gof (by decide))) ?_
    refine jv_Ev.steps jx_i130 7 (pc' := 42) (l' := [(7, .int (128 : Int32)), (6, .int (64 : Int32)), (0, .ref o), (3, .int e)]) (st' := []) rfl ?_
    refine jv_Ev.loc (l := [(0, .ref o), (3, .int e), (6, .int (64 : Int32)), (7, .int (128 : Int32))]) ⟨by simp, by show List.Nodup [7, 6, 0, 3]; decide⟩ ?_
    refine jv_Ev.steps jx_i130 2 (pc' := 45) (l' := [(0, .ref o), (3, .int e), (6, .int (64 : Int32)), (7, .int (128 : Int32))]) (st' := [.int e, .int (128 : Int32)]) rfl ?_
    refine jv_Ev.br jx_i130 (pc' := 48) (st' := []) rfl (jv_bc_gt.trans (jx_gof g128)) ?_
    refine jv_Ev.steps jx_i130 1 (pc' := 50) (l' := [(0, .ref o), (3, .int e), (6, .int (64 : Int32)), (7, .int (128 : Int32))]) (st' := [.int (128 : Int32)]) rfl ?_
    refine jv_Ev.br jx_i130 (pc' := 53) (st' := []) rfl (jv_bi_le.trans (jx_gof (by decide))) ?_
    refine jv_Ev.steps jx_i130 7 (pc' := 42) (l' := [(7, .int (256 : Int32)), (6, .int (128 : Int32)), (0, .ref o), (3, .int e)]) (st' := []) rfl ?_
    refine jv_Ev.loc (l := [(0, .ref o), (3, .int e), (6, .int (128 : Int32)), (7, .int (256 : Int32))]) ⟨by simp, by show List.Nodup [7, 6, 0, 3]; decide⟩ ?_
    refine jv_Ev.steps jx_i130 2 (pc' := 45) (l' := [(0, .ref o), (3, .int e), (6, .int (128 : Int32)), (7, .int (256 : Int32))]) (st' := [.int e, .int (256 : Int32)]) rfl ?_
    refine jv_Ev.br jx_i130 (pc' := 48) (st' := []) rfl (jv_bc_gt.trans (jx_gof g256)) ?_
    refine jv_Ev.steps jx_i130 1 (pc' := 50) (l' := [(0, .ref o), (3, .int e), (6, .int (128 : Int32)), (7, .int (256 : Int32))]) (st' := [.int (256 : Int32)]) rfl ?_
    refine jv_Ev.br jx_i130 (pc' := 53) (st' := []) rfl (jv_bi_le.trans (jx_gof (by decide))) ?_
    refine jv_Ev.steps jx_i130 7 (pc' := 42) (l' := [(7, .int (512 : Int32)), (6, .int (256 : Int32)), (0, .ref o), (3, .int e)]) (st' := []) rfl ?_
    refine jv_Ev.loc (l := [(0, .ref o), (3, .int e), (6, .int (256 : Int32)), (7, .int (512 : Int32))]) ⟨by simp, by show List.Nodup [7, 6, 0, 3]; decide⟩ ?_
    refine jv_Ev.steps jx_i130 2 (pc' := 45) (l' := [(0, .ref o), (3, .int e), (6, .int (256 : Int32)), (7, .int (512 : Int32))]) (st' := [.int e, .int (512 : Int32)]) rfl ?_
    refine jv_Ev.br jx_i130 (pc' := 48) (st' := []) rfl (jv_bc_gt.trans (jx_gof g512)) ?_
    refine jv_Ev.steps jx_i130 1 (pc' := 50) (l' := [(0, .ref o), (3, .int e), (6, .int (256 : Int32)), (7, .int (512 : Int32))]) (st' := [.int (512 : Int32)]) rfl ?_
    refine jv_Ev.br jx_i130 (pc' := 53) (st' := []) rfl (jv_bi_le.trans (jx_gof (by decide))) ?_
    refine jv_Ev.steps jx_i130 7 (pc' := 42) (l' := [(7, .int (1024 : Int32)), (6, .int (512 : Int32)), (0, .ref o), (3, .int e)]) (st' := []) rfl ?_
    refine jv_Ev.loc (l := [(0, .ref o), (3, .int e), (6, .int (512 : Int32)), (7, .int (1024 : Int32))]) ⟨by simp, by show List.Nodup [7, 6, 0, 3]; decide⟩ ?_
    refine jv_Ev.steps jx_i130 2 (pc' := 45) (l' := [(0, .ref o), (3, .int e), (6, .int (512 : Int32)), (7, .int (1024 : Int32))]) (st' := [.int e, .int (1024 : Int32)]) rfl ?_
    refine jv_Ev.br jx_i130 (pc' := 48) (st' := []) rfl (jv_bc_gt.trans (jx_gof g1024)) ?_
    refine jv_Ev.steps jx_i130 1 (pc' := 50) (l' := [(0, .ref o), (3, .int e), (6, .int (512 : Int32)), (7, .int (1024 : Int32))]) (st' := [.int (1024 : Int32)]) rfl ?_
    refine jv_Ev.br jx_i130 (pc' := 53) (st' := []) rfl (jv_bi_le.trans (jx_gof (by decide))) ?_
    refine jv_Ev.steps jx_i130 7 (pc' := 42) (l' := [(7, .int (2048 : Int32)), (6, .int (1024 : Int32)), (0, .ref o), (3, .int e)]) (st' := []) rfl ?_
    refine jv_Ev.loc (l := [(0, .ref o), (3, .int e), (6, .int (1024 : Int32)), (7, .int (2048 : Int32))]) ⟨by simp, by show List.Nodup [7, 6, 0, 3]; decide⟩ ?_
    refine jv_Ev.steps jx_i130 2 (pc' := 45) (l' := [(0, .ref o), (3, .int e), (6, .int (1024 : Int32)), (7, .int (2048 : Int32))]) (st' := [.int e, .int (2048 : Int32)]) rfl ?_
    refine jv_Ev.br jx_i130 (pc' := 66) (st' := []) rfl (jv_bc_gt.trans (jx_got g2048)) ?_
    exact jv_Ev.loc (l := [(0, .ref o), (3, .int e), (6, .int (1024 : Int32))]) ⟨by simp, by show List.Nodup [0, 3, 6, 7]; decide⟩ K
  by_cases g4096 : e < 4096
  · refine ⟨2048, ⟨by decide, by decide⟩, fun o G n sl X K => ?_⟩
    refine jv_Ev.steps jx_i130 2 (pc' := 45) (l' := [(0, .ref o), (3, .int e), (6, .int (1 : Int32)), (7, .int (2 : Int32))]) (st' := [.int e, .int (2 : Int32)]) rfl ?_
    refine jv_Ev.br jx_i130 (pc' := 48) (st' := []) rfl (jv_bc_gt.trans (jx_gof g2)) ?_
    refine jv_Ev.steps jx_i130 1 (pc' := 50) (l' := [(0, .ref o), (3, .int e), (6, .int (1 : Int32)), (7, .int (2 : Int32))]) (st' := [.int (2 : Int32)]) rfl ?_
    refine jv_Ev.br jx_i130 (pc' := 53) (st' := []) rfl (jv_bi_le.trans (jx_gof (by decide))) ?_
    refine jv_Ev.steps jx_i130 7 (pc' := 42) (l' := [(7, .int (4 : Int32)), (6, .int (2 : Int32)), (0, .ref o), (3, .int e)]) (st' := []) rfl ?_
    refine jv_Ev.loc (l := [(0, .ref o), (3, .int e), (6, .int (2 : Int32)), (7, .int (4 : Int32))]) ⟨by simp, by show List.Nodup [7, 6, 0, 3]; decide⟩ ?_
    refine jv_Ev.steps jx_i130 2 (pc' := 45) (l' := [(0, .ref o), (3, .int e), (6, .int (2 : Int32)), (7, .int (4 : Int32))]) (st' := [.int e, .int (4 : Int32)]) rfl ?_
    refine jv_Ev.br jx_i130 (pc' := 48) (st' := []) rfl (jv_bc_gt.trans (jx_gof g4)) ?_
    refine jv_Ev.steps jx_i130 1 (pc' := 50) (l' := [(0, .ref o), (3, .int e), (6, .int (2 : Int32)), (7, .int (4 : Int32))]) (st' := [.int (4 : Int32)]) rfl ?_
    refine jv_Ev.br jx_i130 (pc' := 53) (st' := []) rfl (jv_bi_le.trans (jx_gof (by decide))) ?_
    refine jv_Ev.steps jx_i130 7 (pc' := 42) (l' := [(7, .int (8 : Int32)), (6, .int (4 : Int32)), (0, .ref o), (3, .int e)]) (st' := []) rfl ?_
    refine jv_Ev.loc (l := [(0, .ref o), (3, .int e), (6, .int (4 : Int32)), (7, .int (8 : Int32))]) ⟨by simp, by show List.Nodup [7, 6, 0, 3]; decide⟩ ?_
    refine jv_Ev.steps jx_i130 2 (pc' := 45) (l' := [(0, .ref o), (3, .int e), (6, .int (4 : Int32)), (7, .int (8 : Int32))]) (st' := [.int e, .int (8 : Int32)]) rfl ?_
    refine jv_Ev.br jx_i130 (pc' := 48) (st' := []) rfl (jv_bc_gt.trans (jx_gof g8)) ?_
    refine jv_Ev.steps jx_i130 1 (pc' := 50) (l' := [(0, .ref o), (3, .int e), (6, .int (4 : Int32)), (7, .int (8 : Int32))]) (st' := [.int (8 : Int32)]) rfl ?_
    refine jv_Ev.br jx_i130 (pc' := 53) (st' := []) rfl (jv_bi_le.trans (jx_gof (by decide))) ?_
    refine jv_Ev.steps jx_i130 7 (pc' := 42) (l' := [(7, .int (16 : Int32)), (6, .int (8 : Int32)), (0, .ref o), (3, .int e)]) (st' := []) rfl ?_
    refine jv_Ev.loc (l := [(0, .ref o), (3, .int e), (6, .int (8 : Int32)), (7, .int (16 : Int32))]) ⟨by simp, by show List.Nodup [7, 6, 0, 3]; decide⟩ ?_
    refine jv_Ev.steps jx_i130 2 (pc' := 45) (l' := [(0, .ref o), (3, .int e), (6, .int (8 : Int32)), (7, .int (16 : Int32))]) (st' := [.int e, .int (16 : Int32)]) rfl ?_
    refine jv_Ev.br jx_i130 (pc' := 48) (st' := []) rfl (jv_bc_gt.trans (jx_gof g16)) ?_
    refine jv_Ev.steps jx_i130 1 (pc' := 50) (l' := [(0, .ref o), (3, .int e), (6, .int (8 : Int32)), (7, .int (16 : Int32))]) (st' := [.int (16 : Int32)]) rfl ?_
    refine jv_Ev.br jx_i130 (pc' := 53) (st' := []) rfl (jv_bi_le.trans (jx_gof (by decide))) ?_
    refine jv_Ev.steps jx_i130 7 (pc' := 42) (l' := [(7, .int (32 : Int32)), (6, .int (16 : Int32)), (0, .ref o), (3, .int e)]) (st' := []) rfl ?_
    refine jv_Ev.loc (l := [(0, .ref o), (3, .int e), (6, .int (16 : Int32)), (7, .int (32 : Int32))]) ⟨by simp, by show List.Nodup [7, 6, 0, 3]; decide⟩ ?_
    refine jv_Ev.steps jx_i130 2 (pc' := 45) (l' := [(0, .ref o), (3, .int e), (6, .int (16 : Int32)), (7, .int (32 : Int32))]) (st' := [.int e, .int (32 : Int32)]) rfl ?_
    refine jv_Ev.br jx_i130 (pc' := 48) (st' := []) rfl (jv_bc_gt.trans (jx_gof g32)) ?_
    refine jv_Ev.steps jx_i130 1 (pc' := 50) (l' := [(0, .ref o), (3, .int e), (6, .int (16 : Int32)), (7, .int (32 : Int32))]) (st' := [.int (32 : Int32)]) rfl ?_
    refine jv_Ev.br jx_i130 (pc' := 53) (st' := []) rfl (jv_bi_le.trans (jx_gof (by decide))) ?_
    refine jv_Ev.steps jx_i130 7 (pc' := 42) (l' := [(7, .int (64 : Int32)), (6, .int (32 : Int32)), (0, .ref o), (3, .int e)]) (st' := []) rfl ?_
    refine jv_Ev.loc (l := [(0, .ref o), (3, .int e), (6, .int (32 : Int32)), (7, .int (64 : Int32))]) ⟨by simp, by show List.Nodup [7, 6, 0, 3]; decide⟩ ?_
    refine jv_Ev.steps jx_i130 2 (pc' := 45) (l' := [(0, .ref o), (3, .int e), (6, .int (32 : Int32)), (7, .int (64 : Int32))]) (st' := [.int e, .int (64 : Int32)]) rfl ?_
    refine jv_Ev.br jx_i130 (pc' := 48) (st' := []) rfl (jv_bc_gt.trans (jx_gof g64)) ?_
    refine jv_Ev.steps jx_i130 1 (pc' := 50) (l' := [(0, .ref o), (3, .int e), (6, .int (32 : Int32)), (7, .int (64 : Int32))]) (st' := [.int (64 : Int32)]) rfl ?_
    refine jv_Ev.br jx_i130 (pc' := 53) (st' := []) rfl (jv_bi_le.trans (jx_gof (by decide))) ?_
    refine jv_Ev.steps jx_i130 7 (pc' := 42) (l' := [(7, .int (128 : Int32)), (6, .int (64 : Int32)), (0, .ref o), (3, .int e)]) (st' := []) rfl ?_
    refine jv_Ev.loc (l := [(0, .ref o), (3, .int e), (6, .int (64 : Int32)), (7, .int (128 : Int32))]) ⟨by simp, by show List.Nodup [7, 6, 0, 3]; decide⟩ ?_
    refine jv_Ev.steps jx_i130 2 (pc' := 45) (l' := [(0, .ref o), (3, .int e), (6, .int (64 : Int32)), (7, .int (128 : Int32))]) (st' := [.int e, .int (128 : Int32)]) rfl ?_
    refine jv_Ev.br jx_i130 (pc' := 48) (st' := []) rfl (jv_bc_gt.trans (jx_gof g128)) ?_
    refine jv_Ev.steps jx_i130 1 (pc' := 50) (l' := [(0, .ref o), (3, .int e), (6, .int (64 : Int32)), (7, .int (128 : Int32))]) (st' := [.int (128 : Int32)]) rfl ?_
    refine jv_Ev.br jx_i130 (pc' := 53) (st' := []) rfl (jv_bi_le.trans (jx_gof (by decide))) ?_
    refine jv_Ev.steps jx_i130 7 (pc' := 42) (l' := [(7, .int (256 : Int32)), (6, .int (128 : Int32)), (0, .ref o), (3, .int e)]) (st' := []) rfl ?_
    refine jv_Ev.loc (l := [(0, .ref o), (3, .int e), (6, .int (128 : Int32)), (7, .int (256 : Int32))]) ⟨by simp, by show List.Nodup [7, 6, 0, 3]; decide⟩ ?_
    refine jv_Ev.steps jx_i130 2 (pc' := 45) (l' := [(0, .ref o), (3, .int e), (6, .int (128 : Int32)), (7, .int (256 : Int32))]) (st' := [.int e, .int (256 : Int32)]) rfl ?_
    refine jv_Ev.br jx_i130 (pc' := 48) (st' := []) rfl (jv_bc_gt.trans (jx_gof g256)) ?_
    refine jv_Ev.steps jx_i130 1 (pc' := 50) (l' := [(0, .ref o), (3, .int e), (6, .int (128 : Int32)), (7, .int (256 : Int32))]) (st' := [.int (256 : Int32)]) rfl ?_
    refine jv_Ev.br jx_i130 (pc' := 53) (st' := []) rfl (jv_bi_le.trans (jx_gof (by decide))) ?_
    refine jv_Ev.steps jx_i130 7 (pc' := 42) (l' := [(7, .int (512 : Int32)), (6, .int (256 : Int32)), (0, .ref o), (3, .int e)]) (st' := []) rfl ?_
    refine jv_Ev.loc (l := [(0, .ref o), (3, .int e), (6, .int (256 : Int32)), (7, .int (512 : Int32))]) ⟨by simp, by show List.Nodup [7, 6, 0, 3]; decide⟩ ?_
    refine jv_Ev.steps jx_i130 2 (pc' := 45) (l' := [(0, .ref o), (3, .int e), (6, .int (256 : Int32)), (7, .int (512 : Int32))]) (st' := [.int e, .int (512 : Int32)]) rfl ?_
    refine jv_Ev.br jx_i130 (pc' := 48) (st' := []) rfl (jv_bc_gt.trans (jx_gof g512)) ?_
    refine jv_Ev.steps jx_i130 1 (pc' := 50) (l' := [(0, .ref o), (3, .int e), (6, .int (256 : Int32)), (7, .int (512 : Int32))]) (st' := [.int (512 : Int32)]) rfl ?_
    refine jv_Ev.br jx_i130 (pc' := 53) (st' := []) rfl (jv_bi_le.trans (jx_gof (by decide))) ?_
    refine jv_Ev.steps jx_i130 7 (pc' := 42) (l' := [(7, .int (1024 : Int32)), (6, .int (512 : Int32)), (0, .ref o), (3, .int e)]) (st' := []) rfl ?_
    refine jv_Ev.loc (l := [(0, .ref o), (3, .int e), (6, .int (512 : Int32)), (7, .int (1024 : Int32))]) ⟨by simp, by show List.Nodup [7, 6, 0, 3]; decide⟩ ?_
    refine jv_Ev.steps jx_i130 2 (pc' := 45) (l' := [(0, .ref o), (3, .int e), (6, .int (512 : Int32)), (7, .int (1024 : Int32))]) (st' := [.int e, .int (1024 : Int32)]) rfl ?_
    refine jv_Ev.br jx_i130 (pc' := 48) (st' := []) rfl (jv_bc_gt.trans (jx_gof g1024)) ?_
    refine jv_Ev.steps jx_i130 1 (pc' := 50) (l' := [(0, .ref o), (3, .int e), (6, .int (512 : Int32)), (7, .int (1024 : Int32))]) (st' := [.int (1024 : Int32)]) rfl ?_
    refine jv_Ev.br jx_i130 (pc' := 53) (st' := []) rfl (jv_bi_le.trans (jx_gof (by decide))) ?_
    refine jv_Ev.steps jx_i130 7 (pc' := 42) (l' := [(7, .int (2048 : Int32)), (6, .int (1024 : Int32)), (0, .ref o), (3, .int e)]) (st' := []) rfl ?_
    refine jv_Ev.loc (l := [(0, .ref o), (3, .int e), (6, .int (1024 : Int32)), (7, .int (2048 : Int32))]) ⟨by simp, by show List.Nodup [7, 6, 0, 3]; decide⟩ ?_
    refine jv_Ev.steps jx_i130 2 (pc' := 45) (l' := [(0, .ref o), (3, .int e), (6, .int (1024 : Int32)), (7, .int (2048 : Int32))]) (st' := [.int e, .int (2048 : Int32)]) rfl ?_
    refine jv_Ev.br jx_i130 (pc' := 48) (st' := []) rfl (jv_bc_gt.trans (jx_gof g2048)) ?_
    refine jv_Ev.steps jx_i130 1 (pc' := 50) (l' := [(0, .ref o), (3, .int e), (6, .int (1024 : Int32)), (7, .int (2048 : Int32))]) (st' := [.int (2048 : Int32)]) rfl ?_
    refine jv_Ev.br jx_i130 (pc' := 53) (st' := []) rfl (jv_bi_le.trans (jx_gof (by decide))) ?_
    refine jv_Ev.steps jx_i130 7 (pc' := 42) (l' := [(7, .int (4096 : Int32)), (6, .int (2048 : Int32)), (0, .ref o), (3, .int e)]) (st' := []) rfl ?_
    refine jv_Ev.loc (l := [(0, .ref o), (3, .int e), (6, .int (2048 : Int32)), (7, .int (4096 : Int32))]) ⟨by simp, by show List.Nodup [7, 6, 0, 3]; decide⟩ ?_
    refine jv_Ev.steps jx_i130 2 (pc' := 45) (l' := [(0, .ref o), (3, .int e), (6, .int (2048 : Int32)), (7, .int (4096 : Int32))]) (st' := [.int e, .int (4096 : Int32)]) rfl ?_
    refine jv_Ev.br jx_i130 (pc' := 66) (st' := []) rfl (jv_bc_gt.trans (jx_got g4096)) ?_
    exact jv_Ev.loc (l := [(0, .ref o), (3, .int e), (6, .int (2048 : Int32))]) ⟨by simp, by show List.Nodup [0, 3, 6, 7]; decide⟩ K
  refine ⟨4096, ⟨by decide, by decide⟩, fun o G n sl X K => ?_⟩
  refine jv_Ev.steps jx_i130 2 (pc' := 45) (l' := [(0, .ref o), (3, .int e), (6, .int (1 : Int32)), (7, .int (2 : Int32))]) (st' := [.int e, .int (2 : Int32)]) rfl ?_
  refine jv_Ev.br jx_i130 (pc' := 48) (st' := []) rfl (jv_bc_gt.trans (jx_gof g2)) ?_
  refine jv_Ev.steps jx_i130 1 (pc' := 50) (l' := [(0, .ref o), (3, .int e), (6, .int (1 : Int32)), (7, .int (2 : Int32))]) (st' := [.int (2 : Int32)]) rfl ?_
  refine jv_Ev.br jx_i130 (pc' := 53) (st' := []) rfl (jv_bi_le.trans (jx_gof (by decide))) ?_
  refine jv_Ev.steps jx_i130 7 (pc' := 42) (l' := [(7, .int (4 : Int32)), (6, .int (2 : Int32)), (0, .ref o), (3, .int e)]) (st' := []) rfl ?_
  refine jv_Ev.loc (l := [(0, .ref o), (3, .int e), (6, .int (2 : Int32)), (7, .int (4 : Int32))]) ⟨by simp, by show List.Nodup [7, 6, 0, 3]; decide⟩ ?_
  refine jv_Ev.steps jx_i130 2 (pc' := 45) (l' := [(0, .ref o), (3, .int e), (6, .int (2 : Int32)), (7, .int (4 : Int32))]) (st' := [.int e, .int (4 : Int32)]) rfl ?_
  refine jv_Ev.br jx_i130 (pc' := 48) (st' := []) rfl (jv_bc_gt.trans (jx_gof g4)) ?_
  refine jv_Ev.steps jx_i130 1 (pc' := 50) (l' := [(0, .ref o), (3, .int e), (6, .int (2 : Int32)), (7, .int (4 : Int32))]) (st' := [.int (4 : Int32)]) rfl ?_
  refine jv_Ev.br jx_i130 (pc' := 53) (st' := []) rfl (jv_bi_le.trans (jx_gof (by decide))) ?_
  refine jv_Ev.steps jx_i130 7 (pc' := 42) (l' := [(7, .int (8 : Int32)), (6, .int (4 : Int32)), (0, .ref o), (3, .int e)]) (st' := []) rfl ?_
  refine jv_Ev.loc (l := [(0, .ref o), (3, .int e), (6, .int (4 : Int32)), (7, .int (8 : Int32))]) ⟨by simp, by show List.Nodup [7, 6, 0, 3]; decide⟩ ?_
  refine jv_Ev.steps jx_i130 2 (pc' := 45) (l' := [(0, .ref o), (3, .int e), (6, .int (4 : Int32)), (7, .int (8 : Int32))]) (st' := [.int e, .int (8 : Int32)]) rfl ?_
  refine jv_Ev.br jx_i130 (pc' := 48) (st' := []) rfl (jv_bc_gt.trans (jx_gof g8)) ?_
  refine jv_Ev.steps jx_i130 1 (pc' := 50) (l' := [(0, .ref o), (3, .int e), (6, .int (4 : Int32)), (7, .int (8 : Int32))]) (st' := [.int (8 : Int32)]) rfl ?_
  refine jv_Ev.br jx_i130 (pc' := 53) (st' := []) rfl (jv_bi_le.trans (jx_gof (by decide))) ?_
  refine jv_Ev.steps jx_i130 7 (pc' := 42) (l' := [(7, .int (16 : Int32)), (6, .int (8 : Int32)), (0, .ref o), (3, .int e)]) (st' := []) rfl ?_
  refine jv_Ev.loc (l := [(0, .ref o), (3, .int e), (6, .int (8 : Int32)), (7, .int (16 : Int32))]) ⟨by simp, by show List.Nodup [7, 6, 0, 3]; decide⟩ ?_
  refine jv_Ev.steps jx_i130 2 (pc' := 45) (l' := [(0, .ref o), (3, .int e), (6, .int (8 : Int32)), (7, .int (16 : Int32))]) (st' := [.int e, .int (16 : Int32)]) rfl ?_
  refine jv_Ev.br jx_i130 (pc' := 48) (st' := []) rfl (jv_bc_gt.trans (jx_gof g16)) ?_
  refine jv_Ev.steps jx_i130 1 (pc' := 50) (l' := [(0, .ref o), (3, .int e), (6, .int (8 : Int32)), (7, .int (16 : Int32))]) (st' := [.int (16 : Int32)]) rfl ?_
  refine jv_Ev.br jx_i130 (pc' := 53) (st' := []) rfl (jv_bi_le.trans (jx_gof (by decide))) ?_
  refine jv_Ev.steps jx_i130 7 (pc' := 42) (l' := [(7, .int (32 : Int32)), (6, .int (16 : Int32)), (0, .ref o), (3, .int e)]) (st' := []) rfl ?_
  refine jv_Ev.loc (l := [(0, .ref o), (3, .int e), (6, .int (16 : Int32)), (7, .int (32 : Int32))]) ⟨by simp, by show List.Nodup [7, 6, 0, 3]; decide⟩ ?_
  refine jv_Ev.steps jx_i130 2 (pc' := 45) (l' := [(0, .ref o), (3, .int e), (6, .int (16 : Int32)), (7, .int (32 : Int32))]) (st' := [.int e, .int (32 : Int32)]) rfl ?_
  refine jv_Ev.br jx_i130 (pc' := 48) (st' := []) rfl (jv_bc_gt.trans (jx_gof g32)) ?_
  refine jv_Ev.steps jx_i130 1 (pc' := 50) (l' := [(0, .ref o), (3, .int e), (6, .int (16 : Int32)), (7, .int (32 : Int32))]) (st' := [.int (32 : Int32)]) rfl ?_
  refine jv_Ev.br jx_i130 (pc' := 53) (st' := []) rfl (jv_bi_le.trans (jx_gof (by decide))) ?_
  refine jv_Ev.steps jx_i130 7 (pc' := 42) (l' := [(7, .int (64 : Int32)), (6, .int (32 : Int32)), (0, .ref o), (3, .int e)]) (st' := []) rfl ?_
  refine jv_Ev.loc (l := [(0, .ref o), (3, .int e), (6, .int (32 : Int32)), (7, .int (64 : Int32))]) ⟨by simp, by show List.Nodup [7, 6, 0, 3]; decide⟩ ?_
  refine jv_Ev.steps jx_i130 2 (pc' := 45) (l' := [(0, .ref o), (3, .int e), (6, .int (32 : Int32)), (7, .int (64 : Int32))]) (st' := [.int e, .int (64 : Int32)]) rfl ?_
  refine jv_Ev.br jx_i130 (pc' := 48) (st' := []) rfl (jv_bc_gt.trans (jx_gof g64)) ?_
  refine jv_Ev.steps jx_i130 1 (pc' := 50) (l' := [(0, .ref o), (3, .int e), (6, .int (32 : Int32)), (7, .int (64 : Int32))]) (st' := [.int (64 : Int32)]) rfl ?_
  refine jv_Ev.br jx_i130 (pc' := 53) (st' := []) rfl (jv_bi_le.trans (jx_gof (by decide))) ?_
  refine jv_Ev.steps jx_i130 7 (pc' := 42) (l' := [(7, .int (128 : Int32)), (6, .int (64 : Int32)), (0, .ref o), (3, .int e)]) (st' := []) rfl ?_
  refine jv_Ev.loc (l := [(0, .ref o), (3, .int e), (6, .int (64 : Int32)), (7, .int (128 : Int32))]) ⟨by simp, by show List.Nodup [7, 6, 0, 3]; decide⟩ ?_
  refine jv_Ev.steps jx_i130 2 (pc' := 45) (l' := [(0, .ref o), (3, .int e), (6, .int (64 : Int32)), (7, .int (128 : Int32))]) (st' := [.int e, .int (128 : Int32)]) rfl ?_
  refine jv_Ev.br jx_i130 (pc' := 48) (st' := []) rfl (jv_bc_gt.trans (jx_gof g128)) ?_
  refine jv_Ev.steps jx_i130 1 (pc' := 50) (l' := [(0, .ref o), (3, .int e), (6, .int (64 : Int32)), (7, .int (128 : Int32))]) (st' := [.int (128 : Int32)]) rfl ?_
  refine jv_Ev.br jx_i130 (pc' := 53) (st' := []) rfl (jv_bi_le.trans (jx_gof (by decide))) ?_
  refine jv_Ev.steps jx_i130 7 (pc' := 42) (l' := [(7, .int (256 : Int32)), (6, .int (128 : Int32)), (0, .ref o), (3, .int e)]) (st' := []) rfl ?_
  refine jv_Ev.loc (l := [(0, .ref o), (3, .int e), (6, .int (128 : Int32)), (7, .int (256 : Int32))]) ⟨by simp, by show List.Nodup [7, 6, 0, 3]; decide⟩ ?_
  refine jv_Ev.steps jx_i130 2 (pc' := 45) (l' := [(0, .ref o), (3, .int e), (6, .int (128 : Int32)), (7, .int (256 : Int32))]) (st' := [.int e, .int (256 : Int32)]) rfl ?_
  refine jv_Ev.br jx_i130 (pc' := 48) (st' := []) rfl (jv_bc_gt.trans (jx_gof g256)) ?_
  refine jv_Ev.steps jx_i130 1 (pc' := 50) (l' := [(0, .ref o), (3, .int e), (6, .int (128 : Int32)), (7, .int (256 : Int32))]) (st' := [.int (256 : Int32)]) rfl ?_
  refine jv_Ev.br jx_i130 (pc' := 53) (st' := []) rfl (jv_bi_le.trans (jx_gof (by decide))) ?_
  refine jv_Ev.steps jx_i130 7 (pc' := 42) (l' := [(7, .int (512 : Int32)), (6, .int (256 : Int32)), (0, .ref o), (3, .int e)]) (st' := []) rfl ?_
  refine jv_Ev.loc (l := [(0, .ref o), (3, .int e), (6, .int (256 : Int32)), (7, .int (512 : Int32))]) ⟨by simp, by show List.Nodup [7, 6, 0, 3]; decide⟩ ?_
  refine jv_Ev.steps jx_i130 2 (pc' := 45) (l' := [(0, .ref o), (3, .int e), (6, .int (256 : Int32)), (7, .int (512 : Int32))]) (st' := [.int e, .int (512 : Int32)]) rfl ?_
  refine jv_Ev.br jx_i130 (pc' := 48) (st' := []) rfl (jv_bc_gt.trans (jx_gof g512)) ?_
  refine jv_Ev.steps jx_i130 1 (pc' := 50) (l' := [(0, .ref o), (3, .int e), (6, .int (256 : Int32)), (7, .int (512 : Int32))]) (st' := [.int (512 : Int32)]) rfl ?_
  refine jv_Ev.br jx_i130 (pc' := 53) (st' := []) rfl (jv_bi_le.trans (jx_gof (by decide))) ?_
  refine jv_Ev.steps jx_i130 7 (pc' := 42) (l' := [(7, .int (1024 : Int32)), (6, .int (512 : Int32)), (0, .ref o), (3, .int e)]) (st' := []) rfl ?_
  refine jv_Ev.loc (l := [(0, .ref o), (3, .int e), (6, .int (512 : Int32)), (7, .int (1024 : Int32))]) ⟨by simp, by show List.Nodup [7, 6, 0, 3]; decide⟩ ?_
  refine jv_Ev.steps jx_i130 2 (pc' := 45) (l' := [(0, .ref o), (3, .int e), (6, .int (512 : Int32)), (7, .int (1024 : Int32))]) (st' := [.int e, .int (1024 : Int32)]) rfl ?_
  refine jv_Ev.br jx_i130 (pc' := 48) (st' := []) rfl (jv_bc_gt.trans (jx_gof g1024)) ?_
  refine jv_Ev.steps jx_i130 1 (pc' := 50) (l' := [(0, .ref o), (3, .int e), (6, .int (512 : Int32)), (7, .int (1024 : Int32))]) (st' := [.int (1024 : Int32)]) rfl ?_
  refine jv_Ev.br jx_i130 (pc' := 53) (st' := []) rfl (jv_bi_le.trans (jx_gof (by decide))) ?_
  refine jv_Ev.steps jx_i130 7 (pc' := 42) (l' := [(7, .int (2048 : Int32)), (6, .int (1024 : Int32)), (0, .ref o), (3, .int e)]) (st' := []) rfl ?_
  refine jv_Ev.loc (l := [(0, .ref o), (3, .int e), (6, .int (1024 : Int32)), (7, .int (2048 : Int32))]) ⟨by simp, by show List.Nodup [7, 6, 0, 3]; decide⟩ ?_
  refine jv_Ev.steps jx_i130 2 (pc' := 45) (l' := [(0, .ref o), (3, .int e), (6, .int (1024 : Int32)), (7, .int (2048 : Int32))]) (st' := [.int e, .int (2048 : Int32)]) rfl ?_
  refine jv_Ev.br jx_i130 (pc' := 48) (st' := []) rfl (jv_bc_gt.trans (jx_gof g2048)) ?_
  refine jv_Ev.steps jx_i130 1 (pc' := 50) (l' := [(0, .ref o), (3, .int e), (6, .int (1024 : Int32)), (7, .int (2048 : Int32))]) (st' := [.int (2048 : Int32)]) rfl ?_
  refine jv_Ev.br jx_i130 (pc' := 53) (st' := []) rfl (jv_bi_le.trans (jx_gof (by decide))) ?_
  refine jv_Ev.steps jx_i130 7 (pc' := 42) (l' := [(7, .int (4096 : Int32)), (6, .int (2048 : Int32)), (0, .ref o), (3, .int e)]) (st' := []) rfl ?_
  refine jv_Ev.loc (l := [(0, .ref o), (3, .int e), (6, .int (2048 : Int32)), (7, .int (4096 : Int32))]) ⟨by simp, by show List.Nodup [7, 6, 0, 3]; decide⟩ ?_
  refine jv_Ev.steps jx_i130 2 (pc' := 45) (l' := [(0, .ref o), (3, .int e), (6, .int (2048 : Int32)), (7, .int (4096 : Int32))]) (st' := [.int e, .int (4096 : Int32)]) rfl ?_
  refine jv_Ev.br jx_i130 (pc' := 48) (st' := []) rfl (jv_bc_gt.trans (jx_gof g4096)) ?_
  refine jv_Ev.steps jx_i130 1 (pc' := 50) (l' := [(0, .ref o), (3, .int e), (6, .int (2048 : Int32)), (7, .int (4096 : Int32))]) (st' := [.int (4096 : Int32)]) rfl ?_
  refine jv_Ev.br jx_i130 (pc' := 53) (st' := []) rfl (jv_bi_le.trans (jx_gof (by decide))) ?_
  refine jv_Ev.steps jx_i130 7 (pc' := 42) (l' := [(7, .int (8192 : Int32)), (6, .int (4096 : Int32)), (0, .ref o), (3, .int e)]) (st' := []) rfl ?_
  refine jv_Ev.loc (l := [(0, .ref o), (3, .int e), (6, .int (4096 : Int32)), (7, .int (8192 : Int32))]) ⟨by simp, by show List.Nodup [7, 6, 0, 3]; decide⟩ ?_
  refine jv_Ev.steps jx_i130 2 (pc' := 45) (l' := [(0, .ref o), (3, .int e), (6, .int (4096 : Int32)), (7, .int (8192 : Int32))]) (st' := [.int e, .int (8192 : Int32)]) rfl ?_
  refine jv_Ev.br jx_i130 (pc' := 66) (st' := []) rfl (jv_bc_gt.trans (jx_got (Int32.lt_of_le_of_lt (Int32.not_lt.mp h2) (by decide)))) ?_
  exact jv_Ev.loc (l := [(0, .ref o), (3, .int e), (6, .int (4096 : Int32))]) ⟨by simp, by show List.Nodup [0, 3, 6, 7]; decide⟩ K
noncomputable def jx_chn (e : Int32) : Int32 := Classical.epsilon (jx_chP e)
theorem jx_chn_ok (e : Int32) (h1 : ¬ e < 1) (h2 : ¬ 4096 < e) : jx_chP e (jx_chn e) := Classical.epsilon_spec (jx_chn_ex e h1 h2)
theorem jx_chn_b (e : Int32) (h1 : ¬ e < 1) (h2 : ¬ 4096 < e) : 0 ≤ (jx_chn e).toInt ∧ (jx_chn e).toInt ≤ 1000000 := by
  have := (jx_chn_ok e h1 h2).1
  omega
theorem jx_newarr {t : ArrayType} {a n : Nat} {x : Int32} {r : List Value} (h : 0 ≤ x.toInt ∧ x.toInt ≤ 1000000) : jv_new (.newarray t) a (.int x :: r) n = some (.ref n :: r, (100 + jv_atk t, x.toNatClampNeg, fun _ => defaultValue (newarray.typeOf t)), x.toNatClampNeg) := by
  simp only [jv_new, if_pos h]
theorem jx_lenb {x : Int32} (h : 0 ≤ x.toInt ∧ x.toInt ≤ 1000000) : x.toNatClampNeg ≤ 1000000 := by
  have e : x.toNatClampNeg = x.toInt.toNat := rfl
  omega
theorem jx_len1 {e : Int32} (h1 : ¬ e < 1) (h2 : ¬ 4096 < e) : 0 ≤ (if (0 : Int32) < e then e else 0).toInt ∧ (if (0 : Int32) < e then e else 0).toInt ≤ 1000000 := by
  obtain ⟨k, hk, rfl⟩ := nI_of2 (M := 4096) (n := 4096) rfl (fun h => h1 (Int32.lt_of_lt_of_le h (by decide))) (Int32.not_lt.mp h2)
  split
  · rw [nI_toInt (by omega)]; omega
  · decide
theorem jx_len2 {a e : Int32} (g1 : ¬ a < 1) (g2 : ¬ 32 < a) (h1 : ¬ e < 1) (h2 : ¬ 4096 < e) : 0 ≤ (if (0 : Int32) < a * e then a * e else 0).toInt ∧ (if (0 : Int32) < a * e then a * e else 0).toInt ≤ 1000000 := by
  obtain ⟨k, hk, rfl⟩ := nI_of2 (M := 4096) (n := 4096) rfl (fun h => h1 (Int32.lt_of_lt_of_le h (by decide))) (Int32.not_lt.mp h2)
  obtain ⟨q, hq, rfl⟩ := nI_of2 (M := 32) (n := 32) rfl (fun h => g1 (Int32.lt_of_lt_of_le h (by decide))) (Int32.not_lt.mp g2)
  have hb : q * k ≤ 32 * 4096 := Nat.mul_le_mul hq hk
  rw [pk_mul]
  split
  · rw [nI_toInt (by omega)]; omega
  · decide
def jx_dlP (K : Nat → Option (Nat × Nat)) (L : Nat → Nat → Int64) (R : Nat → Nat → Value) (mp : Nat) (v e k : Int32) (I J : Nat → Nat → Int32) : Prop := (∀ q i, q ≠ 8 → q ≠ 9 → J q i = I q i) ∧ ∀ (n sl : Nat) (X : jv_R), jv_Ev 125 162 [(0, .ref 2), (3, .int v), (4, .int e), (5, .ref mp)] [] (jv_H K J L R) n sl X → jv_Ev 125 81 [(0, .ref 2), (1, .int k), (3, .int v), (4, .int e), (5, .ref mp), (6, .int (0 : Int32))] [] (jv_H K I L R) n sl X
theorem jx_dl {K : Nat → Option (Nat × Nat)} {L : Nat → Nat → Int64} {R : Nat → Nat → Value} {mp kd len : Nat} {v e k : Int32} (hKm : K mp = some (kd, len)) (hs5 : (jv_sub 0 kd && Nat.blt 5 len) = true) (hs6 : (jv_sub 0 kd && Nat.blt 6 len) = true) (hv5 : jv_vk kd 5 = 0) (hv6 : jv_vk kd 6 = 0) (hcal : ∀ (I : Nat → Nat → Int32) (x : Int32), jv_callee jv_Tb 5 98 [.ref mp, .int x] (jv_H K I L R) = some 11) (hm8 : mp ≠ 8 ∧ mp ≠ 9)
    (hK2 : K 2 = some (6, 11)) (hR9 : R 2 9 = .ref 8) (hR10 : R 2 10 = .ref 9) (hK8 : K 8 = some (101, 8192)) (hK9 : K 9 = some (102, 8192)) (hk2 : ¬ k = 2) (v1 : ¬ v < 1) (v2 : ¬ 256 < v) (e1 : ¬ e < 1) (e2 : ¬ 4096 < e) (hb : ¬ 65536 < e * ((v + (7 : Int32)) &&& (-8 : Int32))) (I : Nat → Nat → Int32) (h5 : I mp 5 = 0) (h6 : I mp 6 = ((v + (7 : Int32)) &&& (-8 : Int32))) : ∃ J, jx_dlP K L R mp v e k I J := by
  obtain ⟨E, hE, rfl⟩ := nI_of2 (M := 4096) (n := 4096) rfl (fun h => e1 (Int32.lt_of_lt_of_le h (by decide))) (Int32.not_lt.mp e2)
  obtain ⟨V, hV, rfl⟩ := nI_of2 (M := 256) (n := 256) rfl (fun h => v1 (Int32.lt_of_lt_of_le h (by decide))) (Int32.not_lt.mp v2)
  have hf : (nI V + (7 : Int32)) &&& (-8 : Int32) = nI ((V + 7) / 8 * 8) := by
    rw [← jx_fl_ok (nI V) v1 v2]
    show (nI V + nI 7) / nI 8 * nI 8 = _
    rw [nI_add, pk_div (by omega) (by omega) (by omega), pk_mul]
  rw [hf] at hb h6
  have hm : E * ((V + 7) / 8 * 8) ≤ 4096 * 264 := Nat.mul_le_mul hE (by omega)
  have hES : E * ((V + 7) / 8 * 8) ≤ 65536 := by
    rw [pk_mul] at hb
    have := Int32.not_lt.mp hb
    exact (nI_leI (a := E * ((V + 7) / 8 * 8)) (b := 65536) (by omega) (by omega)).mp this
  obtain ⟨J, h1, h2⟩ := jx_dl0 hKm hs5 hs6 hv5 hv6 hcal hm8 hK2 hR9 hR10 hK8 hK9 hk2 (V := V) (E := E) (S := (V + 7) / 8 * 8) hV (by omega) hE hES I h5 h6 0
  exact ⟨J, h1, h2⟩
