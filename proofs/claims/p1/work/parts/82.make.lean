/-! part 82: the loops of making a map -/
theorem jx_bound {I J : Nat → Nat → Int32} {o j : Nat} {x : Int32} (hJ : ∀ q i, q ≠ 8 → q ≠ 9 → J q i = I q i) (ho : o ≠ 8 ∧ o ≠ 9) : ∀ q i, q ≠ 8 → q ≠ 9 → J q i = I q i := hJ
theorem jx_ku {I J : Nat → Nat → Int32} {o j : Nat} {x : Int32} (hJ : ∀ q i, q ≠ 8 → q ≠ 9 → J q i = I q i) (ho : o = 8 ∨ o = 9) : ∀ q i, q ≠ 8 → q ≠ 9 → jv_u J o j x q i = I q i := fun q i h1 h2 => by
  rw [jv_u_o _ _ _ _ (by rcases ho with h | h <;> omega)]
  exact hJ q i h1 h2
theorem jx_i11 : jv_I 11 2 (some .int) 0 0 jv_c11 := ⟨rfl, rfl, rfl, rfl, rfl⟩
theorem jx_i125 : jv_I 125 9 (some .int) 3 73 jv_c125 := ⟨rfl, rfl, rfl, rfl, rfl⟩
section DL
variable {K : Nat → Option (Nat × Nat)} {L : Nat → Nat → Int64} {R : Nat → Nat → Value}
theorem jx_where {I : Nat → Nat → Int32} {mp kd len : Nat} (hK : K mp = some (kd, len)) (hs5 : (jv_sub 0 kd && Nat.blt 5 len) = true) (hs6 : (jv_sub 0 kd && Nat.blt 6 len) = true) (hv5 : jv_vk kd 5 = 0) (hv6 : jv_vk kd 6 = 0) {st : Int32} (h5 : I mp 5 = 0) (h6 : I mp 6 = st) (x : Int32) (n sl : Nat) : jv_Ms 11 [.ref mp, .int x] (jv_H K I L R) n sl (some (.int (0 + x * st)), jv_H K I L R, n, sl) := by
  show jv_Ev 11 0 [(0, .ref mp), (1, .int x)] [] (jv_H K I L R) n sl _
  refine jv_Ev.steps jx_i11 1 (pc' := 1) (l' := [(0, .ref mp), (1, .int x)]) (st' := [.ref mp]) rfl ?_
  refine jv_Ev.m jx_i11 (pc' := 4) (st' := [.int 0]) rfl rfl (jv_m_getI hK hs5 hv5 h5) ?_
  refine jv_Ev.steps jx_i11 2 (pc' := 6) (l' := [(0, .ref mp), (1, .int x)]) (st' := [.ref mp, .int x, .int 0]) rfl ?_
  refine jv_Ev.m jx_i11 (pc' := 9) (st' := [.int st, .int x, .int 0]) rfl rfl (jv_m_getI hK hs6 hv6 h6) ?_
  refine jv_Ev.steps jx_i11 2 (pc' := 11) (l' := [(0, .ref mp), (1, .int x)]) (st' := [.int (0 + x * st)]) rfl ?_
  exact jv_Ev.ret jx_i11 rfl rfl
/-- the grains of a map's values are told -/
theorem jx_dl {mp kd len V E S : Nat} {kk : Int32} (hKm : K mp = some (kd, len)) (hs5 : (jv_sub 0 kd && Nat.blt 5 len) = true) (hs6 : (jv_sub 0 kd && Nat.blt 6 len) = true) (hv5 : jv_vk kd 5 = 0) (hv6 : jv_vk kd 6 = 0) (hcal : ∀ (I : Nat → Nat → Int32) (x : Int32), jv_callee jv_Tb 5 98 [.ref mp, .int x] (jv_H K I L R) = some 11) (hm8 : mp ≠ 8 ∧ mp ≠ 9)
    (hK2 : K 2 = some (6, 11)) (hR9 : R 2 9 = .ref 8) (hR10 : R 2 10 = .ref 9) (hK8 : K 8 = some (101, 8192)) (hK9 : K 9 = some (102, 8192)) (hk2 : ¬ kk = 2) (hV : V ≤ 256) (hVS : V ≤ S) (hE : E ≤ 4096) (hES : E * S ≤ 65536) (I : Nat → Nat → Int32) (h5 : I mp 5 = 0) (h6 : I mp 6 = nI S) (key : Int32) :
    ∃ I9 : Nat → Nat → Int32, (∀ q i, q ≠ 8 → q ≠ 9 → I9 q i = I q i) ∧ ∀ (n sl : Nat) (X : jv_R), jv_Ev 125 162 [(0, .ref 2), (3, .int (nI V)), (4, .int (nI E)), (5, .ref mp)] [] (jv_H K I9 L R) n sl X → jv_Ev 125 81 [(0, .ref 2), (1, .int kk), (3, .int (nI V)), (4, .int (nI E)), (5, .ref mp), (6, .int (nI 0))] [] (jv_H K I L R) n sl X := by
  -- inner
  have inner : ∀ d i k, k + d = V + 8 → i < E → ∀ J : Nat → Nat → Int32, (∀ q j, q ≠ 8 → q ≠ 9 → J q j = I q j) → ∃ J9 : Nat → Nat → Int32, (∀ q j, q ≠ 8 → q ≠ 9 → J9 q j = I q j) ∧ ∀ (n sl : Nat) (X : jv_R), jv_Ev 125 156 [(0, .ref 2), (1, .int kk), (3, .int (nI V)), (4, .int (nI E)), (5, .ref mp), (6, .int (nI i))] [] (jv_H K J9 L R) n sl X → jv_Ev 125 96 [(0, .ref 2), (1, .int kk), (3, .int (nI V)), (4, .int (nI E)), (5, .ref mp), (6, .int (nI i)), (7, .int (nI k))] [] (jv_H K J L R) n sl X := by
    intro d
    induction d using Nat.strongRecOn with
    | _ d ih =>
      intro i k hkd hi J hJ
      by_cases hkV : k < V
      · obtain ⟨J9, hJ9, hgo⟩ := ih (d - 8) (by omega) i (k + 8) (by omega) hi (jv_u (jv_u J 8 ((i * S + k) / 8) ((if nI V - nI k < 8 then nI V - nI k else 8).toInt8.toInt32.toInt8.toInt32)) 9 ((i * S + k) / 8) (if kk = 0 then -1 else 0)) (jx_ku (jx_ku hJ (Or.inl rfl)) (Or.inr rfl))
        refine ⟨J9, hJ9, fun n sl X hX => ?_⟩
        have hX := hgo n sl X hX
        have hlt : (i * S + k) / 8 < 8192 := by
          have h1 : (i + 1) * S ≤ E * S := Nat.mul_le_mul_right S hi
          have h2 : (i + 1) * S = i * S + S := Nat.succ_mul i S
          omega
        have hb : i * S + k < 65536 := by
          have h1 : (i + 1) * S ≤ E * S := Nat.mul_le_mul_right S hi
          have h2 : (i + 1) * S = i * S + S := Nat.succ_mul i S
          omega
        have eg : (0 + nI i * nI S + nI k) / 8 = nI ((i * S + k) / 8) := by
          rw [pk_mul, Int32.zero_add, nI_add]
          exact pk_div (d := 8) (by omega) (by omega) (by omega)
        refine jv_Ev.steps jx_i125 2 (pc' := 99) (l' := [(0, .ref 2), (1, .int kk), (3, .int (nI V)), (4, .int (nI E)), (5, .ref mp), (6, .int (nI i)), (7, .int (nI k))]) (st' := [.int (nI V), .int (nI k)]) rfl ?_
        refine jv_Ev.br jx_i125 (pc' := 102) (st' := []) rfl (jv_bc_ge.trans (jx_gof (nI_ge hkV (by omega)))) ?_
        refine jv_Ev.steps jx_i125 2 (pc' := 106) (l' := [(0, .ref 2), (1, .int kk), (3, .int (nI V)), (4, .int (nI E)), (5, .ref mp), (6, .int (nI i)), (7, .int (nI k))]) (st' := [.int (nI i), .ref mp]) rfl ?_
        refine jv_Ev.c jx_i125 (pc' := 109) (S' := [.int (0 + nI i * nI S)]) jx_i11 [.ref mp, .int (nI i)] rfl rfl rfl rfl (hcal J (nI i)) rfl (jx_where hKm hs5 hs6 hv5 hv6 ((hJ mp 5 hm8.1 hm8.2).trans h5) ((hJ mp 6 hm8.1 hm8.2).trans h6) (nI i) n sl) rfl rfl ?_
        refine jv_Ev.steps jx_i125 3 (pc' := 114) (l' := [(0, .ref 2), (1, .int kk), (3, .int (nI V)), (4, .int (nI E)), (5, .ref mp), (6, .int (nI i)), (7, .int (nI k))]) (st' := [.int 8, .int (0 + nI i * nI S + nI k)]) rfl ?_
        refine jv_Ev.op jx_i125 (pc' := 115) (l' := [(0, .ref 2), (1, .int kk), (3, .int (nI V)), (4, .int (nI E)), (5, .ref mp), (6, .int (nI i)), (7, .int (nI k))]) (st' := [.int ((0 + nI i * nI S + nI k) / 8)]) rfl (jv_op_idiv (by decide)) ?_
        rw [eg]
        refine jv_Ev.steps jx_i125 2 (pc' := 118) (l' := [(8, .int (nI ((i * S + k) / 8))), (0, .ref 2), (1, .int kk), (3, .int (nI V)), (4, .int (nI E)), (5, .ref mp), (6, .int (nI i)), (7, .int (nI k))]) (st' := [.ref 2]) rfl ?_
        refine jv_Ev.m jx_i125 (pc' := 121) (st' := [.ref 8]) rfl rfl (jv_m_getR hK2 rfl rfl hR9) ?_
        refine jv_Ev.steps jx_i125 7 (pc' := 133) (l' := [(8, .int (nI ((i * S + k) / 8))), (0, .ref 2), (1, .int kk), (3, .int (nI V)), (4, .int (nI E)), (5, .ref mp), (6, .int (nI i)), (7, .int (nI k))]) (st' := [.int (if nI V - nI k < 8 then nI V - nI k else 8).toInt8.toInt32, .int (nI ((i * S + k) / 8)), .ref 8]) rfl ?_
        refine jv_Ev.m jx_i125 (pc' := 134) (st' := []) (G' := jv_H K (jv_u J 8 ((i * S + k) / 8) ((if nI V - nI k < 8 then nI V - nI k else 8).toInt8.toInt32.toInt8.toInt32)) L R) rfl rfl (by rw [jv_m_bast hK8 (jx_ix hlt (by omega)), show (nI ((i * S + k) / 8)).toNatClampNeg = (i * S + k) / 8 from nI_clamp (by omega)]) ?_
        refine jv_Ev.steps jx_i125 1 (pc' := 135) (l' := [(8, .int (nI ((i * S + k) / 8))), (0, .ref 2), (1, .int kk), (3, .int (nI V)), (4, .int (nI E)), (5, .ref mp), (6, .int (nI i)), (7, .int (nI k))]) (st' := [.ref 2]) rfl ?_
        refine jv_Ev.m jx_i125 (pc' := 138) (st' := [.ref 9]) rfl rfl (jv_m_getR hK2 rfl rfl hR10) ?_
        refine jv_Ev.steps jx_i125 2 (pc' := 141) (l' := [(8, .int (nI ((i * S + k) / 8))), (0, .ref 2), (1, .int kk), (3, .int (nI V)), (4, .int (nI E)), (5, .ref mp), (6, .int (nI i)), (7, .int (nI k))]) (st' := [.int kk, .int (nI ((i * S + k) / 8)), .ref 9]) rfl ?_
        have tail : jv_Ev 125 149 [(8, .int (nI ((i * S + k) / 8))), (0, .ref 2), (1, .int kk), (3, .int (nI V)), (4, .int (nI E)), (5, .ref mp), (6, .int (nI i)), (7, .int (nI k))] [.int (if kk = 0 then -1 else 0), .int (nI ((i * S + k) / 8)), .ref 9] (jv_H K (jv_u J 8 ((i * S + k) / 8) ((if nI V - nI k < 8 then nI V - nI k else 8).toInt8.toInt32.toInt8.toInt32)) L R) n sl X := by
          refine jv_Ev.m jx_i125 (pc' := 150) (st' := []) (G' := jv_H K (jv_u (jv_u J 8 ((i * S + k) / 8) ((if nI V - nI k < 8 then nI V - nI k else 8).toInt8.toInt32.toInt8.toInt32)) 9 ((i * S + k) / 8) (if kk = 0 then -1 else 0)) L R) rfl rfl (by rw [jv_m_iast hK9 (jx_ix hlt (by omega)), show (nI ((i * S + k) / 8)).toNatClampNeg = (i * S + k) / 8 from nI_clamp (by omega)]) ?_
          refine jv_Ev.steps jx_i125 2 (pc' := 96) (l' := [(7, .int (nI k + Int32.ofInt 8)), (8, .int (nI ((i * S + k) / 8))), (0, .ref 2), (1, .int kk), (3, .int (nI V)), (4, .int (nI E)), (5, .ref mp), (6, .int (nI i))]) (st' := []) rfl ?_
          have e1 : nI k + Int32.ofInt 8 = nI (k + 8) := nI_add k 8
          rw [e1]
          refine jv_Ev.loc (l := [(0, .ref 2), (1, .int kk), (3, .int (nI V)), (4, .int (nI E)), (5, .ref mp), (6, .int (nI i)), (7, .int (nI (k + 8)))]) ⟨?_, by show List.Nodup [7, 8, 0, 1, 3, 4, 5, 6]; decide⟩ hX
          simp
        by_cases hk0 : kk = 0
        · rw [if_pos hk0] at tail
          refine jv_Ev.br jx_i125 (pc' := 144) (st' := [.int (nI ((i * S + k) / 8)), .ref 9]) rfl (jv_bi_ne.trans (jx_gof (fun h => h hk0))) ?_
          refine jv_Ev.steps jx_i125 2 (pc' := 149) (l' := [(8, .int (nI ((i * S + k) / 8))), (0, .ref 2), (1, .int kk), (3, .int (nI V)), (4, .int (nI E)), (5, .ref mp), (6, .int (nI i)), (7, .int (nI k))]) (st' := [.int (-1), .int (nI ((i * S + k) / 8)), .ref 9]) rfl tail
        · rw [if_neg hk0] at tail
          refine jv_Ev.br jx_i125 (pc' := 148) (st' := [.int (nI ((i * S + k) / 8)), .ref 9]) rfl (jv_bi_ne.trans (jx_got hk0)) ?_
          refine jv_Ev.steps jx_i125 1 (pc' := 149) (l' := [(8, .int (nI ((i * S + k) / 8))), (0, .ref 2), (1, .int kk), (3, .int (nI V)), (4, .int (nI E)), (5, .ref mp), (6, .int (nI i)), (7, .int (nI k))]) (st' := [.int 0, .int (nI ((i * S + k) / 8)), .ref 9]) rfl tail
      · refine ⟨J, hJ, fun n sl X hX => ?_⟩
        refine jv_Ev.steps jx_i125 2 (pc' := 99) (l' := [(0, .ref 2), (1, .int kk), (3, .int (nI V)), (4, .int (nI E)), (5, .ref mp), (6, .int (nI i)), (7, .int (nI k))]) (st' := [.int (nI V), .int (nI k)]) rfl ?_
        refine jv_Ev.br jx_i125 (pc' := 156) (st' := []) rfl (jv_bc_ge.trans (jx_got (nI_le (Nat.not_lt.mp hkV) (by omega)))) ?_
        exact jv_Ev.loc (l := [(0, .ref 2), (1, .int kk), (3, .int (nI V)), (4, .int (nI E)), (5, .ref mp), (6, .int (nI i))]) ⟨by simp, by show List.Nodup [0, 1, 3, 4, 5, 6, 7]; decide⟩ hX
  have outer : ∀ d i, i + d = E → ∀ J : Nat → Nat → Int32, (∀ q j, q ≠ 8 → q ≠ 9 → J q j = I q j) → ∃ J9 : Nat → Nat → Int32, (∀ q j, q ≠ 8 → q ≠ 9 → J9 q j = I q j) ∧ ∀ (n sl : Nat) (X : jv_R), jv_Ev 125 162 [(0, .ref 2), (3, .int (nI V)), (4, .int (nI E)), (5, .ref mp)] [] (jv_H K J9 L R) n sl X → jv_Ev 125 81 [(0, .ref 2), (1, .int kk), (3, .int (nI V)), (4, .int (nI E)), (5, .ref mp), (6, .int (nI i))] [] (jv_H K J L R) n sl X := by
    intro d
    induction d with
    | zero =>
      intro i hi J hJ
      refine ⟨J, hJ, fun n sl X hX => ?_⟩
      have hi : i = E := by omega
      subst hi
      refine jv_Ev.steps jx_i125 2 (pc' := 85) (l' := [(0, .ref 2), (1, .int kk), (3, .int (nI V)), (4, .int (nI i)), (5, .ref mp), (6, .int (nI i))]) (st' := [.int (nI i), .int (nI i)]) rfl ?_
      refine jv_Ev.br jx_i125 (pc' := 162) (st' := []) rfl (jv_bc_ge.trans (jx_got (nI_le (Nat.le_refl _) (by omega)))) ?_
      exact jv_Ev.loc (l := [(0, .ref 2), (3, .int (nI V)), (4, .int (nI i)), (5, .ref mp)]) ⟨by simp, by show List.Nodup [0, 1, 3, 4, 5, 6]; decide⟩ hX
    | succ d ih =>
      intro i hi J hJ
      obtain ⟨J1, hJ1, hgo1⟩ := inner (V + 8) i 0 (by omega) (by omega) J hJ
      obtain ⟨J2, hJ2, hgo2⟩ := ih (i + 1) (by omega) J1 hJ1
      refine ⟨J2, hJ2, fun n sl X hX => ?_⟩
      refine jv_Ev.steps jx_i125 2 (pc' := 85) (l' := [(0, .ref 2), (1, .int kk), (3, .int (nI V)), (4, .int (nI E)), (5, .ref mp), (6, .int (nI i))]) (st' := [.int (nI E), .int (nI i)]) rfl ?_
      refine jv_Ev.br jx_i125 (pc' := 88) (st' := []) rfl (jv_bc_ge.trans (jx_gof (nI_ge (show i < E by omega) (by omega)))) ?_
      refine jv_Ev.steps jx_i125 2 (pc' := 90) (l' := [(0, .ref 2), (1, .int kk), (3, .int (nI V)), (4, .int (nI E)), (5, .ref mp), (6, .int (nI i))]) (st' := [.int 2, .int kk]) rfl ?_
      refine jv_Ev.br jx_i125 (pc' := 93) (st' := []) rfl (jv_bc_eq.trans (jx_gof hk2)) ?_
      refine jv_Ev.steps jx_i125 2 (pc' := 96) (l' := [(7, .int (nI 0)), (0, .ref 2), (1, .int kk), (3, .int (nI V)), (4, .int (nI E)), (5, .ref mp), (6, .int (nI i))]) (st' := []) rfl ?_
      refine jv_Ev.loc (l := [(0, .ref 2), (1, .int kk), (3, .int (nI V)), (4, .int (nI E)), (5, .ref mp), (6, .int (nI i)), (7, .int (nI 0))]) ⟨by simp, by show List.Nodup [7, 0, 1, 3, 4, 5, 6]; decide⟩ ?_
      refine hgo1 n sl X ?_
      refine jv_Ev.steps jx_i125 2 (pc' := 81) (l' := [(6, .int (nI i + Int32.ofInt 1)), (0, .ref 2), (1, .int kk), (3, .int (nI V)), (4, .int (nI E)), (5, .ref mp)]) (st' := []) rfl ?_
      have e1 : nI i + Int32.ofInt 1 = nI (i + 1) := (nI_succ i).symm
      rw [e1]
      refine jv_Ev.loc (l := [(0, .ref 2), (1, .int kk), (3, .int (nI V)), (4, .int (nI E)), (5, .ref mp), (6, .int (nI (i + 1)))]) ⟨by simp, by show List.Nodup [6, 0, 1, 3, 4, 5]; decide⟩ ?_
      exact hgo2 n sl X hX
  exact outer E 0 (by omega) I (fun _ _ _ _ => rfl)
end DL
