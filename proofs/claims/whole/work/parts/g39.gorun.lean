/-! part g39: a run of the class's machine, from its beginning (a hand text: this part is the source) -/
/-- a state with which a run begins -/
def vm_bgn (SE : Int) (S : vm_S) : vm_S := vm_gv (vm_gv (S.1, fun c i => if c = 1 ∨ c = 3 ∨ c = 7 then 0 else S.2 c i) 1 1073745920) 10 (vm_i SE)
/-- what a run's end tells -/
def vm_end (v : Option Int64) : Int32 := match v with
  | none => 1
  | some _ => 0
/-- the cells that a run may change -/
def vk_Eg (mo : Nat → Nat) (q f : Nat) : Prop := vk_Ec mo q f ∨ vm_Ep q f ∨ (q = 171 ∧ 7 ≤ f)
theorem vm_pI {p : Nat} (h : p < 2147483648) : (vl_I p).toInt64 = Int64.ofInt (p : Int) := by
  rw [vm_J_I h]
  exact Int64.toBitVec_inj.mp (BitVec.ofInt_natCast 64 p).symm
section
variable {Z : Nat} {K : Nat → Option (Nat × Nat)} {I : Nat → Nat → Int32} {L : Nat → Nat → Int64} {R : Nat → Nat → Value} {S : vm_S} {mo : Nat → Nat}
theorem vk_all_gv (hC : vm_CW K R) (hA : vk_all Z K I L R S mo) {r : Nat} (hr : r < 11) (v : Int64) : ∃ I1 L1, (∀ n sl, jv_Ms 54 [.ref 171, .int (vl_I r), .long v] (jv_H K I L R) n sl (none, jv_H K I1 L1 R, n, sl)) ∧ vk_all Z K I1 L1 R (vm_gv S r v) mo ∧ (∀ q i, ¬ (q = 171 ∧ i = 2) → I1 q i = I q i) ∧ ∀ q i, q ≠ 172 → L1 q i = L q i := by
  have c1 := vc_m_gv (r := r) (v := v) hA.1 hr
  have oS : ∀ c i, c ≠ 1 → (vm_gv S r v).2 c i = S.2 c i := fun c i h => jv_u_o _ _ _ _ h
  have em : vm_em S (vm_gv S r v) := fun c i hc => oS c i (by omega)
  have o : ∀ q i, ¬ (q = 171 ∧ i = 2) → jv_u I 171 2 (I 171 2 ||| ((1 : Int32) <<< (vl_I r &&& 31))) q i = I q i := fun q i z => vk_ux z
  have oL : ∀ q i, q ≠ 172 → jv_u L 172 r v q i = L q i := fun q i z => jv_u_o _ _ _ _ z
  exact ⟨_, _, fun n sl => vm_cset hC (by omega), ⟨c1, vk_M_ext (o _ _ (by decide)) (fun q i z => o q i (by omega)) (fun q i z => oL q i (by omega)) em hA.2.1, vk_G_ext (vm_em_s em) (fun i => oS 7 i (by decide)) (fun i => o _ _ (by omega)) (fun i => o _ _ (by omega)) (o _ _ (by decide)) hA.2.2.1, vm_ok_em em hA.2.2.2⟩, o, oL⟩
/-- a run begins -/
theorem vc_beginM (hC : vm_CW K R) (hA : vk_all Z K I L R S mo) (hr : (I 171 7).toInt < 1073741824) : ∃ I3 L3, (∀ n sl, jv_Ms 51 [.ref 171] (jv_H K I L R) n sl (none, jv_H K I3 L3 R, n, sl)) ∧ vk_all Z K I3 L3 R (vm_bgn 1073750528 S) mo ∧ I3 171 8 = 0 ∧ (I3 171 7).toInt = (I 171 7).toInt + 1 ∧ (∀ q i, ¬ (q = 174 ∨ (q = 4 ∧ i < 16) ∨ (q = 171 ∧ (i = 2 ∨ i = 7 ∨ i = 8))) → I3 q i = I q i) ∧ ∀ q i, q ≠ 172 → L3 q i = L q i := by
  obtain ⟨run, g1, g2, g3, g4⟩ := id hA.2.2.1
  have hrn : run < 1073741824 := by rw [g1, vl_I_i (by omega)] at hr; omega
  obtain ⟨J, eJ⟩ : ∃ J, J = vm_wr (jv_u (jv_u (jv_u I 171 7 ((vl_I run) + (1 : Int32))) 171 8 (0 : Int32)) 171 2 (0 : Int32)) 174 0 512 (fun _ => ((0 : Int32) &&& 1)) := ⟨_, rfl⟩
  have oJ : ∀ q i, q ≠ 174 → ¬ (q = 171 ∧ (i = 2 ∨ i = 7 ∨ i = 8)) → J q i = I q i := fun q i y z => by
    rw [eJ, vm_wr_o (fun w => y w.1), vk_ux (by omega), vk_ux (by omega), vk_ux (by omega)]
  have j7 : J 171 7 = vl_I (run + 1) := by
    rw [eJ, vm_wr_o (fun w => absurd w.1 (by decide)), vk_ux (by omega), vk_ux (by omega), jv_u_self]; exact vl_I_add run 1
  have j8 : J 171 8 = 0 := by
    rw [eJ, vm_wr_o (fun w => absurd w.1 (by decide)), vk_ux (by omega), jv_u_self]
  have j2 : J 171 2 = 0 := by
    rw [eJ, vm_wr_o (fun w => absurd w.1 (by decide)), jv_u_self]
  have j174 : ∀ k, k < 512 → J 174 k = 0 := fun k hk => by
    rw [eJ]
    have y := vm_wr_i (I := jv_u (jv_u (jv_u I 171 7 ((vl_I run) + (1 : Int32))) 171 8 (0 : Int32)) 171 2 (0 : Int32)) (r := 174) (a := 0) (n := 512) (k := k) (f := fun _ => ((0 : Int32) &&& 1)) hk
    rw [Nat.zero_add] at y
    rw [y]; rfl
  obtain ⟨a1, a2, a3, a4, a5, a6, a7, a8, a9⟩ := hA.1
  obtain ⟨I1, t1, t2, t3, t4⟩ := vc_tellM (I := J) (L := L) (R := R) hC a1.2 ((oJ 2 1 (by decide) (by omega)).trans a1.1)
  have o1 : ∀ q i, q ≠ 174 → ¬ (q = 171 ∧ (i = 2 ∨ i = 7 ∨ i = 8)) → ¬ (q = 4 ∧ i < 16) → I1 q i = I q i := fun q i x y z => (t2 q i z).trans (oJ q i x y)
  obtain ⟨C, eC⟩ : ∃ C : vm_S, C = (S.1, fun c i => if c = 1 ∨ c = 3 ∨ c = 7 then 0 else S.2 c i) := ⟨_, rfl⟩
  have oC : ∀ c i, ¬ (c = 1 ∨ c = 3 ∨ c = 7) → C.2 c i = S.2 c i := fun c i z => by rw [eC]; exact if_neg z
  have zC : ∀ c i, (c = 1 ∨ c = 3 ∨ c = 7) → C.2 c i = 0 := fun c i z => by rw [eC]; exact if_pos z
  have em : vm_em S C := fun c i hc => by
    by_cases z : c = 1 ∨ c = 3 ∨ c = 7
    · exact absurd z (by omega)
    · exact oC c i z
  have es := vm_em_s em
  have ok := vm_ok_em em hA.2.2.2
  have hG : vk_G I1 C := by
    refine ⟨run + 1, (t2 171 7 (by omega)).trans j7, by omega, fun g k e i hg => ?_, fun g hg z => ?_⟩
    · obtain ⟨y1, y2, y3⟩ := g3 g k e i ((vk_gi_es es).mp hg)
      rw [o1 8 g (by decide) (by omega) (by omega), o1 9 g (by decide) (by omega) (by omega), oC 10 k (by omega), oC 8 k (by omega)]
      refine ⟨y1, y2, fun z => ?_⟩
      obtain ⟨x, x1, x2, x3⟩ := y3 z
      exact ⟨x, x1, by omega, fun w => by omega, fun w => by rw [zC 7 _ (by omega)] at w; cases w⟩
    · rw [o1 8 g (by decide) (by omega) (by omega)]
      exact g4 g hg (fun k e i w => z k e i ((vk_gi_es es).mpr w))
  have sz : vm_size C = vm_size S := oC 0 0 (by omega)
  have hC1 : vm_c I1 L C := by
    refine ⟨⟨(o1 2 1 (by decide) (by omega) (by omega)).trans (by rw [sz]; exact a1.1), by rw [sz]; exact a1.2⟩, fun r hr => ?_, fun r hr g => ?_, fun k hk => ?_, fun j hj => ?_, fun j hj => ?_, fun j hj => ?_, vk_led ok.1 hG, by rw [eC]; exact a9⟩
    · rw [t2 171 2 (by omega), j2, zC 1 r (by omega)]
      show (0#32).getLsbD r = decide (0 = 1)
      rw [BitVec.getLsbD_zero]; rfl
    · rw [zC 1 r (by omega)] at g; cases g
    · rw [t2 174 k (by omega), j174 k hk, zC 3 k (by omega)]
      exact ⟨rfl, Nat.zero_le 1, fun z => by cases z⟩
    · rw [o1 3 j (by decide) (by omega) (by omega), oC 4 j (by omega)]; exact a5 j hj
    · by_cases c : j < 8
      · have cx : vm_cx C j = vm_bt 1073741824 j := if_pos c
        rw [cx]; exact ⟨t3 j c, vm_bt_lt _ _⟩
      · by_cases d : j < 16
        · have cx : vm_cx C j = vm_bt (vm_J (1073741824 + vm_size S)) (j - 8) := by unfold vm_cx; rw [if_neg c, if_pos d, sz]
          rw [cx]; exact ⟨t4 j (by omega) d, vm_bt_lt _ _⟩
        · have cx : vm_cx C j = vm_cx S j := by unfold vm_cx; rw [if_neg c, if_neg d, if_neg c, if_neg d]; exact oC 5 j (by omega)
          rw [cx, o1 4 j (by decide) (by omega) (by omega)]; exact a6 j hj
    · rw [o1 6 j (by decide) (by omega) (by omega), oC 6 j (by omega)]; exact a7 j hj
  have hA1 : vk_all Z K I1 L R C mo := ⟨hC1, vk_M_ext (o1 2 7 (by decide) (by omega) (by omega)) (fun q i z => o1 q i (by omega) (by omega) (by omega)) (fun _ _ _ => rfl) em hA.2.1, hG, ok⟩
  obtain ⟨I2, L2, s1, hA2, f2, l2⟩ := vk_all_gv hC hA1 (r := 1) (by decide) 1073745920
  obtain ⟨I3, L3, s2, hA3, f3, l3⟩ := vk_all_gv hC hA2 (r := 10) (by decide) 1073750528
  have eb : vm_gv (vm_gv C 1 1073745920) 10 1073750528 = vm_bgn 1073750528 S := by rw [eC]; rfl
  rw [eb] at hA3
  refine ⟨I3, L3, fun n sl => vc_beginW hC g1 (by rw [← eJ]; exact t1) s1 s2, hA3, ?_, ?_, fun q i z => ?_, fun q i z => (l3 q i z).trans (l2 q i z)⟩
  · rw [f3 171 8 (by omega), f2 171 8 (by omega), t2 171 8 (by omega), j8]
  · rw [f3 171 7 (by omega), f2 171 7 (by omega), t2 171 7 (by omega), j7, g1, vl_I_i (by omega), vl_I_i (by omega)]; omega
  · rw [f3 q i (by omega), f2 q i (by omega), o1 q i (by omega) (by omega) (by omega)]
end
section
variable {Z : Nat} {K : Nat → Option (Nat × Nat)} {R : Nat → Nat → Value} {mo : Nat → Nat} {F : Nat → vf_F} {W : Nat → Int64} {N N0 pr ws nn sl : Nat}
/-- the loop of a run -/
theorem vc_goL (hC : vm_CW K R) (hZ : Z ≤ 1000000000) (hF : ∀ p, p < N → vc_F (W p) = F p) (hN : N ≤ 1024) (hws : ∀ f, ¬ vk_Eg mo ws f) (hN0 : N0 < 2147483648) : ∀ (n p st : Nat) (I : Nat → Nat → Int32) (L : Nat → Nat → Int64) (S : vm_S), vm_path 1073750528 1073807360 F N n p S → vk_all Z K I L R S mo → vc_P K L R pr ws N W → I 171 8 = vl_I p → st + n = N0 → ∃ I1 L1 m q v T, vm_go 1073750528 1073807360 F n p S = some (m, q, v, T) ∧ vk_all Z K I1 L1 R T mo ∧ vc_ff (vk_Eg mo) I L I1 L1 ∧ I1 171 7 = I 171 7 ∧ I1 171 10 = vl_I q ∧ I1 171 11 = vl_I (st + m) ∧ (∀ x, v = some x → L1 171 9 = x) ∧ ∀ Q : jv_R → Prop, Q (some (.int (vm_end v)), jv_H K I1 L1 R, nn, sl) → jv_Wp 50 6 [(0, .ref 171), (1, .ref pr), (2, .int (vl_I N0)), (3, .int (vl_I st))] [] (jv_H K I L R) nn sl Q
  | 0, p, st, I, L, S, hp, hA, hP, e8, g => by
    have g : st = N0 := g
    subst g
    have o : ∀ q i, ¬ (q = 171 ∧ (i = 10 ∨ i = 11)) → jv_u (jv_u I 171 10 (vl_I p)) 171 11 (vl_I st) q i = I q i := fun q i z => (vk_ux (by omega)).trans (vk_ux (by omega))
    exact ⟨jv_u (jv_u I 171 10 (vl_I p)) 171 11 (vl_I st), L, 0, p, none, S, rfl, vk_all_x hA (fun q i z => o q i (by omega)) (fun _ _ _ => rfl), ⟨fun q i z => o q i (fun y => z (by unfold vk_Eg; omega)), fun _ _ _ => rfl⟩, o 171 7 (by omega), (vk_ux (by omega)).trans (jv_u_self _ _ _ _), jv_u_self _ _ _ _, (fun x hx => by cases hx), fun Q hQ => vc_go_e hC hN0 e8 hQ⟩
  | n + 1, p, st, I, L, S, hp, hA, hP, e8, g => by
    obtain ⟨hpN, wd, hex, hst⟩ := hp
    have ef : vc_F (W p) = F p := hF p hpN
    have hPK := hP.1
    obtain ⟨J1, e1⟩ : ∃ J1, J1 = jv_u (jv_u I 171 10 (vl_I p)) 171 11 (vl_I st) := ⟨_, rfl⟩
    obtain ⟨J2, e2⟩ : ∃ J2, J2 = jv_u J1 171 11 ((vl_I st) + (1 : Int32)) := ⟨_, rfl⟩
    have o1 : ∀ q i, ¬ (q = 171 ∧ (i = 10 ∨ i = 11)) → J1 q i = I q i := fun q i z => by rw [e1]; exact (vk_ux (by omega)).trans (vk_ux (by omega))
    have o2 : ∀ q i, ¬ (q = 171 ∧ (i = 10 ∨ i = 11)) → J2 q i = I q i := fun q i z => by rw [e2]; exact (vk_ux (by omega)).trans (o1 q i z)
    have j10 : J2 171 10 = vl_I p := by rw [e2, vk_ux (by omega), e1, vk_ux (by omega), jv_u_self]
    have j11 : J2 171 11 = vl_I (st + 1) := by rw [e2, jv_u_self]; exact vl_I_add st 1
    have hHas : ∀ n sl, jv_Ms 77 [.ref pr, .long (vl_I p).toInt64] (jv_H K J1 L R) n sl (some (.int (1 : Int32)), jv_H K J1 L R, n, sl) := fun n sl => by
      have y := vc_has (I := J1) (n := n) (sl := sl) hP (g := (p : Int)) (by omega)
      rw [decide_eq_true (show (0 : Int) ≤ (p : Int) ∧ (p : Int) < (N : Int) by omega), ← vm_pI (by omega)] at y
      exact y
    have hSec : ∀ n sl, jv_Ms 79 [.ref pr, .long (vl_I p).toInt64] (jv_H K J1 L R) n sl (some (.int (0 : Int32)), jv_H K J1 L R, n, sl) := fun n sl => by
      have y := vc_isSecond (I := J1) (n := n) (sl := sl) hP (g := (p : Int)) (by omega)
      rw [decide_eq_false (fun z => by
        have h0 : 0 < p := by omega
        have c := z.2.2
        rw [show ((p : Int)).toNat - 1 = p - 1 by omega, hF (p - 1) (by omega)] at c
        exact wd.2.2.2.2.2.2.2.2.1 h0 c), ← vm_pI (by omega)] at y
      exact y
    have hWd : ∀ n sl, jv_Ms 78 [.ref pr, .int (vl_I p)] (jv_H K J2 L R) n sl (some (.long (W p)), jv_H K J2 L R, n, sl) := fun n sl => vc_wordq hP hpN rfl
    have hA2 : vk_all Z K J2 L R S mo := vk_all_x hA (fun q i z => o2 q i (by omega)) (fun _ _ _ => rfl)
    by_cases c149 : (F p).code = 149
    · have k5 : (F p).kind = 5 := by show (F p).code % 8 = 5; rw [c149]
      obtain ⟨v, hv⟩ := hex ⟨Or.inl k5, c149⟩
      have hgo : vm_go 1073750528 1073807360 F (n + 1) p S = some (1, p, some v, S) := by
        show (if ((F p).kind = 5 ∨ (F p).kind = 6) ∧ (F p).code = 149 then (vm_rd S 0).map fun v => (1, p, some v, S) else _) = _
        rw [if_pos ⟨Or.inl k5, c149⟩, hv]; rfl
      have hG0 := fun n sl => vm_cget (n := n) (sl := sl) hC hA2.1 (r := 0) (by decide) hv
      refine ⟨J2, jv_u L 171 9 v, 1, p, some v, S, hgo, vk_all_x hA (fun q i z => o2 q i (by omega)) (fun q i z => vk_ux z), ⟨fun q i z => o2 q i (fun y => z (by unfold vk_Eg; omega)), fun q i z => vk_ux (fun y => z (by unfold vk_Eg; omega))⟩, o2 171 7 (by omega), j10, j11, fun x hx => (jv_u_self _ _ _ _).trans (Option.some.inj hx), fun Q hQ => ?_⟩
      rw [e2, e1] at hQ hG0
      rw [e1] at hHas hSec
      rw [e2, e1] at hWd
      exact vc_go_x hC ef (by omega) hN0 hPK e8 hHas hSec hWd c149 hG0 hQ
    · have nx : ¬ (((F p).kind = 5 ∨ (F p).kind = 6) ∧ (F p).code = 149) := fun z => c149 z.2
      obtain ⟨q, T, hs, hpath⟩ := hst nx
      have hq := vm_path_p hpath
      obtain ⟨J3, e3⟩ : ∃ J3, J3 = jv_u J2 171 8 ((vl_I p) + (1 : Int32)) := ⟨_, rfl⟩
      have o3 : ∀ q i, ¬ (q = 171 ∧ (i = 10 ∨ i = 11 ∨ i = 8)) → J3 q i = I q i := fun q i z => by rw [e3]; exact (vk_ux (by omega)).trans (o2 q i (by omega))
      have j8 : J3 171 8 = vl_I (p + 1) := by rw [e3, jv_u_self]; exact vl_I_add p 1
      have hA3 : vk_all Z K J3 L R S mo := vk_all_x hA (fun q i z => o3 q i (by omega)) (fun _ _ _ => rfl)
      have fJ : vc_ff (vk_Eg mo) I L J3 L := ⟨fun q i z => o3 q i (fun y => z (by unfold vk_Eg; omega)), fun _ _ _ => rfl⟩
      have hgo : ∀ {m r v U}, vm_go 1073750528 1073807360 F n q T = some (m, r, v, U) → vm_go 1073750528 1073807360 F (n + 1) p S = some (m + 1, r, v, U) := fun h => by
        show (if ((F p).kind = 5 ∨ (F p).kind = 6) ∧ (F p).code = 149 then (vm_rd S 0).map fun v => (1, p, some v, S) else (vm_step 1073750528 1073807360 (F p) (F (p + 1)).i p S).bind fun e => (vm_go 1073750528 1073807360 F n e.1.toNat e.2).map fun r => (r.1 + 1, r.2)) = _
        rw [if_neg nx, hs]
        show (vm_go 1073750528 1073807360 F n ((q : Nat) : Int).toNat T).map _ = _
        rw [Int.toNat_natCast, h]; rfl
      by_cases c133 : (F p).code = 133
      · obtain ⟨eq, hcl⟩ := vm_step_call c133 hs
        obtain ⟨I1, L1, m1, m2, m3⟩ := vc_callM hC hZ hA3 (wd.2.2.2.2.2.2.2.1 c133) hcl
        have x8 : I1 171 8 = vl_I q := by rw [m3.1 171 8 (fun y => by unfold vk_Ec at y; omega), j8, show p + 1 = q by omega]
        have x7 : I1 171 7 = I 171 7 := (m3.1 171 7 (fun y => by unfold vk_Ec at y; omega)).trans (o3 171 7 (by omega))
        have f1 : vc_ff (vk_Eg mo) I L I1 L1 := vc_ff_trans fJ (vc_ff_le (fun _ _ z => Or.inl z) m3)
        obtain ⟨I4, L4, m, r, v, U, h1, h2, h3, h4, h5, h6, h7, h8⟩ := vc_goL hC hZ hF hN hws hN0 n q (st + 1) I1 L1 T hpath m2 ⟨hP.1, hP.2.1, hP.2.2.1, hP.2.2.2.1, fun i hi => (f1.2 ws i (hws i)).trans (hP.2.2.2.2 i hi)⟩ x8 (by omega)
        refine ⟨I4, L4, m + 1, r, v, U, hgo h1, h2, vc_ff_trans f1 h3, h4.trans x7, h5, by rw [h6]; congr 1; omega, h7, fun Q hQ => ?_⟩
        rw [e3, e2, e1] at m1
        rw [e1] at hHas hSec
        rw [e2, e1] at hWd
        exact vc_go_c hC ef (by omega) hN0 hPK e8 hHas hSec hWd c149 c133 m1 (h8 Q hQ)
      · obtain ⟨I1, L1, m1, m2, m3, m4⟩ := vc_inst (n := nn) (sl := sl) hC hA3.1 ef wd (by omega) j8 hP hF c133 (by omega) hs
        have hA4 := vk_all_e7 hA3 m2 m4 (vm_step_e7 c133 hs)
        have x7 : I1 171 7 = I 171 7 := (m4.1 171 7 (by omega)).trans (o3 171 7 (by omega))
        have f1 : vc_ff (vk_Eg mo) I L I1 L1 := vc_ff_trans fJ (vc_ff_le (fun _ _ z => Or.inr (Or.inl z)) m4)
        obtain ⟨I4, L4, m, r, v, U, h1, h2, h3, h4, h5, h6, h7, h8⟩ := vc_goL hC hZ hF hN hws hN0 n q (st + 1) I1 L1 T hpath hA4 ⟨hP.1, hP.2.1, hP.2.2.1, hP.2.2.2.1, fun i hi => (f1.2 ws i (hws i)).trans (hP.2.2.2.2 i hi)⟩ m3 (by omega)
        refine ⟨I4, L4, m + 1, r, v, U, hgo h1, h2, vc_ff_trans f1 h3, h4.trans x7, h5, by rw [h6]; congr 1; omega, h7, fun Q hQ => ?_⟩
        rw [e3, e2, e1] at m1
        rw [e1] at hHas hSec
        rw [e2, e1] at hWd
        exact vc_go_i hC ef (by omega) hN0 hPK e8 hHas hSec hWd c149 c133 m1 (h8 Q hQ)
/-- a run of the class's machine -/
theorem vc_goM {I : Nat → Nat → Int32} {L : Nat → Nat → Int64} {S : vm_S} (hC : vm_CW K R) (hZ : Z ≤ 1000000000) (hF : ∀ p, p < N → vc_F (W p) = F p) (hN : N ≤ 1024) (hws : ∀ f, ¬ vk_Eg mo ws f) (hN0 : N0 < 2147483648) (hA : vk_all Z K I L R S mo) (hr : (I 171 7).toInt < 1073741824) (hP : vc_P K L R pr ws N W) (hp : vm_path 1073750528 1073807360 F N N0 0 (vm_bgn 1073750528 S)) : ∃ I1 L1 m q v T, vm_go 1073750528 1073807360 F N0 0 (vm_bgn 1073750528 S) = some (m, q, v, T) ∧ vk_all Z K I1 L1 R T mo ∧ vc_ff (vk_Eg mo) I L I1 L1 ∧ (I1 171 7).toInt = (I 171 7).toInt + 1 ∧ I1 171 10 = vl_I q ∧ I1 171 11 = vl_I m ∧ (∀ x, v = some x → L1 171 9 = x) ∧ jv_Ms 50 [.ref 171, .ref pr, .int (vl_I N0)] (jv_H K I L R) nn sl (some (.int (vm_end v)), jv_H K I1 L1 R, nn, sl) := by
  obtain ⟨I2, L2, b1, b2, b3, b4, b5, b6⟩ := vc_beginM hC hA hr
  have fB : vc_ff (vk_Eg mo) I L I2 L2 := ⟨fun q i z => b5 q i (fun y => z (by unfold vk_Eg; unfold vk_Ec; omega)), fun q i z => b6 q i (fun y => z (by unfold vk_Eg; unfold vk_Ec; omega))⟩
  obtain ⟨I4, L4, m, r, v, U, h1, h2, h3, h4, h5, h6, h7, h8⟩ := vc_goL (nn := nn) (sl := sl) hC hZ hF hN hws hN0 N0 0 0 I2 L2 _ hp b2 ⟨hP.1, hP.2.1, hP.2.2.1, hP.2.2.2.1, fun i hi => (fB.2 ws i (hws i)).trans (hP.2.2.2.2 i hi)⟩ b3 (Nat.zero_add _)
  refine ⟨I4, L4, m, r, v, U, h1, h2, vc_ff_trans fB h3, by rw [h4]; exact b4, h5, by rw [h6, Nat.zero_add], h7, ?_⟩
  obtain ⟨X, k, e⟩ := vc_go_0 (n := nn) (sl := sl) hC b1 (h8 (fun X => X = (some (.int (vm_end v)), jv_H K I4 L4 R, nn, sl)) rfl)
  subst e
  exact k
end
