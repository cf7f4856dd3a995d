/-! part g41: a run of the reference's machine, as a whole (a hand text: this part is the source) -/
/-- the cells that a run may change -/
def vr_Egr (q f : Nat) : Prop := vr_Eca q f ∨ vr_Ep q f ∨ (q = 178 ∧ (f = 21 ∨ f = 22 ∨ f = 23 ∨ (25 ≤ f ∧ f ≤ 30)))
theorem vm_D_x {I I1 : Nat → Nat → Int32} {f : vf_F} (D : vm_D I f) (h : ∀ j, 25 ≤ j → j ≤ 29 → I1 178 j = I 178 j) : vm_D I1 f := ⟨(h 25 (by decide) (by decide)).trans D.1, (h 26 (by decide) (by decide)).trans D.2.1, (h 27 (by decide) (by decide)).trans D.2.2.1, (congrArg Int32.toInt (h 28 (by decide) (by decide))).trans D.2.2.2.1, (congrArg Int32.toInt (h 29 (by decide) (by decide))).trans D.2.2.2.2.1, D.2.2.2.2.2⟩
section
variable {Z : Nat} {K : Nat → Option (Nat × Nat)} {I I1 : Nat → Nat → Int32} {L L1 : Nat → Nat → Int64} {R : Nat → Nat → Value} {S T : vm_S} {B : Nat → Nat} {N p q gp : Nat}
theorem vr_all_x (hA : vr_all Z I L S) (o : ∀ q i, ¬ (q = 178 ∧ 20 ≤ i) → I1 q i = I q i) (oL : ∀ q i, ¬ (q = 178 ∧ i = 21) → L1 q i = L q i) : vr_all Z I1 L1 S := by
  obtain ⟨⟨a1, a2, a3, a4, a5, a6, a7, a8, a9, a10⟩, hM, ok⟩ := hA
  refine ⟨⟨by rw [o 178 11 (by omega)]; exact a1, fun r hr => by rw [o 221 r (by omega)]; exact a2 r hr, fun r hr g => by rw [oL 220 r (by omega)]; exact a3 r hr g, fun k hk => by rw [o 223 k (by omega), o 222 k (by omega)]; exact a4 k hk, fun j hj => by rw [o 218 j (by omega)]; exact a5 j hj, fun j h16 hj => by rw [o 219 j (by omega)]; exact a6 j h16 hj, fun j hj => by rw [o 182 j (by omega)]; exact a7 j hj, fun k e hk z he => by rw [o 224 _ (by omega)]; exact a8 k e hk z he, (oL 178 13 (by omega)).trans a9, (o 180 5 (by omega)).trans a10.1, fun k hk => ?_⟩, vr_mt_em (S := S) (fun _ _ _ => rfl) hM (fun q i z => o q i (by omega)) (fun q i z => oL q i (by omega)), ok⟩
  rw [o 183 k (by omega), o 184 k (by omega), o 185 k (by omega), o 186 k (by omega), o 187 k (by omega), o 188 k (by omega), o 189 k (by omega)]
  exact a10.2 k hk
theorem vr_all_e7 (hA : vr_all Z I L S) (hr : vm_r I1 L1 T) (ff : vc_ff vr_Ep I L I1 L1) (e7 : vm_e7 S T) : vr_all Z I1 L1 T := ⟨hr, vr_mt_em (vm_e7_em e7) hA.2.1 (fun q i z => ff.1 q i (by omega)) (fun q i z => ff.2 q i (by omega)), vm_ok_em (vm_e7_em e7) hA.2.2⟩
/-- one instruction that is no call and no exit -/
theorem vr_inst (hW : jv_rW K R) (hsh : vm_sh S) (h : vm_r I L S) (D : vm_D I (vr_F B p)) (wd : vm_wd (vr_F B) N p) (hp : p < 1024) (hN : N ≤ 1024) (hpg : vr_pg I gp N B) (hgp : gp < 8) (hb : I 178 24 = vl_I (8192 * gp)) (hx : (vr_F B p).code ≠ 133) (hq : q ≤ 1024) (hs : vm_step 1073750016 1073758208 (vr_F B p) (vr_F B (p + 1)).i p S = some ((q : Int), T)) {n sl : Nat} : ∃ I1 L1, jv_Ms 402 [.ref 178, .int (vl_I p)] (jv_H K I L R) n sl (none, jv_H K I1 L1 R, n, sl) ∧ vm_r I1 L1 T ∧ I1 178 30 = vl_I q ∧ vc_ff vr_Ep I L I1 L1 := by
  obtain ⟨w1, w2, w3, w4, w5, w6, w7, w8, w9, w10⟩ := wd
  have h0 : (0 : Int) ≤ (q : Int) ∧ (q : Int) ≤ 1024 := by omega
  have kd : (vr_F B p).kind = (vr_F B p).code % 8 := rfl
  have nd : (vr_F B p).n = (vr_F B p).code / 16 := rfl
  rcases vm_step_is hx hs with z | z | z | z | z | z | z
  · obtain ⟨k, e1, e2⟩ := z
    obtain ⟨c1, c2, c3⟩ := w6 k
    rw [e2]
    exact vr_does0 hW h D w1 w2 hp h0 k c1 hpg hgp hN hb c2 rfl c3 e1
  · exact vr_does1 hW hsh h D w1 w2 hp h0 z.1 z.2.1 (w3 z.1) z.2.2
  · exact vr_does2 hW hsh h D w1 w2 hp h0 z.1 z.2.1 z.2.2
  · exact vr_does3A hW hsh h D w1 w2 hp h0 z.1 z.2.2.1 z.2.1 (w5 z.1 z.2.2.1) z.2.2.2
  · exact vr_does3 hW hsh h D w1 w2 hp h0 z.1 z.2.2.1 z.2.1 z.2.2.2
  · rcases z.1 with k | k
    · exact vr_does4 hW hsh h D w1 w2 hp h0 (w4 z.1) k z.2.1 z.2.2
    · exact vr_does7 hW hsh h D w1 w2 hp h0 (w4 z.1) k z.2.1 z.2.2
  · obtain ⟨k, eT, z⟩ := z
    rcases z with z | z | z
    · exact vr_does50 hW hsh h D w1 w2 hp h0 eT (by omega) hx (by omega) z.2
    · exact vr_does60 hW hsh h D w1 w2 hp h0 eT (by omega) hx (by omega) z.2
    · have n0 : (vr_F B p).n ≠ 0 := fun y => by
        have b3 := w7 k y
        have b3 : decide ((vr_F B p).code / 8 % 2 = 1) = false := b3
        have := of_decide_eq_false b3
        omega
      rcases k with k | k
      · exact vr_does5 hW hsh h D w1 w2 hp h0 eT k hx n0 z.2.2
      · exact vr_does6 hW hsh h D w1 w2 hp h0 eT k hx n0 z.2.2
theorem vr_all_gv (hA : vr_all Z I L S) {r : Nat} (v : Int64) : vr_all Z (jv_u I 221 r 1) (jv_u L 220 r v) (vm_gv S r v) := by
  have o : ∀ q i, q ≠ 221 → jv_u I 221 r 1 q i = I q i := fun q i z => jv_u_o _ _ _ _ z
  have oL : ∀ q i, q ≠ 220 → jv_u L 220 r v q i = L q i := fun q i z => jv_u_o _ _ _ _ z
  have oS : ∀ c i, c ≠ 1 → (vm_gv S r v).2 c i = S.2 c i := fun c i z => jv_u_o _ _ _ _ z
  have em : vm_em S (vm_gv S r v) := fun c i hc => oS c i (by omega)
  exact ⟨vm_r_gv hA.1, vr_mt_em em hA.2.1 (fun q i z => o q i (by omega)) (fun q i z => oL q i (by omega)), vm_ok_em em hA.2.2⟩
/-- a run begins -/
theorem vr_beginM (hW : jv_rW K R) (hA : vr_all Z I L S) : ∃ I3 L3, (∀ n sl, jv_Ms 403 [.ref 178] (jv_H K I L R) n sl (none, jv_H K I3 L3 R, n, sl)) ∧ vr_all Z I3 L3 (vm_bgn 1073750016 S) ∧ I3 178 23 = 0 ∧ (∀ q i, ¬ (q = 221 ∨ q = 223 ∨ q = 224 ∨ (q = 178 ∧ i = 23)) → I3 q i = I q i) ∧ ∀ q i, q ≠ 220 → L3 q i = L q i := by
  obtain ⟨J, eJ⟩ : ∃ J, J = vm_wr (vm_wr (vm_wr I 221 0 11 (fun _ => ((0 : Int32) &&& 1))) 223 0 512 (fun _ => ((0 : Int32) &&& 1))) 224 0 8192 (fun _ => ((0 : Int32) &&& 1)) := ⟨_, rfl⟩
  have oJ : ∀ q i, q ≠ 221 → q ≠ 223 → q ≠ 224 → J q i = I q i := fun q i x y z => by rw [eJ, vm_wr_o (fun w => z w.1), vm_wr_o (fun w => y w.1), vm_wr_o (fun w => x w.1)]
  have z3 : ∀ i, i < 8192 → J 224 i = 0 := fun i hi => by
    have y := vm_wr_i (I := vm_wr (vm_wr I 221 0 11 (fun _ => ((0 : Int32) &&& 1))) 223 0 512 (fun _ => ((0 : Int32) &&& 1))) (r := 224) (a := 0) (n := 8192) (k := i) (f := fun _ => ((0 : Int32) &&& 1)) hi
    rw [Nat.zero_add] at y
    rw [eJ, y]; rfl
  have z2 : ∀ i, i < 512 → J 223 i = 0 := fun i hi => by
    have y := vm_wr_i (I := vm_wr I 221 0 11 (fun _ => ((0 : Int32) &&& 1))) (r := 223) (a := 0) (n := 512) (k := i) (f := fun _ => ((0 : Int32) &&& 1)) hi
    rw [Nat.zero_add] at y
    rw [eJ, vm_wr_o (fun w => absurd w.1 (by decide)), y]; rfl
  have z1 : ∀ i, i < 11 → J 221 i = 0 := fun i hi => by
    have y := vm_wr_i (I := I) (r := 221) (a := 0) (n := 11) (k := i) (f := fun _ => ((0 : Int32) &&& 1)) hi
    rw [Nat.zero_add] at y
    rw [eJ, vm_wr_o (fun w => absurd w.1 (by decide)), vm_wr_o (fun w => absurd w.1 (by decide)), y]; rfl
  obtain ⟨a1, a2, a3, a4, a5, a6, a7, a8, a9, a10⟩ := hA.1
  obtain ⟨C, eC⟩ : ∃ C : vm_S, C = (S.1, fun c i => if c = 1 ∨ c = 3 ∨ c = 7 then 0 else S.2 c i) := ⟨_, rfl⟩
  have oC : ∀ c i, ¬ (c = 1 ∨ c = 3 ∨ c = 7) → C.2 c i = S.2 c i := fun c i z => by rw [eC]; exact if_neg z
  have zC : ∀ c i, (c = 1 ∨ c = 3 ∨ c = 7) → C.2 c i = 0 := fun c i z => by rw [eC]; exact if_pos z
  have em : vm_em S C := fun c i hc => by
    by_cases z : c = 1 ∨ c = 3 ∨ c = 7
    · exact absurd z (by omega)
    · exact oC c i z
  have es := vm_em_s em
  have sz : vm_size C = vm_size S := oC 0 0 (by omega)
  have hA1 : vr_all Z J L C := by
    refine ⟨⟨by rw [oJ 178 11 (by decide) (by decide) (by decide), sz]; exact a1, fun r hr => by rw [z1 r hr, zC 1 r (by omega)]; exact ⟨rfl, Nat.zero_le 1⟩, (fun r hr g => by rw [zC 1 r (by omega)] at g; cases g), fun k hk => by rw [z2 k hk, zC 3 k (by omega)]; exact ⟨rfl, Nat.zero_le 1, fun z => by cases z⟩, fun j hj => by rw [oJ 218 j (by decide) (by decide) (by decide), oC 4 j (by omega)]; exact a5 j hj, fun j h16 hj => by rw [oJ 219 j (by decide) (by decide) (by decide), oC 5 j (by omega)]; exact a6 j h16 hj, fun j hj => by rw [oJ 182 j (by decide) (by decide) (by decide), oC 6 j (by omega)]; exact a7 j hj, fun k e hk z he => ?_, by rw [eC]; exact a9, (oJ 180 5 (by decide) (by decide) (by decide)).trans (by rw [es.1]; exact a10.1), fun k hk => ?_⟩, vr_mt_em em hA.2.1 (fun q i z => oJ q i (by omega) (by omega) (by omega)) (fun _ _ _ => rfl), vm_ok_em em hA.2.2⟩
    · rw [es.1] at hk
      rw [oC 8 k (by omega)] at z
      rw [oC 11 k (by omega)] at he
      have fi := vm_fe_in hA.2.2.1 hk z
      rw [(vm_es_fe es k).1, z3 _ (by omega), zC 7 _ (by omega)]; exact ⟨rfl, Nat.zero_le 1⟩
    · rw [es.1] at hk
      rw [oJ 183 k (by decide) (by decide) (by decide), oJ 184 k (by decide) (by decide) (by decide), oJ 185 k (by decide) (by decide) (by decide), oJ 186 k (by decide) (by decide) (by decide), oJ 187 k (by decide) (by decide) (by decide), oJ 188 k (by decide) (by decide) (by decide), oJ 189 k (by decide) (by decide) (by decide), (vm_es_fe es k).1, (vm_es_fe es k).2, oC 8 k (by omega), oC 9 k (by omega), oC 10 k (by omega), oC 11 k (by omega), oC 12 k (by omega)]
      exact a10.2 k hk
  have hA2 := vr_all_gv hA1 (r := 1) 1073745920
  have hA3 := vr_all_gv hA2 (r := 10) 1073750016
  have eb : vm_gv (vm_gv C 1 1073745920) 10 1073750016 = vm_bgn 1073750016 S := by rw [eC]; rfl
  rw [eb] at hA3
  refine ⟨_, _, fun n sl => vr_beginW hW (by rw [← eJ]; exact fun n sl => vr_give hW (r := 1) (by decide)) (fun n sl => vr_give hW (r := 10) (by decide)), vr_all_x hA3 (fun q i z => vk_ux (by omega)) (fun _ _ _ => rfl), jv_u_self _ _ _ _, fun q i z => ?_, fun q i z => (jv_u_o _ _ _ _ z).trans (jv_u_o _ _ _ _ z)⟩
  rw [vk_ux (by omega), jv_u_o _ _ _ _ (by omega), jv_u_o _ _ _ _ (by omega), oJ q i (by omega) (by omega) (by omega)]
end
section
variable {Z : Nat} {K : Nat → Option (Nat × Nat)} {R : Nat → Nat → Value} {B : Nat → Nat} {N N0 gp nn sl : Nat}
/-- the loop of a run -/
theorem vr_goL (hW : jv_rW K R) (hD : R 180 2 = .ref 181) (hZ : Z ≤ 1000000000) (hN : N ≤ 1024) (hgp : gp < 8) (hN0 : N0 ≤ 100000) : ∀ (n p st : Nat) (I : Nat → Nat → Int32) (L : Nat → Nat → Int64) (S : vm_S), vm_path 1073750016 1073758208 (vr_F B) N n p S → vr_all Z I L S → vr_pg I gp N B → I 178 24 = vl_I (8192 * gp) → I 217 gp = vl_I N → I 178 23 = vl_I st → st + n = N0 → ∃ I1 L1 m q v T, vm_go 1073750016 1073758208 (vr_F B) n p S = some (m, q, v, T) ∧ vr_all Z I1 L1 T ∧ vc_ff vr_Egr I L I1 L1 ∧ I1 178 22 = vl_I q ∧ I1 178 23 = vl_I (st + m) ∧ (∀ x, v = some x → L1 178 21 = x) ∧ ∀ Q : jv_R → Prop, Q (some (.int (vm_end v)), jv_H K I1 L1 R, nn, sl) → jv_Wp 404 60 [(0, .ref 178), (1, .int (vl_I gp)), (2, .int (vl_I N0)), (3, .int (vl_I p))] [] (jv_H K I L R) nn sl Q
  | 0, p, st, I, L, S, hp, hA, hpg, hb, h217, e23, g => by
    have g : st = N0 := g
    have o : ∀ q i, ¬ (q = 178 ∧ i = 22) → jv_u I 178 22 (vl_I p) q i = I q i := fun q i z => vk_ux z
    exact ⟨jv_u I 178 22 (vl_I p), L, 0, p, none, S, rfl, vr_all_x hA (fun q i z => o q i (by omega)) (fun _ _ _ => rfl), ⟨fun q i z => o q i (fun y => z (by unfold vr_Egr; omega)), fun _ _ _ => rfl⟩, jv_u_self _ _ _ _, (o 178 23 (by omega)).trans e23, (fun x hx => by cases hx), fun Q hQ => vr_run_e hW e23 g hN0 hQ⟩
  | n + 1, p, st, I, L, S, hp, hA, hpg, hb, h217, e23, g => by
    obtain ⟨hpN, wd, hex, hst⟩ := hp
    obtain ⟨J, eJ⟩ : ∃ J, J = jv_u I 178 22 (vl_I p) := ⟨_, rfl⟩
    have oJ : ∀ q i, ¬ (q = 178 ∧ i = 22) → J q i = I q i := fun q i z => by rw [eJ]; exact vk_ux z
    have hpgJ : vr_pg J gp N B := fun j hj => by rw [oJ 216 _ (by omega)]; exact hpg j hj
    obtain ⟨IT, hT, DT, oT⟩ := vr_takeM (L := L) (n := nn) (sl := sl) hW hpgJ hgp hN ((oJ 178 24 (by omega)).trans hb) hpN
    have f23 : IT 178 23 = vl_I st := (oT 178 23 (by omega)).trans ((oJ 178 23 (by omega)).trans e23)
    have oT2 : ∀ q i, ¬ (q = 178 ∧ (i = 22 ∨ (25 ≤ i ∧ i ≤ 29))) → IT q i = I q i := fun q i z => (oT q i (by omega)).trans (oJ q i (by omega))
    obtain ⟨J1, e1⟩ : ∃ J1, J1 = jv_u IT 178 23 ((vl_I st) + (1 : Int32)) := ⟨_, rfl⟩
    have o1 : ∀ q i, ¬ (q = 178 ∧ (i = 22 ∨ i = 23 ∨ (25 ≤ i ∧ i ≤ 29))) → J1 q i = I q i := fun q i z => by rw [e1]; exact (vk_ux (by omega)).trans (oT2 q i (by omega))
    have j22 : J1 178 22 = vl_I p := by rw [e1, vk_ux (by omega), oT 178 22 (by omega), eJ, jv_u_self]
    have j23 : J1 178 23 = vl_I (st + 1) := by rw [e1, jv_u_self]; exact vl_I_add st 1
    have D1 : vm_D J1 (vr_F B p) := vm_D_x DT (fun j a b => by rw [e1]; exact vk_ux (by omega))
    have hA1 : vr_all Z J1 L S := vr_all_x hA (fun q i z => o1 q i (by omega)) (fun _ _ _ => rfl)
    have c8 := wd.2.2.2.2.2.2.2.2.2
    have fJ : vc_ff vr_Egr I L J1 L := ⟨fun q i z => o1 q i (fun y => z (by unfold vr_Egr; omega)), fun _ _ _ => rfl⟩
    rw [eJ] at hT
    by_cases c149 : (vr_F B p).code = 149
    · have k5 : (vr_F B p).kind = 5 := by show (vr_F B p).code % 8 = 5; rw [c149]
      obtain ⟨v, hv⟩ := hex ⟨Or.inl k5, c149⟩
      have hgo : vm_go 1073750016 1073758208 (vr_F B) (n + 1) p S = some (1, p, some v, S) := by
        show (if ((vr_F B p).kind = 5 ∨ (vr_F B p).kind = 6) ∧ (vr_F B p).code = 149 then (vm_rd S 0).map fun v => (1, p, some v, S) else _) = _
        rw [if_pos ⟨Or.inl k5, c149⟩, hv]; rfl
      have hG0 := vr_readR (n := nn) (sl := sl) hW hA1.1 (r := 0) (by decide) hv
      refine ⟨J1, jv_u L 178 21 v, 1, p, some v, S, hgo, vr_all_x hA1 (fun _ _ _ => rfl) (fun q i z => vk_ux z), vc_ff_trans fJ ⟨fun _ _ _ => rfl, fun q i z => vk_ux (fun y => z (by unfold vr_Egr; omega))⟩, j22, j23, fun x hx => (jv_u_self _ _ _ _).trans (Option.some.inj hx), fun Q hQ => ?_⟩
      rw [e1] at hQ hG0
      exact vr_run_x hW e23 (by omega) hN0 hT f23 DT.1 c8 c149 hG0 hQ
    · have nx : ¬ (((vr_F B p).kind = 5 ∨ (vr_F B p).kind = 6) ∧ (vr_F B p).code = 149) := fun z => c149 z.2
      obtain ⟨q, T, hs, hpath⟩ := hst nx
      have hq := vm_path_p hpath
      have hgo : ∀ {m r v U}, vm_go 1073750016 1073758208 (vr_F B) n q T = some (m, r, v, U) → vm_go 1073750016 1073758208 (vr_F B) (n + 1) p S = some (m + 1, r, v, U) := fun h => by
        show (if ((vr_F B p).kind = 5 ∨ (vr_F B p).kind = 6) ∧ (vr_F B p).code = 149 then (vm_rd S 0).map fun v => (1, p, some v, S) else (vm_step 1073750016 1073758208 (vr_F B p) (vr_F B (p + 1)).i p S).bind fun e => (vm_go 1073750016 1073758208 (vr_F B) n e.1.toNat e.2).map fun r => (r.1 + 1, r.2)) = _
        rw [if_neg nx, hs]
        show (vm_go 1073750016 1073758208 (vr_F B) n ((q : Nat) : Int).toNat T).map _ = _
        rw [Int.toNat_natCast, h]; rfl
      have done : (∃ I2 L2, jv_Ms 402 [.ref 178, .int (vl_I p)] (jv_H K J1 L R) nn sl (none, jv_H K I2 L2 R, nn, sl) ∧ vr_all Z I2 L2 T ∧ I2 178 30 = vl_I q ∧ vc_ff (fun q f => vr_Eca q f ∨ vr_Ep q f) J1 L I2 L2) → ∃ I1 L1 m q v T, vm_go 1073750016 1073758208 (vr_F B) (n + 1) p S = some (m, q, v, T) ∧ vr_all Z I1 L1 T ∧ vc_ff vr_Egr I L I1 L1 ∧ I1 178 22 = vl_I q ∧ I1 178 23 = vl_I (st + m) ∧ (∀ x, v = some x → L1 178 21 = x) ∧ ∀ Q : jv_R → Prop, Q (some (.int (vm_end v)), jv_H K I1 L1 R, nn, sl) → jv_Wp 404 60 [(0, .ref 178), (1, .int (vl_I gp)), (2, .int (vl_I N0)), (3, .int (vl_I p))] [] (jv_H K I L R) nn sl Q := fun ⟨I2, L2, m1, m2, m3, m4⟩ => by
        have x : ∀ i, i = 23 ∨ i = 24 → I2 178 i = J1 178 i := fun i hi => m4.1 178 i (by unfold vr_Eca vr_Em; omega)
        have y : I2 217 gp = vl_I N := (m4.1 217 gp (by unfold vr_Eca vr_Em; omega)).trans ((o1 217 gp (by omega)).trans h217)
        have hpg2 : vr_pg I2 gp N B := fun j hj => by rw [m4.1 216 _ (by unfold vr_Eca vr_Em; omega), o1 216 _ (by omega)]; exact hpg j hj
        obtain ⟨I4, L4, m, r, v, U, h1, h2, h3, h4, h5, h6, h7⟩ := vr_goL hW hD hZ hN hgp hN0 n q (st + 1) I2 L2 T hpath m2 hpg2 ((x 24 (Or.inr rfl)).trans ((o1 178 24 (by omega)).trans hb)) y ((x 23 (Or.inl rfl)).trans j23) (by omega)
        refine ⟨I4, L4, m + 1, r, v, U, hgo h1, h2, vc_ff_trans fJ (vc_ff_trans (vc_ff_le (fun q f z => by unfold vr_Egr; exact z.elim Or.inl (fun w => Or.inr (Or.inl w))) m4) h3), h4, by rw [h5]; congr 1; omega, h6, fun Q hQ => ?_⟩
        rw [e1] at m1
        exact vr_run_i hW e23 (by omega) hN0 hT f23 DT.1 c8 c149 hgp hN m1 m3 y hq (h7 Q hQ)
      by_cases c133 : (vr_F B p).code = 133
      · obtain ⟨eq, hcl⟩ := vm_step_call c133 hs
        have k5 : (vr_F B p).kind = 5 := by show (vr_F B p).code % 8 = 5; rw [c133]
        obtain ⟨I2, L2, m1, m2, m3, m4⟩ := vr_doesP (n := nn) (sl := sl) (P := fun I1 L1 => vr_all Z I1 L1 T) (E := fun q f => vr_Eca q f ∨ vr_Ep q f) (g := (q : Int)) hW hA1.2.2.1 hA1.1 D1 wd.1 wd.2.1 (by omega) (by omega) k5 c133 eq (fun _ _ z => Or.inr z) (fun IN _ DN nN oN => by
          have hAN : vr_all Z IN L S := vr_all_x hA1 (fun q i z => oN q i (by omega)) (fun _ _ _ => rfl)
          obtain ⟨I1, L1, u1, u2, u3⟩ := vr_callM hW hD hZ hAN (wd.2.2.2.2.2.2.2.1 c133) DN.2.2.2.2.1 hcl
          exact ⟨I1, L1, u1 nn sl, u2, (u3.1 178 30 (by unfold vr_Eca vr_Em; omega)).trans nN, vc_ff_le (fun _ _ z => Or.inl z) u3⟩)
        exact done ⟨I2, L2, m1, m2, m3, m4⟩
      · obtain ⟨I2, L2, m1, m2, m3, m4⟩ := vr_inst (n := nn) (sl := sl) hW hA1.2.2.1 hA1.1 D1 wd (by omega) hN (fun j hj => by rw [o1 216 _ (by omega)]; exact hpg j hj) hgp ((o1 178 24 (by omega)).trans hb) c133 (by omega) hs
        exact done ⟨I2, L2, m1, vr_all_e7 hA1 m2 m4 (vm_step_e7 c133 hs), m3, vc_ff_le (fun _ _ z => Or.inr z) m4⟩
/-- a run of the reference's machine -/
theorem vr_goM {I : Nat → Nat → Int32} {L : Nat → Nat → Int64} {S : vm_S} {many : Nat} (hW : jv_rW K R) (hD : R 180 2 = .ref 181) (hZ : Z ≤ 1000000000) (hN : N ≤ 1024) (e7 : I 178 7 = vl_I many) (hgm : gp < many) (hm8 : many ≤ 8) (hN0 : N0 ≤ 100000) (hA : vr_all Z I L S) (hpg : vr_pg I gp N B) (h217 : I 217 gp = vl_I N) (hp : vm_path 1073750016 1073758208 (vr_F B) N N0 0 (vm_bgn 1073750016 S)) : ∃ I1 L1 m q v T, vm_go 1073750016 1073758208 (vr_F B) N0 0 (vm_bgn 1073750016 S) = some (m, q, v, T) ∧ vr_all Z I1 L1 T ∧ vc_ff (fun q f => vr_Egr q f ∨ (q = 178 ∧ (f = 0 ∨ f = 24))) I L I1 L1 ∧ I1 178 0 = 0 ∧ I1 178 22 = vl_I q ∧ I1 178 23 = vl_I m ∧ (∀ x, v = some x → L1 178 21 = x) ∧ jv_Ms 404 [.ref 178, .int (vl_I gp), .int (vl_I N0)] (jv_H K I L R) nn sl (some (.int (vm_end v)), jv_H K I1 L1 R, nn, sl) := by
  have o0 : ∀ q i, ¬ (q = 178 ∧ i = 0) → jv_u I 178 0 (0 : Int32) q i = I q i := fun q i z => vk_ux z
  have hA0 : vr_all Z (jv_u I 178 0 (0 : Int32)) L S := by
    obtain ⟨⟨a1, a2, a3, a4, a5, a6, a7, a8, a9, a10⟩, hM, ok⟩ := hA
    exact ⟨⟨a1, a2, a3, a4, a5, a6, a7, a8, a9, a10⟩, hM, ok⟩
  obtain ⟨I2, L2, b1, b2, b3, b4, b5⟩ := vr_beginM hW hA0
  obtain ⟨J, eJ⟩ : ∃ J, J = jv_u I2 178 24 (vl_I (8192 * gp)) := ⟨_, rfl⟩
  have oJ : ∀ q i, ¬ (q = 178 ∧ i = 24) → J q i = I2 q i := fun q i z => by rw [eJ]; exact vk_ux z
  have oA : ∀ q i, ¬ (q = 221 ∨ q = 223 ∨ q = 224 ∨ (q = 178 ∧ (i = 23 ∨ i = 24 ∨ i = 0))) → J q i = I q i := fun q i z => (oJ q i (by omega)).trans ((b4 q i (by omega)).trans (o0 q i (by omega)))
  have hAJ := vr_all_x b2 (I1 := J) (L1 := L2) (fun q i z => oJ q i (by omega)) (fun _ _ _ => rfl)
  obtain ⟨I4, L4, m, r, v, U, h1, h2, h3, h4, h5, h6, h7⟩ := vr_goL (nn := nn) (sl := sl) hW hD hZ hN (show gp < 8 by omega) hN0 N0 0 0 J L2 _ hp hAJ (fun j hj => by rw [oA 216 _ (by omega)]; exact hpg j hj) (by rw [eJ, jv_u_self]) ((oA 217 gp (by omega)).trans h217) ((oJ 178 23 (by omega)).trans b3) (Nat.zero_add _)
  have ff : vc_ff (fun q f => vr_Egr q f ∨ (q = 178 ∧ (f = 0 ∨ f = 24))) I L J L2 := ⟨fun q i z => oA q i (fun y => z (by unfold vr_Egr vr_Eca; omega)), fun q i z => b5 q i (fun y => z (by unfold vr_Egr vr_Eca; omega))⟩
  refine ⟨I4, L4, m, r, v, U, h1, h2, vc_ff_trans ff (vc_ff_le (fun _ _ z => Or.inl z) h3), ?_, h4, by rw [h5, Nat.zero_add], h6, ?_⟩
  · rw [h3.1 178 0 (by unfold vr_Egr vr_Eca vr_Em; omega), oJ 178 0 (by omega), b4 178 0 (by omega), jv_u_self]
  · have z := vr_run_0 (n := nn) (sl := sl) (Q := fun X => X = (some (.int (vm_end v)), jv_H K I4 L4 R, nn, sl)) hW e7 hgm hm8 hN0 b1 (by rw [← eJ]; exact h7 _ rfl)
    obtain ⟨X, k, e⟩ := z
    subst e
    exact k
end
