/-! part 81.load: the law: load (gen/gen80.py) -/
set_option maxRecDepth 100000 in
/-- the reference forgets all states -/
theorem jx_has {K : Nat → Option (Nat × Nat)} {I : Nat → Nat → Int32} {L : Nat → Nat → Int64} {R : Nat → Nat → Value} {n sl : Nat} {X : jv_R} (hI : jv_I 315 4 (some .int) 13 367 jv_c315) (o a : Nat) (w al : Int32) (hKo : K o = some (12, 24)) (hKa : K a = some (100, 1028)) (hR : R o 10 = .ref a) (Kk : jv_Ev 315 119 [(2, .int w)] [] (jv_H K (jx_fill I a 1024 (0 : Int32)) L R) n sl X) : jv_Ev 315 99 [(3, .int (0 : Int32)), (2, .int w), (1, .int al), (0, .ref o)] [] (jv_H K I L R) n sl X := by
  have loop : ∀ d i, i + d = 1024 → jv_Ev 315 99 [(0, .ref o), (2, .int w), (3, .int (nI i))] [] (jv_H K (jx_fill I a i 0) L R) n sl X := by
    intro d
    induction d with
    | zero =>
      intro i hi
      have hi : i = 1024 := by omega
      subst hi
      refine jv_Ev.steps hI 2 (pc' := 103) (l' := [(0, .ref o), (2, .int w), (3, .int (nI 1024))]) (st' := [.int (1024 : Int32), .int (nI 1024)]) rfl ?_
      refine jv_Ev.br hI (pc' := 119) (st' := []) rfl (jv_bc_ge.trans (jx_got (by decide))) ?_
      exact jv_Ev.loc (l := [(2, .int w)]) ⟨List.forall_mem_cons.mpr ⟨.tail _ (.head _), fun _ h => absurd h List.not_mem_nil⟩, by show List.Nodup [0, 2, 3]; decide⟩ Kk
    | succ d ih =>
      intro i hi
      have hlt : i < 1024 := by omega
      refine jv_Ev.steps hI 2 (pc' := 103) (l' := [(0, .ref o), (2, .int w), (3, .int (nI i))]) (st' := [.int (1024 : Int32), .int (nI i)]) rfl ?_
      refine jv_Ev.br hI (pc' := 106) (st' := []) rfl (jv_bc_ge.trans (jx_gof (show ¬ nI 1024 ≤ nI i from nI_ge hlt (by omega)))) ?_
      refine jv_Ev.steps hI 1 (pc' := 107) (l' := [(0, .ref o), (2, .int w), (3, .int (nI i))]) (st' := [.ref o]) rfl ?_
      refine jv_Ev.m hI (pc' := 110) (st' := [.ref a]) rfl rfl (jv_m_getR hKo rfl rfl hR) ?_
      refine jv_Ev.steps hI 2 (pc' := 112) (l' := [(0, .ref o), (2, .int w), (3, .int (nI i))]) (st' := [.int (0 : Int32), .int (nI i), .ref a]) rfl ?_
      refine jv_Ev.m hI (pc' := 113) (st' := []) (G' := jv_H K (jx_fill I a (i + 1) 0) L R) rfl rfl ?_ ?_
      · rw [jv_m_zast hKa (jx_ix (Nat.lt_trans hlt (by omega)) (by omega)), show (nI i).toNatClampNeg = i from nI_clamp (by omega), show ((0 : Int32) &&& 1) = 0 from rfl, jx_fill_s]
      refine jv_Ev.steps hI 2 (pc' := 99) (l' := [(3, .int (nI i + Int32.ofInt 1)), (0, .ref o), (2, .int w)]) (st' := []) rfl ?_
      refine jv_Ev.loc (l := [(0, .ref o), (2, .int w), (3, .int (nI (i + 1)))]) ⟨?_, by show List.Nodup [3, 0, 2]; decide⟩ (ih (i + 1) (by omega))
      have e1 : nI i + Int32.ofInt 1 = nI (i + 1) := (nI_succ i).symm
      rw [e1]
      exact List.forall_mem_cons.mpr ⟨.tail _ (.head _), List.forall_mem_cons.mpr ⟨.tail _ (.tail _ (.head _)), List.forall_mem_cons.mpr ⟨.head _, fun _ h => absurd h List.not_mem_nil⟩⟩⟩
  have h0 := loop 1024 0 rfl
  rw [jx_fill_0] at h0
  exact jv_Ev.loc (l := [(0, .ref o), (2, .int w), (3, .int (nI 0))]) ⟨List.forall_mem_cons.mpr ⟨.tail _ (.tail _ (.tail _ (.head _))), List.forall_mem_cons.mpr ⟨.tail _ (.head _), List.forall_mem_cons.mpr ⟨.head _, fun _ h => absurd h List.not_mem_nil⟩⟩⟩, by show List.Nodup [3, 2, 1, 0]; decide⟩ h0
set_option maxRecDepth 100000 in
theorem jx_i443 : jx_I jv_T2 443 3 (some .int) 9 231 jv_c443 := ⟨rfl, rfl, rfl, rfl, rfl⟩
set_option maxRecDepth 100000 in
theorem jv_i421 : jv_I 421 3 (some .int) 8 209 jv_c421 := ⟨rfl, rfl, rfl, rfl, rfl⟩
set_option maxRecDepth 100000 in
theorem jv_i76 : jv_I 76 4 none 1 26 jv_c76 := ⟨rfl, rfl, rfl, rfl, rfl⟩
set_option maxRecDepth 100000 in
/-- ProgramBox$Program.<init> -/
theorem jx_e467 (p0 : Int32) (p1 : Int32) (p2 : Int32) (p3 : Int32) (p4 : Int32) (p5 : Int32)  : jv_Ms 76 [.ref 227, .ref 1, .int (0 : Int32)] (jv_H (jx_kp (jx_K 227) 227 3 1) jx_If jx_L0 (jx_R 227)) 228 1572951 (none, (jv_H (jx_kp (jx_kp (jx_K 227) 227 3 1) 228 103 0) jx_If jx_L0 (jv_u (jx_R 227) 227 0 (.ref 228))), 229, 1572951) := by
  show jv_Ev 76 0 [(0, .ref 227), (1, .ref 1), (2, .int (0 : Int32))] [] (jv_H (jx_kp (jx_K 227) 227 3 1) jx_If jx_L0 (jx_R 227)) 228 1572951 _
  refine jv_Ev.steps jv_i76 1 (pc' := 1) (l' := [(0, .ref 227), (1, .ref 1), (2, .int (0 : Int32))]) (st' := [.ref 227]) rfl ?_
  refine jv_Ev.obj jv_i76 rfl rfl ?_
  refine jv_Ev.steps jv_i76 6 (pc' := 13) (l' := [(0, .ref 227), (1, .ref 1), (2, .int (0 : Int32))]) (st' := [.int (0 : Int32), .ref 227]) rfl ?_
  refine jx_Ev_newk jv_i76 (pc' := 15) (n' := 229) (sl' := 1572951) (k := 103) (ln := 0) (kk := 0) (st' := [.ref 228, .ref 227]) rfl rfl (fun _ => rfl) rfl rfl rfl rfl ?_
  refine jv_Ev.m jv_i76 (pc' := 18) (st' := []) rfl rfl (jv_m_putR rfl rfl rfl rfl rfl) ?_
  refine jv_Ev.steps jv_i76 4 (pc' := 22) (l' := [(3, .int (0 : Int32)), (0, .ref 227), (1, .ref 1), (2, .int (0 : Int32))]) (st' := [.ref 227, .int (0 : Int32)]) rfl ?_
  refine jv_Ev.m jv_i76 (pc' := 25) (st' := [.ref 228, .int (0 : Int32)]) rfl rfl (jv_m_getR rfl rfl rfl rfl) ?_
  refine jv_Ev.m jv_i76 (pc' := 26) (st' := [.int (Int32.ofNat 0), .int (0 : Int32)]) rfl rfl (jv_m_len rfl rfl) ?_
  refine jv_Ev.br jv_i76 (pc' := 51) (st' := []) rfl (jv_bc_ge.trans (jx_got (by decide))) ?_
  exact jv_Ev.ret jv_i76 rfl rfl

set_option maxRecDepth 100000 in
theorem jv_i90 : jv_I 90 4 (some .int) 4 90 jv_c90 := ⟨rfl, rfl, rfl, rfl, rfl⟩
set_option maxRecDepth 100000 in
/-- ProgramBox$Program.firstWrong -/
theorem jx_e468 (p0 : Int32) (p1 : Int32) (p2 : Int32) (p3 : Int32) (p4 : Int32) (p5 : Int32)  : jv_Ms 90 [.ref 227, .int (0 : Int32)] (jv_H (jx_kp (jx_kp (jx_K 227) 227 3 1) 228 103 0) (jv_u jx_If 0 1 (0 : Int32)) jx_L0 (jv_u (jx_R 227) 227 0 (.ref 228))) 229 1572951 (some (.int (Int32.ofNat 0)), (jv_H (jx_kp (jx_kp (jx_K 227) 227 3 1) 228 103 0) (jv_u jx_If 0 1 (0 : Int32)) jx_L0 (jv_u (jx_R 227) 227 0 (.ref 228))), 229, 1572951) := by
  show jv_Ev 90 0 [(0, .ref 227), (1, .int (0 : Int32))] [] (jv_H (jx_kp (jx_kp (jx_K 227) 227 3 1) 228 103 0) (jv_u jx_If 0 1 (0 : Int32)) jx_L0 (jv_u (jx_R 227) 227 0 (.ref 228))) 229 1572951 _
  refine jv_Ev.steps jv_i90 1 (pc' := 1) (l' := [(0, .ref 227), (1, .int (0 : Int32))]) (st' := [.ref 227]) rfl ?_
  refine jv_Ev.m jv_i90 (pc' := 4) (st' := [.ref 228]) rfl rfl (jv_m_getR rfl rfl rfl rfl) ?_
  refine jv_Ev.m jv_i90 (pc' := 5) (st' := [.int (Int32.ofNat 0)]) rfl rfl (jv_m_len rfl rfl) ?_
  refine jv_Ev.steps jv_i90 5 (pc' := 10) (l' := [(3, .int (0 : Int32)), (2, .int (Int32.ofNat 0)), (0, .ref 227), (1, .int (0 : Int32))]) (st' := [.int (Int32.ofNat 0), .int (0 : Int32)]) rfl ?_
  refine jv_Ev.br jv_i90 (pc' := 45) (st' := []) rfl (jv_bc_ge.trans (jx_got (by decide))) ?_
  refine jv_Ev.steps jv_i90 1 (pc' := 46) (l' := [(3, .int (0 : Int32)), (2, .int (Int32.ofNat 0)), (0, .ref 227), (1, .int (0 : Int32))]) (st' := [.int (0 : Int32)]) rfl ?_
  refine jv_Ev.br jv_i90 (pc' := 49) (st' := []) rfl (jv_bi_ne.trans (jx_gof (by decide))) ?_
  refine jv_Ev.steps jv_i90 1 (pc' := 50) (l' := [(3, .int (0 : Int32)), (2, .int (Int32.ofNat 0)), (0, .ref 227), (1, .int (0 : Int32))]) (st' := [.int (Int32.ofNat 0)]) rfl ?_
  refine jv_Ev.br jv_i90 (pc' := 53) (st' := []) rfl (jv_bi_ne.trans (jx_gof (by decide))) ?_
  refine jv_Ev.steps jv_i90 1 (pc' := 54) (l' := [(3, .int (0 : Int32)), (2, .int (Int32.ofNat 0)), (0, .ref 227), (1, .int (0 : Int32))]) (st' := [.int (Int32.ofNat 0)]) rfl ?_
  exact jv_Ev.ret jv_i90 rfl rfl

set_option maxRecDepth 100000 in
/-- ProgramBox.load -/
theorem jx_e469 (p0 : Int32) (p1 : Int32) (p2 : Int32) (p3 : Int32) (p4 : Int32) (p5 : Int32)  : jv_Ms 421 [.ref 0] (jv_H (jx_K 227) jx_If jx_L0 (jx_R 227)) 227 1572950 (some (.int (-1 : Int32)), (jv_H (jx_kp (jx_kp (jx_K 227) 227 3 1) 228 103 0) (jv_u (jv_u (jv_u jx_If 0 1 (0 : Int32)) 0 7 (Int32.ofNat 0)) 0 8 (9 : Int32)) jx_L0 (jv_u (jx_R 227) 227 0 (.ref 228))), 229, 1572951) := by
  show jv_Ev 421 0 [(0, .ref 0)] [] (jv_H (jx_K 227) jx_If jx_L0 (jx_R 227)) 227 1572950 _
  refine jv_Ev.steps jv_i421 1 (pc' := 1) (l' := [(0, .ref 0)]) (st' := [.ref 0]) rfl ?_
  refine jv_Ev.m jv_i421 (pc' := 4) (st' := [.int (0 : Int32)]) rfl rfl (jv_m_getI rfl rfl rfl rfl) ?_
  refine jv_Ev.steps jv_i421 1 (pc' := 6) (l' := [(0, .ref 0)]) (st' := [.int (8 : Int32), .int (0 : Int32)]) rfl ?_
  refine jv_Ev.br jv_i421 (pc' := 19) (st' := []) rfl (jv_bc_lt.trans (jx_got (by decide))) ?_
  refine jx_Ev_newk jv_i421 (pc' := 22) (n' := 228) (sl' := 1572951) (k := 3) (ln := 1) (kk := 1) (st' := [.ref 227]) rfl rfl (jx_fo 3 rfl (fun _ => rfl) (fun _ => rfl) (fun _ => rfl)) rfl rfl rfl rfl ?_
  refine jv_Ev.steps jv_i421 2 (pc' := 24) (l' := [(0, .ref 0)]) (st' := [.ref 0, .ref 227, .ref 227]) rfl ?_
  refine jv_Ev.m jv_i421 (pc' := 27) (st' := [.ref 1, .ref 227, .ref 227]) rfl rfl (jv_m_getR rfl rfl rfl rfl) ?_
  refine jv_Ev.steps jv_i421 1 (pc' := 28) (l' := [(0, .ref 0)]) (st' := [.ref 0, .ref 1, .ref 227, .ref 227]) rfl ?_
  refine jv_Ev.m jv_i421 (pc' := 31) (st' := [.int (0 : Int32), .ref 1, .ref 227, .ref 227]) rfl rfl (jv_m_getI rfl rfl rfl rfl) ?_
  refine jv_Ev.c jv_i421 (pc' := 34) (S' := [.ref 227]) jv_i76 [.ref 227, .ref 1, .int (0 : Int32)] rfl rfl rfl rfl (by rfl) rfl (jx_e467 p0 p1 p2 p3 p4 p5 ) rfl rfl ?_
  refine jv_Ev.steps jv_i421 2 (pc' := 36) (l' := [(1, .ref 227), (0, .ref 0)]) (st' := [.ref 0]) rfl ?_
  refine jv_Ev.m jv_i421 (pc' := 39) (st' := [.int (0 : Int32)]) rfl rfl (jv_m_getI rfl rfl rfl rfl) ?_
  refine jv_Ev.steps jv_i421 2 (pc' := 42) (l' := [(1, .ref 227), (0, .ref 0)]) (st' := [.int (0 : Int32)]) rfl ?_
  refine jv_Ev.br jv_i421 (pc' := 49) (st' := []) rfl (jv_bi_eq.trans (jx_got (by decide))) ?_
  refine jv_Ev.steps jv_i421 4 (pc' := 53) (l' := [(2, .int (0 : Int32)), (1, .ref 227), (0, .ref 0)]) (st' := [.int (0 : Int32), .ref 0]) rfl ?_
  refine jv_Ev.m jv_i421 (pc' := 56) (st' := []) rfl rfl (jv_m_putI rfl rfl rfl rfl rfl) ?_
  refine jv_Ev.steps jv_i421 3 (pc' := 59) (l' := [(2, .int (0 : Int32)), (1, .ref 227), (0, .ref 0)]) (st' := [.int (0 : Int32), .ref 227, .ref 0]) rfl ?_
  refine jv_Ev.c jv_i421 (pc' := 62) (S' := [.int (Int32.ofNat 0), .ref 0]) jv_i90 [.ref 227, .int (0 : Int32)] rfl rfl rfl rfl (jv_cal rfl (jv_H_at rfl) rfl rfl) rfl (jx_e468 p0 p1 p2 p3 p4 p5 ) rfl rfl ?_
  refine jv_Ev.m jv_i421 (pc' := 65) (st' := []) rfl rfl (jv_m_putI rfl rfl rfl rfl rfl) ?_
  refine jv_Ev.steps jv_i421 2 (pc' := 68) (l' := [(2, .int (0 : Int32)), (1, .ref 227), (0, .ref 0)]) (st' := [.int (9 : Int32), .ref 0]) rfl ?_
  refine jv_Ev.m jv_i421 (pc' := 71) (st' := []) rfl rfl (jv_m_putI rfl rfl rfl rfl rfl) ?_
  refine jv_Ev.steps jv_i421 1 (pc' := 72) (l' := [(2, .int (0 : Int32)), (1, .ref 227), (0, .ref 0)]) (st' := [.ref 0]) rfl ?_
  refine jv_Ev.m jv_i421 (pc' := 75) (st' := [.int (Int32.ofNat 0)]) rfl rfl (jv_m_getI rfl rfl rfl rfl) ?_
  refine jv_Ev.steps jv_i421 1 (pc' := 76) (l' := [(2, .int (0 : Int32)), (1, .ref 227), (0, .ref 0)]) (st' := [.int (-1 : Int32), .int (Int32.ofNat 0)]) rfl ?_
  refine jv_Ev.br jv_i421 (pc' := 113) (st' := []) rfl (jv_bc_ne.trans (jx_got (by decide))) ?_
  refine jv_Ev.steps jv_i421 1 (pc' := 114) (l' := [(2, .int (0 : Int32)), (1, .ref 227), (0, .ref 0)]) (st' := [.ref 0]) rfl ?_
  refine jv_Ev.m jv_i421 (pc' := 117) (st' := [.int (Int32.ofNat 0)]) rfl rfl (jv_m_getI rfl rfl rfl rfl) ?_
  refine jv_Ev.steps jv_i421 1 (pc' := 118) (l' := [(2, .int (0 : Int32)), (1, .ref 227), (0, .ref 0)]) (st' := [.int (-1 : Int32), .int (Int32.ofNat 0)]) rfl ?_
  refine jv_Ev.br jv_i421 (pc' := 121) (st' := []) rfl (jv_bc_eq.trans (jx_gof (by decide))) ?_
  refine jv_Ev.steps jv_i421 1 (pc' := 122) (l' := [(2, .int (0 : Int32)), (1, .ref 227), (0, .ref 0)]) (st' := [.int (-1 : Int32)]) rfl ?_
  exact jv_Ev.ret jv_i421 rfl rfl

set_option maxRecDepth 100000 in
/-- the law's load -/
theorem jx_w470 (hTb : jv_TOk jv_Tb) (hT2 : jx_T2Ok) (p0 : Int32) (p1 : Int32) (p2 : Int32) (p3 : Int32) (p4 : Int32) (p5 : Int32)  : jx_Wr 443 [(0, 8, 11, 13)] [.ref 0, .ref 226] (jv_H (jx_K 227) jx_If jx_L0 (jx_R 227)) 227 1572950 (some (.int (0 : Int32)), (jv_H (jx_kp (jx_kp (jx_K 227) 227 3 1) 228 103 0) (jv_u (jv_u (jv_u jx_If 0 1 (0 : Int32)) 0 7 (Int32.ofNat 0)) 0 8 (9 : Int32)) (jv_u jx_L0 226 (0 : Int32).toNatClampNeg (-1 : Int64)) (jv_u (jx_R 227) 227 0 (.ref 228))), 229, 1572951) := by
  refine jx_Wr.of hT2 (by decide) rfl (Nat.le_of_ble_eq_true rfl) ?_
  intro p l e R s m args below meth c E hl F hZ htb hRc hRs
  show jw p l e R s m args below meth c E 3 227 1572950 _ 0 [(0, .ref 0), (1, .ref 226)] [] (jv_H (jx_K 227) jx_If jx_L0 (jx_R 227)) 227 1572950
  have hRc : R.cells = 229 - 227 := hRc
  have hRs : R.slots = 1572951 - 1572950 := hRs
  refine jw.steps F jx_i443 3 (pc' := 3) (l' := [(0, .ref 0), (1, .ref 226)]) (st' := [.ref 0, .int (0 : Int32), .ref 226]) rfl ?_
  refine jw.ca hTb F jx_i443 (pc' := 6) (S' := [.int (-1 : Int32), .int (0 : Int32), .ref 226]) rfl jv_i421 [.ref 0] rfl rfl rfl rfl (jx_cal2 rfl (jv_H_at rfl) rfl rfl) rfl (jx_e469 p0 p1 p2 p3 p4 p5 ) (by omega) (by omega) rfl rfl ?_
  refine jw.steps F jx_i443 1 (pc' := 7) (l' := [(0, .ref 0), (1, .ref 226)]) (st' := [.long (-1 : Int64), .int (0 : Int32), .ref 226]) rfl ?_
  refine jw.me F jx_i443 (pc' := 8) (st' := []) rfl rfl (jv_m_last rfl (by decide)) ?_
  refine jw.steps F jx_i443 2 (pc' := 15) (l' := [(0, .ref 0), (1, .ref 226)]) (st' := [.int (0 : Int32)]) rfl ?_
  exact jw.ret F jx_i443 rfl rfl

set_option maxRecDepth 100000 in
theorem jv_i354 : jv_I 354 3 (some .int) 14 390 jv_c354 := ⟨rfl, rfl, rfl, rfl, rfl⟩
set_option maxRecDepth 100000 in
theorem jv_i315 : jv_I 315 4 (some .int) 13 367 jv_c315 := ⟨rfl, rfl, rfl, rfl, rfl⟩
set_option maxRecDepth 100000 in
theorem jv_i268 : jv_I 268 3 (some .int) 4 87 jv_c268 := ⟨rfl, rfl, rfl, rfl, rfl⟩
set_option maxRecDepth 100000 in
/-- ProgramBoxModel$Check.wrongPlace -/
theorem jx_e471 (p0 : Int32) (p1 : Int32) (p2 : Int32) (p3 : Int32) (p4 : Int32) (p5 : Int32)  : jv_Ms 268 [.ref 196, .int (0 : Int32)] (jv_H (jx_kp (jx_kp (jx_K 227) 227 3 1) 228 103 0) (jv_u (jv_u (jv_u (jv_u (jv_u (jv_u (jv_u jx_If 0 1 (0 : Int32)) 0 7 (Int32.ofNat 0)) 0 8 (9 : Int32)) 178 0 (0 : Int32)) 196 2 (0 : Int32)) 178 2 (0 : Int32)) 196 0 (0 : Int32)) (jv_u jx_L0 226 (0 : Int32).toNatClampNeg (-1 : Int64)) (jv_u (jx_R 227) 227 0 (.ref 228))) 229 1572951 (some (.int (0 : Int32)), (jv_H (jx_kp (jx_kp (jx_K 227) 227 3 1) 228 103 0) (jv_u (jv_u (jv_u (jv_u (jv_u (jv_u (jv_u jx_If 0 1 (0 : Int32)) 0 7 (Int32.ofNat 0)) 0 8 (9 : Int32)) 178 0 (0 : Int32)) 196 2 (0 : Int32)) 178 2 (0 : Int32)) 196 0 (0 : Int32)) (jv_u jx_L0 226 (0 : Int32).toNatClampNeg (-1 : Int64)) (jv_u (jx_R 227) 227 0 (.ref 228))), 229, 1572951) := by
  show jv_Ev 268 0 [(0, .ref 196), (1, .int (0 : Int32))] [] (jv_H (jx_kp (jx_kp (jx_K 227) 227 3 1) 228 103 0) (jv_u (jv_u (jv_u (jv_u (jv_u (jv_u (jv_u jx_If 0 1 (0 : Int32)) 0 7 (Int32.ofNat 0)) 0 8 (9 : Int32)) 178 0 (0 : Int32)) 196 2 (0 : Int32)) 178 2 (0 : Int32)) 196 0 (0 : Int32)) (jv_u jx_L0 226 (0 : Int32).toNatClampNeg (-1 : Int64)) (jv_u (jx_R 227) 227 0 (.ref 228))) 229 1572951 _
  refine jv_Ev.steps jv_i268 4 (pc' := 4) (l' := [(2, .int (0 : Int32)), (0, .ref 196), (1, .int (0 : Int32))]) (st' := [.int (0 : Int32), .int (0 : Int32)]) rfl ?_
  refine jv_Ev.br jv_i268 (pc' := 42) (st' := []) rfl (jv_bc_ge.trans (jx_got (by decide))) ?_
  refine jv_Ev.steps jv_i268 1 (pc' := 43) (l' := [(2, .int (0 : Int32)), (0, .ref 196), (1, .int (0 : Int32))]) (st' := [.ref 196]) rfl ?_
  refine jv_Ev.m jv_i268 (pc' := 46) (st' := [.int (0 : Int32)]) rfl rfl (jv_m_getI rfl rfl rfl rfl) ?_
  refine jv_Ev.steps jv_i268 2 (pc' := 49) (l' := [(2, .int (0 : Int32)), (0, .ref 196), (1, .int (0 : Int32))]) (st' := [.int (0 : Int32)]) rfl ?_
  refine jv_Ev.br jv_i268 (pc' := 52) (st' := []) rfl (jv_bi_ne.trans (jx_gof (by decide))) ?_
  refine jv_Ev.steps jv_i268 1 (pc' := 53) (l' := [(2, .int (0 : Int32)), (0, .ref 196), (1, .int (0 : Int32))]) (st' := [.int (0 : Int32)]) rfl ?_
  refine jv_Ev.br jv_i268 (pc' := 56) (st' := []) rfl (jv_bi_ne.trans (jx_gof (by decide))) ?_
  refine jv_Ev.steps jv_i268 2 (pc' := 61) (l' := [(2, .int (0 : Int32)), (0, .ref 196), (1, .int (0 : Int32))]) (st' := [.int (0 : Int32)]) rfl ?_
  exact jv_Ev.ret jv_i268 rfl rfl

set_option maxRecDepth 100000 in
/-- ProgramBoxModel$Check.check -/
theorem jx_e472 (p0 : Int32) (p1 : Int32) (p2 : Int32) (p3 : Int32) (p4 : Int32) (p5 : Int32)  : jv_Ms 315 [.ref 196] (jv_H (jx_kp (jx_kp (jx_K 227) 227 3 1) 228 103 0) (jv_u (jv_u (jv_u (jv_u (jv_u (jv_u jx_If 0 1 (0 : Int32)) 0 7 (Int32.ofNat 0)) 0 8 (9 : Int32)) 178 0 (0 : Int32)) 196 2 (0 : Int32)) 178 2 (0 : Int32)) (jv_u jx_L0 226 (0 : Int32).toNatClampNeg (-1 : Int64)) (jv_u (jx_R 227) 227 0 (.ref 228))) 229 1572951 (some (.int (0 : Int32)), (jv_H (jx_kp (jx_kp (jx_K 227) 227 3 1) 228 103 0) (jx_fill (jv_u (jv_u (jv_u (jv_u (jv_u (jv_u (jv_u (jv_u (jv_u (jv_u (jv_u jx_If 0 1 (0 : Int32)) 0 7 (Int32.ofNat 0)) 0 8 (9 : Int32)) 178 0 (0 : Int32)) 196 2 (0 : Int32)) 178 2 (0 : Int32)) 196 0 (0 : Int32)) 196 2 (0 : Int32)) 196 6 (0 : Int32)) 196 5 (9 : Int32)) 196 4 (0 : Int32)) 202 1024 (0 : Int32)) (jv_u jx_L0 226 (0 : Int32).toNatClampNeg (-1 : Int64)) (jv_u (jx_R 227) 227 0 (.ref 228))), 229, 1572951) := by
  show jv_Ev 315 0 [(0, .ref 196)] [] (jv_H (jx_kp (jx_kp (jx_K 227) 227 3 1) 228 103 0) (jv_u (jv_u (jv_u (jv_u (jv_u (jv_u jx_If 0 1 (0 : Int32)) 0 7 (Int32.ofNat 0)) 0 8 (9 : Int32)) 178 0 (0 : Int32)) 196 2 (0 : Int32)) 178 2 (0 : Int32)) (jv_u jx_L0 226 (0 : Int32).toNatClampNeg (-1 : Int64)) (jv_u (jx_R 227) 227 0 (.ref 228))) 229 1572951 _
  refine jv_Ev.steps jv_i315 2 (pc' := 2) (l' := [(0, .ref 196)]) (st' := [.int (0 : Int32), .ref 196]) rfl ?_
  refine jv_Ev.m jv_i315 (pc' := 5) (st' := []) rfl rfl (jv_m_putI rfl rfl rfl rfl rfl) ?_
  refine jv_Ev.steps jv_i315 1 (pc' := 6) (l' := [(0, .ref 196)]) (st' := [.ref 196]) rfl ?_
  refine jv_Ev.m jv_i315 (pc' := 9) (st' := [.int (0 : Int32)]) rfl rfl (jv_m_getI rfl rfl rfl rfl) ?_
  refine jv_Ev.steps jv_i315 5 (pc' := 15) (l' := [(1, .int (0 : Int32)), (0, .ref 196)]) (st' := [.int (0 : Int32), .ref 196]) rfl ?_
  refine jv_Ev.c jv_i315 (pc' := 18) (S' := [.int (0 : Int32)]) jv_i268 [.ref 196, .int (0 : Int32)] rfl rfl rfl rfl (jv_cal rfl (jv_H_at rfl) rfl rfl) rfl (jx_e471 p0 p1 p2 p3 p4 p5 ) rfl rfl ?_
  refine jv_Ev.steps jv_i315 3 (pc' := 21) (l' := [(2, .int (0 : Int32)), (1, .int (0 : Int32)), (0, .ref 196)]) (st' := [.int (-1 : Int32), .int (0 : Int32)]) rfl ?_
  refine jv_Ev.br jv_i315 (pc' := 32) (st' := []) rfl (jv_bc_ne.trans (jx_got (by decide))) ?_
  refine jv_Ev.steps jv_i315 8 (pc' := 41) (l' := [(3, .int (0 : Int32)), (2, .int (0 : Int32)), (1, .int (0 : Int32)), (0, .ref 196)]) (st' := [.int (0 : Int32), .int (0 : Int32)]) rfl ?_
  refine jv_Ev.br jv_i315 (pc' := 62) (st' := []) rfl (jv_bc_ge.trans (jx_got (by decide))) ?_
  refine jv_Ev.steps jv_i315 2 (pc' := 64) (l' := [(3, .int (0 : Int32)), (2, .int (0 : Int32)), (1, .int (0 : Int32)), (0, .ref 196)]) (st' := [.int (0 : Int32), .ref 196]) rfl ?_
  refine jv_Ev.m jv_i315 (pc' := 67) (st' := []) rfl rfl (jv_m_putI rfl rfl rfl rfl rfl) ?_
  refine jv_Ev.steps jv_i315 2 (pc' := 69) (l' := [(3, .int (0 : Int32)), (2, .int (0 : Int32)), (1, .int (0 : Int32)), (0, .ref 196)]) (st' := [.int (0 : Int32), .ref 196]) rfl ?_
  refine jv_Ev.m jv_i315 (pc' := 72) (st' := []) rfl rfl (jv_m_putI rfl rfl rfl rfl rfl) ?_
  refine jv_Ev.steps jv_i315 3 (pc' := 75) (l' := [(3, .int (0 : Int32)), (2, .int (0 : Int32)), (1, .int (0 : Int32)), (0, .ref 196)]) (st' := [.int (-1 : Int32), .int (0 : Int32), .ref 196]) rfl ?_
  refine jv_Ev.br jv_i315 (pc' := 82) (st' := [.ref 196]) rfl (jv_bc_ne.trans (jx_got (by decide))) ?_
  refine jv_Ev.steps jv_i315 1 (pc' := 84) (l' := [(3, .int (0 : Int32)), (2, .int (0 : Int32)), (1, .int (0 : Int32)), (0, .ref 196)]) (st' := [.int (9 : Int32), .ref 196]) rfl ?_
  refine jv_Ev.m jv_i315 (pc' := 87) (st' := []) rfl rfl (jv_m_putI rfl rfl rfl rfl rfl) ?_
  refine jv_Ev.steps jv_i315 2 (pc' := 89) (l' := [(3, .int (0 : Int32)), (2, .int (0 : Int32)), (1, .int (0 : Int32)), (0, .ref 196)]) (st' := [.int (0 : Int32), .ref 196]) rfl ?_
  refine jv_Ev.m jv_i315 (pc' := 92) (st' := []) rfl rfl (jv_m_putI rfl rfl rfl rfl rfl) ?_
  refine jv_Ev.steps jv_i315 2 (pc' := 94) (l' := [(3, .int (0 : Int32)), (2, .int (0 : Int32)), (1, .int (0 : Int32)), (0, .ref 196)]) (st' := [.int (-1 : Int32), .int (0 : Int32)]) rfl ?_
  refine jv_Ev.br jv_i315 (pc' := 97) (st' := []) rfl (jv_bc_eq.trans (jx_gof (by decide))) ?_
  refine jv_Ev.steps jv_i315 2 (pc' := 99) (l' := [(3, .int (0 : Int32)), (2, .int (0 : Int32)), (1, .int (0 : Int32)), (0, .ref 196)]) (st' := []) rfl ?_
  refine jv_Ev.loc (l := [(3, .int (0 : Int32)), (2, .int (0 : Int32)), (1, .int (0 : Int32)), (0, .ref 196)]) ⟨List.forall_mem_cons.mpr ⟨.head _, List.forall_mem_cons.mpr ⟨.tail _ (.head _), List.forall_mem_cons.mpr ⟨.tail _ (.tail _ (.head _)), List.forall_mem_cons.mpr ⟨.tail _ (.tail _ (.tail _ (.head _))), fun _ h => absurd h List.not_mem_nil⟩⟩⟩⟩, by show List.Nodup [3, 2, 1, 0]; decide⟩ ?_
  refine jx_has jv_i315 196 202 (0 : Int32) (0 : Int32) rfl rfl rfl ?_
  refine jv_Ev.steps jv_i315 1 (pc' := 120) (l' := [(2, .int (0 : Int32))]) (st' := [.int (0 : Int32)]) rfl ?_
  exact jv_Ev.ret jv_i315 rfl rfl

set_option maxRecDepth 100000 in
theorem jv_i316 : jv_I 316 1 (some .int) 0 0 jv_c316 := ⟨rfl, rfl, rfl, rfl, rfl⟩
set_option maxRecDepth 100000 in
/-- ProgramBoxModel$Check.reason -/
theorem jx_e473 (p0 : Int32) (p1 : Int32) (p2 : Int32) (p3 : Int32) (p4 : Int32) (p5 : Int32)  : jv_Ms 316 [.ref 196] (jv_H (jx_kp (jx_kp (jx_K 227) 227 3 1) 228 103 0) (jv_u (jx_fill (jv_u (jv_u (jv_u (jv_u (jv_u (jv_u (jv_u (jv_u (jv_u (jv_u (jv_u jx_If 0 1 (0 : Int32)) 0 7 (Int32.ofNat 0)) 0 8 (9 : Int32)) 178 0 (0 : Int32)) 196 2 (0 : Int32)) 178 2 (0 : Int32)) 196 0 (0 : Int32)) 196 2 (0 : Int32)) 196 6 (0 : Int32)) 196 5 (9 : Int32)) 196 4 (0 : Int32)) 202 1024 (0 : Int32)) 178 8 (0 : Int32)) (jv_u jx_L0 226 (0 : Int32).toNatClampNeg (-1 : Int64)) (jv_u (jx_R 227) 227 0 (.ref 228))) 229 1572951 (some (.int (9 : Int32)), (jv_H (jx_kp (jx_kp (jx_K 227) 227 3 1) 228 103 0) (jv_u (jv_u (jx_fill (jv_u (jv_u (jv_u (jv_u (jv_u (jv_u (jv_u (jv_u (jv_u (jv_u (jv_u jx_If 0 1 (0 : Int32)) 0 7 (Int32.ofNat 0)) 0 8 (9 : Int32)) 178 0 (0 : Int32)) 196 2 (0 : Int32)) 178 2 (0 : Int32)) 196 0 (0 : Int32)) 196 2 (0 : Int32)) 196 6 (0 : Int32)) 196 5 (9 : Int32)) 196 4 (0 : Int32)) 202 1024 (0 : Int32)) 178 8 (0 : Int32)) 196 0 (0 : Int32)) (jv_u jx_L0 226 (0 : Int32).toNatClampNeg (-1 : Int64)) (jv_u (jx_R 227) 227 0 (.ref 228))), 229, 1572951) := by
  show jv_Ev 316 0 [(0, .ref 196)] [] (jv_H (jx_kp (jx_kp (jx_K 227) 227 3 1) 228 103 0) (jv_u (jx_fill (jv_u (jv_u (jv_u (jv_u (jv_u (jv_u (jv_u (jv_u (jv_u (jv_u (jv_u jx_If 0 1 (0 : Int32)) 0 7 (Int32.ofNat 0)) 0 8 (9 : Int32)) 178 0 (0 : Int32)) 196 2 (0 : Int32)) 178 2 (0 : Int32)) 196 0 (0 : Int32)) 196 2 (0 : Int32)) 196 6 (0 : Int32)) 196 5 (9 : Int32)) 196 4 (0 : Int32)) 202 1024 (0 : Int32)) 178 8 (0 : Int32)) (jv_u jx_L0 226 (0 : Int32).toNatClampNeg (-1 : Int64)) (jv_u (jx_R 227) 227 0 (.ref 228))) 229 1572951 _
  refine jv_Ev.steps jv_i316 2 (pc' := 2) (l' := [(0, .ref 196)]) (st' := [.int (0 : Int32), .ref 196]) rfl ?_
  refine jv_Ev.m jv_i316 (pc' := 5) (st' := []) rfl rfl (jv_m_putI rfl rfl rfl rfl rfl) ?_
  refine jv_Ev.steps jv_i316 1 (pc' := 6) (l' := [(0, .ref 196)]) (st' := [.ref 196]) rfl ?_
  refine jv_Ev.m jv_i316 (pc' := 9) (st' := [.int (9 : Int32)]) rfl rfl (jv_m_getI rfl rfl rfl rfl) ?_
  exact jv_Ev.ret jv_i316 rfl rfl

set_option maxRecDepth 100000 in
/-- ProgramBoxModel.load -/
theorem jx_e474 (p0 : Int32) (p1 : Int32) (p2 : Int32) (p3 : Int32) (p4 : Int32) (p5 : Int32)  : jv_Ms 354 [.ref 178] (jv_H (jx_kp (jx_kp (jx_K 227) 227 3 1) 228 103 0) (jv_u (jv_u (jv_u jx_If 0 1 (0 : Int32)) 0 7 (Int32.ofNat 0)) 0 8 (9 : Int32)) (jv_u jx_L0 226 (0 : Int32).toNatClampNeg (-1 : Int64)) (jv_u (jx_R 227) 227 0 (.ref 228))) 229 1572951 (some (.int (-1 : Int32)), (jv_H (jx_kp (jx_kp (jx_K 227) 227 3 1) 228 103 0) (jv_u (jv_u (jv_u (jx_fill (jv_u (jv_u (jv_u (jv_u (jv_u (jv_u (jv_u (jv_u (jv_u (jv_u (jv_u jx_If 0 1 (0 : Int32)) 0 7 (Int32.ofNat 0)) 0 8 (9 : Int32)) 178 0 (0 : Int32)) 196 2 (0 : Int32)) 178 2 (0 : Int32)) 196 0 (0 : Int32)) 196 2 (0 : Int32)) 196 6 (0 : Int32)) 196 5 (9 : Int32)) 196 4 (0 : Int32)) 202 1024 (0 : Int32)) 178 8 (0 : Int32)) 196 0 (0 : Int32)) 178 9 (9 : Int32)) (jv_u jx_L0 226 (0 : Int32).toNatClampNeg (-1 : Int64)) (jv_u (jx_R 227) 227 0 (.ref 228))), 229, 1572951) := by
  show jv_Ev 354 0 [(0, .ref 178)] [] (jv_H (jx_kp (jx_kp (jx_K 227) 227 3 1) 228 103 0) (jv_u (jv_u (jv_u jx_If 0 1 (0 : Int32)) 0 7 (Int32.ofNat 0)) 0 8 (9 : Int32)) (jv_u jx_L0 226 (0 : Int32).toNatClampNeg (-1 : Int64)) (jv_u (jx_R 227) 227 0 (.ref 228))) 229 1572951 _
  refine jv_Ev.steps jv_i354 2 (pc' := 2) (l' := [(0, .ref 178)]) (st' := [.ref 178, .ref 178]) rfl ?_
  refine jv_Ev.m jv_i354 (pc' := 5) (st' := [.int (0 : Int32), .ref 178]) rfl rfl (jv_m_getI rfl rfl rfl rfl) ?_
  refine jv_Ev.steps jv_i354 1 (pc' := 7) (l' := [(0, .ref 178)]) (st' := [.int (8 : Int32), .int (0 : Int32), .ref 178]) rfl ?_
  refine jv_Ev.br jv_i354 (pc' := 14) (st' := [.ref 178]) rfl (jv_bc_ne.trans (jx_got (by decide))) ?_
  refine jv_Ev.steps jv_i354 1 (pc' := 15) (l' := [(0, .ref 178)]) (st' := [.int (0 : Int32), .ref 178]) rfl ?_
  refine jv_Ev.m jv_i354 (pc' := 18) (st' := []) rfl rfl (jv_m_putI rfl rfl rfl rfl rfl) ?_
  refine jv_Ev.steps jv_i354 1 (pc' := 19) (l' := [(0, .ref 178)]) (st' := [.ref 178]) rfl ?_
  refine jv_Ev.m jv_i354 (pc' := 22) (st' := [.int (0 : Int32)]) rfl rfl (jv_m_getI rfl rfl rfl rfl) ?_
  refine jv_Ev.br jv_i354 (pc' := 27) (st' := []) rfl (jv_bi_le.trans (jx_got (by decide))) ?_
  refine jv_Ev.steps jv_i354 4 (pc' := 31) (l' := [(1, .int (0 : Int32)), (0, .ref 178)]) (st' := [.ref 178, .int (0 : Int32)]) rfl ?_
  refine jv_Ev.m jv_i354 (pc' := 34) (st' := [.int (0 : Int32), .int (0 : Int32)]) rfl rfl (jv_m_getI rfl rfl rfl rfl) ?_
  refine jv_Ev.br jv_i354 (pc' := 58) (st' := []) rfl (jv_bc_ge.trans (jx_got (by decide))) ?_
  refine jv_Ev.steps jv_i354 1 (pc' := 59) (l' := [(1, .int (0 : Int32)), (0, .ref 178)]) (st' := [.ref 178]) rfl ?_
  refine jv_Ev.m jv_i354 (pc' := 62) (st' := [.ref 196]) rfl rfl (jv_m_getR rfl rfl rfl rfl) ?_
  refine jv_Ev.steps jv_i354 1 (pc' := 63) (l' := [(1, .int (0 : Int32)), (0, .ref 178)]) (st' := [.ref 178, .ref 196]) rfl ?_
  refine jv_Ev.m jv_i354 (pc' := 66) (st' := [.int (0 : Int32), .ref 196]) rfl rfl (jv_m_getI rfl rfl rfl rfl) ?_
  refine jv_Ev.m jv_i354 (pc' := 69) (st' := []) rfl rfl (jv_m_putI rfl rfl rfl rfl rfl) ?_
  refine jv_Ev.steps jv_i354 1 (pc' := 70) (l' := [(1, .int (0 : Int32)), (0, .ref 178)]) (st' := [.ref 178]) rfl ?_
  refine jv_Ev.m jv_i354 (pc' := 73) (st' := [.int (0 : Int32)]) rfl rfl (jv_m_getI rfl rfl rfl rfl) ?_
  refine jv_Ev.steps jv_i354 3 (pc' := 76) (l' := [(1, .int (0 : Int32)), (0, .ref 178)]) (st' := [.int (0 : Int32), .ref 178]) rfl ?_
  refine jv_Ev.m jv_i354 (pc' := 79) (st' := []) rfl rfl (jv_m_putI rfl rfl rfl rfl rfl) ?_
  refine jv_Ev.steps jv_i354 2 (pc' := 81) (l' := [(1, .int (0 : Int32)), (0, .ref 178)]) (st' := [.ref 178, .ref 178]) rfl ?_
  refine jv_Ev.m jv_i354 (pc' := 84) (st' := [.ref 196, .ref 178]) rfl rfl (jv_m_getR rfl rfl rfl rfl) ?_
  refine jv_Ev.c jv_i354 (pc' := 87) (S' := [.int (0 : Int32), .ref 178]) jv_i315 [.ref 196] rfl rfl rfl rfl (jv_cal rfl (jv_H_at rfl) rfl rfl) rfl (jx_e472 p0 p1 p2 p3 p4 p5 ) rfl rfl ?_
  refine jv_Ev.m jv_i354 (pc' := 90) (st' := []) rfl rfl (jv_m_putI rfl rfl rfl rfl rfl) ?_
  refine jv_Ev.steps jv_i354 2 (pc' := 92) (l' := [(1, .int (0 : Int32)), (0, .ref 178)]) (st' := [.ref 178, .ref 178]) rfl ?_
  refine jv_Ev.m jv_i354 (pc' := 95) (st' := [.ref 196, .ref 178]) rfl rfl (jv_m_getR rfl rfl rfl rfl) ?_
  refine jv_Ev.c jv_i354 (pc' := 98) (S' := [.int (9 : Int32), .ref 178]) jv_i316 [.ref 196] rfl rfl rfl rfl (jv_cal rfl (jv_H_at rfl) rfl rfl) rfl (jx_e473 p0 p1 p2 p3 p4 p5 ) rfl rfl ?_
  refine jv_Ev.m jv_i354 (pc' := 101) (st' := []) rfl rfl (jv_m_putI rfl rfl rfl rfl rfl) ?_
  refine jv_Ev.steps jv_i354 1 (pc' := 102) (l' := [(1, .int (0 : Int32)), (0, .ref 178)]) (st' := [.ref 178]) rfl ?_
  refine jv_Ev.m jv_i354 (pc' := 105) (st' := [.int (0 : Int32)]) rfl rfl (jv_m_getI rfl rfl rfl rfl) ?_
  refine jv_Ev.steps jv_i354 1 (pc' := 106) (l' := [(1, .int (0 : Int32)), (0, .ref 178)]) (st' := [.int (-1 : Int32), .int (0 : Int32)]) rfl ?_
  refine jv_Ev.br jv_i354 (pc' := 109) (st' := []) rfl (jv_bc_eq.trans (jx_gof (by decide))) ?_
  refine jv_Ev.steps jv_i354 1 (pc' := 110) (l' := [(1, .int (0 : Int32)), (0, .ref 178)]) (st' := [.int (-1 : Int32)]) rfl ?_
  exact jv_Ev.ret jv_i354 rfl rfl

set_option maxRecDepth 100000 in
/-- ProgramBoxModel.thrown -/
theorem jx_e475 (p0 : Int32) (p1 : Int32) (p2 : Int32) (p3 : Int32) (p4 : Int32) (p5 : Int32)  : jv_Ms 350 [.ref 178] (jv_H (jx_kp (jx_kp (jx_K 227) 227 3 1) 228 103 0) (jv_u (jv_u (jv_u (jx_fill (jv_u (jv_u (jv_u (jv_u (jv_u (jv_u (jv_u (jv_u (jv_u (jv_u (jv_u jx_If 0 1 (0 : Int32)) 0 7 (Int32.ofNat 0)) 0 8 (9 : Int32)) 178 0 (0 : Int32)) 196 2 (0 : Int32)) 178 2 (0 : Int32)) 196 0 (0 : Int32)) 196 2 (0 : Int32)) 196 6 (0 : Int32)) 196 5 (9 : Int32)) 196 4 (0 : Int32)) 202 1024 (0 : Int32)) 178 8 (0 : Int32)) 196 0 (0 : Int32)) 178 9 (9 : Int32)) (jv_u jx_L0 226 (0 : Int32).toNatClampNeg (-1 : Int64)) (jv_u (jx_R 227) 227 0 (.ref 228))) 229 1572951 (some (.int (0 : Int32)), (jv_H (jx_kp (jx_kp (jx_K 227) 227 3 1) 228 103 0) (jv_u (jv_u (jv_u (jx_fill (jv_u (jv_u (jv_u (jv_u (jv_u (jv_u (jv_u (jv_u (jv_u (jv_u (jv_u jx_If 0 1 (0 : Int32)) 0 7 (Int32.ofNat 0)) 0 8 (9 : Int32)) 178 0 (0 : Int32)) 196 2 (0 : Int32)) 178 2 (0 : Int32)) 196 0 (0 : Int32)) 196 2 (0 : Int32)) 196 6 (0 : Int32)) 196 5 (9 : Int32)) 196 4 (0 : Int32)) 202 1024 (0 : Int32)) 178 8 (0 : Int32)) 196 0 (0 : Int32)) 178 9 (9 : Int32)) (jv_u jx_L0 226 (0 : Int32).toNatClampNeg (-1 : Int64)) (jv_u (jx_R 227) 227 0 (.ref 228))), 229, 1572951) := by
  show jv_Ev 350 0 [(0, .ref 178)] [] (jv_H (jx_kp (jx_kp (jx_K 227) 227 3 1) 228 103 0) (jv_u (jv_u (jv_u (jx_fill (jv_u (jv_u (jv_u (jv_u (jv_u (jv_u (jv_u (jv_u (jv_u (jv_u (jv_u jx_If 0 1 (0 : Int32)) 0 7 (Int32.ofNat 0)) 0 8 (9 : Int32)) 178 0 (0 : Int32)) 196 2 (0 : Int32)) 178 2 (0 : Int32)) 196 0 (0 : Int32)) 196 2 (0 : Int32)) 196 6 (0 : Int32)) 196 5 (9 : Int32)) 196 4 (0 : Int32)) 202 1024 (0 : Int32)) 178 8 (0 : Int32)) 196 0 (0 : Int32)) 178 9 (9 : Int32)) (jv_u jx_L0 226 (0 : Int32).toNatClampNeg (-1 : Int64)) (jv_u (jx_R 227) 227 0 (.ref 228))) 229 1572951 _
  refine jv_Ev.steps jv_i350 1 (pc' := 1) (l' := [(0, .ref 178)]) (st' := [.ref 178]) rfl ?_
  refine jv_Ev.m jv_i350 (pc' := 4) (st' := [.int (0 : Int32)]) rfl rfl (jv_m_getI rfl rfl rfl rfl) ?_
  exact jv_Ev.ret jv_i350 rfl rfl

set_option maxRecDepth 100000 in
/-- the law: case 3, one way -/
theorem jx_l67 (p0 : Int32) (p1 : Int32) (p2 : Int32) (p3 : Int32) (p4 : Int32) (p5 : Int32)  (hsw : p0 &&& (31 : Int32) = (3 : Int32)) {p : Program} {l : Launch} {e : Env} {R : Room} {s : State} {m : MethodId} {args : Array Value} {below : List Frame} {meth : Method} {c : Code} {E : jv_Env} {Q : State → Prop} (hTb : jv_TOk jv_Tb) (hT2 : jx_T2Ok) (hl : l.stackTraces = false) (F : jx_F jv_T2 439 E p R s m args meth c) (hZ : jx_Z E s) (hRc : R.cells = 600002) (hRs : R.slots = 7302232) {bb : Nat} {xs : Nat → Int32} (hX : va_X bb 6 xs s E.2.2.2.2) (hbB : bb < E.2.2.2.1) (hE2 : E.1 1000002 = bb) (hQ : ∀ (l0 : jv_L) (G : jv_G) (n sl : Nat), n ≤ 600002 → sl ≤ 7302232 → jw p l e R s m args below meth c E 8 0 0 Q 1532 l0 [.int (1 : Int32)] G n sl) (q0 : xs 0 = p0) (q1 : xs 1 = p1) (q2 : xs 2 = p2) (q3 : xs 3 = p3) (q4 : xs 4 = p4) (q5 : xs 5 = p5) : jw p l e R s m args below meth c E 8 0 0 Q 33 [(0, .ref 1000002), (1, .ref 0), (2, .ref 178), (3, .ref 226), (4, .int (0 : Int32))] [] (jv_H (jx_K 227) jx_If jx_L0 (jx_R 227)) 227 1572950 := by
  refine jw.steps F jx_i439 2 (pc' := 36) (l' := [(0, .ref 1000002), (1, .ref 0), (2, .ref 178), (3, .ref 226), (4, .int (0 : Int32))]) (st' := [.int (0 : Int32), .ref 1000002]) rfl ?_
  refine jw.sld F jx_i439 hX hbB hE2 (pc' := 37) rfl rfl (show vp_in (nI 0) 6 from vp_in_nI (by decide) (by decide)) q0 rfl ?_
  refine jw.steps F jx_i439 2 (pc' := 40) (l' := [(0, .ref 1000002), (1, .ref 0), (2, .ref 178), (3, .ref 226), (4, .int (0 : Int32))]) (st' := [.int (p0 &&& (31 : Int32))]) rfl ?_
  refine jw.br F jx_i439 (pc' := 396) (st' := []) rfl (by rw [hsw]; rfl) ?_
  refine jw.steps F jx_i439 2 (pc' := 398) (l' := [(0, .ref 1000002), (1, .ref 0), (2, .ref 178), (3, .ref 226), (4, .int (0 : Int32))]) (st' := [.ref 226, .ref 0]) rfl ?_
  refine jw.wr F hl hZ rfl jx_i439 jx_i443 [.ref 0, .ref 226] (pc' := 401) (S' := [.int (0 : Int32)]) rfl (List.mem_of_getElem? (i := 3) rfl) (List.mem_of_getElem? (i := 3) rfl) rfl rfl rfl (jx_w470 hTb hT2 p0 p1 p2 p3 p4 p5 ) (by omega) (by omega) (by omega) (by omega) rfl rfl ?_
  refine jw.steps F jx_i439 2 (pc' := 404) (l' := [(5, .int (0 : Int32)), (0, .ref 1000002), (1, .ref 0), (2, .ref 178), (3, .ref 226), (4, .int (0 : Int32))]) (st' := [.ref 178]) rfl ?_
  refine jw.ca hTb F jx_i439 (pc' := 407) (S' := [.int (-1 : Int32)]) rfl jv_i354 [.ref 178] rfl rfl rfl rfl (jx_cal2 rfl (jv_H_at rfl) rfl rfl) rfl (jx_e474 p0 p1 p2 p3 p4 p5 ) (by omega) (by omega) rfl rfl ?_
  refine jw.steps F jx_i439 2 (pc' := 410) (l' := [(6, .int (-1 : Int32)), (5, .int (0 : Int32)), (0, .ref 1000002), (1, .ref 0), (2, .ref 178), (3, .ref 226), (4, .int (0 : Int32))]) (st' := [.ref 178]) rfl ?_
  refine jw.ca hTb F jx_i439 (pc' := 413) (S' := [.int (0 : Int32)]) rfl jv_i350 [.ref 178] rfl rfl rfl rfl (jx_cal2 rfl (jv_H_at rfl) rfl rfl) rfl (jx_e475 p0 p1 p2 p3 p4 p5 ) (by omega) (by omega) rfl rfl ?_
  refine jw.steps F jx_i439 1 (pc' := 415) (l' := [(6, .int (-1 : Int32)), (5, .int (0 : Int32)), (0, .ref 1000002), (1, .ref 0), (2, .ref 178), (3, .ref 226), (4, .int (0 : Int32))]) (st' := [.int (0 : Int32), .int (0 : Int32)]) rfl ?_
  refine jw.br F jx_i439 (pc' := 420) (st' := []) rfl (jv_bc_eq.trans (jx_got (by decide))) ?_
  refine jw.steps F jx_i439 1 (pc' := 422) (l' := [(6, .int (-1 : Int32)), (5, .int (0 : Int32)), (0, .ref 1000002), (1, .ref 0), (2, .ref 178), (3, .ref 226), (4, .int (0 : Int32))]) (st' := [.int (0 : Int32)]) rfl ?_
  refine jw.br F jx_i439 (pc' := 425) (st' := []) rfl (jv_bi_ne.trans (jx_gof (by decide))) ?_
  refine jw.steps F jx_i439 2 (pc' := 427) (l' := [(6, .int (-1 : Int32)), (5, .int (0 : Int32)), (0, .ref 1000002), (1, .ref 0), (2, .ref 178), (3, .ref 226), (4, .int (0 : Int32))]) (st' := [.int (0 : Int32), .ref 226]) rfl ?_
  refine jw.me F jx_i439 (pc' := 428) (st' := [.long (-1 : Int64)]) rfl rfl (jv_m_laldv rfl rfl (by decide) rfl rfl) ?_
  refine jw.steps F jx_i439 3 (pc' := 432) (l' := [(6, .int (-1 : Int32)), (5, .int (0 : Int32)), (0, .ref 1000002), (1, .ref 0), (2, .ref 178), (3, .ref 226), (4, .int (0 : Int32))]) (st' := [.int (0 : Int32)]) rfl ?_
  refine jw.br F jx_i439 (pc' := 437) (st' := []) rfl (jv_bi_eq.trans (jx_got (by decide))) ?_
  refine jw.steps F jx_i439 5 (pc' := 26) (l' := [(4, .int (6 : Int32)), (6, .int (-1 : Int32)), (5, .int (0 : Int32)), (0, .ref 1000002), (1, .ref 0), (2, .ref 178), (3, .ref 226)]) (st' := [.ref 1000002, .int (6 : Int32)]) rfl ?_
  refine jw.slen F jx_i439 hX hbB hE2 (pc' := 27) rfl rfl rfl ?_
  refine jw.steps F jx_i439 2 (pc' := 30) (l' := [(4, .int (6 : Int32)), (6, .int (-1 : Int32)), (5, .int (0 : Int32)), (0, .ref 1000002), (1, .ref 0), (2, .ref 178), (3, .ref 226)]) (st' := [.int (0 : Int32), .int (6 : Int32)]) rfl ?_
  refine jw.br F jx_i439 (pc' := 1531) (st' := []) rfl (jv_bc_gt.trans (jx_got (by decide))) ?_
  refine jw.steps F jx_i439 1 (pc' := 1532) (l' := [(4, .int (6 : Int32)), (6, .int (-1 : Int32)), (5, .int (0 : Int32)), (0, .ref 1000002), (1, .ref 0), (2, .ref 178), (3, .ref 226)]) (st' := [.int (1 : Int32)]) rfl ?_
  exact hQ _ _ _ _ (by omega) (by omega)

set_option maxRecDepth 100000 in
/-- the law: case 3 -/
theorem jx_case3 (p0 : Int32) (p1 : Int32) (p2 : Int32) (p3 : Int32) (p4 : Int32) (p5 : Int32) (hsw : p0 &&& (31 : Int32) = (3 : Int32)) {p : Program} {l : Launch} {e : Env} {R : Room} {s : State} {m : MethodId} {args : Array Value} {below : List Frame} {meth : Method} {c : Code} {E : jv_Env} {Q : State → Prop} (hTb : jv_TOk jv_Tb) (hT2 : jx_T2Ok) (hl : l.stackTraces = false) (F : jx_F jv_T2 439 E p R s m args meth c) (hZ : jx_Z E s) (hRc : R.cells = 600002) (hRs : R.slots = 7302232) {bb : Nat} {xs : Nat → Int32} (hX : va_X bb 6 xs s E.2.2.2.2) (hbB : bb < E.2.2.2.1) (hE2 : E.1 1000002 = bb) (hQ : ∀ (l0 : jv_L) (G : jv_G) (n sl : Nat), n ≤ 600002 → sl ≤ 7302232 → jw p l e R s m args below meth c E 8 0 0 Q 1532 l0 [.int (1 : Int32)] G n sl) (q0 : xs 0 = p0) (q1 : xs 1 = p1) (q2 : xs 2 = p2) (q3 : xs 3 = p3) (q4 : xs 4 = p4) (q5 : xs 5 = p5) : jw p l e R s m args below meth c E 8 0 0 Q 33 [(0, .ref 1000002), (1, .ref 0), (2, .ref 178), (3, .ref 226), (4, .int (0 : Int32))] [] (jv_H (jx_K 227) jx_If jx_L0 (jx_R 227)) 227 1572950 := by
  exact jx_l67 p0 p1 p2 p3 p4 p5  hsw hTb hT2 hl F hZ hRc hRs hX hbB hE2 hQ q0 q1 q2 q3 q4 q5
