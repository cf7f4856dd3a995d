/-! part 73: the start (begins with rows of the kit's skeleton: R_law, lw_At, with the method's name besides) -/
def R_law : String := "ProgramBoxLaw"
/-- what holds at the law's entry: the machine, the code, the tables' words (any of lw_tbl by 'hts w (by decide +kernel)'), the script of L ints xs at the cell b, what the Statement gives of the start (any of its parts by flat_of_before) -/
def lw_At (p : Program) (s : State) (m : MethodId) (meth : Method) (c : Code) (b L : Nat) (xs : Nat → Int32) : Prop :=
  p.tables.exec = Jvm.exec ∧ c.code = code ∧ meth.sig.returnType = ret ∧ c.maxLocals = 8 ∧ s.vm.findClass R_law = some m.cls ∧ (∀ w ∈ lw_tbl, w.before #[Value.ref b] s = true) ∧ va_X b L xs s s.heap ∧ b < s.heap.size ∧ meth.locks = false ∧ (Jvm.Cond.and given_1 narrow_1).before #[Value.ref b] s = true ∧ meth.name = "law"
theorem jx_okw {b : Nat} {s : State} (h : ∀ w ∈ lw_tbl, w.before #[Value.ref b] s = true) : ∀ w ∈ lw_ok, w.before #[Value.ref b] s = true := fun w hw => by
  rcases List.mem_append.mp (List.mem_filter.mp hw).1 with h1 | h1
  · exact h w h1
  · exact jv_selx_ok (fun w hw => h w (List.mem_append_right _ hw)) w h1
theorem jx_ins : ∀ (k : Nat) (r : vw_C), jv_cl[k]? = some r → Cond.instantiable r.1 r.2.2 ∈ lw_ok := by
  intro k r hr
  match k, hr with
  | 0, hr => cases hr; exact jv_w_ok (i := 3101) (by decide +kernel)
  | 1, hr => cases hr; exact jv_w_ok (i := 1092) (by decide +kernel)
  | 2, hr => cases hr; exact jv_w_ok (i := 1233) (by decide +kernel)
  | 3, hr => cases hr; exact jv_w_ok (i := 3130) (by decide +kernel)
  | 4, hr => cases hr; exact jv_w_ok (i := 3003) (by decide +kernel)
  | 5, hr => cases hr; exact jv_w_ok (i := 1099) (by decide +kernel)
  | 6, hr => cases hr; exact jv_w_ok (i := 1036) (by decide +kernel)
  | 7, hr => cases hr; exact jv_w_ok (i := 3067) (by decide +kernel)
  | 8, hr => cases hr; exact jv_w_ok (i := 1106) (by decide +kernel)
  | 9, hr => cases hr; exact jv_w_ok (i := 1185) (by decide +kernel)
  | 10, hr => cases hr; exact jv_w_ok (i := 1028) (by decide +kernel)
  | 11, hr => cases hr; exact jv_w_ok (i := 7201) (by decide +kernel)
  | 12, hr => cases hr; exact jv_w_ok (i := 7194) (by decide +kernel)
  | 13, hr => cases hr; exact jv_w_ok (i := 7108) (by decide +kernel)
  | 14, hr => cases hr; exact jv_w_ok (i := 7102) (by decide +kernel)
  | k + 15, hr => simp [jv_cl] at hr
theorem jx_eqI {t : Term} {v : Int32} {args : Array Value} {s : State} (h : (Cond.eq t (.int v)).before args s = true) : t.eval args s none [] s = some (.int v) := by
  simp only [Cond.before, Cond.holds, Cond.value] at h
  have e : (Term.int v).eval args s none [] s = some (.int v) := rfl
  rw [e] at h
  cases ht : t.eval args s none [] s with
  | none => rw [ht] at h; simp at h
  | some w =>
    rw [ht] at h
    cases w <;> simp at h
    rw [h]
abbrev jx_pre : List Cond := flatC (Jvm.Cond.and given_1 narrow_1)
abbrev jx_tm (i : Nat) : Term := Term.static (jv_sC i).1 (jv_sC i).2 "[I"
set_option maxRecDepth 100000 in
theorem jx_pre0 : (Cond.arrayOf (jx_tm 0) .int :: Cond.eq (.length (jx_tm 0)) (.int 16) :: (List.range 16).map (fun j => Cond.eq (.elem (jx_tm 0) (.int (Int32.ofNat j))) (.int (jv_sV 0 j)))).all (fun w => decide (w ∈ jx_pre)) = true := by decide +kernel
set_option maxRecDepth 100000 in
theorem jx_pre1 : (Cond.arrayOf (jx_tm 1) .int :: Cond.eq (.length (jx_tm 1)) (.int 12) :: (List.range 12).map (fun j => Cond.eq (.elem (jx_tm 1) (.int (Int32.ofNat j))) (.int (jv_sV 1 j)))).all (fun w => decide (w ∈ jx_pre)) = true := by decide +kernel
set_option maxRecDepth 100000 in
theorem jx_preS : jx_tx.all (fun q => decide (Cond.exactly (Term.string "ProgramBox" q.1) "java/lang/String" ∈ jx_pre) && decide (Cond.stringRef "ProgramBox" q.1 q.2 ∈ lw_tbl)) = true := by decide +kernel
theorem jx_static {b : Nat} {s : State} (hts : ∀ w ∈ lw_tbl, w.before #[Value.ref b] s = true) (hs : ∀ w ∈ jx_pre, w.before #[Value.ref b] s = true) (i N : Nat) (hN : N < 100) (hall : (Cond.arrayOf (jx_tm i) .int :: Cond.eq (.length (jx_tm i)) (.int (Int32.ofNat N)) :: (List.range N).map (fun j => Cond.eq (.elem (jx_tm i) (.int (Int32.ofNat j))) (.int (jv_sV i j)))).all (fun w => decide (w ∈ jx_pre)) = true) (hl : Cond.laysStatic (jv_sC i).1 (jv_sC i).2 "[I" ∈ lw_tbl) (hi : Cond.initialized (jv_sC i).1 ∈ lw_tbl) :
    ∃ t : Nat, t < s.heap.size ∧ va_Z (jv_sC i).1 (jv_sC i).2 "[I" (.ref t) (fun q => s.heap.size ≤ q) s s.heap ∧ va_T .int t N (fun j => .int (jv_sV i j)) (fun q => s.heap.size ≤ q) s s.heap := by
  have hA : ∀ a : Nat, a < s.heap.size → ¬ (s.heap.size ≤ a) := fun a h => by omega
  have hw : ∀ w ∈ (Cond.arrayOf (jx_tm i) .int :: Cond.eq (.length (jx_tm i)) (.int (Int32.ofNat N)) :: (List.range N).map (fun j => Cond.eq (.elem (jx_tm i) (.int (Int32.ofNat j))) (.int (jv_sV i j)))), w.before #[Value.ref b] s = true := fun w h => hs w (of_decide_eq_true (List.all_eq_true.mp hall w h))
  obtain ⟨t, h1, h2⟩ := va_Tof (args := #[Value.ref b]) (s := s) (tm := jx_tm i) (ty := .int) (N := N) (f := fun j => .int (jv_sV i j)) (A := fun q => s.heap.size ≤ q) (by omega) (hw _ List.mem_cons_self) (jx_eqI (hw _ (List.mem_cons_of_mem _ List.mem_cons_self))) (fun j hj => jx_eqI (hw _ (List.mem_cons_of_mem _ (List.mem_cons_of_mem _ (List.mem_map.mpr ⟨j, List.mem_range.mpr hj, rfl⟩))))) hA
  have ht : t < s.heap.size := by
    obtain ⟨cell, hc, -⟩ := h2
    exact (Array.getElem?_eq_some_iff.mp hc).1
  exact ⟨t, ht, va_Zof (hts _ hl) (hts _ hi) h1 hA, h2⟩
abbrev jx_G0 : jv_G := jv_H (jx_K 0) jx_I0 jx_L0 (jx_R 0)
theorem jx_env {p : Program} {s : State} {m : MethodId} {meth : Method} {c : Code} {b L : Nat} {xs : Nat → Int32} (C0 : lw_At p s m meth c b L xs) : ∃ E : jv_Env, jv_EOk E ∧ E.2.2.2.1 = s.heap.size ∧ E.2.2.2.2 = s.heap ∧ E.1 1000002 = b ∧ jv_K E s ∧ jx_Z E s ∧ jv_pic E jx_G0 0 s.heap := by
  obtain ⟨hx, hb, hr, hml, hown, hts, hX, hbl, hlocks, hgv, hnm⟩ := C0
  have hok := jx_okw hts
  have hs : ∀ w ∈ jx_pre, w.before #[Value.ref b] s = true := flat_of_before _ hgv
  have hA : ∀ a : Nat, a < s.heap.size → ¬ (s.heap.size ≤ a) := fun a h => by omega
  have hcl : ∀ k : Nat, ∃ x : ClassId × (Nat → Nat), ∀ q : vw_C, jv_cl[k]? = some q → u_Kn s q.1 q.2.1 q.2.2 x.1 x.2 := by
    intro k
    cases hk : jv_cl[k]? with
    | none => exact ⟨(0, id), fun q h => by cases h⟩
    | some r =>
      obtain ⟨hin, -, -⟩ := jv_cls hk
      obtain ⟨cC, iS, h⟩ := u_known hok hin (hok _ (jx_ins k r hk))
      exact ⟨(cC, iS), fun q hq => by cases hq; exact h⟩
  obtain ⟨f, hf⟩ := Classical.axiomOfChoice hcl
  have hprim : ∀ t : FieldType, Cond.arrayClass t ∈ lw_tbl → (∀ C, t ≠ .object C) → ∃ cA : ClassId, ArrOfT s cA t ∧ s.vm.findClass ("[" ++ t.toString) = some cA := by
    intro t ht hno
    obtain ⟨cA, kA, comp, h1, h2, h3⟩ := Cond.arrayClass_spec (hts _ ht)
    exact ⟨cA, fun n z => ⟨fun k h => (by cases h), kA, h2, comp, h3⟩, h1⟩
  have hobj : ∀ C : String, Cond.arrayOver (.object C) ∈ lw_tbl → ∃ cA : ClassId, ArrOfT s cA (.object C) ∧ va_RA s cA (.object C) := by
    intro C hC
    obtain ⟨comp, cA, kA, h1, h2, h3, h4, h5⟩ := Cond.arrayOver_spec (hts _ hC)
    exact ⟨cA, fun n z => ⟨fun k h => (by cases h), kA, h3, comp, h4⟩, kA, comp, h3, h4, h1, h5⟩
  obtain ⟨c0, a0, n0⟩ := hprim .boolean (by decide +kernel) (fun C h => by cases h)
  obtain ⟨c1, a1, n1⟩ := hprim .byte (by decide +kernel) (fun C h => by cases h)
  obtain ⟨c2, a2, n2⟩ := hprim .int (by decide +kernel) (fun C h => by cases h)
  obtain ⟨c3, a3, n3⟩ := hprim .long (by decide +kernel) (fun C h => by cases h)
  obtain ⟨c4, a4, n4⟩ := hobj RX6 (by decide +kernel)
  obtain ⟨c5, a5, n5⟩ := hobj RX9 (by decide +kernel)
  obtain ⟨c6, a6, n6⟩ := hobj RX1 (by decide +kernel)
  obtain ⟨c7, a7, n7⟩ := hobj RX4 (by decide +kernel)
  obtain ⟨t0, l0, z0, w0⟩ := jx_static hts hs 0 16 (by decide) jx_pre0 (by decide +kernel) (by decide +kernel)
  obtain ⟨t1, l1, z1, w1⟩ := jx_static hts hs 1 12 (by decide) jx_pre1 (by decide +kernel) (by decide +kernel)
  let E : jv_Env := (fun a => if a < 1000000 then s.heap.size + a else if a = 1000000 then t0 else if a = 1000001 then t1 else b, (fun k => (f k).1, fun k => (f k).2), fun k => ([c0, c1, c2, c3, c4, c5, c6, c7].getD k 0), s.heap.size, s.heap)
  have e0 : E.1 1000000 = t0 := by
    show (if (1000000 : Nat) < 1000000 then s.heap.size + (1000000 : Nat) else if (1000000 : Nat) = 1000000 then t0 else if (1000000 : Nat) = 1000001 then t1 else b) = t0
    rw [if_neg (by decide), if_pos rfl]
  have e1 : E.1 1000001 = t1 := by
    show (if (1000001 : Nat) < 1000000 then s.heap.size + (1000001 : Nat) else if (1000001 : Nat) = 1000000 then t0 else if (1000001 : Nat) = 1000001 then t1 else b) = t1
    rw [if_neg (by decide), if_neg (by decide), if_pos rfl]
  have e2 : E.1 1000002 = b := by
    show (if (1000002 : Nat) < 1000000 then s.heap.size + (1000002 : Nat) else if (1000002 : Nat) = 1000000 then t0 else if (1000002 : Nat) = 1000001 then t1 else b) = b
    rw [if_neg (by decide), if_neg (by decide), if_neg (by decide)]
  refine ⟨E, ⟨fun a ha => if_pos ha, fun a ha => ?_, rfl⟩, rfl, rfl, e2, ⟨⟨fun k q h => hf k q h, ?_⟩, ?_⟩, ⟨?_, ?_, ?_, ?_, ?_, ?_⟩, ⟨rfl, fun q _ => rfl, ?_, by decide⟩⟩
  · show (if a < 1000000 then s.heap.size + a else if a = 1000000 then t0 else if a = 1000001 then t1 else b) < s.heap.size
    rw [if_neg (by omega)]
    split
    · exact l0
    · split
      · exact l1
      · exact hbl
  · intro k q hq
    match k, hq with
    | 0, hq => cases hq; exact ⟨a0, n0⟩
    | 1, hq => cases hq; exact ⟨a1, n1⟩
    | 2, hq => cases hq; exact ⟨a2, n2⟩
    | 3, hq => cases hq; exact ⟨a3, n3⟩
    | 4, hq => cases hq; exact ⟨a4, n4⟩
    | 5, hq => cases hq; exact ⟨a5, n5⟩
    | 6, hq => cases hq; exact ⟨a6, n6⟩
    | 7, hq => cases hq; exact ⟨a7, n7⟩
    | k + 8, hq => simp [jv_tys] at hq
  · intro i hi
    match i, hi with
    | 0, _ => exact ⟨by rw [show 1000000 + 0 = 1000000 from rfl, e0]; exact z0, by rw [show 1000000 + 0 = 1000000 from rfl, e0]; exact w0⟩
    | 1, _ => exact ⟨by rw [show 1000000 + 1 = 1000001 from rfl, e1]; exact z1, by rw [show 1000000 + 1 = 1000001 from rfl, e1]; exact w1⟩
    | i + 2, hi => omega
  · exact vx_Zqof (hts _ (by decide +kernel)) (hts _ (by decide +kernel)) (hs _ (by decide +kernel)) hA
  · exact vx_Zqof (hts _ (by decide +kernel)) (hts _ (by decide +kernel)) (hs _ (by decide +kernel)) hA
  · intro q hq
    have h := List.all_eq_true.mp jx_preS q hq
    simp only [Bool.and_eq_true, decide_eq_true_eq] at h
    obtain ⟨a, cc, cell, k, h1, -⟩ := Cond.exactly_spec (hs _ h.1)
    exact ⟨a, vk_R.of (hts _ h.2) h1⟩
  · exact fun w hw => va_Nw.of (jx_bk_tab (jx_bw_all w hw)) (hts w (jx_bw_tbl w hw))
  · exact va_Nc.of (hs _ (by decide +kernel))
  · exact va_Nc.of (hs _ (by decide +kernel))
  · intro a e ha
    have hcase : (a = 1000000 ∧ e = (110, 16, jv_cv jx_I0 jx_L0 (jx_R 0) 1000000 110)) ∨ (a = 1000001 ∧ e = (110, 12, jv_cv jx_I0 jx_L0 (jx_R 0) 1000001 110)) := by
      have ha : jv_H (jx_K 0) jx_I0 jx_L0 (jx_R 0) a = some e := ha
      unfold jv_H at ha
      have hk : jx_K 0 a = bif Nat.beq a 1000000 then some (110, 16) else bif Nat.beq a 1000001 then some (110, 12) else none := rfl
      by_cases h0 : a = 1000000
      · subst h0
        exact Or.inl ⟨rfl, (Option.some.inj ha).symm⟩
      · by_cases h1 : a = 1000001
        · subst h1
          exact Or.inr ⟨rfl, (Option.some.inj ha).symm⟩
        · rw [hk, jv_nbeq h0, jv_nbeq h1] at ha
          cases ha
    rcases hcase with ⟨rfl, rfl⟩ | ⟨rfl, rfl⟩
    · exact ⟨⟨fun h => absurd h (by decide), fun _ h => absurd h (by decide), fun _ => ⟨0, by decide, rfl, rfl⟩⟩, Or.inl ⟨rfl, by decide⟩⟩
    · exact ⟨⟨fun h => absurd h (by decide), fun _ h => absurd h (by decide), fun _ => ⟨1, by decide, rfl, rfl⟩⟩, Or.inl ⟨rfl, by decide⟩⟩
section JZ
variable {p : Program} {l : Launch} {e : Env} {R : Room} {s : State} {m : MethodId} {args : Array Value} {below : List Frame} {meth : Method} {c : Code} {Q : State → Prop} {E : jv_Env} {T : jv_T} {y mL fr lo n0 sl0 pc n sl : Nat} {rt : Option FieldType} {cd : List (Nat × jv_O)} {l0 : jv_L} {st : List Value} {G : jv_G}
theorem jw.loc {l1 : jv_L} (h : ∀ q ∈ l0, q ∈ l1) (k : jw p l e R s m args below meth c E mL n0 sl0 Q pc l0 st G n sl) : jw p l e R s m args below meth c E mL n0 sl0 Q pc l1 st G n sl := fun q1 q2 q3 q4 H ls locs hls hP hL => k q1 q2 q3 q4 H ls locs ⟨hls.1, hls.2.1, fun q hq => by
  obtain ⟨z, hz, rfl⟩ := List.mem_map.mp hq
  exact hls.2.2 _ (List.mem_map.mpr ⟨z, h z hz, rfl⟩)⟩ hP hL
theorem jw.newk {I : Nat → Nat → Int32} {L : Nat → Nat → Int64} {Rr : Nat → Nat → Value} (F : jx_F T y E p R s m args meth c) (hI : jx_I T y mL rt fr lo cd) {i : Instr} {len a b : Nat} {c0 : Int} {st' : List Value} {k ln kk n' sl' pc' : Nat} {V : Nat → Value} (hf : jv_fetch cd pc = some (3, i, len, a, b, c0)) (h : jv_new i a st n = some (st', (k, ln, V), kk)) (hk : jx_Kf[n]? = some (k, ln)) (hV : ∀ j, V j = jv_cv I L Rr n k j) (hn : Nat.blt n 1000 = true) (h1 : n + 1 = n') (h2 : sl + kk = sl') (h3 : pc + len = pc') (hc : n' - n0 ≤ R.cells) (hs : sl' - sl0 ≤ R.slots)
    (K : jw p l e R s m args below meth c E mL n0 sl0 Q pc' l0 st' (jv_H (jx_K n') I L Rr) n' sl') : jw p l e R s m args below meth c E mL n0 sl0 Q pc l0 st (jv_H (jx_K n) I L Rr) n sl := by
  subst h1; subst h2; subst h3
  refine jw.new F hI hf h (by have := Nat.le_of_ble_eq_true hn; omega) hc hs ?_
  rw [jx_Kset hk hV]
  exact K
end JZ
theorem jx_i439' : jx_I jv_T2 439 8 (some .boolean) 17 828 jv_c439 := ⟨rfl, rfl, rfl, rfl, rfl⟩
theorem jx_bl (bs : ByteArray) (l : List (Nat × jv_O)) (f : ByteArray → Nat × jv_O → Bool) (h : (match bs with | ⟨⟨bl⟩⟩ => l.all (fun q => f ⟨⟨bl⟩⟩ q)) = true) : ∀ q ∈ l, f bs q = true := by
  obtain ⟨⟨bl⟩⟩ := bs
  exact List.all_eq_true.mp h
theorem jx_chunk {α : Type} {l : List α} {q : α} {i : Nat} (hi : l[i]? = some q) (a c : Nat) (h1 : a ≤ i) (h2 : i < a + c) : q ∈ (l.drop a).take c := by
  refine List.mem_of_getElem? (i := i - a) ?_
  rw [List.getElem?_take_of_lt (by omega), List.getElem?_drop, show a + (i - a) = i by omega]
  exact hi
abbrev jx_fl2 (y : Nat) : ByteArray → Nat × jv_O → Bool := fun bs q => jv_ochk jv_T2 jv_mf2 jv_sts jv_ob jv_ac bs y q.1 q.2
theorem jx_law_ok : ∀ q ∈ jv_code jv_T2 439, jv_ochk jv_T2 jv_mf2 jv_sts jv_ob jv_ac (jv_bytes jv_T2 439) 439 q.1 q.2 = true := by
  intro q hq
  obtain ⟨i, hi⟩ := List.mem_iff_getElem?.mp hq
  have hlen : (jv_code jv_T2 439).length ≤ 921 := by decide +kernel
  have hlt : i < 921 := by
    have := (List.getElem?_eq_some_iff.mp hi).1
    omega
  by_cases h1 : i < 130
  · exact jx_bl (jv_bytes jv_T2 439) _ (jx_fl2 439) jv_k2l0 q (jx_chunk hi 0 130 (by omega) (by omega))
  by_cases h2 : i < 260
  · exact jx_bl (jv_bytes jv_T2 439) _ (jx_fl2 439) jv_k2l1 q (jx_chunk hi 130 130 (by omega) (by omega))
  by_cases h3 : i < 390
  · exact jx_bl (jv_bytes jv_T2 439) _ (jx_fl2 439) jv_k2l2 q (jx_chunk hi 260 130 (by omega) (by omega))
  by_cases h4 : i < 520
  · exact jx_bl (jv_bytes jv_T2 439) _ (jx_fl2 439) jv_k2l3 q (jx_chunk hi 390 130 (by omega) (by omega))
  by_cases h5 : i < 650
  · exact jx_bl (jv_bytes jv_T2 439) _ (jx_fl2 439) jv_k2l4 q (jx_chunk hi 520 130 (by omega) (by omega))
  by_cases h6 : i < 780
  · exact jx_bl (jv_bytes jv_T2 439) _ (jx_fl2 439) jv_k2l5 q (jx_chunk hi 650 130 (by omega) (by omega))
  by_cases h7 : i < 910
  · exact jx_bl (jv_bytes jv_T2 439) _ (jx_fl2 439) jv_k2l6 q (jx_chunk hi 780 130 (by omega) (by omega))
  · exact jx_bl (jv_bytes jv_T2 439) _ (jx_fl2 439) jv_k2l7 q (jx_chunk hi 910 11 (by omega) (by omega))
theorem jx_wr_ok (y : Nat) (h1 : 440 ≤ y) (h2 : y < 458) : ∀ q ∈ jv_code jv_T2 y, jv_ochk jv_T2 jv_mf2 jv_sts jv_ob jv_ac (jv_bytes jv_T2 y) y q.1 q.2 = true := by
  have h : jv_mchk2 y = true := List.all_eq_true.mp jv_k2w y (List.mem_range'.mpr ⟨y - 440, by omega, by omega⟩)
  exact jx_bl (jv_bytes jv_T2 y) _ (jx_fl2 y) h
theorem jx_T2_ok : jx_T2Ok := by
  intro y pc o hy hf
  have hm := jv_fetch_mem hf
  by_cases h1 : y = 439
  · subst h1
    exact jv_ochk_ok (T := jv_T2) (VS := jv_sts) (y := 439) (pc := pc) (o := o) rfl (jx_law_ok (pc, o) hm)
  · by_cases h2 : y < 458
    · exact jv_ochk_ok (T := jv_T2) (VS := jv_sts) (y := y) (pc := pc) (o := o) rfl (jx_wr_ok y (by omega) h2 (pc, o) hm)
    · exfalso
      have : jv_code jv_T2 y = [] := by
        show (bif Nat.blt y 439 then jv_Tb.1 y else ((jv_msx.getD (y - 439) jv_no).1, jv_cbx (y - 439), (jv_msx.getD (y - 439) jv_no).2)).2.2.2.2.2.2 = []
        have hb : Nat.blt y 439 = false := by cases hb : Nat.blt y 439 with | false => rfl | true => have := Nat.le_of_ble_eq_true hb; omega
        have hl : jv_msx.length ≤ y - 439 := Nat.le_trans (by decide +kernel : jv_msx.length ≤ 19) (by omega)
        rw [hb, cond_false, List.getD_eq_getElem?_getD, List.getElem?_eq_none hl]
        rfl
      rw [this] at hf
      cases hf
