/-! part 99: the law from its entry -/
set_option maxRecDepth 100000 in
/-- YOUR PART: from the entry, for every script of at most 6 ints, the law comes to its end with true ('hflags': the launch's flags, for a law that throws: no stack traces) -/
theorem whole_start {p : Program} {e : Env} {s : State} {m : MethodId} {below : List Frame} {meth : Method} {c : Code} (l : Launch) (hflags : l.flags = flags0) {b L : Nat} {xs : Nat → Int32} (hL : L ≤ 6) (C0 : lw_At p s m meth c b L xs) : W p l e room_1 s m #[Value.ref b] below meth c s.heap [] 0 0 (lw_Z below #[Value.ref b] s) (entryFrame m ([Value.ref b] : List Value).toArray 8) := by
  obtain ⟨E, hE, hB, hHo, hE2, hK, hZ, hP⟩ := jx_env C0
  obtain ⟨hx, hb, hr, hml, hown, hts, hX, hbl, hlocks, hgv, hnm⟩ := id C0
  have hls := lv_entry ([.ref b]) (n := 8) (Nat.le_of_ble_eq_true rfl)
  rw [lg_entry_eq]
  generalize (lg_sl ([.ref b]) ++ List.replicate (8 - (lg_sl ([.ref b])).length) Slot.unset).toArray = ls at hls ⊢
  have hls : lv_has ls 8 (jv_trL E.1 [(0, .ref 1000002)]) := by
    show lv_has ls 8 [(0, .ref (E.1 1000002))]
    rw [hE2]; exact hls
  have hl : l.stackTraces = false := by
    unfold Launch.stackTraces
    rw [hflags]
    decide +kernel
  have F : jx_F jv_T2 439 E p room_1 s m #[Value.ref b] meth c := ⟨hE, ⟨hx, hb, hml, hown, jx_okw hts, hK, hr, hlocks, hnm, rfl, rfl⟩, fun pc o h => jx_T2_ok 439 pc o (Nat.le_refl _) h⟩
  have hRc : room_1.cells = 600002 := rfl
  have hRs : room_1.slots = 7302232 := rfl
  have hX' : va_X b L xs s E.2.2.2.2 := by rw [hHo]; exact hX
  have hbB : b < E.2.2.2.1 := by rw [hB]; exact hbl
  have hQ : ∀ (l0 : jv_L) (G : jv_G) (n sl : Nat), n ≤ 600002 → sl ≤ 7302232 → jw p l e room_1 s m #[Value.ref b] below meth c E 8 0 0 (lw_Z below #[Value.ref b] s) 1532 l0 [.int (1 : Int32)] G n sl := by
    intro l0 G n sl h1 h2 q1 q2 q3 q4 H ls locs hls hP hL
    refine W.widen (k := 600002) (n := 7302232) (by omega) (by omega) ?_
    refine va_forget (fun q hq => by have := hL q hq; rw [hB] at this; exact this) ?_
    exact lw_ret hx hb hr hlocks (by decide +kernel)
  have main : jw p l e room_1 s m #[Value.ref b] below meth c E 8 0 0 (lw_Z below #[Value.ref b] s) 0 [(0, .ref 1000002)] [] jx_G0 0 0 := by
    refine jw.newk F jx_i439' (pc' := 3) (n' := 1) (sl' := 9) (k := 10) (ln := 9) (kk := 9) (st' := [.ref 0]) rfl rfl rfl (jx_fo 10 rfl (fun _ => rfl) (fun _ => rfl) (fun _ => rfl)) rfl rfl rfl rfl (by omega) (by omega) ?_
    refine jw.steps F jx_i439' 1 (pc' := 4) (l' := [(0, .ref 1000002)]) (st' := [.ref 0, .ref 0]) rfl ?_
    refine jw.ca jv_Tb_ok F jx_i439' (pc' := 7) (S' := [.ref 0]) rfl jv_i187 [.ref 0] rfl rfl rfl rfl (by rfl) rfl jx_c187 (by omega) (by omega) rfl rfl ?_
    refine jw.steps F jx_i439' 1 (pc' := 8) (l' := [(1, .ref 0), (0, .ref 1000002)]) (st' := []) rfl ?_
    refine jw.newk F jx_i439' (pc' := 11) (n' := 179) (sl' := 96874) (k := 14) (ln := 31) (kk := 31) (st' := [.ref 178]) rfl rfl rfl (jx_fo 14 rfl (fun _ => rfl) (fun _ => rfl) (fun _ => rfl)) rfl rfl rfl rfl (by omega) (by omega) ?_
    refine jw.steps F jx_i439' 1 (pc' := 12) (l' := [(1, .ref 0), (0, .ref 1000002)]) (st' := [.ref 178, .ref 178]) rfl ?_
    refine jw.ca jv_Tb_ok F jx_i439' (pc' := 15) (S' := [.ref 178]) rfl jv_i349 [.ref 178] rfl rfl rfl rfl (by rfl) rfl jx_c349 (by omega) (by omega) rfl rfl ?_
    refine jw.steps F jx_i439' 2 (pc' := 17) (l' := [(2, .ref 178), (1, .ref 0), (0, .ref 1000002)]) (st' := [.int (1 : Int32)]) rfl ?_
    refine jw.newk F jx_i439' (pc' := 19) (n' := 227) (sl' := 1572950) (k := 103) (ln := 1) (kk := 1) (st' := [.ref 226]) rfl rfl rfl (fun _ => rfl) rfl rfl rfl rfl (by omega) (by omega) ?_
    refine jw.steps F jx_i439' 5 (pc' := 26) (l' := [(4, .int (0 : Int32)), (3, .ref 226), (2, .ref 178), (1, .ref 0), (0, .ref 1000002)]) (st' := [.ref 1000002, .int (0 : Int32)]) rfl ?_
    refine jw.slen F jx_i439' hX' hbB hE2 (pc' := 27) rfl rfl rfl ?_
    refine jw.steps F jx_i439' 2 (pc' := 30) (l' := [(4, .int (0 : Int32)), (3, .ref 226), (2, .ref 178), (1, .ref 0), (0, .ref 1000002)]) (st' := [.int (Int32.ofNat L - 6), .int (0 : Int32)]) rfl ?_
    by_cases h6 : L = 6
    · subst h6
      refine jw.br F jx_i439' (pc' := 33) (st' := []) rfl (jv_bc_gt.trans (jx_gof (by decide))) ?_
      refine jw.loc (l0 := [(0, .ref 1000002), (1, .ref 0), (2, .ref 178), (3, .ref 226), (4, .int (0 : Int32))]) (by simp) ?_
      obtain ⟨j, hj, hsw⟩ := pk_andE (xs 0) (m := 31) 5 rfl
      have hj : j < 32 := hj
      match j, hj, hsw with
      | 0, _, hsw => exact jx_case0 _ _ _ _ _ _ hsw jv_Tb_ok jx_T2_ok hl F hZ hRc hRs hX' hbB hE2 hQ rfl rfl rfl rfl rfl rfl
      | 1, _, hsw => exact jx_case1 _ _ _ _ _ _ hsw jv_Tb_ok jx_T2_ok hl F hZ hRc hRs hX' hbB hE2 hQ rfl rfl rfl rfl rfl rfl
      | 2, _, hsw => exact jx_case2 _ _ _ _ _ _ hsw jv_Tb_ok jx_T2_ok hl F hZ hRc hRs hX' hbB hE2 hQ rfl rfl rfl rfl rfl rfl
      | 3, _, hsw => exact jx_case3 _ _ _ _ _ _ hsw jv_Tb_ok jx_T2_ok hl F hZ hRc hRs hX' hbB hE2 hQ rfl rfl rfl rfl rfl rfl
      | 4, _, hsw => exact jx_case4 _ _ _ _ _ _ hsw jv_Tb_ok jx_T2_ok hl F hZ hRc hRs hX' hbB hE2 hQ rfl rfl rfl rfl rfl rfl
      | 5, _, hsw => exact jx_case5 _ _ _ _ _ _ hsw jv_Tb_ok jx_T2_ok hl F hZ hRc hRs hX' hbB hE2 hQ rfl rfl rfl rfl rfl rfl
      | 6, _, hsw => exact jx_case6 _ _ _ _ _ _ hsw jv_Tb_ok jx_T2_ok hl F hZ hRc hRs hX' hbB hE2 hQ rfl rfl rfl rfl rfl rfl
      | 7, _, hsw => exact jx_case7 _ _ _ _ _ _ hsw jv_Tb_ok jx_T2_ok hl F hZ hRc hRs hX' hbB hE2 hQ rfl rfl rfl rfl rfl rfl
      | 8, _, hsw => exact jx_case8 _ _ _ _ _ _ hsw jv_Tb_ok jx_T2_ok hl F hZ hRc hRs hX' hbB hE2 hQ rfl rfl rfl rfl rfl rfl
      | 9, _, hsw => exact jx_case9 _ _ _ _ _ _ hsw jv_Tb_ok jx_T2_ok hl F hZ hRc hRs hX' hbB hE2 hQ rfl rfl rfl rfl rfl rfl
      | 10, _, hsw => exact jx_case10 _ _ _ _ _ _ hsw jv_Tb_ok jx_T2_ok hl F hZ hRc hRs hX' hbB hE2 hQ rfl rfl rfl rfl rfl rfl
      | 11, _, hsw => exact jx_case11 _ _ _ _ _ _ hsw jv_Tb_ok jx_T2_ok hl F hZ hRc hRs hX' hbB hE2 hQ rfl rfl rfl rfl rfl rfl
      | 12, _, hsw => exact jx_case12 _ _ _ _ _ _ hsw jv_Tb_ok jx_T2_ok hl F hZ hRc hRs hX' hbB hE2 hQ rfl rfl rfl rfl rfl rfl
      | 13, _, hsw => exact jx_case13 _ _ _ _ _ _ hsw jv_Tb_ok jx_T2_ok hl F hZ hRc hRs hX' hbB hE2 hQ rfl rfl rfl rfl rfl rfl
      | 14, _, hsw => exact jx_case14 _ _ _ _ _ _ hsw jv_Tb_ok jx_T2_ok hl F hZ hRc hRs hX' hbB hE2 hQ rfl rfl rfl rfl rfl rfl
      | 15, _, hsw => exact jx_case15 _ _ _ _ _ _ hsw jv_Tb_ok jx_T2_ok hl F hZ hRc hRs hX' hbB hE2 hQ rfl rfl rfl rfl rfl rfl
      | 16, _, hsw => exact jx_case16 _ _ _ _ _ _ hsw jv_Tb_ok jx_T2_ok hl F hZ hRc hRs hX' hbB hE2 hQ rfl rfl rfl rfl rfl rfl
      | 17, _, hsw => exact jx_case17 _ _ _ _ _ _ hsw jv_Tb_ok jx_T2_ok hl F hZ hRc hRs hX' hbB hE2 hQ rfl rfl rfl rfl rfl rfl
      | 18, _, hsw => exact jx_case18 _ _ _ _ _ _ hsw jv_Tb_ok jx_T2_ok hl F hZ hRc hRs hX' hbB hE2 hQ rfl rfl rfl rfl rfl rfl
      | 19, _, hsw => exact jx_case19 _ _ _ _ _ _ hsw jv_Tb_ok jx_T2_ok hl F hZ hRc hRs hX' hbB hE2 hQ rfl rfl rfl rfl rfl rfl
      | 20, _, hsw => exact jx_case20 _ _ _ _ _ _ hsw jv_Tb_ok jx_T2_ok hl F hZ hRc hRs hX' hbB hE2 hQ rfl rfl rfl rfl rfl rfl
      | 21, _, hsw => exact jx_case21 _ _ _ _ _ _ hsw jv_Tb_ok jx_T2_ok hl F hZ hRc hRs hX' hbB hE2 hQ rfl rfl rfl rfl rfl rfl
      | 22, _, hsw => exact jx_case22 _ _ _ _ _ _ hsw jv_Tb_ok jx_T2_ok hl F hZ hRc hRs hX' hbB hE2 hQ rfl rfl rfl rfl rfl rfl
      | 23, _, hsw => exact jx_case23 _ _ _ _ _ _ hsw jv_Tb_ok jx_T2_ok hl F hZ hRc hRs hX' hbB hE2 hQ rfl rfl rfl rfl rfl rfl
      | 24, _, hsw => exact jx_case24 _ _ _ _ _ _ hsw jv_Tb_ok jx_T2_ok hl F hZ hRc hRs hX' hbB hE2 hQ rfl rfl rfl rfl rfl rfl
      | 25, _, hsw => exact jx_case25 _ _ _ _ _ _ hsw jv_Tb_ok jx_T2_ok hl F hZ hRc hRs hX' hbB hE2 hQ rfl rfl rfl rfl rfl rfl
      | 26, _, hsw => exact jx_case26 _ _ _ _ _ _ hsw jv_Tb_ok jx_T2_ok hl F hZ hRc hRs hX' hbB hE2 hQ rfl rfl rfl rfl rfl rfl
      | 27, _, hsw => exact jx_case27 _ _ _ _ _ _ hsw jv_Tb_ok jx_T2_ok hl F hZ hRc hRs hX' hbB hE2 hQ rfl rfl rfl rfl rfl rfl
      | 28, _, hsw => exact jx_case28 _ _ _ _ _ _ hsw jv_Tb_ok jx_T2_ok hl F hZ hRc hRs hX' hbB hE2 hQ rfl rfl rfl rfl rfl rfl
      | 29, _, hsw => exact jx_case29 _ _ _ _ _ _ hsw jv_Tb_ok jx_T2_ok hl F hZ hRc hRs hX' hbB hE2 hQ rfl rfl rfl rfl rfl rfl
      | 30, _, hsw => exact jx_case30 _ _ _ _ _ _ hsw jv_Tb_ok jx_T2_ok hl F hZ hRc hRs hX' hbB hE2 hQ rfl rfl rfl rfl rfl rfl
      | 31, _, hsw => exact jx_case31 _ _ _ _ _ _ hsw jv_Tb_ok jx_T2_ok hl F hZ hRc hRs hX' hbB hE2 hQ rfl rfl rfl rfl rfl rfl
      | k + 32, hj, _ => omega
    · refine jw.br F jx_i439' (pc' := 1531) (st' := []) rfl (jv_bc_gt.trans (jx_got ?_)) ?_
      · rcases (show L = 0 ∨ L = 1 ∨ L = 2 ∨ L = 3 ∨ L = 4 ∨ L = 5 by omega) with h | h | h | h | h | h <;> subst h <;> decide
      refine jw.steps F jx_i439' 1 (pc' := 1532) (l' := [(4, .int (0 : Int32)), (3, .ref 226), (2, .ref 178), (1, .ref 0), (0, .ref 1000002)]) (st' := [.int (1 : Int32)]) rfl ?_
      exact hQ _ _ _ _ (by omega) (by omega)
  have := main (Nat.le_refl _) (Nat.le_refl _) (Nat.zero_le _) (Nat.zero_le _) s.heap ls [] hls hP (fun z h => by cases h)
  exact this
-- ===== YOUR PART ENDS =====
set_option maxHeartbeats 4000000 in
theorem lw_walk (l : Launch) (hflags : l.flags = flags0) (b : Addr) (xs : List Int32) : MetFree l x (headSpec (Jvm.Cond.code x code maxLocals ret :: tables_1) room_1) (lw_P b xs) (fun _ _ _ _ _ => True) lw_Q := by
  refine MetFree.of_bodyS (code := code) (maxLocals := maxLocals) (ret := ret) (by decide) ?_ ?_
  · intro args s m h hn
    obtain ⟨meth, c, h1, h2, h3, h4, h5, h6, -, -⟩ := Cond.code_spec hn (atoms_spec (ws := Jvm.Cond.code x code maxLocals ret :: tables_1) h _ List.mem_cons_self)
    exact ⟨meth, c, h1, h2, h3, h4, h5, h6⟩
  · intro p e s m args below meth c s₁ B hml0 hP _
    obtain ⟨rfl, hx, hbd, hgv⟩ := hP
    obtain ⟨scr, harrAt, hlist, hof, hsmall⟩ := hx
    obtain ⟨hcb, hkn, -, -⟩ := State.arrayAt?_spec harrAt
    have hown : s.vm.findClass R_law = some m.cls := findClass_of_methodNamed B.named
    have hts0 : ∀ c ∈ (Jvm.Cond.code x code maxLocals ret :: tables_1), c.before #[Value.ref b] s = true := atoms_spec (ws := Jvm.Cond.code x code maxLocals ret :: tables_1) B.pre
    have hts : ∀ w ∈ lw_tbl, w.before #[Value.ref b] s = true := k2_hts_sels lw_privs (fun w hw => hts0 w (List.mem_cons_of_mem _ hw)) lw_privs_ok
    have hml : c.maxLocals = 8 := B.maxLocals_eq (hts0 _ List.mem_cons_self)
    have X₀ : Stand p l e room_1 s m #[Value.ref b] below meth c s₁ [] 0 0 := Stand.of_body B
    have hh0 : s₁.heap = s.heap := by rw [B.state]; rfl
    have hsz : scr.slots.size = xs.length := by rw [← Array.length_toList, hlist, List.length_map]
    have hval : ∀ j : Nat, j < xs.length → scr.slots[j]? = some (.int (xs.getD j 0)) := fun j hj => by
      rw [← Array.getElem?_toList, hlist]
      simp [hj]
    have hbl : b < s.heap.size := (Array.getElem?_eq_some_iff.mp hcb).1
    have hX : va_X b xs.length (fun j => xs.getD j 0) s s.heap := ⟨scr, hcb, hof, hkn, hsz, hval⟩
    have K : W p l e room_1 s m #[Value.ref b] below meth c s₁.heap [] 0 0 (lw_Z below #[Value.ref b] s) (entryFrame m ([Value.ref b] : List Value).toArray 8) := by
      rw [hh0]
      exact whole_start l hflags hbd ⟨B.exec, B.bytes, B.returns, hml, hown, hts, hX, hbl, B.notSynchronized, hgv, (name_of_methodNamed B.named B.method).1⟩
    obtain ⟨t, a1, o, b1, b2, b3⟩ := K s₁ rfl X₀
    exact ⟨t, o, a1, b1, b2, b3⟩
theorem lw_pre_spec {args : Array Value} {s : State} (h : (Jvm.Cond.and given_1 narrow_1).before args s = true) (hr : rest_1_c.before args s = true) : ∃ (b : Addr) (xs : List Int32), lw_P b xs args s := by
  have hs := flat_of_before _ h
  have hq := flat_of_before _ hr
  have hc : (Cond.count 1).before args s = true := hs _ (by decide +kernel)
  have harr : (Cond.arrayOf (.arg 0) .int).before args s = true := hs _ (by decide +kernel)
  have hle : (Cond.le (.length (.arg 0)) (.int 6)).before args s = true := hs _ (by decide +kernel)
  have hlen : (Cond.isInt (.length (.arg 0))).before args s = true := hq _ (by decide +kernel)
  have hall : (Cond.all (.arg 0) (.isInt (.elem (.arg 0) (.index 0)))).before args s = true := hq _ (by decide +kernel)
  obtain ⟨b, xs, hb, hx⟩ := State.ints_of_pre rfl harr hlen hall
  have hsm : xs.length < 2 ^ 31 := hx.choose_spec.2.2.2
  have hev : (Term.length (.arg 0)).eval args s none [] s = some (.int xs.length.toInt32) := hx.length_eval hb
  have hv := Cond.le_ints hev (show (Term.int 6).eval args s none [] s = some (.int 6) from rfl)
  have hd : xs.length.toInt32 ≤ 6 := by
    simpa [Cond.before, Cond.holds, hv] using hle
  have hN : xs.length ≤ 6 := (Int32.ofNat_le_ofNat hsm (by decide)).mp (show Int32.ofNat xs.length ≤ Int32.ofNat 6 from hd)
  exact ⟨b, xs, Cond.one_arg hc (show args[0]? = some (.ref b) from hb), hx, hN, h⟩
theorem lw_comes (l : Launch) (hflags : l.flags = flags0) : Comes l x (Jvm.Cond.code x code maxLocals ret :: tables_1) room_1 (fun tb e args s => Calls_1 tb e args s ∧ rest_1 tb e args s ∧ Pre_1 tb e args s)
    (fun _ _ args s o t => lw_Q args s o t) := by
  intro p e ha hc hk s m args below hf hfit hheap happ hpre
  obtain ⟨b, xs, hP⟩ := lw_pre_spec hpre.2.2 hpre.2.1
  obtain ⟨k, o, h1, h2, h3, hQ⟩ := lw_walk l hflags b xs p e ha hc hk s m args below hf ((Spec.applies_iff_loose hf).mp happ).1 hP trivial
  exact ⟨k, o, h1, h2, h3, hQ⟩
theorem lw_frame {s t : State} {o : Outcome} {args : Array Value} (h : Framed s o t [] 600002 7302232) :
    Framed s o t (fieldLocs frame_1_writes args s ++ arrayLocs frame_1_arrays args s ++ staticLocs frame_1_statics s) 600002 7302232 := h
theorem lw_limb (L : Cond) (hL : ∀ (args : Array Value) (s t : State), L.after args s (.returned (some (.int 1))) t = true) :
    ArmFor flags0 classFile x code maxLocals ret World_1 tables_1 room_1 Calls_1 rest_1 Pre_1
      (fun tb e a s o t => postC L tb e a s o t ∧ Framed s o t (fieldLocs frame_1_writes a s ++ arrayLocs frame_1_arrays a s ++ staticLocs frame_1_statics s) 600002 7302232) := by
  intro l hflags _ _ p e ha hc hk s m args below hf hfit hheap happ hpre
  obtain ⟨k, o, h1, h2, h3, rfl, hF⟩ := lw_comes l hflags p e ha hc hk s m args below hf hfit hheap happ hpre
  exact ⟨k, _, h1, h2, h3, hL args s _, lw_frame hF⟩
theorem i_vc : Claimed_1_1 ∧ Claimed_1_2 := ⟨lw_limb limb_1_1 (fun args s t => by simp [limb_1_1, Cond.after, Cond.holds, Cond.value]), lw_limb limb_1_2 (fun args s t => Cond.after_iff.mpr (by
  first | (rw [show limb_1_2 = Cond.eq .result (.int 1) from rfl, Cond.eq_ints (x := 1) (y := 1) rfl rfl]; simp; done) | (simp [limb_1_2, Cond.value, Term.eval]; done)))⟩
