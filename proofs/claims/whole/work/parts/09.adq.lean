/-! part 09: the induction -/
section JV9
variable {p : Program} {l : Launch} {e : Env} {R : Room} {s : State} {m : MethodId} {args : Array Value} {below : List Frame} {meth : Method} {c : Code} {H : Heap} {locs : List Loc} {cells slots : Nat} {Q : State → Prop} {cc : ByteArray}
theorem jv_flS_ok {own : String} {q a b : Nat} (hts : ∀ w ∈ lw_ok, w.before args s = true) (h : jv_flS own q a b) : jv_fl args s own q a b := by
  obtain ⟨r, ref, h1, h2, h3, h4⟩ := h
  refine ⟨r, ref, h1, h2, h3.elim (fun z => Or.inl (hts _ z)) (fun ⟨host, z⟩ => Or.inr ⟨host, hts _ z⟩), ?_⟩
  rcases h4 with h4 | h4
  · rw [h4]; exact fun _ h => h
  · exact fun x hx => u_same (hts _ h4) x hx
theorem jv_notMH_plain {c : String} (h : jv_notMH c) : c ≠ "java/lang/invoke/MethodHandle" ∧ c ≠ "java/lang/invoke/VarHandle" := h
theorem jv_cnt_len {d : String} {n : Nat} (h : jv_cnt d n) : ∀ sig, parseMethodDescriptor d = some sig → n = sig.parameters.length := by
  intro sig hs
  unfold jv_cnt at h
  rw [hs] at h
  exact (Option.some.inj h).symm
theorem jv_lroom {rest : List Value} {pc : Nat} {ls : Array Slot} {st : List Value} {f : Nat → Nat} (h : jv_wd rest ≤ 8) : 2 * (F0 m pc ls st).monitorRoom + ((rest.map (jv_tr f)).map fun v => v.category).sum ≤ 8 := lv_room (by
  have := jv_wd_tr f rest
  unfold jv_wd at this h
  rw [this]; exact h)
/-- a call: whatever way its entry links, the callee's contract -/
theorem jv_call_ok {T : jv_T} {E : jv_Env} {g : Nat} (hT : jv_TOk T) (ih : jv_P l T E g) {y y' kd a b pc len : Nat} {i : Instr} {st : List Value} {G : jv_G} {n sl : Nat} {rv : Option Value} {G1 : jv_G} {n1 sl1 : Nat} {ls : Array Slot} {c0 : Int}
    (C : jv_Ctx T E y p R s m args meth c) (hls : ls.size = jv_mL T y) (hP : jv_pic E G n H) (hkd : kd = 4 ∨ kd = 5 ∨ kd = 6) (hO : jv_OOk T y pc (kd, i, len, a, b, c0)) (hy : jv_callee T kd a (st.take b).reverse G = some y') (hrm : jv_room T y y' b st = true)
    (hne : ∃ pc' o, jv_fetch (jv_code T y') pc' = some o) (h : jv_run T g y' 0 (lv_args 0 (st.take b).reverse) [] G n sl = some (rv, G1, n1, sl1)) (hf : cells + (n1 - n) ≤ R.cells ∧ slots + (sl1 - sl) ≤ R.slots) (hL : ∀ z ∈ locs, E.2.2.2.1 ≤ z.base)
    (kk : ∀ (H1 : Heap) (locs1 : List Loc), jv_pic E G1 n1 H1 → (∀ z ∈ locs1, E.2.2.2.1 ≤ z.base) → W p l e R s m args below meth c H1 locs1 (cells + (n1 - n)) (slots + (sl1 - sl)) Q (F0 m (pc + 3) ls ((rv.toList ++ st.drop b).map (jv_tr E.1)))) :
    W p l e R s m args below meth c H locs cells slots Q (F0 m pc ls (st.map (jv_tr E.1))) := by
  obtain ⟨hx, hb, hml, hown, hts, hK, hr, hlk, hnm, hRf, hRl⟩ := C
  obtain ⟨pc', o', hfe⟩ := hne
  obtain ⟨-, hpl, hcode⟩ := hT y' pc' o' hfe
  simp only [jv_room, Bool.and_eq_true] at hrm
  obtain ⟨hr1, hr2, hr3, hr4, hr5⟩ := hrm
  have hr1 := Nat.le_of_ble_eq_true hr1
  have hr2 := Nat.le_of_ble_eq_true hr2
  have hr3 := Nat.le_of_ble_eq_true hr3
  have hr4 := Nat.le_of_ble_eq_true hr4
  have hr5 := Nat.le_of_ble_eq_true hr5
  have hwd : jv_wd (st.take b).reverse ≤ jv_mL T y' := by
    have : jv_wd (st.take b).reverse = jv_wd (st.take b) := by unfold jv_wd; rw [List.map_reverse]; exact List.sum_reverse _
    rw [this]; exact hr3
  have hM := jv_met (l := l) ih h hwd hpl
  have hws := jv_tbl (args := args) (s := s) (own := "") (q := 0) (x := jv_name T y') (n := 0) (sl := 0) (n' := 0) (sl' := 0) (b := 0) hts hcode
  have hcw : Cond.code (jv_name T y') (jv_bytes T y') (jv_mL T y') (jv_rt T y') ∈ jv_ws T y' := List.mem_cons_self
  have hfr : (jv_rm T y' n sl n1 sl1).frames + 1 ≤ R.frames := by rw [hRf]; exact hr4
  have hlo : 8 + (jv_mL T y' + 11) + (jv_rm T y' n sl n1 sl1).locals ≤ R.locals := by rw [hRl]; exact hr5
  have hsz : (F0 m pc ls (st.map (jv_tr E.1))).locals.size = jv_mL T y := hls
  have S : CallFix p m c (jv_bytes T y) (jv_mL T y) s args lw_ok (jv_name T y).cls := ⟨hx, hb, hml, hown, hts⟩
  have hdr : jv_wd (st.drop b) ≤ 8 := hr2
  have hlen : (st.take b).reverse.length = b := by rw [List.length_reverse, List.length_take]; omega
  have hstk : st.map (jv_tr E.1) = (((st.take b).reverse).map (jv_tr E.1)).reverse ++ (st.drop b).map (jv_tr E.1) := by
    rw [List.map_reverse, List.reverse_reverse, ← List.map_append, List.take_append_drop]
  have kk' : ∀ (H1 : Heap) (locs1 : List Loc), jv_pic E G1 n1 H1 → (∀ z ∈ locs1, E.2.2.2.1 ≤ z.base) → W p l e R s m args below meth c H1 locs1 (cells + (n1 - n)) (slots + (sl1 - sl)) Q (F0 m (pc + 3) ls ((rv.map (jv_tr E.1)).toList ++ (st.drop b).map (jv_tr E.1))) := by
    intro H1 locs1 h1 h2
    have := kk H1 locs1 h1 h2
    rw [List.map_append, show (rv.toList.map (jv_tr E.1)) = (rv.map (jv_tr E.1)).toList by cases rv <;> rfl] at this
    exact this
  generalize hAs : (st.take b).reverse = As at hy hM hlen hstk
  have hPS : PreS s H (jv_Pc E As G n) (As.map (jv_tr E.1)) := ⟨jv_blind E As G n, fun U hU hW => ⟨rfl, by rw [hU]; exact hP, jv_K.moved hW.alike hK⟩⟩
  obtain ⟨hdg, hO⟩ := hO
  have hrunI : ∀ {o : Nat} {As' : List Value} {q : Nat}, As = .ref o :: As' → i = .invokespecial q → len = 3 → ∀ nb, b = nb + 1 → jv_ml (jv_name T y).cls q (jv_name T y') → Cond.instanceMethod (jv_name T y') ∈ lw_ok → Cond.initialized (jv_name T y').cls ∈ lw_ok → jv_notMH (jv_name T y').cls → jv_cnt (jv_name T y').desc nb → (jv_name T y').name = "<init>" → jv_rt T y' = none →
      W p l e R s m args below meth c H locs cells slots Q (F0 m pc ls (st.map (jv_tr E.1))) := by
    intro o As' q hAo hi hl3 nb hnb h1 h2 h3 h4 h5 h6 h7
    subst hAo; subst hi; subst hl3
    rw [h7] at hcw hcode
    rcases h1 with h1 | ⟨host, h1⟩
    · exact jv_callW (va_runI (b := E.1 o) (As := As'.map (jv_tr E.1)) (rest := (st.drop b).map (jv_tr E.1)) (maxL := jv_mL T y') (bytes := jv_bytes T y') (n := nb) S hM ⟨⟨rfl, rfl, hfr, hlo, hws, hcw, hts _ hcode, hts _ h3, h4, jv_cnt_len h5, hts _ h1⟩, h6, hts _ h2⟩ hPS rfl (by simp at hlen ⊢; omega) hsz (by rw [hstk]; simp [jv_tr]) (jv_lroom hdr) hdg hf) hL kk'
    · exact jv_callW (va_runIN (b := E.1 o) (As := As'.map (jv_tr E.1)) (rest := (st.drop b).map (jv_tr E.1)) (maxL := jv_mL T y') (bytes := jv_bytes T y') (n := nb) S hM ⟨⟨⟨rfl, rfl, hfr, hlo, hws, hcw⟩, hts _ hcode, hts _ h3, h4, jv_cnt_len h5, hts _ h1⟩, h6, hts _ h2⟩ hPS rfl (by simp at hlen ⊢; omega) hsz (by rw [hstk]; simp [jv_tr]) (jv_lroom hdr) hdg hf) hL kk'
  rcases hkd with hkd | hkd | hkd
  · subst hkd
    have hO : jv_lk4 T (jv_name T y).cls i len a b := hO
    dsimp only at hdg
    unfold jv_lk4 at hO
    split at hO
    · rename_i q
      obtain ⟨rfl, h1, h2, h3, h4, h5⟩ := hO
      have hya : a = y' := Option.some.inj hy
      subst hya
      rcases h1 with (h1 | ⟨host, h1⟩) | ⟨ref, h1, h1s, h1r⟩
      · exact jv_callW (va_runS (As := As.map (jv_tr E.1)) (rest := (st.drop b).map (jv_tr E.1)) (maxL := jv_mL T a) (bytes := jv_bytes T a) (ret := jv_rt T a) (n := b) S hM ⟨⟨rfl, rfl, hfr, hlo, hws, hcw, hts _ hcode, hts _ h3, h4, jv_cnt_len h5, hts _ h1⟩, hts _ h2⟩ hPS rfl (by rw [List.length_map]; exact hlen) hsz hstk (jv_lroom hdr) hdg hf) hL kk'
      · exact jv_callW (va_runSN (As := As.map (jv_tr E.1)) (rest := (st.drop b).map (jv_tr E.1)) (maxL := jv_mL T a) (bytes := jv_bytes T a) (ret := jv_rt T a) (n := b) S hM ⟨⟨⟨rfl, rfl, hfr, hlo, hws, hcw⟩, hts _ hcode, hts _ h3, h4, jv_cnt_len h5, hts _ h1⟩, hts _ h2, trivial⟩ hPS rfl (by rw [List.length_map]; exact hlen) hsz hstk (jv_lroom hdr) hdg hf) hL kk'
      · exact jv_callW (jv_runSU (ref := ref) (As := As.map (jv_tr E.1)) (rest := (st.drop b).map (jv_tr E.1)) (maxL := jv_mL T a) (bytes := jv_bytes T a) (ret := jv_rt T a) (n := b) S hM rfl rfl hfr hlo hws hcw (hts _ hcode) (hts _ h3) h4 (jv_cnt_len h5) (hts _ h1) (hts _ h1s) h1r (hts _ h2) hPS rfl (by rw [List.length_map]; exact hlen) hsz hstk (jv_lroom hdr) hdg hf) hL kk'
    · cases hO
  · subst hkd
    have hO : jv_lk5 T (jv_name T y).cls i len a b := hO
    dsimp only at hdg
    unfold jv_lk5 at hO
    split at hO
    · rename_i q
      obtain ⟨rfl, nb, hnb, hO⟩ := hO
      simp only [jv_callee] at hy
      split at hy
      · rename_i k hk
        split at hy
        · rename_i qv hV
          obtain ⟨y2, cx, d⟩ := qv
          cases hy
          obtain ⟨r, rx, hrk, h1, h2, h3⟩ := hO k y2 cx d hV
          unfold jv_hd at hk
          split at hk
          · rename_i o As'
            split at hk
            · rename_i k2 len2 V2 ho
              cases hk
              have hPV : PreV s H r.1 (E.1 o) (jv_Pc E (.ref o :: As') G n) (As'.map (jv_tr E.1)) := by
                obtain ⟨r', hr', -, cell, g1, g2, g3, -⟩ := (hP.2.2.1 o _ ho).1.1 (by have := jv_cl_lt hrk; show k < 100; omega)
                dsimp only at hr' g2
                cases hrk.symm.trans hr'
                exact ⟨jv_blind E _ G n, ⟨cell, g1, by rw [g3]; rfl, by rw [g2]; exact (hK.1.1 _ _ hrk).2.1⟩, hPS.2⟩
              rcases h3 with ⟨h3, h4, h5, h6⟩ | ⟨h3, h4, h5, ⟨b0, m0, r0, h6⟩, h7, h8, h9⟩
              · rcases h3 with h3 | ⟨host, h3⟩
                · exact jv_callW (va_runV (As := As'.map (jv_tr E.1)) (rest := (st.drop b).map (jv_tr E.1)) (C := r.1) (maxL := jv_mL T y2) (bytes := jv_bytes T y2) (ret := jv_rt T y2) (n := nb) S hM ⟨⟨rfl, rfl, hfr, hlo, hws, hcw, hts _ hcode, hts _ h2, h5, jv_cnt_len h6, hts _ h3⟩, hts _ h1, hts _ h4⟩ hPV rfl (by simp at hlen ⊢; omega) hsz (by rw [hstk]; simp [jv_tr]) (jv_lroom hdr) hdg hf) hL kk'
                · exact jv_callW (va_runVN (As := As'.map (jv_tr E.1)) (rest := (st.drop b).map (jv_tr E.1)) (C := r.1) (maxL := jv_mL T y2) (bytes := jv_bytes T y2) (ret := jv_rt T y2) (n := nb) S hM ⟨⟨⟨rfl, rfl, hfr, hlo, hws, hcw⟩, hts _ hcode, hts _ h2, h5, jv_cnt_len h6, hts _ h3⟩, hts _ h1, hts _ h4⟩ hPV rfl (by simp at hlen ⊢; omega) hsz (by rw [hstk]; simp [jv_tr]) (jv_lroom hdr) hdg hf) hL kk'
              · exact jv_callW (va_runU (As := As'.map (jv_tr E.1)) (rest := (st.drop b).map (jv_tr E.1)) (C := r.1) (owner := (jv_name T d).cls) (x := ⟨rx, (jv_name T d).name, (jv_name T d).desc⟩) (maxL := jv_mL T y2) (bytes := jv_bytes T y2) (ret := jv_rt T y2) (n := nb) S hM ⟨⟨rfl, rfl, hfr, hlo, hws, hcw⟩, hts _ hcode, hts _ h2, h8, jv_cnt_len h9, hts _ h3, hts _ h4, va_Decl.of (hts _ h5) (hts _ h6), hts _ h7, hts _ h1⟩ hPV rfl (by simp at hlen ⊢; omega) hsz (by rw [hstk]; simp [jv_tr]) (jv_lroom hdr) hdg hf) hL kk'
            · cases hk
          · cases hk
        · cases hy
      · cases hy
    · cases hO
  · subst hkd
    have hO : jv_lk6 T (jv_name T y).cls i len a b := hO
    dsimp only at hdg
    unfold jv_lk6 at hO
    split at hO
    · rename_i q
      obtain ⟨hl3, nb, hnb, h1, h2, h3, h4, h5, h6, h7⟩ := hO
      simp only [jv_callee] at hy
      split at hy
      · cases hy
        exact hrunI rfl rfl hl3 nb hnb h1 h2 h3 h4 h5 h6 h7
      · cases hy
    · cases hO
theorem jv_kd456 {T : jv_T} {y pc kd : Nat} {i : Instr} {len a b : Nat} {c0 : Int} (hO : jv_OOk T y pc (kd, i, len, a, b, c0)) (h0 : kd = 0 → False) (h1 : kd = 1 → False) (h2 : kd = 2 → False) (h3 : kd = 3 → False) (h7 : kd = 7 → False) (h8 : kd = 8 → False) (h9 : kd = 9 → False) (h10 : kd = 10 → False) : kd = 4 ∨ kd = 5 ∨ kd = 6 := by
  match kd, hO, h0, h1, h2, h3, h7, h8, h9, h10 with
  | 0, _, h, _, _, _, _, _, _, _ => exact (h rfl).elim
  | 1, _, _, h, _, _, _, _, _, _ => exact (h rfl).elim
  | 2, _, _, _, h, _, _, _, _, _ => exact (h rfl).elim
  | 3, _, _, _, _, h, _, _, _, _ => exact (h rfl).elim
  | 4, _, _, _, _, _, _, _, _, _ => exact Or.inl rfl
  | 5, _, _, _, _, _, _, _, _, _ => exact Or.inr (Or.inl rfl)
  | 6, _, _, _, _, _, _, _, _, _ => exact Or.inr (Or.inr rfl)
  | 7, _, _, _, _, _, h, _, _, _ => exact (h rfl).elim
  | 8, _, _, _, _, _, _, h, _, _ => exact (h rfl).elim
  | 9, _, _, _, _, _, _, _, h, _ => exact (h rfl).elim
  | 10, _, _, _, _, _, _, _, _, h => exact (h rfl).elim
  | k + 11, hO, _, _, _, _, _, _, _, _ => exact (hO.2 : False).elim
theorem jv_mx_ok {E : jv_Env} {pc len fr lo a : Nat} {i : Instr} {own : String} {ls : Array Slot} {st st' : List Value} (hx : p.tables.exec = Jvm.exec) (hb : c.code = cc) (hml : c.maxLocals = ls.size) (hown : s.vm.findClass own = some m.cls) (hts : ∀ w ∈ lw_ok, w.before args s = true)
    (hfr : fr ≤ R.frames) (hlo : lo ≤ R.locals) (hc : cells ≤ R.cells) (hs : slots ≤ R.slots) (hq : jv_mx fr lo a st = some st') (hdg : decode cc pc = .ok (i, len)) (hlk : jv_lk11 own i len a)
    (kk : W p l e R s m args below meth c H locs cells slots Q (F0 m (pc + 3) ls (st'.map (jv_tr E.1)))) : W p l e R s m args below meth c H locs cells slots Q (F0 m pc ls (st.map (jv_tr E.1))) := by
  unfold jv_lk11 at hlk
  split at hlk
  · rename_i q
    obtain ⟨rfl, h1, h2, h3, h4⟩ := hlk
    unfold jv_mx at hq
    split at hq
    · split at hq
      · rename_i y x r
        cases hcd : (Nat.ble 1 fr && Nat.ble (jv_wd r + 13) lo) with
        | false => rw [hcd] at hq; cases hq
        | true =>
          rw [hcd] at hq
          simp only [cond_true, Option.some.injEq] at hq
          subst hq
          simp only [Bool.and_eq_true] at hcd
          have z1 := Nat.le_of_ble_eq_true hcd.1
          have z2 := Nat.le_of_ble_eq_true hcd.2
          have e1 := jv_wd_tr E.1 r
          unfold jv_wd at e1 z2
          exact va_mmax hx hb hml hown (hts _ h1) (hts _ h2) (hts _ h3) (hts _ h4) (by omega) (by rw [e1]; omega) hc hs hdg kk
      · cases hq
    · split at hq
      · rename_i y x r
        cases hcd : (Nat.ble 1 fr && Nat.ble (jv_wd r + 13) lo) with
        | false => rw [hcd] at hq; cases hq
        | true =>
          rw [hcd] at hq
          simp only [cond_true, Option.some.injEq] at hq
          subst hq
          simp only [Bool.and_eq_true] at hcd
          have z1 := Nat.le_of_ble_eq_true hcd.1
          have z2 := Nat.le_of_ble_eq_true hcd.2
          have e1 := jv_wd_tr E.1 r
          unfold jv_wd at e1 z2
          exact va_mmin hx hb hml hown (hts _ h1) (hts _ h2) (hts _ h3) (hts _ h4) (by omega) (by rw [e1]; omega) hc hs hdg kk
      · cases hq
    · split at hq
      · rename_i y x r
        cases hcd : (Nat.ble 1 fr && Nat.ble (jv_wd r + 15) lo) with
        | false => rw [hcd] at hq; cases hq
        | true =>
          rw [hcd] at hq
          simp only [cond_true, Option.some.injEq] at hq
          subst hq
          simp only [Bool.and_eq_true] at hcd
          have z1 := Nat.le_of_ble_eq_true hcd.1
          have z2 := Nat.le_of_ble_eq_true hcd.2
          have e1 := jv_wd_tr E.1 r
          unfold jv_wd at e1 z2
          exact va_mmax_long hx hb hml hown (hts _ h1) (hts _ h2) (hts _ h3) (hts _ h4) (by omega) (by rw [e1]; omega) hc hs hdg kk
      · cases hq
    · split at hq
      · rename_i y x r
        cases hcd : (Nat.ble 1 fr && Nat.ble (jv_wd r + 15) lo) with
        | false => rw [hcd] at hq; cases hq
        | true =>
          rw [hcd] at hq
          simp only [cond_true, Option.some.injEq] at hq
          subst hq
          simp only [Bool.and_eq_true] at hcd
          have z1 := Nat.le_of_ble_eq_true hcd.1
          have z2 := Nat.le_of_ble_eq_true hcd.2
          have e1 := jv_wd_tr E.1 r
          unfold jv_wd at e1 z2
          exact va_mmin_long hx hb hml hown (hts _ h1) (hts _ h2) (hts _ h3) (hts _ h4) (by omega) (by rw [e1]; omega) hc hs hdg kk
      · cases hq
    · cases hq
  · cases hlk
theorem jv_sp_ok {E : jv_Env} {G G' : jv_G} {n pc len fr lo a : Nat} {i : Instr} {own : String} {ls : Array Slot} {st st' : List Value} (hE : jv_EOk E) (hx : p.tables.exec = Jvm.exec) (hb : c.code = cc) (hml : c.maxLocals = ls.size) (hown : s.vm.findClass own = some m.cls) (hts : ∀ w ∈ lw_ok, w.before args s = true) (hK : jv_K E s) (hP : jv_pic E G n H) (hL : ∀ z ∈ locs, E.2.2.2.1 ≤ z.base)
    (hfr : fr ≤ R.frames) (hlo : lo ≤ R.locals) (hc : cells ≤ R.cells) (hs : slots ≤ R.slots) (hq : jv_sp fr lo a st G = some (st', G')) (hdg : decode cc pc = .ok (i, len)) (hlk : jv_lks own i len a)
    (kk : ∀ (H1 : Heap) (locs1 : List Loc), jv_pic E G' n H1 → (∀ z ∈ locs1, E.2.2.2.1 ≤ z.base) → W p l e R s m args below meth c H1 locs1 cells slots Q (F0 m (pc + 3) ls (st'.map (jv_tr E.1)))) : W p l e R s m args below meth c H locs cells slots Q (F0 m pc ls (st.map (jv_tr E.1))) := by
  cases a with
  | zero => exact jv_cp_ok hE hx hb hml hown hts hK hP hL hfr hlo hq hdg hlk kk
  | succ a =>
    simp only [jv_sp] at hq
    cases hm : jv_mx fr lo a st with
    | none => rw [hm] at hq; cases hq
    | some w =>
      rw [hm] at hq
      cases hq
      exact jv_mx_ok hx hb hml hown hts hfr hlo hc hs hm hdg hlk (kk _ _ hP hL)
end JV9
set_option maxHeartbeats 4000000 in
/-- THE MACHINE DOES WHAT THE SMALL MACHINE DOES -/
theorem jv_adq (l : Launch) (T : jv_T) (E : jv_Env) (hE : jv_EOk E) (hT : jv_TOk T) : ∀ g, jv_P l T E g := by
  intro g
  induction g with
  | zero => intro y pc lo st G n sl rv G' n' sl' h; cases h
  | succ g ih =>
    intro y pc lo st G n sl rv G' n' sl' h p e R s m args below meth c H ls locs cells slots C hls hP hL hc1 hc2
    have h : jv_body T (jv_run T g) y pc lo st G n sl = some (rv, G', n', sl') := h
    obtain ⟨hx, hb, hml, hown, hts, hK, hr, hlk, hnm, hRf, hRl⟩ := id C
    unfold jv_body at h
    split at h
    · cases h
    · rename_i kd i len a b c0 hfe
      obtain ⟨hO, -, -⟩ := hT y pc _ hfe
      have hdg : decode (jv_bytes T y) pc = .ok (i, len) := hO.1
      split at h
      · -- pure
        split at h
        · rename_i lo1 st1 hq
          obtain ⟨hlen, hcst⟩ := hO.2
          have hcst' : jv_cst args s (jv_name T y).cls i c0 := by
            cases i
            case ldc q => exact hts _ hcst
            case ldc_w q => exact hts _ hcst
            case ldc2_w q => exact hts _ hcst
            all_goals exact trivial
          subst hlen
          exact jv_pure_ok hx hb hown hq hdg hcst' hls (fun ls' hls' => ih _ _ _ _ _ _ _ _ _ _ _ h p e R s m args below meth c H ls' locs cells slots C hls' hP hL hc1 hc2)
        · cases h
      · -- cells
        split at h
        · rename_i st1 G1 hq
          obtain ⟨hlen, hcst⟩ := hO.2
          have hml' : jv_mlk args s (jv_name T y).cls meth.name i a b := by
            cases i
            case getfield q => exact jv_flS_ok hts hcst
            case putfield q => exact ⟨jv_flS_ok hts hcst.1, by rw [hnm]; exact hcst.2, fun _ _ => trivial⟩
            all_goals exact trivial
          subst hlen
          exact jv_mem_ok hE hx hb hown hts hK hP hq hdg hml' hL (fun H1 locs1 hP1 hL1 => ih _ _ _ _ _ _ _ _ _ _ _ h p e R s m args below meth c H1 ls locs1 cells slots C hls hP1 hL1 hc1 hc2)
        · cases h
      · -- jumps
        split at h
        · rename_i pc1 st1 hq
          obtain ⟨hlen, hbk⟩ := hO.2
          exact jv_br_ok (fun x z hx1 hz1 hf => by rw [hE.1 x hx1, hE.1 z hz1] at hf; omega) hx hb hq hdg hlen hbk (ih _ _ _ _ _ _ _ _ _ _ _ h p e R s m args below meth c H ls locs cells slots C hls hP hL hc1 hc2)
        · cases h
      · -- new
        split at h
        · rename_i st1 x k hq
          cases hc : Nat.blt n 1000000 with
          | false => rw [hc] at h; cases h
          | true =>
            rw [hc] at h
            simp only [cond_true] at h
            have hle := jv_run_le T _ _ _ _ _ _ _ _ _ _ _ _ h
            exact jv_new_ok hE hx hb hown hts hK hP (Nat.le_of_ble_eq_true hc) hq hdg hO.2 (by omega) (by omega) (fun H1 hP1 => ih _ _ _ _ _ _ _ _ _ _ _ h p e R s m args below meth c H1 ls locs _ _ C hls hP1 hL (by omega) (by omega))
        · cases h
      · -- Object's constructor
        split at h
        · rename_i r hq
          unfold jv_oi at hq
          split at hq
          · rename_i o r'
            cases hc : (Nat.ble 1 (jv_fr T y) && Nat.ble (jv_wd r' + 12) (jv_lo T y)) with
            | false => rw [hc] at hq; cases hq
            | true =>
              rw [hc] at hq
              simp only [cond_true, Option.some.injEq] at hq
              subst hq
              simp only [Bool.and_eq_true] at hc
              have z1 := Nat.le_of_ble_eq_true hc.1
              have z2 := Nat.le_of_ble_eq_true hc.2
              have hO2 : jv_lk7 (jv_name T y).cls i len := hO.2
              unfold jv_lk7 at hO2
              split at hO2
              · rename_i q
                obtain ⟨rfl, h1, h2, h3⟩ := hO2
                refine W.objInit hx hb hown (hts _ h1) (hts _ h2) (hts _ h3) rfl (by rw [hml]; exact hls.1) rfl hdg (by rw [hRf]; exact z1) ?_ (ih _ _ _ _ _ _ _ _ _ _ _ h p e R s m args below meth c H ls locs cells slots C hls hP hL hc1 hc2)
                have e1 := jv_wd_tr E.1 r'
                unfold jv_wd at e1
                rw [hRl, e1]
                simpa [JFrame.monitorRoom, jv_wd] using z2
              · cases hO2
          · cases hq
        · cases h
      · -- return
        split at h
        · rename_i rv1 hq
          simp only [Option.some.injEq, Prod.mk.injEq] at h
          obtain ⟨rfl, rfl, rfl, rfl⟩ := h
          have hlen : len = 1 := hO.2
          subst hlen
          rw [Nat.sub_self, Nat.add_zero] at hc1 hc2
          rw [← hc1, ← hc2]
          exact jv_ret_ok hx hb hr hlk hq hdg hP hL
        · cases h
      · -- a class's own row
        exact jv_gets_ok hx hb hown hts hK hP hdg hO.2 (ih _ _ _ _ _ _ _ _ _ _ _ h p e R s m args below meth c H ls locs cells slots C hls hP hL hc1 hc2)
      · -- arraycopy
        split at h
        · rename_i st1 G1 hq
          exact jv_sp_ok hE hx hb (hml.trans hls.1.symm) hown hts hK hP hL (Nat.le_of_eq hRf.symm) (Nat.le_of_eq hRl.symm) (by omega) (by omega) hq hdg hO.2 (fun H1 locs1 hP1 hL1 => ih _ _ _ _ _ _ _ _ _ _ _ h p e R s m args below meth c H1 ls locs1 cells slots C hls hP1 hL1 hc1 hc2)
        · cases h
      · -- calls
        rename_i kd h0 h1 h2 h3 h7 h8 h9 h10
        split at h
        · cases h
        · rename_i y' hy
          cases hc : jv_room T y y' b st with
          | false => rw [hc] at h; cases h
          | true =>
            rw [hc] at h
            simp only [cond_true] at h
            split at h
            · rename_i rv1 G1 n1 sl1 hrun
              have hle1 := jv_run_le T _ _ _ _ _ _ _ _ _ _ _ _ hrun
              have hle2 := jv_run_le T _ _ _ _ _ _ _ _ _ _ _ _ h
              have hne : ∃ pc' o, jv_fetch (jv_code T y') pc' = some o := by
                cases g with
                | zero => cases hrun
                | succ g =>
                  have hrun : jv_body T (jv_run T g) y' 0 (lv_args 0 (st.take b).reverse) [] G n sl = some (rv1, G1, n1, sl1) := hrun
                  unfold jv_body at hrun
                  split at hrun
                  · cases hrun
                  · rename_i hf; exact ⟨_, _, hf⟩
              exact jv_call_ok hT ih C hls.1 hP (jv_kd456 hO h0 h1 h2 h3 h7 h8 h9 h10) hO hy hc hne hrun ⟨by omega, by omega⟩ hL (fun H1 locs1 hP1 hL1 => ih _ _ _ _ _ _ _ _ _ _ _ h p e R s m args below meth c H1 ls locs1 _ _ C hls hP1 hL1 (by omega) (by omega))
            · cases h
