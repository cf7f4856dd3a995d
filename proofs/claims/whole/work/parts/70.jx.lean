/-! part 70: what throws, its catching, and the law: rules over the small machine's pieces -/
/-- the classes of what is thrown -/
def jx_nm (k : Nat) : String := match k with
  | 0 => "java/lang/IllegalStateException"
  | 1 => "java/lang/IllegalArgumentException"
  | _ => "java/lang/IndexOutOfBoundsException"
def jx_up : List String := ["java/lang/RuntimeException", "java/lang/Exception"]
/-- by class: the places of its link and of its constructor in ProgramBox's pool -/
def jx_ik (k : Nat) : Nat := match k with
  | 0 => 49
  | 1 => 60
  | _ => 124
def jx_ic (k : Nat) : Nat := match k with
  | 0 => 53
  | 1 => 64
  | _ => 128
/-- the texts by their places in ProgramBox's pool -/
def jx_tx : List (Nat × String) := [(51, "the tape is full"), (62, "the tape has not so many bytes"), (69, "no map is like this"), (82, "too many maps, or too little area"), (91, "too many programs"), (110, "too long for a packet"), (126, "the packet has no such byte"), (143, "eight does not divide it"), (145, "the context has no such number"), (152, "no run has this fuel"), (154, "there is no such program"), (183, "there is no such map"), (185, "there is no such byte")]
/-- words that aren't among lw_ok -/
def jx_bw : List Cond := [.declares ⟨"java/lang/RuntimeException", "<init>", "(Ljava/lang/String;)V"⟩, .declares ⟨"java/lang/Exception", "<init>", "(Ljava/lang/String;)V"⟩, .declares ⟨"java/lang/Throwable", "<init>", "(Ljava/lang/String;)V"⟩, .castable (jx_nm 0) (jx_nm 0), .castable (jx_nm 1) (jx_nm 1), .castable (jx_nm 2) (jx_nm 2)]
def jx_bk (w : Cond) : Bool := match w with
  | .declares _ => true
  | .castable _ _ => true
  | _ => false
theorem jx_bk_warm {w : Cond} {s U : State} (hb : jx_bk w = true) (hW : s.WarmedH U.vm) (h : va_Nw w s) : va_Nw w U := by
  cases w
  case declares x => exact va_Nw.warmD hW h
  case castable a b => exact va_Nw.warmC hW h
  all_goals cases hb
theorem jx_bk_tab {w : Cond} (hb : jx_bk w = true) : w.onTables = true := by
  cases w
  case declares x => rfl
  case castable a b => rfl
  all_goals cases hb
theorem jx_bw_all : ∀ w ∈ jx_bw, jx_bk w = true := List.all_eq_true.mp (by decide +kernel)
theorem jx_bw_tbl : ∀ w ∈ jx_bw, w ∈ lw_tbl := fun w h => of_decide_eq_true (List.all_eq_true.mp (by decide +kernel : jx_bw.all (fun w => decide (w ∈ lw_tbl)) = true) w h)
def jx_ok (w : Cond) : Bool := (decide (w ∈ lw_tbl) && jv_okw w) || decide (w ∈ jx_bw)
theorem jx_at (k : Nat) : ∀ w ∈ Cond.classLink "ProgramBox" (jx_ik k) (jx_nm k) :: Cond.initialized (jx_nm k) :: vx_atS "ProgramBox" (jx_ic k) (jx_nm k) jx_up, w ∈ lw_ok ∨ w ∈ jx_bw := by
  have g : ∀ L : List Cond, L.all jx_ok = true → ∀ w ∈ L, w ∈ lw_ok ∨ w ∈ jx_bw := fun L h w hw => by
    have h1 := List.all_eq_true.mp h w hw
    simp only [jx_ok, Bool.or_eq_true, Bool.and_eq_true, decide_eq_true_eq] at h1
    exact h1.imp (fun h => jv_memok h.1 h.2) id
  match k with
  | 0 => exact g _ (by decide +kernel)
  | 1 => exact g _ (by decide +kernel)
  | k + 2 => exact g (Cond.classLink "ProgramBox" 124 "java/lang/IndexOutOfBoundsException" :: Cond.initialized "java/lang/IndexOutOfBoundsException" :: vx_atS "ProgramBox" 128 "java/lang/IndexOutOfBoundsException" jx_up) (by decide +kernel)
theorem jx_gd (k : Nat) : ∀ w ∈ Cond.classLink "ProgramBox" (jx_ik k) (jx_nm k) :: Cond.initialized (jx_nm k) :: vx_atS "ProgramBox" (jx_ic k) (jx_nm k) jx_up, vx_ot w = true := by
  match k with
  | 0 => exact fun w h => List.all_eq_true.mp (by decide +kernel : (Cond.classLink "ProgramBox" (jx_ik 0) (jx_nm 0) :: Cond.initialized (jx_nm 0) :: vx_atS "ProgramBox" (jx_ic 0) (jx_nm 0) jx_up).all vx_ot = true) w h
  | 1 => exact fun w h => List.all_eq_true.mp (by decide +kernel : (Cond.classLink "ProgramBox" (jx_ik 1) (jx_nm 1) :: Cond.initialized (jx_nm 1) :: vx_atS "ProgramBox" (jx_ic 1) (jx_nm 1) jx_up).all vx_ot = true) w h
  | k + 2 => exact fun w h => List.all_eq_true.mp (by decide +kernel : (Cond.classLink "ProgramBox" 124 "java/lang/IndexOutOfBoundsException" :: Cond.initialized "java/lang/IndexOutOfBoundsException" :: vx_atS "ProgramBox" 128 "java/lang/IndexOutOfBoundsException" jx_up).all vx_ot = true) w h
/-- what throwing wants of the world: two fields of Throwable, the texts -/
def jx_Z (E : jv_Env) (U : State) : Prop := vx_Zq Bundle.tN "UNASSIGNED_STACK" Bundle.steD (fun q => E.2.2.2.1 ≤ q) U E.2.2.2.2 ∧ vx_Zq Bundle.tN "SUPPRESSED_SENTINEL" Bundle.listD (fun q => E.2.2.2.1 ≤ q) U E.2.2.2.2 ∧ (∀ q ∈ jx_tx, ∃ sa, vk_R "ProgramBox" q.1 q.2 sa U) ∧ (∀ w ∈ jx_bw, va_Nw w U) ∧ va_Nc (jx_nm 0) (jx_nm 1) U ∧ va_Nc (jx_nm 1) (jx_nm 2) U
theorem jx_Z.warm {E : jv_Env} {s U : State} (hW : s.WarmedH U.vm) (h : jx_Z E s) : jx_Z E U := ⟨vx_Zq.moved hW.alike h.1, vx_Zq.moved hW.alike h.2.1, fun q hq => by obtain ⟨sa, g⟩ := h.2.2.1 q hq; exact ⟨sa, vk_R.warm hW g⟩, fun w hw => jx_bk_warm (jx_bw_all w hw) hW (h.2.2.2.1 w hw), va_Nc.moved hW.alike h.2.2.2.2.1, va_Nc.moved hW.alike h.2.2.2.2.2⟩
theorem jx_Z.same {E : jv_Env} {s U : State} (hv : U.vm = s.vm) (h : jx_Z E s) : jx_Z E U := ⟨vx_Zq.moved (by rw [hv]; exact Vm.Alike.refl _) h.1, vx_Zq.moved (by rw [hv]; exact Vm.Alike.refl _) h.2.1, fun q hq => by obtain ⟨sa, g⟩ := h.2.2.1 q hq; exact ⟨sa, vk_R.same hv g⟩, fun w hw => va_Nw.same (jx_bk_tab (jx_bw_all w hw)) hv.symm (h.2.2.2.1 w hw), va_Nc.moved (by rw [hv]; exact Vm.Alike.refl _) h.2.2.2.2.1, va_Nc.moved (by rw [hv]; exact Vm.Alike.refl _) h.2.2.2.2.2⟩
def jx_Pc (E : jv_Env) (As : List Value) (G : jv_G) (n : Nat) : Array Value → State → Prop := va_Pc (As.map (jv_tr E.1)) (fun U => jv_pic E G n U.heap ∧ jv_K E U ∧ jx_Z E U)
theorem jx_blind (E : jv_Env) (As : List Value) (G : jv_G) (n : Nat) : FrameBlind (jx_Pc E As G n) := fun a U g mk q => ⟨q.1, q.2.1, jv_K.moved (u := U) (U := U.calling g mk a) (Vm.Alike.refl U.vm) q.2.2.1, jx_Z.same (s := U) (U := U.calling g mk a) rfl q.2.2.2⟩
def jx_XC (E : jv_Env) (k : Nat) (G' : jv_G) (n' : Nat) : String → State → State → Prop := fun X _ t => X = jx_nm k ∧ jv_pic E G' n' t.heap
/-- one cell more that nobody looks at -/
theorem jx_pic_up {E : jv_Env} {G : jv_G} {n : Nat} {H H1 : Heap} (hE : jv_EOk E) (hP : jv_pic E G n H) (hn : n < 1000000) (hsz : H1.size = H.size + 1) (hq : ∀ q : Nat, q < H.size → H1[q]? = H[q]?) : jv_pic E G (n + 1) H1 := by
  have hs := hP.1
  refine ⟨by omega, fun q hlt => (hq q (by omega)).trans (hP.2.1 q hlt), fun a z hz => ?_, by omega⟩
  obtain ⟨g1, g2⟩ := hP.2.2.1 a z hz
  refine ⟨jv_at_kept g1 (fun h110 => hq _ ?_), g2.elim Or.inl (fun h => Or.inr (by omega))⟩
  have := jv_pic_lt hE hP hz h110
  omega
section JX
variable {p : Program} {l : Launch} {e : Env} {R : Room} {s : State} {m : MethodId} {args : Array Value} {below : List Frame} {meth : Method} {c : Code} {H : Heap} {locs : List Loc} {cells slots : Nat} {Q : State → Prop}
set_option maxHeartbeats 4000000 in
theorem jx_callM {T : jv_T} {E : jv_Env} {y y' kd a b pc len : Nat} {i : Instr} {st : List Value} {G : jv_G} {n sl : Nat} {rv : Option Value} {G1 : jv_G} {n1 sl1 : Nat} {ls : Array Slot} {c0 : Int}
    (C : jv_Ctx T E y p R s m args meth c) (hls : ls.size = jv_mL T y) (hP : jv_pic E G n H) (hkd : kd = 4 ∨ kd = 5 ∨ kd = 6) (hO : jv_OOk T y pc (kd, i, len, a, b, c0)) (hy : jv_callee T kd a (st.take b).reverse G = some y') (hrm : jv_room T y y' b st = true)
    (hcode : Cond.code (jv_name T y') (jv_bytes T y') (jv_mL T y') (jv_rt T y') ∈ lw_ok) (hM : Met l (jv_name T y') (jv_ws T y') (jv_rm T y' n sl n1 sl1) (jv_Pc E (st.take b).reverse G n) (jv_Qc E rv G1 n1) (n1 - n) (sl1 - sl) (jv_free E)) (hf : cells + (n1 - n) ≤ R.cells ∧ slots + (sl1 - sl) ≤ R.slots) (hL : ∀ z ∈ locs, E.2.2.2.1 ≤ z.base)
    (kk : ∀ (H1 : Heap) (locs1 : List Loc), jv_pic E G1 n1 H1 → (∀ z ∈ locs1, E.2.2.2.1 ≤ z.base) → W p l e R s m args below meth c H1 locs1 (cells + (n1 - n)) (slots + (sl1 - sl)) Q (F0 m (pc + 3) ls ((rv.toList ++ st.drop b).map (jv_tr E.1)))) :
    W p l e R s m args below meth c H locs cells slots Q (F0 m pc ls (st.map (jv_tr E.1))) := by
  obtain ⟨hx, hb, hml, hown, hts, hK, hr, hlk, hnm, hRf, hRl⟩ := C
  simp only [jv_room, Bool.and_eq_true] at hrm
  obtain ⟨hr1, hr2, hr3, hr4, hr5⟩ := hrm
  have hr1 := Nat.le_of_ble_eq_true hr1
  have hr2 := Nat.le_of_ble_eq_true hr2
  have hr3 := Nat.le_of_ble_eq_true hr3
  have hr4 := Nat.le_of_ble_eq_true hr4
  have hr5 := Nat.le_of_ble_eq_true hr5
  have hws := jv_tbl (args := args) (s := s) (own := "") (q := 0) (x := jv_name T y') (n := 0) (sl := 0) (n' := 0) (sl' := 0) (b := 0) hts hcode
  have hcw : Cond.code (jv_name T y') (jv_bytes T y') (jv_mL T y') (jv_rt T y') ∈ jv_ws T y' := List.mem_cons_self
  have hfr : (jv_rm T y' n sl n1 sl1).frames + 1 ≤ R.frames := by rw [hRf]; exact hr4
  have hlo : 8 + (jv_mL T y' + 11) + (jv_rm T y' n sl n1 sl1).locals ≤ R.locals := by rw [hRl]; exact hr5
  have hsz : (F0 m pc ls (st.map (jv_tr E.1))).locals.size = jv_mL T y := hls
  have S : CallFix p m c (jv_bytes T y) (jv_mL T y) s args lw_ok (jv_name T y).cls := ⟨hx, hb, hml, hown, hts⟩
  have hdr : jv_wd (st.drop b) ≤ 8 := hr2
  have hlen : (st.take b).reverse.length = b := by rw [List.length_reverse, List.length_take]; omega
  have hstk : st.map (jv_tr E.1) = (((st.take b).reverse).map (jv_tr E.1)).reverse ++ (st.drop b).map (jv_tr E.1) := by
    rw [List.map_reverse, List.reverse_reverse, ← List.map_append, List.take_append_drop]
  have kk' : ∀ (H1 : Heap) (locs1 : List Loc), jv_pic E G1 n1 H1 → (∀ z ∈ locs1, E.2.2.2.1 ≤ z.base) → W p l e R s m args below meth c H1 locs1 (cells + (n1 - n)) (slots + (sl1 - sl)) Q (F0 m (pc + 3) ls ((rv.map (jv_tr E.1)).toList ++ (st.drop b).map (jv_tr E.1))) := by
    intro H1 locs1 h1 h2
    have := kk H1 locs1 h1 h2
    rw [List.map_append, show (rv.toList.map (jv_tr E.1)) = (rv.map (jv_tr E.1)).toList by cases rv <;> rfl] at this
    exact this
  generalize hAs : (st.take b).reverse = As at hy hM hlen hstk
  have hPS : PreS s H (jv_Pc E As G n) (As.map (jv_tr E.1)) := ⟨jv_blind E As G n, fun U hU hW => ⟨rfl, by rw [hU]; exact hP, jv_K.moved hW.alike hK⟩⟩
  obtain ⟨hdg, hO⟩ := hO
  have hrunI : ∀ {o : Nat} {As' : List Value} {q : Nat}, As = .ref o :: As' → i = .invokespecial q → len = 3 → ∀ nb, b = nb + 1 → jv_ml (jv_name T y).cls q (jv_name T y') → Cond.instanceMethod (jv_name T y') ∈ lw_ok → Cond.initialized (jv_name T y').cls ∈ lw_ok → jv_notMH (jv_name T y').cls → jv_cnt (jv_name T y').desc nb → (jv_name T y').name = "<init>" → jv_rt T y' = none →
      W p l e R s m args below meth c H locs cells slots Q (F0 m pc ls (st.map (jv_tr E.1))) := by
    intro o As' q hAo hi hl3 nb hnb h1 h2 h3 h4 h5 h6 h7
    subst hAo; subst hi; subst hl3
    rw [h7] at hcw hcode
    rcases h1 with h1 | ⟨host, h1⟩
    · exact jv_callW (va_runI (b := E.1 o) (As := As'.map (jv_tr E.1)) (rest := (st.drop b).map (jv_tr E.1)) (maxL := jv_mL T y') (bytes := jv_bytes T y') (n := nb) S hM ⟨⟨rfl, rfl, hfr, hlo, hws, hcw, hts _ hcode, hts _ h3, h4, jv_cnt_len h5, hts _ h1⟩, h6, hts _ h2⟩ hPS rfl (by simp at hlen ⊢; omega) hsz (by rw [hstk]; simp [jv_tr]) (jv_lroom hdr) hdg hf) hL kk'
    · exact jv_callW (va_runIN (b := E.1 o) (As := As'.map (jv_tr E.1)) (rest := (st.drop b).map (jv_tr E.1)) (maxL := jv_mL T y') (bytes := jv_bytes T y') (n := nb) S hM ⟨⟨⟨rfl, rfl, hfr, hlo, hws, hcw⟩, hts _ hcode, hts _ h3, h4, jv_cnt_len h5, hts _ h1⟩, h6, hts _ h2⟩ hPS rfl (by simp at hlen ⊢; omega) hsz (by rw [hstk]; simp [jv_tr]) (jv_lroom hdr) hdg hf) hL kk'
  rcases hkd with hkd | hkd | hkd
  · subst hkd
    have hO : jv_lk4 T (jv_name T y).cls i len a b := hO
    dsimp only at hdg
    unfold jv_lk4 at hO
    split at hO
    · rename_i q
      obtain ⟨rfl, h1, h2, h3, h4, h5⟩ := hO
      have hya : a = y' := Option.some.inj hy
      subst hya
      rcases h1 with h1 | ⟨host, h1⟩
      · exact jv_callW (va_runS (As := As.map (jv_tr E.1)) (rest := (st.drop b).map (jv_tr E.1)) (maxL := jv_mL T a) (bytes := jv_bytes T a) (ret := jv_rt T a) (n := b) S hM ⟨⟨rfl, rfl, hfr, hlo, hws, hcw, hts _ hcode, hts _ h3, h4, jv_cnt_len h5, hts _ h1⟩, hts _ h2⟩ hPS rfl (by rw [List.length_map]; exact hlen) hsz hstk (jv_lroom hdr) hdg hf) hL kk'
      · exact jv_callW (va_runSN (As := As.map (jv_tr E.1)) (rest := (st.drop b).map (jv_tr E.1)) (maxL := jv_mL T a) (bytes := jv_bytes T a) (ret := jv_rt T a) (n := b) S hM ⟨⟨⟨rfl, rfl, hfr, hlo, hws, hcw⟩, hts _ hcode, hts _ h3, h4, jv_cnt_len h5, hts _ h1⟩, hts _ h2, trivial⟩ hPS rfl (by rw [List.length_map]; exact hlen) hsz hstk (jv_lroom hdr) hdg hf) hL kk'
    · cases hO
  · subst hkd
    have hO : jv_lk5 T (jv_name T y).cls i len a b := hO
    dsimp only at hdg
    unfold jv_lk5 at hO
    split at hO
    · rename_i q
      obtain ⟨rfl, nb, hnb, hO⟩ := hO
      simp only [jv_callee] at hy
      split at hy
      · rename_i k hk
        split at hy
        · rename_i qv hV
          obtain ⟨y2, cx, d⟩ := qv
          cases hy
          obtain ⟨r, rx, hrk, h1, h2, h3⟩ := hO k y2 cx d hV
          unfold jv_hd at hk
          split at hk
          · rename_i o As'
            split at hk
            · rename_i k2 len2 V2 ho
              cases hk
              have hPV : PreV s H r.1 (E.1 o) (jv_Pc E (.ref o :: As') G n) (As'.map (jv_tr E.1)) := by
                obtain ⟨r', hr', -, cell, g1, g2, g3, -⟩ := (hP.2.2.1 o _ ho).1.1 (by have := jv_cl_lt hrk; show k < 100; omega)
                dsimp only at hr' g2
                cases hrk.symm.trans hr'
                exact ⟨jv_blind E _ G n, ⟨cell, g1, by rw [g3]; rfl, by rw [g2]; exact (hK.1.1 _ _ hrk).2.1⟩, hPS.2⟩
              rcases h3 with ⟨h3, h4, h5, h6⟩ | ⟨h3, h4, h5, ⟨b0, m0, r0, h6⟩, h7, h8, h9⟩
              · rcases h3 with h3 | ⟨host, h3⟩
                · exact jv_callW (va_runV (As := As'.map (jv_tr E.1)) (rest := (st.drop b).map (jv_tr E.1)) (C := r.1) (maxL := jv_mL T y2) (bytes := jv_bytes T y2) (ret := jv_rt T y2) (n := nb) S hM ⟨⟨rfl, rfl, hfr, hlo, hws, hcw, hts _ hcode, hts _ h2, h5, jv_cnt_len h6, hts _ h3⟩, hts _ h1, hts _ h4⟩ hPV rfl (by simp at hlen ⊢; omega) hsz (by rw [hstk]; simp [jv_tr]) (jv_lroom hdr) hdg hf) hL kk'
                · exact jv_callW (va_runVN (As := As'.map (jv_tr E.1)) (rest := (st.drop b).map (jv_tr E.1)) (C := r.1) (maxL := jv_mL T y2) (bytes := jv_bytes T y2) (ret := jv_rt T y2) (n := nb) S hM ⟨⟨⟨rfl, rfl, hfr, hlo, hws, hcw⟩, hts _ hcode, hts _ h2, h5, jv_cnt_len h6, hts _ h3⟩, hts _ h1, hts _ h4⟩ hPV rfl (by simp at hlen ⊢; omega) hsz (by rw [hstk]; simp [jv_tr]) (jv_lroom hdr) hdg hf) hL kk'
              · exact jv_callW (va_runU (As := As'.map (jv_tr E.1)) (rest := (st.drop b).map (jv_tr E.1)) (C := r.1) (owner := (jv_name T d).cls) (x := ⟨rx, (jv_name T d).name, (jv_name T d).desc⟩) (maxL := jv_mL T y2) (bytes := jv_bytes T y2) (ret := jv_rt T y2) (n := nb) S hM ⟨⟨rfl, rfl, hfr, hlo, hws, hcw⟩, hts _ hcode, hts _ h2, h8, jv_cnt_len h9, hts _ h3, hts _ h4, va_Decl.of (hts _ h5) (hts _ h6), hts _ h7, hts _ h1⟩ hPV rfl (by simp at hlen ⊢; omega) hsz (by rw [hstk]; simp [jv_tr]) (jv_lroom hdr) hdg hf) hL kk'
            · cases hk
          · cases hk
        · cases hy
      · cases hy
    · cases hO
  · subst hkd
    have hO : jv_lk6 T (jv_name T y).cls i len a b := hO
    dsimp only at hdg
    unfold jv_lk6 at hO
    split at hO
    · rename_i q
      obtain ⟨hl3, nb, hnb, h1, h2, h3, h4, h5, h6, h7⟩ := hO
      simp only [jv_callee] at hy
      split at hy
      · cases hy
        exact hrunI rfl rfl hl3 nb hnb h1 h2 h3 h4 h5 h6 h7
      · cases hy
    · cases hO

theorem jx_callW {E : jv_Env} {xk : Nat} {G1 : jv_G} {n1 mc ms pc : Nat} {ls : Array Slot} {st0 rest : List Value} (hr : vx_Run p l e R s m args below meth c H locs cells slots mc ms (F0 m pc ls st0) rest (fun _ _ _ => False) (jx_XC E xk G1 n1) (jv_free E)) (hL : ∀ z ∈ locs, E.2.2.2.1 ≤ z.base)
    (kk : ∀ (q : Addr) (ce : Cell) (H1 : Heap) (locs1 : List Loc), jv_pic E G1 n1 H1 → (∀ z ∈ locs1, E.2.2.2.1 ≤ z.base) → H1[q]? = some ce → ce.vm = .none → s.vm.findClass (jx_nm xk) = some ce.cls → vx_W p l e R s m args below meth c H1 locs1 (cells + mc) (slots + ms) Q (F0 m pc ls rest) q) : W p l e R s m args below meth c H locs cells slots Q (F0 m pc ls st0) := by
  intro T hT X
  rcases hr T hT X with ⟨v, st₀, t, T', L, h0, X', hL1, e1, e2, hF, st⟩ | ⟨q, st₀, t, T', L, E', ce, h0, X', hL1, e1, e2, ⟨hE', hp⟩, hce, hcv, hcl, st⟩
  · exact hF.elim
  · subst hE'
    obtain ⟨t2, a1, b1⟩ := kk q ce T'.heap (locs ++ L) (by rw [e1]; exact hp) (fun z hz => (List.mem_append.mp hz).elim (hL z) (fun h => hL1 z h)) (by rw [e1]; exact hce) hcv hcl T' rfl X'
    exact ⟨t2, st.trans a1, b1⟩
set_option maxHeartbeats 4000000 in
theorem jx_callX {T : jv_T} {E : jv_Env} {y y' kd a b pc len : Nat} {i : Instr} {st : List Value} {G : jv_G} {n sl : Nat} {xk : Nat} {G1 : jv_G} {n1 sl1 : Nat} {ls : Array Slot} {c0 : Int}
    (C : jv_Ctx T E y p R s m args meth c) (hZ : jx_Z E s) (hls : ls.size = jv_mL T y) (hP : jv_pic E G n H) (hkd : kd = 4 ∨ kd = 5) (hO : jv_OOk T y pc (kd, i, len, a, b, c0)) (hy : jv_callee T kd a (st.take b).reverse G = some y') (hrm : jv_room T y y' b st = true)
    (hcode : Cond.code (jv_name T y') (jv_bytes T y') (jv_mL T y') (jv_rt T y') ∈ lw_ok) (hM : vx_Met l (jv_name T y') (jv_ws T y') (jv_rm T y' n sl n1 sl1) (jx_Pc E (st.take b).reverse G n) (fun _ _ _ _ => False) (jx_XC E xk G1 n1) (n1 - n) (sl1 - sl) (jv_free E)) (hf : cells + (n1 - n) ≤ R.cells ∧ slots + (sl1 - sl) ≤ R.slots) (hL : ∀ z ∈ locs, E.2.2.2.1 ≤ z.base)
    (kk : ∀ (q : Addr) (ce : Cell) (H1 : Heap) (locs1 : List Loc), jv_pic E G1 n1 H1 → (∀ z ∈ locs1, E.2.2.2.1 ≤ z.base) → H1[q]? = some ce → ce.vm = .none → s.vm.findClass (jx_nm xk) = some ce.cls → vx_W p l e R s m args below meth c H1 locs1 (cells + (n1 - n)) (slots + (sl1 - sl)) Q (F0 m pc ls ((st.drop b).map (jv_tr E.1))) q) :
    W p l e R s m args below meth c H locs cells slots Q (F0 m pc ls (st.map (jv_tr E.1))) := by
  obtain ⟨hx, hb, hml, hown, hts, hK, hr, hlk, hnm, hRf, hRl⟩ := C
  simp only [jv_room, Bool.and_eq_true] at hrm
  obtain ⟨hr1, hr2, hr3, hr4, hr5⟩ := hrm
  have hr1 := Nat.le_of_ble_eq_true hr1
  have hr2 := Nat.le_of_ble_eq_true hr2
  have hr3 := Nat.le_of_ble_eq_true hr3
  have hr4 := Nat.le_of_ble_eq_true hr4
  have hr5 := Nat.le_of_ble_eq_true hr5
  have hws := jv_tbl (args := args) (s := s) (own := "") (q := 0) (x := jv_name T y') (n := 0) (sl := 0) (n' := 0) (sl' := 0) (b := 0) hts hcode
  have hcw : Cond.code (jv_name T y') (jv_bytes T y') (jv_mL T y') (jv_rt T y') ∈ jv_ws T y' := List.mem_cons_self
  have hfr : (jv_rm T y' n sl n1 sl1).frames + 1 ≤ R.frames := by rw [hRf]; exact hr4
  have hlo : 8 + (jv_mL T y' + 11) + (jv_rm T y' n sl n1 sl1).locals ≤ R.locals := by rw [hRl]; exact hr5
  have hsz : (F0 m pc ls (st.map (jv_tr E.1))).locals.size = jv_mL T y := hls
  have S : CallFix p m c (jv_bytes T y) (jv_mL T y) s args lw_ok (jv_name T y).cls := ⟨hx, hb, hml, hown, hts⟩
  have hdr : jv_wd (st.drop b) ≤ 8 := hr2
  have hlen : (st.take b).reverse.length = b := by rw [List.length_reverse, List.length_take]; omega
  have hstk : st.map (jv_tr E.1) = (((st.take b).reverse).map (jv_tr E.1)).reverse ++ (st.drop b).map (jv_tr E.1) := by
    rw [List.map_reverse, List.reverse_reverse, ← List.map_append, List.take_append_drop]
  generalize hAs : (st.take b).reverse = As at hy hM hlen hstk
  have hPS : PreS s H (jx_Pc E As G n) (As.map (jv_tr E.1)) := ⟨jx_blind E As G n, fun U hU hW => ⟨rfl, by rw [hU]; exact hP, jv_K.moved hW.alike hK, jx_Z.warm hW hZ⟩⟩
  obtain ⟨hdg, hO⟩ := hO
  rcases hkd with hkd | hkd
  · subst hkd
    have hO : jv_lk4 T (jv_name T y).cls i len a b := hO
    dsimp only at hdg
    unfold jv_lk4 at hO
    split at hO
    · rename_i q
      obtain ⟨rfl, h1, h2, h3, h4, h5⟩ := hO
      have hya : a = y' := Option.some.inj hy
      subst hya
      rcases h1 with h1 | ⟨host, h1⟩
      · exact jx_callW (vx_runS (As := As.map (jv_tr E.1)) (rest := (st.drop b).map (jv_tr E.1)) (maxL := jv_mL T a) (bytes := jv_bytes T a) (ret := jv_rt T a) (n := b) S hM ⟨⟨rfl, rfl, hfr, hlo, hws, hcw, hts _ hcode, hts _ h3, h4, jv_cnt_len h5, hts _ h1⟩, hts _ h2⟩ hPS rfl (by rw [List.length_map]; exact hlen) hsz hstk (jv_lroom hdr) hdg hf) hL kk
      · exact jx_callW (vx_runSN (As := As.map (jv_tr E.1)) (rest := (st.drop b).map (jv_tr E.1)) (maxL := jv_mL T a) (bytes := jv_bytes T a) (ret := jv_rt T a) (n := b) S hM ⟨⟨⟨rfl, rfl, hfr, hlo, hws, hcw⟩, hts _ hcode, hts _ h3, h4, jv_cnt_len h5, hts _ h1⟩, hts _ h2, trivial⟩ hPS rfl (by rw [List.length_map]; exact hlen) hsz hstk (jv_lroom hdr) hdg hf) hL kk
    · cases hO
  · subst hkd
    have hO : jv_lk5 T (jv_name T y).cls i len a b := hO
    dsimp only at hdg
    unfold jv_lk5 at hO
    split at hO
    · rename_i q
      obtain ⟨rfl, nb, hnb, hO⟩ := hO
      simp only [jv_callee] at hy
      split at hy
      · rename_i k hk
        split at hy
        · rename_i qv hV
          obtain ⟨y2, cx, d⟩ := qv
          cases hy
          obtain ⟨r, rx, hrk, h1, h2, h3⟩ := hO k y2 cx d hV
          unfold jv_hd at hk
          split at hk
          · rename_i o As'
            split at hk
            · rename_i k2 len2 V2 ho
              cases hk
              have hPV : PreV s H r.1 (E.1 o) (jx_Pc E (.ref o :: As') G n) (As'.map (jv_tr E.1)) := by
                obtain ⟨r', hr', -, cell, g1, g2, g3, -⟩ := (hP.2.2.1 o _ ho).1.1 (by have := jv_cl_lt hrk; show k < 100; omega)
                dsimp only at hr' g2
                cases hrk.symm.trans hr'
                exact ⟨jx_blind E _ G n, ⟨cell, g1, by rw [g3]; rfl, by rw [g2]; exact (hK.1.1 _ _ hrk).2.1⟩, hPS.2⟩
              rcases h3 with ⟨h3, h4, h5, h6⟩ | ⟨h3, h4, h5, ⟨b0, m0, r0, h6⟩, h7, h8, h9⟩
              · rcases h3 with h3 | ⟨host, h3⟩
                · exact jx_callW (vx_runV (As := As'.map (jv_tr E.1)) (rest := (st.drop b).map (jv_tr E.1)) (C := r.1) (maxL := jv_mL T y2) (bytes := jv_bytes T y2) (ret := jv_rt T y2) (n := nb) S hM ⟨⟨rfl, rfl, hfr, hlo, hws, hcw, hts _ hcode, hts _ h2, h5, jv_cnt_len h6, hts _ h3⟩, hts _ h1, hts _ h4⟩ hPV rfl (by simp at hlen ⊢; omega) hsz (by rw [hstk]; simp [jv_tr]) (jv_lroom hdr) hdg hf) hL kk
                · exact jx_callW (vx_runVN (As := As'.map (jv_tr E.1)) (rest := (st.drop b).map (jv_tr E.1)) (C := r.1) (maxL := jv_mL T y2) (bytes := jv_bytes T y2) (ret := jv_rt T y2) (n := nb) S hM ⟨⟨⟨rfl, rfl, hfr, hlo, hws, hcw⟩, hts _ hcode, hts _ h2, h5, jv_cnt_len h6, hts _ h3⟩, hts _ h1, hts _ h4⟩ hPV rfl (by simp at hlen ⊢; omega) hsz (by rw [hstk]; simp [jv_tr]) (jv_lroom hdr) hdg hf) hL kk
              · exact jx_callW (vx_runU (As := As'.map (jv_tr E.1)) (rest := (st.drop b).map (jv_tr E.1)) (C := r.1) (owner := (jv_name T d).cls) (x := ⟨rx, (jv_name T d).name, (jv_name T d).desc⟩) (maxL := jv_mL T y2) (bytes := jv_bytes T y2) (ret := jv_rt T y2) (n := nb) S hM ⟨⟨rfl, rfl, hfr, hlo, hws, hcw⟩, hts _ hcode, hts _ h2, h8, jv_cnt_len h9, hts _ h3, hts _ h4, va_Decl.of (hts _ h5) (hts _ h6), hts _ h7, hts _ h1⟩ hPV rfl (by simp at hlen ⊢; omega) hsz (by rw [hstk]; simp [jv_tr]) (jv_lroom hdr) hdg hf) hL kk
            · cases hk
          · cases hk
        · cases hy
      · cases hy
    · cases hO

end JX
/-- the standing facts of a walk in method y -/
def jx_F (T : jv_T) (y : Nat) (E : jv_Env) (p : Program) (R : Room) (s : State) (m : MethodId) (args : Array Value) (meth : Method) (c : Code) : Prop :=
  jv_EOk E ∧ jv_Ctx T E y p R s m args meth c ∧ ∀ pc o, jv_fetch (jv_code T y) pc = some o → jv_OOk T y pc o
def jx_I (T : jv_T) (y : Nat) (mL : Nat) (rt : Option FieldType) (fr lo : Nat) (cd : List (Nat × jv_O)) : Prop := jv_mL T y = mL ∧ jv_rt T y = rt ∧ jv_fr T y = fr ∧ jv_lo T y = lo ∧ jv_code T y = cd
/-- the machine, at pc with these locals, this stack and this heap, comes to Q -/
def jw (p : Program) (l : Launch) (e : Env) (R : Room) (s : State) (m : MethodId) (args : Array Value) (below : List Frame) (meth : Method) (c : Code) (E : jv_Env) (mL n0 sl0 : Nat) (Q : State → Prop) (pc : Nat) (lo : jv_L) (st : List Value) (G : jv_G) (n sl : Nat) : Prop :=
  n0 ≤ n → sl0 ≤ sl → n - n0 ≤ R.cells → sl - sl0 ≤ R.slots → ∀ (H : Heap) (ls : Array Slot) (locs : List Loc), lv_has ls mL (jv_trL E.1 lo) → jv_pic E G n H → (∀ z ∈ locs, E.2.2.2.1 ≤ z.base) →
    W p l e R s m args below meth c H locs (n - n0) (sl - sl0) Q (F0 m pc ls (st.map (jv_tr E.1)))
section JW
variable {p : Program} {l : Launch} {e : Env} {R : Room} {s : State} {m : MethodId} {args : Array Value} {below : List Frame} {meth : Method} {c : Code} {Q : State → Prop} {E : jv_Env} {T : jv_T} {y mL fr lo n0 sl0 pc n sl : Nat} {rt : Option FieldType} {cd : List (Nat × jv_O)} {l0 : jv_L} {st : List Value} {G : jv_G}
theorem jw.op (F : jx_F T y E p R s m args meth c) (hI : jx_I T y mL rt fr lo cd) {o : jv_O} {l' : jv_L} {st' : List Value} {G' : jv_G} {pc' : Nat} (hf : jv_fetch cd pc = some o) (h : jv_op mL fr lo o pc l0 st G = some (pc', l', st', G')) (k : jw p l e R s m args below meth c E mL n0 sl0 Q pc' l' st' G' n sl) : jw p l e R s m args below meth c E mL n0 sl0 Q pc l0 st G n sl := by
  obtain ⟨hE, C, hT⟩ := F
  obtain ⟨h1, h2, h3, h4, h5⟩ := hI
  subst h1; subst h3; subst h4; subst h5
  have hO := hT pc o hf
  obtain ⟨hx, hb, hml, hown, hts, hK, hr, hlk, hnm, hRf, hRl⟩ := id C
  intro q1 q2 q3 q4 H ls locs hls hP hL
  obtain ⟨kd, i, len, a, b, c0⟩ := o
  have hdg : decode (jv_bytes T y) pc = .ok (i, len) := hO.1
  unfold jv_op at h
  match kd, h, hO with
  | 0, h, hO =>
    dsimp only at h
    cases hq : jv_pure (jv_mL T y) i c0 l0 st with
    | none => rw [hq] at h; cases h
    | some q =>
      rw [hq] at h; obtain ⟨a1, a2⟩ := q; cases h
      obtain ⟨hlen, hcst⟩ := hO.2
      have hcst' : jv_cst args s (jv_name T y).cls i c0 := by
        cases i
        case ldc q => exact hts _ hcst
        case ldc_w q => exact hts _ hcst
        case ldc2_w q => exact hts _ hcst
        all_goals exact trivial
      subst hlen
      exact jv_pure_ok hx hb hown hq hdg hcst' hls (fun ls' hls' => k q1 q2 q3 q4 H ls' locs hls' hP hL)
  | 1, h, hO =>
    dsimp only at h
    cases hq : jv_mem i a b st G with
    | none => rw [hq] at h; cases h
    | some q =>
      rw [hq] at h; obtain ⟨a1, a2⟩ := q; cases h
      obtain ⟨hlen, hcst⟩ := hO.2
      have hml' : jv_mlk args s (jv_name T y).cls meth.name i a b := by
        cases i
        case getfield q => exact jv_flS_ok hts hcst
        case putfield q => exact ⟨jv_flS_ok hts hcst.1, by rw [hnm]; exact hcst.2, fun _ _ => trivial⟩
        all_goals exact trivial
      subst hlen
      exact jv_mem_ok hE hx hb hown hts hK hP hq hdg hml' hL (fun H1 locs1 hP1 hL1 => k q1 q2 q3 q4 H1 ls locs1 hls hP1 hL1)
  | 2, h, hO =>
    dsimp only at h
    cases hq : jv_br i pc st with
    | none => rw [hq] at h; cases h
    | some q =>
      rw [hq] at h; obtain ⟨a1, a2⟩ := q; cases h
      obtain ⟨hlen, hbk⟩ := hO.2
      exact jv_br_ok (fun x z hx1 hz1 hf => by rw [hE.1 x hx1, hE.1 z hz1] at hf; omega) hx hb hq hdg hlen hbk (k q1 q2 q3 q4 H ls locs hls hP hL)
  | 9, h, hO =>
    cases h
    exact jv_gets_ok hx hb hown hts hK hP hdg hO.2 (k q1 q2 q3 q4 H ls locs hls hP hL)
  | 10, h, hO =>
    dsimp only at h
    cases hq : jv_sp (jv_fr T y) (jv_lo T y) a st G with
    | none => rw [hq] at h; cases h
    | some q =>
      rw [hq] at h; obtain ⟨a1, a2⟩ := q; cases h
      exact jv_sp_ok hE hx hb (hml.trans hls.1.symm) hown hts hK hP hL (Nat.le_of_eq hRf.symm) (Nat.le_of_eq hRl.symm) q3 q4 hq hdg hO.2 (fun H1 locs1 hP1 hL1 => k q1 q2 q3 q4 H1 ls locs1 hls hP1 hL1)
theorem jw.steps (F : jx_F T y E p R s m args meth c) (hI : jx_I T y mL rt fr lo cd) (k : Nat) {l' : jv_L} {st' : List Value} {G' : jv_G} {pc' : Nat} (h : jv_stp cd mL fr lo k pc l0 st G = some (pc', l', st', G')) (K : jw p l e R s m args below meth c E mL n0 sl0 Q pc' l' st' G' n sl) : jw p l e R s m args below meth c E mL n0 sl0 Q pc l0 st G n sl := by
  induction k generalizing pc l0 st G with
  | zero => cases h; exact K
  | succ k ih =>
    simp only [jv_stp] at h
    cases hf : jv_fetch cd pc with
    | none => rw [hf] at h; cases h
    | some o =>
      rw [hf] at h
      dsimp only at h
      cases hq : jv_op mL fr lo o pc l0 st G with
      | none => rw [hq] at h; cases h
      | some q =>
        rw [hq] at h
        obtain ⟨pc1, l1, st1, G1⟩ := q
        exact jw.op F hI hf hq (ih h)
/-- both ways of a jump -/
theorem jw.cnd (F : jx_F T y E p R s m args meth c) (hI : jx_I T y mL rt fr lo cd) {i : Instr} {len a b pt pe : Nat} {c0 : Int} {P q : Prop} [Decidable P] {off : Int} {r : List Value} (hf : jv_fetch cd pc = some (2, i, len, a, b, c0)) (h : jv_br i pc st = jv_go P pc off r) (h1 : jv_tg pc off = pt) (h2 : pc + 3 = pe) (hq : P ↔ q)
    (ht : q → jw p l e R s m args below meth c E mL n0 sl0 Q pt l0 r G n sl) (he : ¬ q → jw p l e R s m args below meth c E mL n0 sl0 Q pe l0 r G n sl) : jw p l e R s m args below meth c E mL n0 sl0 Q pc l0 st G n sl := by
  subst h1; subst h2
  by_cases hp : P
  · refine jw.op F hI hf (l' := l0) (st' := r) (G' := G) (pc' := jv_tg pc off) ?_ (ht (hq.mp hp))
    show (match jv_br i pc st with | some (pc', st') => some (pc', l0, st', G) | none => none) = _
    rw [h, jv_go, if_pos hp]
  · refine jw.op F hI hf (l' := l0) (st' := r) (G' := G) (pc' := pc + 3) ?_ (he (fun z => hp (hq.mpr z)))
    show (match jv_br i pc st with | some (pc', st') => some (pc', l0, st', G) | none => none) = _
    rw [h, jv_go, if_neg hp]
theorem jw.br (F : jx_F T y E p R s m args meth c) (hI : jx_I T y mL rt fr lo cd) {i : Instr} {len a b pc' : Nat} {c0 : Int} {st' : List Value} (hf : jv_fetch cd pc = some (2, i, len, a, b, c0)) (hb : jv_br i pc st = some (pc', st')) (k : jw p l e R s m args below meth c E mL n0 sl0 Q pc' l0 st' G n sl) : jw p l e R s m args below meth c E mL n0 sl0 Q pc l0 st G n sl :=
  jw.op F hI hf (show (match jv_br i pc st with | some (pc', st') => some (pc', l0, st', G) | none => none) = some (pc', l0, st', G) by rw [hb]) k
theorem jw.me (F : jx_F T y E p R s m args meth c) (hI : jx_I T y mL rt fr lo cd) {i : Instr} {len a b pc' : Nat} {c0 : Int} {st' : List Value} {G' : jv_G} (hf : jv_fetch cd pc = some (1, i, len, a, b, c0)) (hp : pc + len = pc') (hm : jv_mem i a b st G = some (st', G')) (k : jw p l e R s m args below meth c E mL n0 sl0 Q pc' l0 st' G' n sl) : jw p l e R s m args below meth c E mL n0 sl0 Q pc l0 st G n sl := by
  subst hp
  exact jw.op F hI hf (show (match jv_mem i a b st G with | some (st', G') => some (pc + len, l0, st', G') | none => none) = some (pc + len, l0, st', G') by rw [hm]) k
theorem jw.new (F : jx_F T y E p R s m args meth c) (hI : jx_I T y mL rt fr lo cd) {i : Instr} {len a b : Nat} {c0 : Int} {st' : List Value} {x : jv_E} {kk : Nat} (hf : jv_fetch cd pc = some (3, i, len, a, b, c0)) (h : jv_new i a st n = some (st', x, kk)) (hn : n < 1000000) (hc : n + 1 - n0 ≤ R.cells) (hs : sl + kk - sl0 ≤ R.slots)
    (k : jw p l e R s m args below meth c E mL n0 sl0 Q (pc + len) l0 st' (jv_set G n x) (n + 1) (sl + kk)) : jw p l e R s m args below meth c E mL n0 sl0 Q pc l0 st G n sl := by
  obtain ⟨hE, C, hT⟩ := F
  obtain ⟨h1, h2, h3, h4, h5⟩ := hI
  subst h1; subst h3; subst h4; subst h5
  have hO := hT pc _ hf
  obtain ⟨hx, hb, hml, hown, hts, hK, hr, hlk, hnm, hRf, hRl⟩ := id C
  intro q1 q2 q3 q4 H ls locs hls hP hL
  refine jv_new_ok hE hx hb hown hts hK hP hn h hO.1 hO.2 (by omega) (by omega) (fun H1 hP1 => ?_)
  have := k (by omega) (by omega) hc hs H1 ls locs hls hP1 hL
  rw [show n + 1 - n0 = n - n0 + 1 by omega, show sl + kk - sl0 = sl - sl0 + kk by omega] at this
  exact this
/-- from a run to the contract, the tables' being right as a premise -/
theorem jx_contract (hTb : jv_TOk jv_Tb) {ll : Launch} {E : jv_Env} (hE : jv_EOk E) {y mL fr lo : Nat} {rt : Option FieldType} {cd : List (Nat × jv_O)} (hI : jv_I y mL rt fr lo cd) {As : List Value} {G : jv_G} {n sl : Nat} {rv : Option Value} {G' : jv_G} {n' sl' : Nat} (h : jv_Ms y As G n sl (rv, G', n', sl')) (hw : jv_wd As ≤ mL) :
    Met ll (jv_name jv_Tb y) (jv_ws jv_Tb y) (jv_rm jv_Tb y n sl n' sl') (jv_Pc E As G n) (jv_Qc E rv G' n') (n' - n) (sl' - sl) (jv_free E) ∧ n ≤ n' ∧ sl ≤ sl' ∧ Cond.code (jv_name jv_Tb y) (jv_bytes jv_Tb y) (jv_mL jv_Tb y) (jv_rt jv_Tb y) ∈ lw_ok := by
  obtain ⟨g0, h⟩ := h
  have h := h (g0 + 1) (by omega)
  have hne : ∃ o, jv_fetch (jv_code jv_Tb y) 0 = some o := by
    have h : jv_body jv_Tb (jv_run jv_Tb g0) y 0 (lv_args 0 As) [] G n sl = some (rv, G', n', sl') := h
    unfold jv_body at h
    split at h
    · cases h
    · rename_i hf; exact ⟨_, hf⟩
  obtain ⟨o, ho⟩ := hne
  have hle := jv_run_le _ _ _ _ _ _ _ _ _ _ _ _ _ h
  exact ⟨jv_met (jv_adq ll jv_Tb E hE hTb (g0 + 1)) h (by rw [hI.1]; exact hw) (hTb y 0 o ho).2.1, hle.1, hle.2, (hTb y 0 o ho).2.2⟩
/-- a call of a method of the table -/
theorem jw.ca (hTb : jv_TOk jv_Tb) (F : jx_F T y E p R s m args meth c) (hI : jx_I T y mL rt fr lo cd) {kd : Nat} {i : Instr} {len a b y' mL' fr' lo' pc' : Nat} {rt' : Option FieldType} {cd' : List (Nat × jv_O)} (hT' : T.1 y' = jv_Tb.1 y') (hI' : jv_I y' mL' rt' fr' lo' cd') {c0 : Int} (As : List Value) {rest : List Value} {rv : Option Value} {G1 : jv_G} {n1 sl1 : Nat} (hf : jv_fetch cd pc = some (kd, i, len, a, b, c0)) (hkd : (Nat.beq kd 4 || (Nat.beq kd 5 || Nat.beq kd 6)) = true)
    (hA : (st.take b).reverse = As) (hr : st.drop b = rest) (hy : jv_callee T kd a As G = some y') (hk : jv_rk mL' fr' lo' fr lo b st = true) (hM : jv_Ms y' As G n sl (rv, G1, n1, sl1)) (hc : n1 - n0 ≤ R.cells) (hs : sl1 - sl0 ≤ R.slots) (hp : pc + 3 = pc') {S' : List Value} (hS : rv.toList ++ rest = S')
    (k : jw p l e R s m args below meth c E mL n0 sl0 Q pc' l0 S' G1 n1 sl1) : jw p l e R s m args below meth c E mL n0 sl0 Q pc l0 st G n sl := by
  subst hp; subst hS; subst hA; subst hr
  obtain ⟨hE, C, hT⟩ := F
  obtain ⟨h1, h2, h3, h4, h5⟩ := hI
  subst h1; subst h3; subst h4; subst h5
  have hO := hT pc _ hf
  intro q1 q2 q3 q4 H ls locs hls hP hL
  have hk' := hk
  simp only [jv_rk, Bool.and_eq_true] at hk'
  have hwd : jv_wd (st.take b).reverse ≤ mL' := by
    have : jv_wd (st.take b).reverse = jv_wd (st.take b) := by unfold jv_wd; rw [List.map_reverse]; exact List.sum_reverse _
    rw [this]; exact Nat.le_of_ble_eq_true hk'.2.2.1
  obtain ⟨hMt, hn1, hs1, hcode⟩ := jx_contract hTb (ll := l) hE hI' hM hwd
  have hroom : jv_room T y y' b st = true := by
    obtain ⟨e1, e2, e3, e4, e5⟩ := hI'
    unfold jv_room
    simp only [jv_mL, jv_fr, jv_lo] at e1 e3 e4 ⊢
    rw [hT', e1, e3, e4]
    exact hk
  have hcode2 : Cond.code (jv_name T y') (jv_bytes T y') (jv_mL T y') (jv_rt T y') ∈ lw_ok := by
    simp only [jv_name, jv_bytes, jv_mL, jv_rt] at hcode ⊢; rw [hT']; exact hcode
  have hM2 : Met l (jv_name T y') (jv_ws T y') (jv_rm T y' n sl n1 sl1) (jv_Pc E (st.take b).reverse G n) (jv_Qc E rv G1 n1) (n1 - n) (sl1 - sl) (jv_free E) := by
    simp only [jv_ws, jv_rm, jv_name, jv_bytes, jv_mL, jv_rt, jv_fr, jv_lo] at hMt ⊢; rw [hT']; exact hMt
  have hkd' : kd = 4 ∨ kd = 5 ∨ kd = 6 := by
    simp only [Bool.or_eq_true] at hkd
    exact hkd.imp Nat.eq_of_beq_eq_true (fun z => z.imp Nat.eq_of_beq_eq_true Nat.eq_of_beq_eq_true)
  refine jx_callM C hls.1 hP hkd' hO hy hroom hcode2 hM2 ⟨by omega, by omega⟩ hL (fun H1 locs1 hP1 hL1 => ?_)
  have := k (by omega) (by omega) hc hs H1 ls locs1 hls hP1 hL1
  rw [show n1 - n0 = n - n0 + (n1 - n) by omega, show sl1 - sl0 = sl - sl0 + (sl1 - sl) by omega] at this
  exact this
/-- the method's own end -/
theorem jw.ret (F : jx_F T y E p R s m args meth c) (hI : jx_I T y mL rt fr lo cd) {i : Instr} {len a b : Nat} {c0 : Int} {rv : Option Value} (hf : jv_fetch cd pc = some (8, i, len, a, b, c0)) (h : jv_ret rt i st = some rv) : jw p l e R s m args below meth c E mL n0 sl0 (MQ below (jv_Qc E rv G n) args s (n - n0) (sl - sl0) (jv_free E)) pc l0 st G n sl := by
  obtain ⟨hE, C, hT⟩ := F
  obtain ⟨h1, h2, h3, h4, h5⟩ := hI
  subst h1; subst h2; subst h3; subst h4; subst h5
  have hO := hT pc _ hf
  obtain ⟨hx, hb, hml, hown, hts, hK, hr, hlk, hnm, hRf, hRl⟩ := id C
  intro q1 q2 q3 q4 H ls locs hls hP hL
  have hlen : len = 1 := hO.2
  subst hlen
  exact jv_ret_ok hx hb hr hlk h hO.1 hP hL
/-- the throw of a new exception, the method's exception table being empty -/
theorem jw.throw (hl : l.stackTraces = false) (F : jx_F T y E p R s m args meth c) (hZ : jx_Z E s) (h0 : ∃ G9, jv_pic E G9 n0 s.heap) (hcl : (jv_name T y).cls = "ProgramBox") (hI : jx_I T y mL rt fr lo cd) (ht : ∀ x ∈ c.exceptionTable.toList, False) (k is : Nat) (tx : String) (htx : (is, tx) ∈ jx_tx)
    (d0 : decode (jv_bytes T y) pc = .ok (.new (jx_ik k), 3)) (d3 : decode (jv_bytes T y) (pc + 3) = .ok (.dup, 1)) (d4 : decode (jv_bytes T y) (pc + 4) = .ok (.ldc is, 2)) (d6 : decode (jv_bytes T y) (pc + 6) = .ok (.invokespecial (jx_ic k), 3)) (d9 : decode (jv_bytes T y) (pc + 9) = .ok (.athrow, 1))
    (hst : st = []) (hfr : 6 ≤ fr) (hlo : 82 ≤ lo) (hn : n < 1000000) (hc : n + 1 - n0 ≤ R.cells) (hs : sl + 6 - sl0 ≤ R.slots) : jw p l e R s m args below meth c E mL n0 sl0 (vx_MQ below (fun _ _ _ _ => False) (jx_XC E k G (n + 1)) args s (n + 1 - n0) (sl + 6 - sl0) (jv_free E)) pc l0 st G n sl := by
  subst hst
  obtain ⟨hE, C, hT⟩ := F
  obtain ⟨h1, h2, h3, h4, h5⟩ := hI
  subst h1; subst h3; subst h4; subst h5
  obtain ⟨hx, hb, hml, hown, hts, hK, hr, hlk, hnm, hRf, hRl⟩ := id C
  intro q1 q2 q3 q4 H ls locs hls hP hL
  obtain ⟨G9, hP0⟩ := h0
  obtain ⟨sa, hsa⟩ := hZ.2.2.1 _ htx
  have hw : ∀ w ∈ Cond.classLink "ProgramBox" (jx_ik k) (jx_nm k) :: Cond.initialized (jx_nm k) :: vx_atS "ProgramBox" (jx_ic k) (jx_nm k) jx_up, w.before args s = true := fun w h => (jx_at k w h).elim (hts w) (fun z => va_Nw.use (jx_bk_tab (jx_bw_all w z)) (hZ.2.2.2.1 w z))
  have hfit : Bundle.fit (jx_nm k) = true := by
    match k with
    | 0 => decide +kernel
    | 1 => decide +kernel
    | k + 2 => exact (by decide +kernel : Bundle.fit "java/lang/IndexOutOfBoundsException" = true)
  have hk0 : ∀ q : Nat, q < E.2.2.2.2.size → ¬ E.2.2.2.1 ≤ q → s.heap[q]? = E.2.2.2.2[q]? := fun q h1 h2 => hP0.2.1 q (by omega)
  have hS : va_S (fun q => E.2.2.2.1 ≤ q) s.heap H locs := ?_
  refine jx_throwS hx hb hl (own := "ProgramBox") (cls := jx_nm k) (text := tx) (names := jx_up) (A := fun q => E.2.2.2.1 ≤ q) (by rw [← hcl]; exact hown) hfit (List.all_eq_true.mp (by decide +kernel)) (hw _ List.mem_cons_self) (hw _ (List.mem_cons_of_mem _ List.mem_cons_self)) hsa (fun w h => hw w (List.mem_cons_of_mem _ (List.mem_cons_of_mem _ h))) (jx_gd k)
    (vx_Zq.kept hZ.1 hk0) (vx_Zq.kept hZ.2.1 hk0) hS (hls.1.trans hml.symm) d0 d3 d4 d6 d9 (fun x hx => (ht x hx).elim) (by rw [hRf]; show 2 + 3 < _; omega) (by rw [hRl]; show 0 + (13 * (2 + 1) + 43) ≤ _; omega) (by omega) (by omega) hlk ?_ hL (by omega) (by omega)
  · exact fun t _ hsz hq => ⟨rfl, jx_pic_up hE hP hn hsz hq⟩
  · exact ⟨by have := hP.1; have := hP0.1; omega, fun q h1 h2 => (hP.2.1 q (by omega)).trans (hP0.2.1 q (by omega)).symm, hL⟩
end JW
/-- the law's calls of its wrappers: place in the pool, the wrapper, the word's place -/
def jx_wl : List (Nat × Nat × Nat) := [(82, 440, 2110), (91, 441, 2189), (95, 442, 2213), (99, 443, 3122), (115, 444, 5167), (122, 445, 5178), (128, 446, 5202), (132, 447, 5217), (140, 448, 5225), (157, 449, 6222), (160, 450, 7006), (163, 451, 7017), (166, 452, 7024), (169, 453, 7031), (172, 454, 7040), (175, 455, 7048), (178, 456, 7056), (181, 457, 7085)]
theorem jx_wl_ok : ∀ q ∈ jx_wl, Cond.methodLink "ProgramBoxLaw" q.1 (jv_name jv_T2 q.2.1) ∈ lw_ok := fun q h => jv_w_ok (i := q.2.2) (List.all_eq_true.mp (by decide +kernel : jx_wl.all (fun q => jv_w q.2.2 (.methodLink "ProgramBoxLaw" q.1 (jv_name jv_T2 q.2.1))) = true) q h)
/-- the wrappers' tables of handlers -/
def jx_hl : List (Nat × Nat × List (Nat × Nat × Nat × Nat)) := [(440, 2112, [(0, 16, 19, 13)]), (441, 2191, [(0, 5, 8, 19)]), (442, 2215, [(0, 14, 17, 19), (0, 14, 21, 13)]), (443, 3124, [(0, 8, 11, 13)]), (444, 5169, [(0, 8, 11, 13)]), (445, 5180, [(0, 9, 12, 36)]), (446, 5204, [(0, 6, 9, 36), (0, 6, 13, 19)]), (447, 5219, [(0, 8, 11, 36), (0, 8, 14, 19)]), (448, 5227, [(0, 10, 13, 36), (0, 10, 17, 19)]), (449, 6224, [(0, 9, 12, 36)]), (450, 7008, [(0, 6, 9, 36)]), (451, 7019, [(0, 8, 11, 36)]), (452, 7026, [(0, 8, 11, 36)]), (453, 7033, [(0, 10, 13, 36)]), (454, 7042, [(0, 14, 17, 36)]), (455, 7050, [(0, 10, 13, 36)]), (456, 7058, [(0, 10, 13, 36)]), (457, 7087, [(0, 12, 15, 36)])]
theorem jx_hl_ok : ∀ q ∈ jx_hl, Cond.codeWith (jv_name jv_T2 q.1) (jv_bytes jv_T2 q.1) (jv_mL jv_T2 q.1) (jv_rt jv_T2 q.1) q.2.2 ∈ lw_ok := fun q h => jv_w_ok (i := q.2.1) (List.all_eq_true.mp (by decide +kernel : jx_hl.all (fun q => jv_w q.2.1 (Cond.codeWith (jv_name jv_T2 q.1) (jv_bytes jv_T2 q.1) (jv_mL jv_T2 q.1) (jv_rt jv_T2 q.1) q.2.2)) = true) q h)
/-- by class: the place of its link in the law's pool -/
def jx_lk (k : Nat) : Nat := match k with
  | 0 => 13
  | 1 => 19
  | _ => 36
theorem jx_lk_ok (k : Nat) : Cond.classLink "ProgramBoxLaw" (jx_lk k) (jx_nm k) ∈ lw_ok := by
  match k with
  | 0 => exact jv_w_ok (i := 2113) (by decide +kernel)
  | 1 => exact jv_w_ok (i := 2192) (by decide +kernel)
  | k + 2 => exact jv_w_ok (i := 5181) (w := Cond.classLink "ProgramBoxLaw" 36 "java/lang/IndexOutOfBoundsException") (by decide +kernel)
theorem jx_cast {E : jv_Env} {s : State} {args : Array Value} (hZ : jx_Z E s) (k : Nat) : (Cond.castable (jx_nm k) (jx_nm k)).before args s = true := by
  match k with
  | 0 => exact va_Nw.use rfl (hZ.2.2.2.1 _ (by decide +kernel : Cond.castable (jx_nm 0) (jx_nm 0) ∈ jx_bw))
  | 1 => exact va_Nw.use rfl (hZ.2.2.2.1 _ (by decide +kernel : Cond.castable (jx_nm 1) (jx_nm 1) ∈ jx_bw))
  | k + 2 => exact va_Nw.use rfl (hZ.2.2.2.1 _ (by decide +kernel : Cond.castable (jx_nm 2) (jx_nm 2) ∈ jx_bw))
/-- method y of the table, so called, throws an exception of class k -/
def jx_Th (y : Nat) (As : List Value) (G : jv_G) (n sl k : Nat) (G' : jv_G) (n' sl' : Nat) : Prop := ∀ (ll : Launch) (E : jv_Env), ll.stackTraces = false → jv_EOk E → vx_Met ll (jv_name jv_Tb y) (jv_ws jv_Tb y) (jv_rm jv_Tb y n sl n' sl') (jx_Pc E As G n) (fun _ _ _ _ => False) (jx_XC E k G' n') (n' - n) (sl' - sl) (jv_free E)
/-- the law's wrapper w, so called, returns -/
def jx_ws (w : Nat) (hh : List (Nat × Nat × Nat × Nat)) : List Cond := Cond.codeWith (jv_name jv_T2 w) (jv_bytes jv_T2 w) (jv_mL jv_T2 w) (jv_rt jv_T2 w) hh :: lw_ok
def jx_Wr (w : Nat) (hh : List (Nat × Nat × Nat × Nat)) (As : List Value) (G : jv_G) (n sl : Nat) (X : jv_R) : Prop := ∀ (ll : Launch) (E : jv_Env), ll.stackTraces = false → jv_EOk E → Met ll (jv_name jv_T2 w) (jx_ws w hh) (jv_rm jv_T2 w n sl X.2.2.1 X.2.2.2) (jx_Pc E As G n) (jv_Qc E X.1 X.2.1 X.2.2.1) (X.2.2.1 - n) (X.2.2.2 - sl) (jv_free E)
/-- the law's and the wrappers' instructions are as the words say -/
def jx_T2Ok : Prop := ∀ y pc o, 439 ≤ y → jv_fetch (jv_code jv_T2 y) pc = some o → jv_OOk jv_T2 y pc o
theorem jx_Th.of {y : Nat} (hTb : jv_TOk jv_Tb) {o0 : jv_O} (hf0 : jv_fetch (jv_code jv_Tb y) 0 = some o0) {As : List Value} {G : jv_G} {n sl k : Nat} {G' : jv_G} {n' sl' : Nat} (hw : jv_wd As ≤ jv_mL jv_Tb y)
    (body : ∀ (p : Program) (l : Launch) (e : Env) (R : Room) (s : State) (m : MethodId) (args : Array Value) (below : List Frame) (meth : Method) (c : Code) (E : jv_Env), l.stackTraces = false → jx_F jv_Tb y E p R s m args meth c → jx_Z E s → (∃ G9, jv_pic E G9 n s.heap) → (∀ x ∈ c.exceptionTable.toList, False) → R.cells = n' - n → R.slots = sl' - sl →
      jw p l e R s m args below meth c E (jv_mL jv_Tb y) n sl (vx_MQ below (fun _ _ _ _ => False) (jx_XC E k G' n') args s (n' - n) (sl' - sl) (jv_free E)) 0 (lv_args 0 As) [] G n sl) : jx_Th y As G n sl k G' n' sl' := by
  intro ll E hl hE
  obtain ⟨-, hpl, -⟩ := hTb y 0 o0 hf0
  refine vx_ofW (cc := jv_bytes jv_Tb y) (maxL := jv_mL jv_Tb y) (ret := jv_rt jv_Tb y) (ws' := lw_ok) hpl rfl ?_
  intro p e s m args below meth c s₁ B hml ht hv
  obtain ⟨rfl, hP, hK, hZ⟩ := hv
  have hts := atoms_spec (ws := jv_ws jv_Tb y) B.pre
  have hown := findClass_of_methodNamed B.named
  have hin := (name_of_methodNamed B.named B.method).1
  have hls := lv_entry (As.map (jv_tr E.1)) (n := jv_mL jv_Tb y) (by rw [jv_sl_len, jv_wd_tr]; exact hw)
  rw [jv_args_tr] at hls
  rw [lg_entry_eq]
  have := body p ll e (jv_rm jv_Tb y n sl n' sl') s m _ below meth c E hl ⟨hE, ⟨B.exec, B.bytes, hml, hown, fun w h => hts w (List.mem_cons_of_mem _ h), hK, B.returns, B.notSynchronized, hin, rfl, rfl⟩, fun pc o h => (hTb y pc o h).1⟩ hZ ⟨G, hP⟩ ht rfl rfl (Nat.le_refl _) (Nat.le_refl _) (by omega) (by omega) s.heap _ [] hls hP (fun z h => by cases h)
  rw [Nat.sub_self, Nat.sub_self] at this
  exact this
theorem jx_Wr.of {w : Nat} (hT2 : jx_T2Ok) (hw9 : 439 ≤ w) (hcls : (jv_name jv_T2 w).cls = "ProgramBoxLaw") {hh : List (Nat × Nat × Nat × Nat)} {As : List Value} {G : jv_G} {n sl : Nat} {X : jv_R} (hw : jv_wd As ≤ jv_mL jv_T2 w)
    (body : ∀ (p : Program) (l : Launch) (e : Env) (R : Room) (s : State) (m : MethodId) (args : Array Value) (below : List Frame) (meth : Method) (c : Code) (E : jv_Env), l.stackTraces = false → jx_F jv_T2 w E p R s m args meth c → jx_Z E s → c.exceptionTable.toList = tableOf hh → R.cells = X.2.2.1 - n → R.slots = X.2.2.2 - sl →
      jw p l e R s m args below meth c E (jv_mL jv_T2 w) n sl (MQ below (jv_Qc E X.1 X.2.1 X.2.2.1) args s (X.2.2.1 - n) (X.2.2.2 - sl) (jv_free E)) 0 (lv_args 0 As) [] G n sl) : jx_Wr w hh As G n sl X := by
  intro ll E hl hE
  refine va_MetW (cc := jv_bytes jv_T2 w) (maxL := jv_mL jv_T2 w) (ret := jv_rt jv_T2 w) (hh := hh) (ws' := lw_ok) (by rw [hcls]; decide +kernel) rfl ?_
  intro p e s m args below meth c s₁ B hml hv
  obtain ⟨rfl, hP, hK, hZ⟩ := hv
  have hts := atoms_spec (ws := jx_ws w hh) B.pre
  have hown := findClass_of_methodNamed B.named
  have hin := (name_of_methodNamed B.named B.method).1
  have htab := vx_table (x := jv_name jv_T2 w) B (hts _ List.mem_cons_self)
  have hls := lv_entry (As.map (jv_tr E.1)) (n := jv_mL jv_T2 w) (by rw [jv_sl_len, jv_wd_tr]; exact hw)
  rw [jv_args_tr] at hls
  rw [lg_entry_eq]
  have := body p ll e (jv_rm jv_T2 w n sl X.2.2.1 X.2.2.2) s m _ below meth c E hl ⟨hE, ⟨B.exec, B.bytes, hml, hown, fun w h => hts w (List.mem_cons_of_mem _ h), hK, B.returns, B.notSynchronized, hin, rfl, rfl⟩, fun pc o h => hT2 w pc o hw9 h⟩ hZ htab rfl rfl (Nat.le_refl _) (Nat.le_refl _) (by omega) (by omega) s.heap _ [] hls hP (fun z h => by cases h)
  rw [Nat.sub_self, Nat.sub_self] at this
  exact this
section JY
variable {p : Program} {l : Launch} {e : Env} {R : Room} {s : State} {m : MethodId} {args : Array Value} {below : List Frame} {meth : Method} {c : Code} {Q : State → Prop} {E : jv_Env} {T : jv_T} {y mL fr lo n0 sl0 pc n sl : Nat} {rt : Option FieldType} {cd : List (Nat × jv_O)} {l0 : jv_L} {st : List Value} {G : jv_G}
/-- a call that throws: what goes on is told from there -/
theorem jw.thr (hTb : jv_TOk jv_Tb) (hl : l.stackTraces = false) (F : jx_F T y E p R s m args meth c) (hZ : jx_Z E s) (hI : jx_I T y mL rt fr lo cd) {kd : Nat} {i : Instr} {len a b y' mL' fr' lo' : Nat} {rt' : Option FieldType} {cd' : List (Nat × jv_O)} (hT' : T.1 y' = jv_Tb.1 y') (hI' : jv_I y' mL' rt' fr' lo' cd') {c0 : Int} (As : List Value) {rest : List Value} {xk : Nat} {G1 : jv_G} {n1 sl1 : Nat} {o0 : jv_O} (hf0 : jv_fetch cd' 0 = some o0) (hf : jv_fetch cd pc = some (kd, i, len, a, b, c0)) (hkd : (Nat.beq kd 4 || Nat.beq kd 5) = true)
    (hA : (st.take b).reverse = As) (hr : st.drop b = rest) (hy : jv_callee T kd a As G = some y') (hk : jv_rk mL' fr' lo' fr lo b st = true) (hM : jx_Th y' As G n sl xk G1 n1 sl1) (hn1 : n ≤ n1) (hs1 : sl ≤ sl1) (hc : n1 - n0 ≤ R.cells) (hs : sl1 - sl0 ≤ R.slots)
    (k : ∀ (q : Addr) (ce : Cell) (H1 : Heap) (locs1 : List Loc) (ls : Array Slot), n0 ≤ n → sl0 ≤ sl → lv_has ls mL (jv_trL E.1 l0) → jv_pic E G1 n1 H1 → (∀ z ∈ locs1, E.2.2.2.1 ≤ z.base) → H1[q]? = some ce → ce.vm = .none → s.vm.findClass (jx_nm xk) = some ce.cls → vx_W p l e R s m args below meth c H1 locs1 (n1 - n0) (sl1 - sl0) Q (F0 m pc ls (rest.map (jv_tr E.1))) q) : jw p l e R s m args below meth c E mL n0 sl0 Q pc l0 st G n sl := by
  subst hA; subst hr
  obtain ⟨hE, C, hT⟩ := F
  obtain ⟨h1, h2, h3, h4, h5⟩ := hI
  subst h1; subst h3; subst h4; subst h5
  have hO := hT pc _ hf
  obtain ⟨e1, e2, e3, e4, e5⟩ := id hI'
  subst e5
  intro q1 q2 q3 q4 H ls locs hls hP hL
  have hroom : jv_room T y y' b st = true := by
    unfold jv_room
    simp only [jv_mL, jv_fr, jv_lo] at e1 e3 e4 ⊢
    rw [hT', e1, e3, e4]
    exact hk
  have hcode2 : Cond.code (jv_name T y') (jv_bytes T y') (jv_mL T y') (jv_rt T y') ∈ lw_ok := by
    have hcode := (hTb y' 0 o0 hf0).2.2
    simp only [jv_name, jv_bytes, jv_mL, jv_rt] at hcode ⊢; rw [hT']; exact hcode
  have hM2 : vx_Met l (jv_name T y') (jv_ws T y') (jv_rm T y' n sl n1 sl1) (jx_Pc E (st.take b).reverse G n) (fun _ _ _ _ => False) (jx_XC E xk G1 n1) (n1 - n) (sl1 - sl) (jv_free E) := by
    have hMt := hM l E hl hE
    simp only [jv_ws, jv_rm, jv_name, jv_bytes, jv_mL, jv_rt, jv_fr, jv_lo] at hMt ⊢; rw [hT']; exact hMt
  have hkd' : kd = 4 ∨ kd = 5 := by
    simp only [Bool.or_eq_true] at hkd
    exact hkd.imp Nat.eq_of_beq_eq_true Nat.eq_of_beq_eq_true
  refine jx_callX C hZ hls.1 hP hkd' hO hy hroom hcode2 hM2 ⟨by omega, by omega⟩ hL (fun q ce H1 locs1 hP1 hL1 hce hcv hcl => ?_)
  rw [show n - n0 + (n1 - n) = n1 - n0 by omega, show sl - sl0 + (sl1 - sl) = sl1 - sl0 by omega]
  exact k q ce H1 locs1 ls q1 q2 hls hP1 hL1 hce hcv hcl
/-- it goes on to the caller -/
theorem jw.prop (hTb : jv_TOk jv_Tb) (hl : l.stackTraces = false) (F : jx_F T y E p R s m args meth c) (hZ : jx_Z E s) (hI : jx_I T y mL rt fr lo cd) (ht : ∀ x ∈ c.exceptionTable.toList, False) {kd : Nat} {i : Instr} {len a b y' mL' fr' lo' : Nat} {rt' : Option FieldType} {cd' : List (Nat × jv_O)} (hT' : T.1 y' = jv_Tb.1 y') (hI' : jv_I y' mL' rt' fr' lo' cd') {c0 : Int} (As : List Value) {rest : List Value} {xk : Nat} {G1 : jv_G} {n1 sl1 : Nat} {o0 : jv_O} (hf0 : jv_fetch cd' 0 = some o0) (hf : jv_fetch cd pc = some (kd, i, len, a, b, c0)) (hkd : (Nat.beq kd 4 || Nat.beq kd 5) = true)
    (hA : (st.take b).reverse = As) (hr : st.drop b = rest) (hy : jv_callee T kd a As G = some y') (hk : jv_rk mL' fr' lo' fr lo b st = true) (hM : jx_Th y' As G n sl xk G1 n1 sl1) (hn1 : n ≤ n1) (hs1 : sl ≤ sl1) (hc : n1 - n0 ≤ R.cells) (hs : sl1 - sl0 ≤ R.slots) : jw p l e R s m args below meth c E mL n0 sl0 (vx_MQ below (fun _ _ _ _ => False) (jx_XC E xk G1 n1) args s (n1 - n0) (sl1 - sl0) (jv_free E)) pc l0 st G n sl := by
  obtain ⟨hx, hb, hml, hown, hts, hK, hr9, hlk, hnm, hRf, hRl⟩ := F.2.1
  refine jw.thr hTb hl F hZ hI hT' hI' As hf0 hf hkd hA hr hy hk hM hn1 hs1 hc hs (fun q ce H1 locs1 ls q1 q2 hls hP1 hL1 hce hcv hcl => ?_)
  exact vx_out (fun x hx => (ht x hx).elim) hlk hce hcv hcl (fun t ht _ => ⟨rfl, by rw [ht]; exact hP1⟩) hL1 (Nat.le_refl _) (Nat.le_refl _)
/-- it is caught here: by the row x of the table, past rows of other classes; the exception is stored away -/
theorem jw.cat (hTb : jv_TOk jv_Tb) (hl : l.stackTraces = false) (F : jx_F T y E p R s m args meth c) (hZ : jx_Z E s) (hcls : (jv_name T y).cls = "ProgramBoxLaw") (hI : jx_I T y mL rt fr lo cd) {hh : List (Nat × Nat × Nat × Nat)} (htb : c.exceptionTable.toList = tableOf hh) {kd : Nat} {i : Instr} {len a b y' mL' fr' lo' : Nat} {rt' : Option FieldType} {cd' : List (Nat × jv_O)} (hT' : T.1 y' = jv_Tb.1 y') (hI' : jv_I y' mL' rt' fr' lo' cd') {c0 : Int} (As : List Value) {rest : List Value} {xk : Nat} {G1 : jv_G} {n1 sl1 : Nat} {o0 : jv_O} (hf0 : jv_fetch cd' 0 = some o0) (hf : jv_fetch cd pc = some (kd, i, len, a, b, c0)) (hkd : (Nat.beq kd 4 || Nat.beq kd 5) = true)
    (hA : (st.take b).reverse = As) (hr : st.drop b = rest) (hy : jv_callee T kd a As G = some y') (hk : jv_rk mL' fr' lo' fr lo b st = true) (hM : jx_Th y' As G n sl xk G1 n1 sl1) (hn1 : n ≤ n1) (hs1 : sl ≤ sl1) (hc : n1 - n0 ≤ R.cells) (hs : sl1 - sl0 ≤ R.slots)
    (pre : List (Nat × Nat × Nat × Nat)) (x : Nat × Nat × Nat × Nat) (suf : List (Nat × Nat × Nat × Nat)) (hsp : hh = pre ++ x :: suf) (hpass : ∀ z ∈ pre, ∃ j, z.2.2.2 = jx_lk j ∧ ((xk = 0 ∧ j = 1) ∨ (xk = 1 ∧ j = 2))) (hcov : covers ⟨x.1, x.2.1, x.2.2.1, x.2.2.2⟩ pc = true) (hxk : x.2.2.2 = jx_lk xk)
    {ia : Instr} {la j : Nat} {a9 b9 : Nat} {c9 : Int} (hfa : jv_fetch cd x.2.2.1 = some (0, ia, la, a9, b9, c9)) (hia : (ia = .astore j ∧ la = 2) ∨ (∃ z : Fin 4, ia = .astore_n z ∧ (z : Nat) = j ∧ la = 1)) (hj : j < mL)
    (k : jw p l e R s m args below meth c E mL n0 sl0 Q (x.2.2.1 + la) [] [] G1 n1 sl1) : jw p l e R s m args below meth c E mL n0 sl0 Q pc l0 st G n sl := by
  obtain ⟨hx, hb, hml, hown, hts, hK, hr9, hlk, hnm, hRf, hRl⟩ := F.2.1
  have hlk0 : ∀ k, jx_lk k ≠ 0 := fun k => by match k with
    | 0 => decide
    | 1 => decide
    | k + 2 => exact (by decide : (36 : Nat) ≠ 0)
  refine jw.thr hTb hl F hZ hI hT' hI' As hf0 hf hkd hA hr hy hk hM hn1 hs1 hc hs (fun q ce H1 locs1 ls q1 q2 hls hP1 hL1 hce hcv hcl => ?_)
  have hO := F.2.2 x.2.2.1 _ (by rw [hI.2.2.2.2]; exact hfa)
  refine vx_catch (own := "ProgramBoxLaw") (name := jx_nm xk) (E := jx_nm xk) (by rw [← hcls]; exact hown) (tableOf pre) ⟨x.1, x.2.1, x.2.2.1, x.2.2.2⟩ (tableOf suf) (by rw [htb, hsp]; simp [tableOf]) ?_ hcov (by show x.2.2.2 ≠ 0; rw [hxk]; exact hlk0 xk) (by show (Cond.classLink "ProgramBoxLaw" x.2.2.2 (jx_nm xk)).before args s = true; rw [hxk]; exact hts _ (jx_lk_ok xk)) (jx_cast hZ xk) hce hcv hcl ?_
  · intro z hz
    obtain ⟨w, hw, rfl⟩ := List.mem_map.mp hz
    obtain ⟨j9, h1, h2⟩ := hpass w hw
    refine Or.inr ⟨by show w.2.2.2 ≠ 0; rw [h1]; exact hlk0 j9, jx_nm j9, by show (Cond.classLink "ProgramBoxLaw" w.2.2.2 (jx_nm j9)).before args s = true; rw [h1]; exact hts _ (jx_lk_ok j9), ?_⟩
    rcases h2 with ⟨rfl, rfl⟩ | ⟨rfl, rfl⟩
    · exact hZ.2.2.2.2.1
    · exact hZ.2.2.2.2.2
  · have hend : ∀ ls' : Array Slot, ∀ lv', lv_has ls' mL lv' → W p l e R s m args below meth c H1 locs1 (n1 - n0) (sl1 - sl0) Q (F0 m (x.2.2.1 + la) ls' []) := fun ls' lv' h => k (by omega) (by omega) hc hs H1 ls' locs1 ⟨h.1, h.2.1, fun q hq => by cases hq⟩ hP1 hL1
    have hdg := hO.1
    rcases hia with ⟨rfl, rfl⟩ | ⟨z, rfl, hz, rfl⟩
    · exact lv_astore hx hb hdg hls hj rfl (fun ls' h => hend ls' _ h)
    · exact lv_astore_n hx hb hdg rfl hls (by rw [hz]; exact hj) rfl (fun ls' h => hend ls' _ h)
/-- the law's call of a wrapper -/
theorem jw.wr (F : jx_F jv_T2 y E p R s m args meth c) (hl : l.stackTraces = false) (hZ : jx_Z E s) (hcls : (jv_name jv_T2 y).cls = "ProgramBoxLaw") (hI : jx_I jv_T2 y mL rt fr lo cd) {q len a b mL' fr' lo' pc' : Nat} {rt' : Option FieldType} {cd' : List (Nat × jv_O)} (hI' : jx_I jv_T2 a mL' rt' fr' lo' cd') {c0 : Int} (As : List Value) {rest : List Value} {rv : Option Value} {G1 : jv_G} {n1 sl1 pl ph : Nat} {hh : List (Nat × Nat × Nat × Nat)} (hf : jv_fetch cd pc = some (4, .invokestatic q, len, a, b, c0)) (hwl : (q, a, pl) ∈ jx_wl) (hhl : (a, ph, hh) ∈ jx_hl)
    (hA : (st.take b).reverse = As) (hr : st.drop b = rest) (hk : jv_rk mL' fr' lo' fr lo b st = true) (hM : jx_Wr a hh As G n sl (rv, G1, n1, sl1)) (hn1 : n ≤ n1) (hs1 : sl ≤ sl1) (hc : n1 - n0 ≤ R.cells) (hs : sl1 - sl0 ≤ R.slots) (hp : pc + 3 = pc') {S' : List Value} (hS : rv.toList ++ rest = S')
    (k : jw p l e R s m args below meth c E mL n0 sl0 Q pc' l0 S' G1 n1 sl1) : jw p l e R s m args below meth c E mL n0 sl0 Q pc l0 st G n sl := by
  subst hp; subst hS; subst hA; subst hr
  obtain ⟨hE, C, hT⟩ := F
  obtain ⟨h1, h2, h3, h4, h5⟩ := hI
  subst h1; subst h3; subst h4; subst h5
  obtain ⟨e1, e2, e3, e4, e5⟩ := hI'
  subst e1; subst e3; subst e4
  have hO := hT pc _ hf
  obtain ⟨hx, hb, hml, hown, hts, hK, hr, hlk, hnm, hRf, hRl⟩ := C
  obtain ⟨hdg, h3, -, g2, g3, g4, g5⟩ : decode (jv_bytes jv_T2 y) pc = .ok (.invokestatic q, len) ∧ jv_lk4 jv_T2 (jv_name jv_T2 y).cls (.invokestatic q) len a b := hO
  subst h3
  simp only [jv_rk, Bool.and_eq_true] at hk
  obtain ⟨hr1, hr2, hr3, hr4, hr5⟩ := hk
  have hr1 := Nat.le_of_ble_eq_true hr1
  have hr2 := Nat.le_of_ble_eq_true hr2
  have hr4 := Nat.le_of_ble_eq_true hr4
  have hr5 := Nat.le_of_ble_eq_true hr5
  intro q1 q2 q3 q4 H ls locs hls hP hL
  have hMM := hM l E hl hE
  have hcode := jx_hl_ok _ hhl
  have hlink := jx_wl_ok _ hwl
  dsimp only at hcode hlink hMM
  have hws : ∀ w ∈ jx_ws a hh, ∀ (a' : Array Value) (U : State), s.WarmedH U.vm → w.before a' U = true := by
    intro w hw a' U hW
    have hok : ∀ w ∈ lw_ok, w.before a' U = true := fun w h => jv_okw_ok (List.mem_filter.mp h).2 (hts w h) hW
    rcases List.mem_cons.mp hw with rfl | h
    · exact hok _ hcode
    · exact hok w h
  have S : CallFix p m c (jv_bytes jv_T2 y) (jv_mL jv_T2 y) s args lw_ok (jv_name jv_T2 y).cls := ⟨hx, hb, hml, hown, hts⟩
  have hlen : (st.take b).reverse.length = b := by rw [List.length_reverse, List.length_take]; omega
  have hstk : st.map (jv_tr E.1) = (((st.take b).reverse).map (jv_tr E.1)).reverse ++ (st.drop b).map (jv_tr E.1) := by
    rw [List.map_reverse, List.reverse_reverse, ← List.map_append, List.take_append_drop]
  have hPS : PreS s H (jx_Pc E (st.take b).reverse G n) ((st.take b).reverse.map (jv_tr E.1)) := ⟨jx_blind E _ G n, fun U hU hW => ⟨rfl, by rw [hU]; exact hP, jv_K.moved hW.alike hK, jx_Z.warm hW hZ⟩⟩
  refine jv_callW (vx_runSW (As := (st.take b).reverse.map (jv_tr E.1)) (rest := (st.drop b).map (jv_tr E.1)) (maxL := jv_mL jv_T2 a) (bytes := jv_bytes jv_T2 a) (ret := jv_rt jv_T2 a) (hh := hh) (n := b) S hMM ⟨⟨rfl, rfl, by rw [hRf]; exact hr4, by rw [hRl]; exact hr5, hws, List.mem_cons_self⟩, hts _ hcode, hts _ g3, g4, jv_cnt_len g5, by rw [hcls]; exact hts _ hlink, hts _ g2⟩ hPS rfl (by rw [List.length_map]; exact hlen) hls.1 hstk (jv_lroom hr2) hdg ⟨by omega, by omega⟩) hL (fun H1 locs1 hP1 hL1 => ?_)
  have := k (by omega) (by omega) hc hs H1 ls locs1 hls hP1 hL1
  rw [List.map_append, show (rv.toList.map (jv_tr E.1)) = (rv.map (jv_tr E.1)).toList by cases rv <;> rfl, show n1 - n0 = n - n0 + (n1 - n) by omega, show sl1 - sl0 = sl - sl0 + (sl1 - sl) by omega] at this
  exact this
/-- the script's ints, its length -/
theorem jw.sld (F : jx_F T y E p R s m args meth c) (hI : jx_I T y mL rt fr lo cd) {bb L : Nat} {xs : Nat → Int32} (hX : va_X bb L xs s E.2.2.2.2) (hbB : bb < E.2.2.2.1) (hE2 : E.1 1000002 = bb) {len a b pc' : Nat} {c0 : Int} (hf : jv_fetch cd pc = some (1, .iaload, len, a, b, c0)) {i : Int32} {r : List Value} (hst : st = .int i :: .ref 1000002 :: r) (hin : vp_in i L) {v : Int32} (hv : xs i.toNatClampNeg = v) (hp : pc + 1 = pc') (k : jw p l e R s m args below meth c E mL n0 sl0 Q pc' l0 (.int v :: r) G n sl) : jw p l e R s m args below meth c E mL n0 sl0 Q pc l0 st G n sl := by
  subst hst; subst hp; subst hv
  obtain ⟨hE, C, hT⟩ := F
  have hO := hT pc _ (by rw [hI.2.2.2.2]; exact hf)
  obtain ⟨hx, hb, hml, hown, hts, hK, hr, hlk, hnm, hRf, hRl⟩ := C
  have hlen : len = 1 := hO.2.1
  subst hlen
  intro q1 q2 q3 q4 H ls locs hls hP hL
  have hsz := hE.2.2
  show W p l e R s m args below meth c H locs (n - n0) (sl - sl0) Q (F0 m pc ls (.int i :: .ref (E.1 1000002) :: r.map (jv_tr E.1)))
  rw [hE2]
  exact va_sld (A := fun q => E.2.2.2.1 ≤ q) hx hb hX (by omega) (by omega) ⟨by have := hP.1; omega, fun q h1 h2 => hP.2.1 q (by omega), hL⟩ hin hO.1 (k q1 q2 q3 q4 H ls locs hls hP hL)
theorem jw.slen (F : jx_F T y E p R s m args meth c) (hI : jx_I T y mL rt fr lo cd) {bb L : Nat} {xs : Nat → Int32} (hX : va_X bb L xs s E.2.2.2.2) (hbB : bb < E.2.2.2.1) (hE2 : E.1 1000002 = bb) {len a b pc' : Nat} {c0 : Int} (hf : jv_fetch cd pc = some (1, .arraylength, len, a, b, c0)) {r : List Value} (hst : st = .ref 1000002 :: r) (hp : pc + 1 = pc') (k : jw p l e R s m args below meth c E mL n0 sl0 Q pc' l0 (.int (Int32.ofNat L) :: r) G n sl) : jw p l e R s m args below meth c E mL n0 sl0 Q pc l0 st G n sl := by
  subst hst; subst hp
  obtain ⟨hE, C, hT⟩ := F
  have hO := hT pc _ (by rw [hI.2.2.2.2]; exact hf)
  obtain ⟨hx, hb, hml, hown, hts, hK, hr, hlk, hnm, hRf, hRl⟩ := C
  have hlen : len = 1 := hO.2.1
  subst hlen
  intro q1 q2 q3 q4 H ls locs hls hP hL
  have hsz := hE.2.2
  show W p l e R s m args below meth c H locs (n - n0) (sl - sl0) Q (F0 m pc ls (.ref (E.1 1000002) :: r.map (jv_tr E.1)))
  rw [hE2]
  exact va_slen (A := fun q => E.2.2.2.1 ≤ q) hx hb hX (by omega) (by omega) ⟨by have := hP.1; omega, fun q h1 h2 => hP.2.1 q (by omega), hL⟩ hO.1 (k q1 q2 q3 q4 H ls locs hls hP hL)
end JY
