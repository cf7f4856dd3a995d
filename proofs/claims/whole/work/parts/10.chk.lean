/-! part 10: a program that checks the tables of the small machine against the Statement's words -/
/-- the Statement's words in pieces: a word's place is 1000 times its piece, and its place there -/
def jv_chs (k : Nat) : List Cond := match k with
  | 0 => k2_sels lw_privs
  | 1 => tables_1_1
  | 2 => tables_1_2
  | 3 => tables_1_3
  | 4 => tables_1_4
  | 5 => tables_1_5
  | 6 => tables_1_6
  | 7 => tables_1_7
  | 8 => tables_1_8
  | 9 => tables_1_9
  | 10 => tables_1_10
  | 11 => tables_1_11
  | 12 => tables_1_12
  | 13 => jv_selx
  | _ => []
theorem jv_chs_mem {k : Nat} {w : Cond} (h : w ∈ jv_chs k) : w ∈ lw_tbl ++ jv_selx := by
  match k, h with
  | 0, h => exact List.mem_append_left _ (List.mem_append_left _ h)
  | 1, h => exact List.mem_append_left _ (List.mem_append_right _ (show w ∈ tables_1 from List.mem_append_left _ h))
  | 2, h => exact List.mem_append_left _ (List.mem_append_right _ (show w ∈ tables_1 from List.mem_append_right _ (List.mem_append_left _ h)))
  | 3, h => exact List.mem_append_left _ (List.mem_append_right _ (show w ∈ tables_1 from List.mem_append_right _ (List.mem_append_right _ (List.mem_append_left _ h))))
  | 4, h => exact List.mem_append_left _ (List.mem_append_right _ (show w ∈ tables_1 from List.mem_append_right _ (List.mem_append_right _ (List.mem_append_right _ (List.mem_append_left _ h)))))
  | 5, h => exact List.mem_append_left _ (List.mem_append_right _ (show w ∈ tables_1 from List.mem_append_right _ (List.mem_append_right _ (List.mem_append_right _ (List.mem_append_right _ (List.mem_append_left _ h))))))
  | 6, h => exact List.mem_append_left _ (List.mem_append_right _ (show w ∈ tables_1 from List.mem_append_right _ (List.mem_append_right _ (List.mem_append_right _ (List.mem_append_right _ (List.mem_append_right _ (List.mem_append_left _ h)))))))
  | 7, h => exact List.mem_append_left _ (List.mem_append_right _ (show w ∈ tables_1 from List.mem_append_right _ (List.mem_append_right _ (List.mem_append_right _ (List.mem_append_right _ (List.mem_append_right _ (List.mem_append_right _ (List.mem_append_left _ h))))))))
  | 8, h => exact List.mem_append_left _ (List.mem_append_right _ (show w ∈ tables_1 from List.mem_append_right _ (List.mem_append_right _ (List.mem_append_right _ (List.mem_append_right _ (List.mem_append_right _ (List.mem_append_right _ (List.mem_append_right _ (List.mem_append_left _ h)))))))))
  | 9, h => exact List.mem_append_left _ (List.mem_append_right _ (show w ∈ tables_1 from List.mem_append_right _ (List.mem_append_right _ (List.mem_append_right _ (List.mem_append_right _ (List.mem_append_right _ (List.mem_append_right _ (List.mem_append_right _ (List.mem_append_right _ (List.mem_append_left _ h))))))))))
  | 10, h => exact List.mem_append_left _ (List.mem_append_right _ (show w ∈ tables_1 from List.mem_append_right _ (List.mem_append_right _ (List.mem_append_right _ (List.mem_append_right _ (List.mem_append_right _ (List.mem_append_right _ (List.mem_append_right _ (List.mem_append_right _ (List.mem_append_right _ (List.mem_append_left _ h)))))))))))
  | 11, h => exact List.mem_append_left _ (List.mem_append_right _ (show w ∈ tables_1 from List.mem_append_right _ (List.mem_append_right _ (List.mem_append_right _ (List.mem_append_right _ (List.mem_append_right _ (List.mem_append_right _ (List.mem_append_right _ (List.mem_append_right _ (List.mem_append_right _ (List.mem_append_right _ (List.mem_append_left _ h))))))))))))
  | 12, h => exact List.mem_append_left _ (List.mem_append_right _ (show w ∈ tables_1 from List.mem_append_right _ (List.mem_append_right _ (List.mem_append_right _ (List.mem_append_right _ (List.mem_append_right _ (List.mem_append_right _ (List.mem_append_right _ (List.mem_append_right _ (List.mem_append_right _ (List.mem_append_right _ (List.mem_append_right _ (h)))))))))))))
  | 13, h => exact List.mem_append_right _ h
  | k + 14, h => cases h
theorem jv_memoq {w : Cond} (h : w ∈ lw_tbl ++ jv_selx) (h2 : jv_okw w = true) : w ∈ lw_ok := List.mem_filter.mpr ⟨h, h2⟩
def jv_w (i : Nat) (w : Cond) : Bool := decide ((jv_chs (i / 1000))[i % 1000]? = some w) && jv_okw w
theorem jv_w_ok {i : Nat} {w : Cond} (h : jv_w i w = true) : w ∈ lw_ok := by
  simp only [jv_w, Bool.and_eq_true, decide_eq_true_eq] at h
  exact jv_memoq (jv_chs_mem (List.mem_of_getElem? h.1)) h.2
/-- a code word by its place: its bytes are read from there -/
def jv_icw (w : Cond) (x : MethodName) (k : Nat) (r : Option FieldType) : Bool := match w with
  | .code x' _ k' r' => decide (x' = x) && (decide (k' = k) && decide (r' = r))
  | _ => false
def jv_cbw (w : Cond) : ByteArray := match w with
  | .code _ b _ _ => b
  | _ => ⟨#[]⟩
def jv_cw (i : Nat) : Cond := (jv_chs (i / 1000)).getD (i % 1000) .tt
def jv_cb (i : Nat) : ByteArray := jv_cbw (jv_cw i)
theorem jv_icw_ok {i : Nat} {x : MethodName} {k : Nat} {r : Option FieldType} (h : jv_icw (jv_cw i) x k r = true) : Cond.code x (jv_cb i) k r ∈ lw_ok := by
  unfold jv_cb
  unfold jv_cw at h ⊢
  cases hg : (jv_chs (i / 1000))[i % 1000]? with
  | none =>
    have e : (jv_chs (i / 1000)).getD (i % 1000) .tt = .tt := by rw [List.getD_eq_getElem?_getD, hg]; rfl
    rw [e] at h
    cases h
  | some w =>
    have e : (jv_chs (i / 1000)).getD (i % 1000) .tt = w := by rw [List.getD_eq_getElem?_getD, hg]; rfl
    rw [e] at h ⊢
    cases w <;> first | (cases h; done) | skip
    case code x' b k' r' =>
      simp only [jv_icw, Bool.and_eq_true, decide_eq_true_eq] at h
      obtain ⟨rfl, rfl, rfl⟩ := h
      exact jv_memoq (jv_chs_mem (List.mem_of_getElem? hg)) rfl
def jv_fchk (own : String) (q a b i si : Nat) : Bool := match jv_cl[a]? with
  | some r => Nat.blt b r.2.2 && ((jv_w i (.fieldLink own q r.1 (r.2.1 b).2.1 (r.2.1 b).2.2.1) || jv_w i (.fieldLinkNest own q r.1 (r.2.1 b).2.1 (r.2.1 b).2.2.1 "ProgramBoxModel")) && (decide (r.1 = (r.2.1 b).1) || jv_w si (.sameField r.1 (r.2.1 b).1 (r.2.1 b).2.1 (r.2.1 b).2.2.1)))
  | none => false
theorem jv_fchk_ok {own : String} {q a b i si : Nat} (h : jv_fchk own q a b i si = true) : jv_flS own q a b := by
  unfold jv_fchk at h
  split at h
  · rename_i r hr
    simp only [Bool.and_eq_true, Bool.or_eq_true, decide_eq_true_eq] at h
    obtain ⟨h1, h2, h3⟩ := h
    exact ⟨r, r.1, hr, Nat.le_of_ble_eq_true h1, h2.elim (fun z => Or.inl (jv_w_ok z)) (fun z => Or.inr ⟨_, jv_w_ok z⟩), h3.elim Or.inl (fun z => Or.inr (jv_w_ok z))⟩
  · cases h
def jv_mlc (own : String) (q : Nat) (y : MethodName) (i : Nat) : Bool := jv_w i (.methodLink own q y) || jv_w i (.methodLinkNest own q y "ProgramBoxModel")
theorem jv_mlc_ok {own : String} {q : Nat} {y : MethodName} {i : Nat} (h : jv_mlc own q y i = true) : jv_ml own q y := by
  simp only [jv_mlc, Bool.or_eq_true] at h
  exact h.elim (fun z => Or.inl (jv_w_ok z)) (fun z => Or.inr ⟨_, jv_w_ok z⟩)
def jv_nmh0 (c : String) : Bool := decide (c ≠ "java/lang/invoke/MethodHandle") && decide (c ≠ "java/lang/invoke/VarHandle")
def jv_mlxc (own : String) (q : Nat) (y : MethodName) (i : Nat) : Bool := jv_mlc own q y i || (jv_nmh0 own && (jv_w (i % 100000) (.methodLink own q ⟨own, y.name, y.desc⟩) && jv_w (i / 100000) (.sameMethod own y.cls y.name y.desc)))
theorem jv_mlxc_ok {own : String} {q : Nat} {y : MethodName} {i : Nat} (h : jv_mlxc own q y i = true) : jv_mlx own q y := by
  unfold jv_mlxc at h
  rcases (Bool.or_eq_true _ _).mp h with z | z
  · exact Or.inl (jv_mlc_ok z)
  · simp only [Bool.and_eq_true, jv_nmh0, decide_eq_true_eq] at z
    exact Or.inr ⟨own, jv_w_ok z.2.1, jv_w_ok z.2.2, z.1⟩
def jv_nmh (c : String) : Bool := decide (c ≠ "java/lang/invoke/MethodHandle") && decide (c ≠ "java/lang/invoke/VarHandle")
theorem jv_nmh_ok {c : String} (h : jv_nmh c = true) : jv_notMH c := by
  simp only [jv_nmh, Bool.and_eq_true, decide_eq_true_eq] at h
  exact h
def jv_cntb (d : String) (n : Nat) : Bool := decide ((parseMethodDescriptor d).map (fun d => d.parameters.length) = some n)
theorem jv_cntb_ok {d : String} {n : Nat} (h : jv_cntb d n = true) : jv_cnt d n := by
  unfold jv_cntb at h
  exact of_decide_eq_true (p := (parseMethodDescriptor d).map (fun d => d.parameters.length) = some n) h
def jv_wrB (own mn : String) (a b : Nat) : Bool := match jv_cl[a]? with
  | some r => !(r.2.1 b).2.2.2 || (decide (mn = "<init>") && decide ((r.2.1 b).1 = own))
  | none => true
theorem jv_wrB_ok {own mn : String} {a b : Nat} (h : jv_wrB own mn a b = true) : jv_wr own mn a b := by
  intro r hr
  unfold jv_wrB at h
  rw [hr] at h
  simp only [Bool.or_eq_true, Bool.and_eq_true, decide_eq_true_eq, Bool.not_eq_true'] at h
  exact h
/-- a site's entries: receiver's class, method, class of the name at the site (99: the method's own), declared method, places of words: selects, sameMethod, link -/
abbrev jv_V : Type := Nat × Nat × Nat × Nat × Nat × Nat × Nat
def jv_vfind : List jv_V → Nat → Option (Nat × Nat × Nat)
  | [], _ => none
  | e :: r, k => bif Nat.beq e.1 k then some (e.2.1, e.2.2.1, e.2.2.2.1) else jv_vfind r k
theorem jv_vfind_mem {l : List jv_V} {k : Nat} {x : Nat × Nat × Nat} (h : jv_vfind l k = some x) : ∃ e ∈ l, e.1 = k ∧ x = (e.2.1, e.2.2.1, e.2.2.2.1) := by
  induction l with
  | nil => cases h
  | cons e r ih =>
    simp only [jv_vfind] at h
    cases hq : Nat.beq e.1 k with
    | true => rw [hq] at h; cases h; exact ⟨e, List.mem_cons_self, Nat.eq_of_beq_eq_true hq, rfl⟩
    | false =>
      rw [hq] at h
      obtain ⟨e', h1, h2⟩ := ih h
      exact ⟨e', List.mem_cons_of_mem _ h1, h2⟩
def jv_vsel (VS : List (List jv_V)) (a k : Nat) : Option (Nat × Nat × Nat) := jv_vfind (VS.getD a []) k
/-- places of a method's words: static or instance, initialized, code -/
abbrev jv_F : Type := Nat × Nat × Nat
def jv_vchk (T : jv_T) (mf : List jv_F) (own : String) (q nb : Nat) (e : jv_V) : Bool :=
  let y := jv_name T e.2.1
  let fy := mf.getD e.2.1 (0, 0, 0)
  let d := jv_name T e.2.2.2.1
  let fd := mf.getD e.2.2.2.1 (0, 0, 0)
  jv_w fy.1 (.instanceMethod y) && (jv_w fy.2.1 (.initialized y.cls) && match jv_cl[e.1]? with
    | some r => bif Nat.beq e.2.2.1 99 then jv_mlc own q y e.2.2.2.2.2.2 && (jv_w e.2.2.2.2.1 (.selects r.1 y y) && (jv_nmh y.cls && jv_cntb y.desc nb))
      else match jv_cl[e.2.2.1]? with
        | some rx => jv_w e.2.2.2.2.2.2 (.methodLink own q ⟨rx.1, d.name, d.desc⟩) && (jv_w e.2.2.2.2.2.1 (.sameMethod rx.1 d.cls d.name d.desc) && (jv_w fd.1 (.instanceMethod ⟨d.cls, d.name, d.desc⟩) && (jv_icw (jv_cw fd.2.2) ⟨d.cls, d.name, d.desc⟩ (jv_mL T e.2.2.2.1) (jv_rt T e.2.2.2.1) && (jv_w e.2.2.2.2.1 (.selects r.1 ⟨rx.1, d.name, d.desc⟩ y) && (jv_nmh d.cls && jv_cntb d.desc nb)))))
        | none => false
    | none => false)
theorem jv_vchk_ok {T : jv_T} {mf : List jv_F} {own : String} {q nb : Nat} {e : jv_V} (h : jv_vchk T mf own q nb e = true) :
    ∃ r rx, jv_cl[e.1]? = some r ∧ jv_vl own q r.1 (jv_name T e.2.1) ⟨rx, (jv_name T e.2.2.2.1).name, (jv_name T e.2.2.2.1).desc⟩ (jv_name T e.2.2.2.1).cls nb := by
  unfold jv_vchk at h
  simp only [Bool.and_eq_true] at h
  obtain ⟨h1, h2, h3⟩ := h
  split at h3
  · rename_i r hr
    cases hc : Nat.beq e.2.2.1 99 with
    | true =>
      rw [hc] at h3
      simp only [cond_true, Bool.and_eq_true] at h3
      exact ⟨r, "", hr, jv_w_ok h1, jv_w_ok h2, Or.inl ⟨jv_mlc_ok h3.1, jv_w_ok h3.2.1, jv_nmh_ok h3.2.2.1, jv_cntb_ok h3.2.2.2⟩⟩
    | false =>
      rw [hc] at h3
      simp only [cond_false] at h3
      split at h3
      · rename_i rx hrx
        simp only [Bool.and_eq_true] at h3
        obtain ⟨g1, g2, g3, g4, g5, g6, g7⟩ := h3
        exact ⟨r, rx.1, hr, jv_w_ok h1, jv_w_ok h2, Or.inr ⟨jv_w_ok g1, jv_w_ok g2, jv_w_ok g3, ⟨_, _, _, jv_icw_ok g4⟩, jv_w_ok g5, jv_nmh_ok g6, jv_cntb_ok g7⟩⟩
      · cases h3
  · cases h3
def jv_blenB (i : Instr) (len : Nat) : Bool := match i with
  | .tableswitch _ _ _ _ => true
  | .lookupswitch _ _ => true
  | _ => Nat.beq len 3
theorem jv_blenB_ok {i : Instr} {len : Nat} (h : jv_blenB i len = true) : jv_blen i len := by
  cases i <;> first | exact trivial | exact Nat.eq_of_beq_eq_true h
theorem jv_mth (a : Nat) : Cond.static (jv_mrow a).1 ∈ lw_ok ∧ Cond.initialized "java/lang/Math" ∈ lw_ok ∧ Cond.code (jv_mrow a).1 (jv_mrow a).2.1 (jv_mrow a).2.2.1 (some (jv_mrow a).2.2.2) ∈ lw_ok := by
  have hi : Cond.initialized "java/lang/Math" ∈ lw_ok := jv_w_ok (i := 1021) (by decide +kernel)
  match a with
  | 0 => exact ⟨jv_w_ok (i := 3073) (by decide +kernel), hi, jv_w_ok (i := 3074) (by decide +kernel)⟩
  | 1 => exact ⟨jv_w_ok (i := 3119) (by decide +kernel), hi, jv_w_ok (i := 3120) (by decide +kernel)⟩
  | 2 => exact ⟨jv_w_ok (i := 4070) (by decide +kernel), hi, jv_w_ok (i := 4071) (by decide +kernel)⟩
  | k + 3 => exact ⟨jv_w_ok (i := 4027) (w := Cond.static (jv_mrow 3).1) (by decide +kernel), hi, jv_w_ok (i := 4028) (w := Cond.code (jv_mrow 3).1 (jv_mrow 3).2.1 (jv_mrow 3).2.2.1 (some (jv_mrow 3).2.2.2)) (by decide +kernel)⟩
/-- one instruction; pl: places of classLink, instantiable, initialized, arrayClass, arrayOver by the op's own c -/
def jv_ochk (T : jv_T) (mf : List jv_F) (VS : List (List jv_V)) (ob : Nat × Nat × Nat) (ac : Nat × Nat × Nat × Nat) (bs : ByteArray) (y pc : Nat) (o : jv_O) : Bool :=
  let own := (jv_name T y).cls
  decide (decode bs pc = .ok (o.2.1, o.2.2.1)) && match o with
  | (kd, i, len, a, b, c) => match kd with
    | 0 => Nat.beq len (jv_len i) && match i with
      | .ldc q => jv_w a (.constant own q (Int32.ofInt c))
      | .ldc_w q => jv_w a (.constant own q (Int32.ofInt c))
      | .ldc2_w q => jv_w a (.constantLong own q (Int64.ofInt c))
      | _ => true
    | 1 => Nat.beq len (jv_mlen i) && match i with
      | .getfield q => jv_fchk own q a b (c.toNat % 100000) (c.toNat / 100000)
      | .putfield q => jv_fchk own q a b (c.toNat % 100000) (c.toNat / 100000) && jv_wrB own (jv_name T y).name a b
      | _ => true
    | 2 => jv_blenB i len && jv_bok i pc
    | 3 => match i with
      | .new q => Nat.beq len 3 && match jv_cl[a]? with
        | some r => jv_w (c.toNat % 100000) (.classLink own q r.1) && (jv_w (c.toNat / 100000 % 100000) (.instantiable r.1 r.2.2) && jv_w (c.toNat / 10000000000) (.initialized r.1))
        | none => false
      | .newarray t => Nat.beq len 2 && (Nat.blt (jv_atk t) 4 && jv_w c.toNat (.arrayClass (newarray.typeOf t)))
      | .anewarray q => Nat.beq len 3 && (Nat.ble 104 a && (Nat.blt a 108 && match (jv_tys (fun _ => 0))[a - 100]? with
        | some (_, .object C) => jv_w (c.toNat % 100000) (.classLink own q C) && jv_w (c.toNat / 100000) (.arrayOver (.object C))
        | _ => false))
      | _ => false
    | 7 => match i with
      | .invokespecial q => Nat.beq len 3 && (jv_w c.toNat (.methodLink own q objectInit) && (jv_w ob.1 (.instanceMethod objectInit) && jv_w ob.2.1 (.code objectInit ⟨#[0xb1]⟩ 1 none)))
      | _ => false
    | 8 => Nat.beq len 1
    | 9 => match i with
      | .getstatic q => Nat.beq len 3 && (Nat.blt a 2 && jv_w c.toNat (.fieldLink own q (jv_sC a).1 (jv_sC a).2 "[I"))
      | _ => false
    | 10 => match i with
      | .invokestatic q => Nat.beq len 3 && match a with
        | 0 => jv_w c.toNat (.methodLink own q arraycopyName) && (jv_w ac.1 (.native arraycopyName) && (jv_w ac.2.1 (.static arraycopyName) && jv_w ac.2.2.1 (.initialized "java/lang/System")))
        | a + 1 => jv_w c.toNat (.methodLink own q (jv_mrow a).1)
      | _ => false
    | 4 => match i with
      | .invokestatic q => let z := jv_name T a; let f := mf.getD a (0, 0, 0); Nat.beq len 3 && (jv_mlxc own q z c.toNat && (jv_w f.1 (.static z) && (jv_w f.2.1 (.initialized z.cls) && (jv_nmh z.cls && jv_cntb z.desc b))))
      | _ => false
    | 5 => match i with
      | .invokevirtual q => Nat.beq len 3 && (Nat.ble 1 b && (VS.getD a []).all (fun e => jv_vchk T mf own q (b - 1) e))
      | _ => false
    | 6 => match i with
      | .invokespecial q => let z := jv_name T a; let f := mf.getD a (0, 0, 0); Nat.beq len 3 && (Nat.ble 1 b && (jv_mlc own q z c.toNat && (jv_w f.1 (.instanceMethod z) && (jv_w f.2.1 (.initialized z.cls) && (jv_nmh z.cls && (jv_cntb z.desc (b - 1) && (decide (z.name = "<init>") && decide (jv_rt T a = none))))))))
      | _ => false
    | _ => false
theorem jv_ochk_ok {T : jv_T} {mf : List jv_F} {VS : List (List jv_V)} {ob : Nat × Nat × Nat} {ac : Nat × Nat × Nat × Nat} {y pc : Nat} {o : jv_O} (hV : T.2 = jv_vsel VS) (h : jv_ochk T mf VS ob ac (jv_bytes T y) y pc o = true) : jv_OOk T y pc o := by
  obtain ⟨kd, i, len, a, b, c⟩ := o
  unfold jv_ochk at h
  simp only [Bool.and_eq_true, decide_eq_true_eq] at h
  obtain ⟨hd, h⟩ := h
  refine ⟨hd, ?_⟩
  match kd, h with
  | 0, h =>
    simp only [Bool.and_eq_true] at h
    refine ⟨Nat.eq_of_beq_eq_true h.1, ?_⟩
    have h2 := h.2
    cases i
    case ldc q => exact jv_w_ok h2
    case ldc_w q => exact jv_w_ok h2
    case ldc2_w q => exact jv_w_ok h2
    all_goals exact trivial
  | 1, h =>
    simp only [Bool.and_eq_true] at h
    refine ⟨Nat.eq_of_beq_eq_true h.1, ?_⟩
    have h2 := h.2
    cases i
    case getfield q => exact jv_fchk_ok h2
    case putfield q =>
      simp only [Bool.and_eq_true] at h2
      exact ⟨jv_fchk_ok h2.1, jv_wrB_ok h2.2⟩
    all_goals exact trivial
  | 2, h =>
    simp only [Bool.and_eq_true] at h
    exact ⟨jv_blenB_ok h.1, h.2⟩
  | 3, h =>
    show jv_nlk _ i a len
    cases i
    case new q =>
      simp only [Bool.and_eq_true] at h
      obtain ⟨h1, h2⟩ := h
      refine ⟨Nat.eq_of_beq_eq_true h1, ?_⟩
      split at h2
      · rename_i r hr
        simp only [Bool.and_eq_true] at h2
        exact ⟨r, hr, jv_w_ok h2.1, jv_w_ok h2.2.1, jv_w_ok h2.2.2⟩
      · cases h2
    case newarray t =>
      simp only [Bool.and_eq_true] at h
      exact ⟨Nat.eq_of_beq_eq_true h.1, Nat.le_of_ble_eq_true h.2.1, jv_w_ok h.2.2⟩
    case anewarray q =>
      simp only [Bool.and_eq_true] at h
      obtain ⟨h1, h2, h3, h4⟩ := h
      refine ⟨Nat.eq_of_beq_eq_true h1, Nat.le_of_ble_eq_true h2, Nat.le_of_ble_eq_true h3, fun C hC => ?_⟩
      rw [hC] at h4
      simp only [Bool.and_eq_true] at h4
      exact ⟨jv_w_ok h4.1, jv_w_ok h4.2⟩
    all_goals cases h
  | 7, h =>
    show jv_lk7 _ i len
    cases i
    case invokespecial q =>
      simp only [Bool.and_eq_true] at h
      exact ⟨Nat.eq_of_beq_eq_true h.1, jv_w_ok h.2.1, jv_w_ok h.2.2.1, jv_w_ok h.2.2.2⟩
    all_goals cases h
  | 8, h => exact Nat.eq_of_beq_eq_true h
  | 9, h =>
    show jv_lk9 _ i len a
    cases i
    case getstatic q =>
      simp only [Bool.and_eq_true] at h
      exact ⟨Nat.eq_of_beq_eq_true h.1, Nat.le_of_ble_eq_true h.2.1, jv_w_ok h.2.2⟩
    all_goals cases h
  | 10, h =>
    show jv_lks _ i len a
    cases i
    case invokestatic q =>
      cases a with
      | zero =>
        simp only [Bool.and_eq_true] at h
        exact ⟨Nat.eq_of_beq_eq_true h.1, jv_w_ok h.2.1, jv_w_ok h.2.2.1, jv_w_ok h.2.2.2.1, jv_w_ok h.2.2.2.2⟩
      | succ a =>
        simp only [Bool.and_eq_true] at h
        exact ⟨Nat.eq_of_beq_eq_true h.1, jv_w_ok h.2, jv_mth a⟩
    all_goals cases h
  | 4, h =>
    show jv_lk4 T _ i len a b
    cases i
    case invokestatic q =>
      simp only [Bool.and_eq_true] at h
      exact ⟨Nat.eq_of_beq_eq_true h.1, jv_mlxc_ok h.2.1, jv_w_ok h.2.2.1, jv_w_ok h.2.2.2.1, jv_nmh_ok h.2.2.2.2.1, jv_cntb_ok h.2.2.2.2.2⟩
    all_goals cases h
  | 5, h =>
    show jv_lk5 T _ i len a b
    cases i
    case invokevirtual q =>
      simp only [Bool.and_eq_true, List.all_eq_true] at h
      obtain ⟨h1, h2, h3⟩ := h
      have h2 := Nat.le_of_ble_eq_true h2
      refine ⟨Nat.eq_of_beq_eq_true h1, b - 1, by omega, fun k y' cx d hs => ?_⟩
      rw [hV] at hs
      obtain ⟨e, he, rfl, hx⟩ := jv_vfind_mem hs
      cases hx
      exact jv_vchk_ok (h3 e he)
    all_goals cases h
  | 6, h =>
    show jv_lk6 T _ i len a b
    cases i
    case invokespecial q =>
      simp only [Bool.and_eq_true, decide_eq_true_eq] at h
      obtain ⟨h1, h2, h3, h4, h5, h6, h7, h8, h9⟩ := h
      have h2 := Nat.le_of_ble_eq_true h2
      exact ⟨Nat.eq_of_beq_eq_true h1, b - 1, by omega, jv_mlc_ok h3, jv_w_ok h4, jv_w_ok h5, jv_nmh_ok h6, jv_cntb_ok h7, h8, h9⟩
    all_goals cases h
def jv_mchk (T : jv_T) (mf : List jv_F) (VS : List (List jv_V)) (ob : Nat × Nat × Nat) (ac : Nat × Nat × Nat × Nat) (y : Nat) : Bool :=
  plainName (jv_name T y).cls && (jv_icw (jv_cw (mf.getD y (0, 0, 0)).2.2) (jv_name T y) (jv_mL T y) (jv_rt T y) && match jv_bytes T y with | ⟨⟨bl⟩⟩ => (jv_code T y).all (fun q => jv_ochk T mf VS ob ac ⟨⟨bl⟩⟩ y q.1 q.2))
theorem jv_fetch_mem {l : List (Nat × jv_O)} {pc : Nat} {o : jv_O} (h : jv_fetch l pc = some o) : (pc, o) ∈ l := by
  induction l with
  | nil => cases h
  | cons q r ih =>
    simp only [jv_fetch] at h
    cases hq : Nat.beq q.1 pc with
    | true =>
      rw [hq] at h
      cases h
      have := Nat.eq_of_beq_eq_true hq
      subst this
      exact List.mem_cons_self
    | false =>
      rw [hq] at h
      exact List.mem_cons_of_mem _ (ih h)
theorem jv_mchk_ok {T : jv_T} {mf : List jv_F} {VS : List (List jv_V)} {ob : Nat × Nat × Nat} {ac : Nat × Nat × Nat × Nat} {y : Nat} (hV : T.2 = jv_vsel VS) (hB : jv_bytes T y = jv_cb (mf.getD y (0, 0, 0)).2.2) (h : jv_mchk T mf VS ob ac y = true) : ∀ pc o, jv_fetch (jv_code T y) pc = some o → jv_OOk T y pc o ∧ plainName (jv_name T y).cls = true ∧ Cond.code (jv_name T y) (jv_bytes T y) (jv_mL T y) (jv_rt T y) ∈ lw_ok := by
  intro pc o hf
  unfold jv_mchk at h
  rw [Bool.and_eq_true, Bool.and_eq_true] at h
  obtain ⟨h1, h2, h3⟩ := h
  have h5 : (jv_code T y).all (fun q => jv_ochk T mf VS ob ac (jv_bytes T y) y q.1 q.2) = true := by
    cases hbs : jv_bytes T y with
    | mk d =>
      cases d with
      | mk bl => rw [hbs] at h3; exact h3
  have h4 := List.all_eq_true.mp h5 (pc, o) (jv_fetch_mem hf)
  refine ⟨jv_ochk_ok hV h4, h1, ?_⟩
  rw [hB]
  exact jv_icw_ok h2
