/-! part 06: jumps -/
def jv_tg (pc : Nat) (off : Int) : Nat := ((pc : Int) + off).toNat
abbrev jv_go (b : Prop) [Decidable b] (pc : Nat) (off : Int) (r : List Value) : Option (Nat × List Value) := if b then some (jv_tg pc off, r) else some (pc + 3, r)
def jv_br (i : Instr) (pc : Nat) (st : List Value) : Option (Nat × List Value) := match i with
  | .goto off => some (jv_tg pc off, st)
  | .ifCond .eq off => match st with | .int x :: r => jv_go (x = 0) pc off r | _ => none
  | .ifCond .ne off => match st with | .int x :: r => jv_go (¬ x = 0) pc off r | _ => none
  | .ifCond .lt off => match st with | .int x :: r => jv_go (x < 0) pc off r | _ => none
  | .ifCond .ge off => match st with | .int x :: r => jv_go (0 ≤ x) pc off r | _ => none
  | .ifCond .gt off => match st with | .int x :: r => jv_go (0 < x) pc off r | _ => none
  | .ifCond .le off => match st with | .int x :: r => jv_go (x ≤ 0) pc off r | _ => none
  | .if_icmp .eq off => match st with | .int y :: .int x :: r => jv_go (x = y) pc off r | _ => none
  | .if_icmp .ne off => match st with | .int y :: .int x :: r => jv_go (¬ x = y) pc off r | _ => none
  | .if_icmp .lt off => match st with | .int y :: .int x :: r => jv_go (x < y) pc off r | _ => none
  | .if_icmp .ge off => match st with | .int y :: .int x :: r => jv_go (y ≤ x) pc off r | _ => none
  | .if_icmp .gt off => match st with | .int y :: .int x :: r => jv_go (y < x) pc off r | _ => none
  | .if_icmp .le off => match st with | .int y :: .int x :: r => jv_go (x ≤ y) pc off r | _ => none
  | .if_acmp .eq off => match st with | .ref y :: .ref x :: r => if x < 1000000 ∧ y < 1000000 then jv_go (x = y) pc off r else none | _ => none
  | .if_acmp .ne off => match st with | .ref y :: .ref x :: r => if x < 1000000 ∧ y < 1000000 then jv_go (¬ x = y) pc off r else none | _ => none
  | .ifnull off => match st with | .null :: r => some (jv_tg pc off, r) | .ref _ :: r => some (pc + 3, r) | _ => none
  | .ifnonnull off => match st with | .null :: r => some (pc + 3, r) | .ref _ :: r => some (jv_tg pc off, r) | _ => none
  | .tableswitch d lo hi offs => match st with
    | .int x :: r => if x.toInt < lo ∨ hi < x.toInt then some (jv_tg pc d, r) else match offs[(x.toInt - lo).toNat]? with | some off => some (jv_tg pc off, r) | none => none
    | _ => none
  | .lookupswitch d ps => match st with
    | .int x :: r => some (jv_tg pc (Op.lookupswitch.offset ps.toList d x.toInt), r)
    | _ => none
  | _ => none
/-- where a jump goes is a place -/
def jv_bok (i : Instr) (pc : Nat) : Bool := match i with
  | .goto off => decide (0 ≤ (pc : Int) + off)
  | .ifCond _ off => decide (0 ≤ (pc : Int) + off)
  | .if_icmp _ off => decide (0 ≤ (pc : Int) + off)
  | .if_acmp _ off => decide (0 ≤ (pc : Int) + off)
  | .ifnull off => decide (0 ≤ (pc : Int) + off)
  | .ifnonnull off => decide (0 ≤ (pc : Int) + off)
  | .tableswitch d _ _ offs => decide (0 ≤ (pc : Int) + d) && offs.toList.all (fun o => decide (0 ≤ (pc : Int) + o))
  | .lookupswitch d ps => decide (0 ≤ (pc : Int) + d) && (ps.toList.all (fun o => decide (0 ≤ (pc : Int) + o.2)) && (ps.toList.zip (ps.toList.drop 1)).all (fun (a, next) => a.1 < next.1))
  | _ => true
/-- the length that a jump must have (switches: any) -/
def jv_blen (i : Instr) (len : Nat) : Prop := match i with
  | .tableswitch _ _ _ _ => True
  | .lookupswitch _ _ => True
  | _ => len = 3
theorem jv_tg_ok {pc : Nat} {off : Int} (h : 0 ≤ (pc : Int) + off) : (pc : Int) + off = ((jv_tg pc off : Nat) : Int) := by
  unfold jv_tg; omega
theorem jv_off_mem (ps : List (Int × Int)) (d x : Int) : Op.lookupswitch.offset ps d x = d ∨ ∃ q ∈ ps, Op.lookupswitch.offset ps d x = q.2 := by
  induction ps with
  | nil => left; simp [Op.lookupswitch.offset]
  | cons a r ih =>
    simp only [Op.lookupswitch.offset]
    split
    · right; exact ⟨a, List.mem_cons_self, rfl⟩
    · rcases ih with ih | ⟨q, hq, ih⟩
      · left; exact ih
      · right; exact ⟨q, List.mem_cons_of_mem _ hq, ih⟩
section JV6
variable {p : Program} {l : Launch} {e : Env} {R : Room} {s : State} {m : MethodId} {args : Array Value} {below : List Frame} {meth : Method} {c : Code} {H : Heap} {locs : List Loc} {cells slots : Nat} {Q : State → Prop} {cc : ByteArray}
set_option maxHeartbeats 4000000 in
theorem jv_br_ok {f : Nat → Nat} (hinj : ∀ a b, a < 1000000 → b < 1000000 → f a = f b → a = b) (hx : p.tables.exec = Jvm.exec) (hb : c.code = cc) {i : Instr} {pc pc' len : Nat} {st st' : List Value} {ls : Array Slot} (hq : jv_br i pc st = some (pc', st')) (hdg : decode cc pc = .ok (i, len)) (hlen : jv_blen i len) (hbk : jv_bok i pc = true)
    (kk : W p l e R s m args below meth c H locs cells slots Q (F0 m pc' ls (st'.map (jv_tr f)))) :
    W p l e R s m args below meth c H locs cells slots Q (F0 m pc ls (st.map (jv_tr f))) := by
  have go : ∀ {b : Prop} [Decidable b] {off : Int} {r : List Value}, jv_go b pc off r = some (pc', st') → (b → W p l e R s m args below meth c H locs cells slots Q (F0 m (jv_tg pc off) ls (r.map (jv_tr f)))) ∧ (¬ b → W p l e R s m args below meth c H locs cells slots Q (F0 m (pc + 3) ls (r.map (jv_tr f)))) := by
    intro b _ off r h
    refine ⟨fun hb => ?_, fun hb => ?_⟩
    · rw [jv_go, if_pos hb] at h
      simp only [Option.some.injEq, Prod.mk.injEq] at h
      obtain ⟨rfl, rfl⟩ := h
      exact kk
    · rw [jv_go, if_neg hb] at h
      simp only [Option.some.injEq, Prod.mk.injEq] at h
      obtain ⟨rfl, rfl⟩ := h
      exact kk
  cases i
  case goto off =>
    simp only [jv_br, Option.some.injEq, Prod.mk.injEq] at hq
    obtain ⟨rfl, rfl⟩ := hq
    have hl : len = 3 := hlen
    subst hl
    exact lv_goto hx hb hdg (jv_tg_ok (of_decide_eq_true hbk)) kk
  case ifCond cd off =>
    have hl : len = 3 := hlen
    subst hl
    have ht := jv_tg_ok (of_decide_eq_true hbk)
    cases cd <;> simp only [jv_br] at hq <;> split at hq
    · exact lv_if_eq hx hb hdg ht (go hq).1 (go hq).2
    · cases hq
    · exact lv_if_ne hx hb hdg ht (go hq).1 (fun z => (go hq).2 (fun y => y z))
    · cases hq
    · exact lv_if_lt hx hb hdg ht (go hq).1 (go hq).2
    · cases hq
    · exact lv_if_ge hx hb hdg ht (go hq).1 (go hq).2
    · cases hq
    · exact lv_if_gt hx hb hdg ht (go hq).1 (go hq).2
    · cases hq
    · exact lv_if_le hx hb hdg ht (go hq).1 (go hq).2
    · cases hq
  case if_icmp cd off =>
    have hl : len = 3 := hlen
    subst hl
    have ht := jv_tg_ok (of_decide_eq_true hbk)
    cases cd <;> simp only [jv_br] at hq <;> split at hq
    · exact lv_icmp_eq hx hb hdg ht (go hq).1 (go hq).2
    · cases hq
    · exact lv_icmp_ne hx hb hdg ht (go hq).1 (fun z => (go hq).2 (fun y => y z))
    · cases hq
    · exact lv_icmp_lt hx hb hdg ht (go hq).1 (go hq).2
    · cases hq
    · exact lv_icmp_ge hx hb hdg ht (go hq).1 (go hq).2
    · cases hq
    · exact lv_icmp_gt hx hb hdg ht (go hq).1 (go hq).2
    · cases hq
    · exact lv_icmp_le hx hb hdg ht (go hq).1 (go hq).2
    · cases hq
  case if_acmp cd off =>
    have hl : len = 3 := hlen
    subst hl
    have ht := jv_tg_ok (of_decide_eq_true hbk)
    cases cd <;> simp only [jv_br] at hq <;> split at hq
    · split at hq
      · rename_i y x r hc
        exact lv_acmp_eq (rx := some (f x)) (ry := some (f y)) hx hb hdg ht (fun z => (go hq).1 (hinj _ _ hc.1 hc.2 (Option.some.inj z))) (fun z => (go hq).2 (fun h => z (by rw [h])))
      · cases hq
    · cases hq
    · split at hq
      · rename_i y x r hc
        exact lv_acmp_ne (rx := some (f x)) (ry := some (f y)) hx hb hdg ht (fun z => (go hq).1 (fun h => z (by rw [h]))) (fun z => (go hq).2 (fun h => h (hinj _ _ hc.1 hc.2 (Option.some.inj z))))
      · cases hq
    · cases hq
  case ifnull off =>
    have hl : len = 3 := hlen
    subst hl
    have ht := jv_tg_ok (of_decide_eq_true hbk)
    simp only [jv_br] at hq
    split at hq
    · simp only [Option.some.injEq, Prod.mk.injEq] at hq
      obtain ⟨rfl, rfl⟩ := hq
      exact lv_ifnullN hx hb hdg ht kk
    · simp only [Option.some.injEq, Prod.mk.injEq] at hq
      obtain ⟨rfl, rfl⟩ := hq
      exact lv_ifnull hx hb hdg kk
    · cases hq
  case ifnonnull off =>
    have hl : len = 3 := hlen
    subst hl
    have ht := jv_tg_ok (of_decide_eq_true hbk)
    simp only [jv_br] at hq
    split at hq
    · simp only [Option.some.injEq, Prod.mk.injEq] at hq
      obtain ⟨rfl, rfl⟩ := hq
      exact lv_ifnonnullN hx hb hdg kk
    · simp only [Option.some.injEq, Prod.mk.injEq] at hq
      obtain ⟨rfl, rfl⟩ := hq
      exact lv_ifnonnull hx hb hdg ht kk
    · cases hq
  case tableswitch d lo hi offs =>
    simp only [jv_bok, Bool.and_eq_true, decide_eq_true_eq, List.all_eq_true] at hbk
    simp only [jv_br] at hq
    split at hq
    · rename_i x r
      split at hq
      · rename_i hc
        simp only [Option.some.injEq, Prod.mk.injEq] at hq
        obtain ⟨rfl, rfl⟩ := hq
        exact lv_tableOut hx hb hdg hc (jv_tg_ok hbk.1) kk
      · rename_i hc
        split at hq
        · rename_i off ho
          simp only [Option.some.injEq, Prod.mk.injEq] at hq
          obtain ⟨rfl, rfl⟩ := hq
          exact lv_tableIn hx hb hdg (fun z => hc (Or.inl z)) (fun z => hc (Or.inr z)) ho (jv_tg_ok (hbk.2 _ (by rw [← Array.getElem?_toList] at ho; exact List.mem_of_getElem? ho))) kk
        · cases hq
    · cases hq
  case lookupswitch d ps =>
    simp only [jv_bok, Bool.and_eq_true, decide_eq_true_eq, List.all_eq_true (l := ps.toList)] at hbk
    simp only [jv_br] at hq
    split at hq
    · rename_i x r
      simp only [Option.some.injEq, Prod.mk.injEq] at hq
      obtain ⟨rfl, rfl⟩ := hq
      refine lv_lookup hx hb hdg hbk.2.2 rfl (jv_tg_ok ?_) kk
      rcases jv_off_mem ps.toList d x.toInt with h | ⟨q, hq, h⟩
      · rw [h]; exact hbk.1
      · rw [h]; exact hbk.2.1 q hq
    · cases hq
  all_goals (simp only [jv_br] at hq; cases hq)
end JV6
