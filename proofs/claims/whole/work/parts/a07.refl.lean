/-! part a07: what the refinements of rows leave (gen/ga08.py) -/
theorem vr_u209 (L : Nat → Nat → Int64) (P : Nat) (x : Int64) : jv_u L 209 P x = vr_set L P ⟨x.toBitVec, (vr_S L P).opn, (vr_S L P).low, (vr_S L P).high, (vr_S L P).least, (vr_S L P).greatest⟩ := by
  refine vr_eq ?_ (fun q i hq => vr_out hq rfl)
  unfold vr_S
  simp only [vl_at, vr_n209_210, vr_n209_211, vr_n209_212, vr_n209_213, vr_n209_214, vr_n210_209, vr_n210_211, vr_n210_212, vr_n210_213, vr_n210_214, vr_n211_209, vr_n211_210, vr_n211_212, vr_n211_213, vr_n211_214, vr_n212_209, vr_n212_210, vr_n212_211, vr_n212_213, vr_n212_214, vr_n213_209, vr_n213_210, vr_n213_211, vr_n213_212, vr_n213_214, vr_n214_209, vr_n214_210, vr_n214_211, vr_n214_212, vr_n214_213]
theorem vr_u210 (L : Nat → Nat → Int64) (P : Nat) (x : Int64) : jv_u L 210 P x = vr_set L P ⟨(vr_S L P).bits, x.toBitVec, (vr_S L P).low, (vr_S L P).high, (vr_S L P).least, (vr_S L P).greatest⟩ := by
  refine vr_eq ?_ (fun q i hq => vr_out hq rfl)
  unfold vr_S
  simp only [vl_at, vr_n209_210, vr_n209_211, vr_n209_212, vr_n209_213, vr_n209_214, vr_n210_209, vr_n210_211, vr_n210_212, vr_n210_213, vr_n210_214, vr_n211_209, vr_n211_210, vr_n211_212, vr_n211_213, vr_n211_214, vr_n212_209, vr_n212_210, vr_n212_211, vr_n212_213, vr_n212_214, vr_n213_209, vr_n213_210, vr_n213_211, vr_n213_212, vr_n213_214, vr_n214_209, vr_n214_210, vr_n214_211, vr_n214_212, vr_n214_213]
theorem vr_u211 (L : Nat → Nat → Int64) (P : Nat) (x : Int64) : jv_u L 211 P x = vr_set L P ⟨(vr_S L P).bits, (vr_S L P).opn, x.toBitVec, (vr_S L P).high, (vr_S L P).least, (vr_S L P).greatest⟩ := by
  refine vr_eq ?_ (fun q i hq => vr_out hq rfl)
  unfold vr_S
  simp only [vl_at, vr_n209_210, vr_n209_211, vr_n209_212, vr_n209_213, vr_n209_214, vr_n210_209, vr_n210_211, vr_n210_212, vr_n210_213, vr_n210_214, vr_n211_209, vr_n211_210, vr_n211_212, vr_n211_213, vr_n211_214, vr_n212_209, vr_n212_210, vr_n212_211, vr_n212_213, vr_n212_214, vr_n213_209, vr_n213_210, vr_n213_211, vr_n213_212, vr_n213_214, vr_n214_209, vr_n214_210, vr_n214_211, vr_n214_212, vr_n214_213]
theorem vr_u212 (L : Nat → Nat → Int64) (P : Nat) (x : Int64) : jv_u L 212 P x = vr_set L P ⟨(vr_S L P).bits, (vr_S L P).opn, (vr_S L P).low, x.toBitVec, (vr_S L P).least, (vr_S L P).greatest⟩ := by
  refine vr_eq ?_ (fun q i hq => vr_out hq rfl)
  unfold vr_S
  simp only [vl_at, vr_n209_210, vr_n209_211, vr_n209_212, vr_n209_213, vr_n209_214, vr_n210_209, vr_n210_211, vr_n210_212, vr_n210_213, vr_n210_214, vr_n211_209, vr_n211_210, vr_n211_212, vr_n211_213, vr_n211_214, vr_n212_209, vr_n212_210, vr_n212_211, vr_n212_213, vr_n212_214, vr_n213_209, vr_n213_210, vr_n213_211, vr_n213_212, vr_n213_214, vr_n214_209, vr_n214_210, vr_n214_211, vr_n214_212, vr_n214_213]
theorem vr_u213 (L : Nat → Nat → Int64) (P : Nat) (x : Int64) : jv_u L 213 P x = vr_set L P ⟨(vr_S L P).bits, (vr_S L P).opn, (vr_S L P).low, (vr_S L P).high, x.toBitVec, (vr_S L P).greatest⟩ := by
  refine vr_eq ?_ (fun q i hq => vr_out hq rfl)
  unfold vr_S
  simp only [vl_at, vr_n209_210, vr_n209_211, vr_n209_212, vr_n209_213, vr_n209_214, vr_n210_209, vr_n210_211, vr_n210_212, vr_n210_213, vr_n210_214, vr_n211_209, vr_n211_210, vr_n211_212, vr_n211_213, vr_n211_214, vr_n212_209, vr_n212_210, vr_n212_211, vr_n212_213, vr_n212_214, vr_n213_209, vr_n213_210, vr_n213_211, vr_n213_212, vr_n213_214, vr_n214_209, vr_n214_210, vr_n214_211, vr_n214_212, vr_n214_213]
theorem vr_u214 (L : Nat → Nat → Int64) (P : Nat) (x : Int64) : jv_u L 214 P x = vr_set L P ⟨(vr_S L P).bits, (vr_S L P).opn, (vr_S L P).low, (vr_S L P).high, (vr_S L P).least, x.toBitVec⟩ := by
  refine vr_eq ?_ (fun q i hq => vr_out hq rfl)
  unfold vr_S
  simp only [vl_at, vr_n209_210, vr_n209_211, vr_n209_212, vr_n209_213, vr_n209_214, vr_n210_209, vr_n210_211, vr_n210_212, vr_n210_213, vr_n210_214, vr_n211_209, vr_n211_210, vr_n211_212, vr_n211_213, vr_n211_214, vr_n212_209, vr_n212_210, vr_n212_211, vr_n212_213, vr_n212_214, vr_n213_209, vr_n213_210, vr_n213_211, vr_n213_212, vr_n213_214, vr_n214_209, vr_n214_210, vr_n214_211, vr_n214_212, vr_n214_213]
theorem vb_smax_comm (a b : BitVec 64) : vb_smax a b = vb_smax b a := by
  refine BitVec.eq_of_toInt_eq ?_
  rw [vb_smax_int, vb_smax_int]
  split <;> split <;> omega
theorem vb_smin_comm (a b : BitVec 64) : vb_smin a b = vb_smin b a := by
  refine BitVec.eq_of_toInt_eq ?_
  rw [vb_smin_int, vb_smin_int]
  split <;> split <;> omega
theorem vr_b_and1 (f : Bool) : vr_b f &&& 1 = vr_b f := by cases f <;> decide
theorem vr_b_or (f g : Bool) : (if ¬ vr_b f = 0 then (1 : Int32) else vr_b g) = vr_b (f || g) := by cases f <;> cases g <;> decide
theorem vr_b_dec (p : Prop) [Decidable p] : (if p then (0 : Int32) else 1) = vr_b (!decide p) := by
  by_cases h : p
  · rw [if_pos h, decide_eq_true h]; rfl
  · rw [if_neg h, decide_eq_false h]; rfl
theorem vr_b_ifs (s : Bool) (g : Bool) : (if vr_b s = 0 then (0 : Int32) else vr_b g) = vr_b (s && g) := by cases s <;> cases g <;> decide
theorem vr_b_sel (s : Bool) {α : Type} (a b : α) : (if vr_b s = 0 then a else b) = if s = true then b else a := by cases s <;> rfl
def vb_rboth (p q : vb_R) : vb_R := ⟨p.bits ||| q.bits, p.opn &&& q.opn, vb_larger p.low q.low, vb_lesser p.high q.high, vb_smax p.least q.least, vb_smin p.greatest q.greatest⟩
def vb_rclash (p q : vb_R) : Bool := !decide ((p.bits ^^^ q.bits) &&& (~~~p.opn &&& ~~~q.opn) = 0)
def vb_rdown (r : vb_R) (h : BitVec 64) : vb_R := ⟨r.bits, r.opn, r.low, vb_lesser r.high h, r.least, r.greatest⟩
def vb_rup (r : vb_R) (l : BitVec 64) : vb_R := ⟨r.bits, r.opn, vb_larger r.low l, r.high, r.least, r.greatest⟩
def vb_rdownS (r : vb_R) (h : BitVec 64) : vb_R := ⟨r.bits, r.opn, r.low, r.high, r.least, vb_smin r.greatest h⟩
def vb_rupS (r : vb_R) (l : BitVec 64) : vb_R := ⟨r.bits, r.opn, r.low, r.high, vb_smax r.least l, r.greatest⟩
def vb_rwithout (r : vb_R) (n : BitVec 64) : vb_R := ⟨r.bits, r.opn, if r.low = n then n + 1 else r.low, if r.high = n then n - 1 else r.high, if r.least = n then n + 1 else r.least, if r.greatest = n then n - 1 else r.greatest⟩
def vb_rforce (r : vb_R) (a b : BitVec 64) : vb_R := ⟨r.bits ||| a, r.opn &&& ~~~(a ||| b), r.low, r.high, r.least, r.greatest⟩
def vb_rlost (r : vb_R) (n : BitVec 64) : Bool := decide (r.low = r.high) && decide (r.low = n)
def vb_rforced (r : vb_R) (a b : BitVec 64) : Bool := !decide (r.bits &&& b = 0) || !decide (~~~(r.bits ||| r.opn) &&& a = 0)
theorem vr_both {K : Nat → Option (Nat × Nat)} {I : Nat → Nat → Int32} {L : Nat → Nat → Int64} {R : Nat → Nat → Value} (p q : Int32) (f : Bool) (hW : jv_rW K R) (hp : jv_ix p 77200) (hq : jv_ix q 77200) (hf : I 215 p.toNatClampNeg = vr_b f) {n sl : Nat} :
    jv_Ms 241 [.ref 208, .int p, .int q] (jv_H K I L R) n sl (none, jv_H K (jv_u I 215 p.toNatClampNeg (vr_b (f || vb_rclash (vr_S L p.toNatClampNeg) (vr_S L q.toNatClampNeg)))) (vr_set L p.toNatClampNeg (vb_rboth (vr_S L p.toNatClampNeg) (vr_S L q.toNatClampNeg))) R, n, sl) := by
  have H := jv_s241 (I := I) (L := L) (n := n) (sl := sl) p q hW hp hq _ rfl _ rfl _ rfl _ rfl _ rfl
  have e : (if ¬ (I 215 p.toNatClampNeg) = 0 then (1 : Int32) else (if ((((L 209 p.toNatClampNeg) ^^^ (L 209 q.toNatClampNeg)) &&& (((L 210 p.toNatClampNeg) ^^^ (-1 : Int64)) &&& ((L 210 q.toNatClampNeg) ^^^ (-1 : Int64)))) = (0 : Int64)) then (0 : Int32) else (1 : Int32))) &&& 1 = vr_b (f || vb_rclash (vr_S L p.toNatClampNeg) (vr_S L q.toNatClampNeg)) := by
    rw [hf, vr_b_dec, vr_b_or, vr_b_and1]
    unfold vb_rclash
    simp only [vl_eqb, Int64.toBitVec_and, Int64.toBitVec_xor, vl_x1, vl_zero]
    rfl
  rw [e, vr_six] at H
  refine (congrArg (fun Z => jv_Ms 241 [.ref 208, .int p, .int q] (jv_H K I L R) n sl (none, jv_H K (jv_u I 215 p.toNatClampNeg (vr_b (f || vb_rclash (vr_S L p.toNatClampNeg) (vr_S L q.toNatClampNeg)))) (vr_set L p.toNatClampNeg Z) R, n, sl)) ?_).mp H
  unfold vb_rboth
  simp only [Int64.toBitVec_and, Int64.toBitVec_or, vr_larger, vr_lesser, vr_smax2, vr_smin2]
  rw [vb_smax_comm]
  rfl
theorem vr_lose {K : Nat → Option (Nat × Nat)} {I : Nat → Nat → Int32} {L : Nat → Nat → Int64} {R : Nat → Nat → Value} (p : Int32) (v : Int64) (s f : Bool) (hW : jv_rW K R) (hp : jv_ix p 77200) (hf : I 215 p.toNatClampNeg = vr_b f) {n sl : Nat} :
    jv_Ms 242 [.ref 208, .int p, .int (vr_b s), .long v] (jv_H K I L R) n sl (none, jv_H K (jv_u I 215 p.toNatClampNeg (vr_b (f || (s && vb_rlost (vr_S L p.toNatClampNeg) v.toBitVec)))) (vr_set L p.toNatClampNeg (if (s && !vb_rlost (vr_S L p.toNatClampNeg) v.toBitVec) = true then vb_rwithout (vr_S L p.toNatClampNeg) v.toBitVec else vr_S L p.toNatClampNeg)) R, n, sl) := by
  have H := jv_s242 (I := I) (L := L) (n := n) (sl := sl) p (vr_b s) v hW hp _ rfl _ rfl _ rfl _ rfl _ rfl
  cases s
  · rw [show (f || (false && vb_rlost (vr_S L p.toNatClampNeg) v.toBitVec)) = f by cases f <;> rfl, ← hf, vr_u_same rfl]
    rw [if_neg (show ¬ (false && !vb_rlost (vr_S L p.toNatClampNeg) v.toBitVec) = true by simp), vr_set_same]
    simpa [vr_b] using H
  · have t1 : (if ¬ (L 211 p.toNatClampNeg) = (L 212 p.toNatClampNeg) then (0 : Int32) else 1) = 0 ↔ ¬ (L 211 p.toNatClampNeg) = (L 212 p.toNatClampNeg) := by
      by_cases h : (L 211 p.toNatClampNeg) = (L 212 p.toNatClampNeg) <;> simp [h]
    simp only [show ¬ vr_b true = 0 from by decide, not_false_eq_true, if_true, t1] at H
    have w : jv_u (jv_u (jv_u (jv_u L 211 p.toNatClampNeg (if (¬ (L 211 p.toNatClampNeg) = v) then (L 211 p.toNatClampNeg) else (v + (1 : Int64)))) 212 p.toNatClampNeg (if (¬ (L 212 p.toNatClampNeg) = v) then (L 212 p.toNatClampNeg) else (v - (1 : Int64)))) 213 p.toNatClampNeg (if (¬ (L 213 p.toNatClampNeg) = v) then (L 213 p.toNatClampNeg) else (v + (1 : Int64)))) 214 p.toNatClampNeg (if (¬ (L 214 p.toNatClampNeg) = v) then (L 214 p.toNatClampNeg) else (v - (1 : Int64))) = vr_set L p.toNatClampNeg (vb_rwithout (vr_S L p.toNatClampNeg) v.toBitVec) := by
      rw [vr_u211, vr_u212, vr_u213, vr_u214]
      simp only [vr_set_S, vr_set_set]
      unfold vb_rwithout
      refine congrArg (vr_set L p.toNatClampNeg) (vb_R_ext rfl rfl ?_ ?_ ?_ ?_)
      all_goals
        simp only [vl_ite, Int64.toBitVec_add, Int64.toBitVec_sub, vl_one, vl_eqb]
        show (if ¬ _ then _ else _) = (if _ then _ else _)
        split <;> split <;> first | rfl | contradiction | (exfalso; simp_all)
    rw [w] at H
    unfold vb_rlost
    by_cases c1 : (L 211 p.toNatClampNeg) = (L 212 p.toNatClampNeg)
    · have c1' : (vr_S L p.toNatClampNeg).low = (vr_S L p.toNatClampNeg).high := congrArg Int64.toBitVec c1
      by_cases c2 : (L 211 p.toNatClampNeg) = v
      · have c2' : (vr_S L p.toNatClampNeg).low = v.toBitVec := congrArg Int64.toBitVec c2
        simp only [c1, c2, not_true, if_false] at H
        rw [← c1, c2] at H
        simp only [not_true, if_false] at H
        simp only [c1', c2', decide_true, Bool.and_self, Bool.not_true, Bool.and_false, Bool.false_eq_true, if_false, vr_set_same, Bool.or_true, Bool.true_and]
        rw [← c1', c2']
        simp only [decide_true, Bool.and_self, Bool.not_true, Bool.and_false, Bool.false_eq_true, if_false, vr_set_same, Bool.or_true, Bool.true_and]
        exact H
      · have c2' : ¬ (vr_S L p.toNatClampNeg).low = v.toBitVec := fun h => c2 (Int64.toBitVec_inj.mp h)
        have d2 : decide ((vr_S L p.toNatClampNeg).low = v.toBitVec) = false := decide_eq_false c2'
        rw [d2]
        simp only [Bool.and_false, Bool.not_false, Bool.and_true, if_true, Bool.or_false]
        rw [← hf, vr_u_same rfl]
        simp only [c2, not_false_eq_true, if_true] at H
        simpa using H
    · have c1' : ¬ (vr_S L p.toNatClampNeg).low = (vr_S L p.toNatClampNeg).high := fun h => c1 (Int64.toBitVec_inj.mp h)
      have d1 : decide ((vr_S L p.toNatClampNeg).low = (vr_S L p.toNatClampNeg).high) = false := decide_eq_false c1'
      rw [d1]
      simp only [Bool.false_and, Bool.and_false, Bool.not_false, Bool.and_true, if_true, Bool.or_false]
      rw [← hf, vr_u_same rfl]
      simp only [c1, not_false_eq_true, if_true] at H
      exact H
theorem vr_order {K : Nat → Option (Nat × Nat)} {I : Nat → Nat → Int32} {L : Nat → Nat → Int64} {R : Nat → Nat → Value} (p q : Int32) (a b : Int64) (s f g : Bool) (hW : jv_rW K R) (hp : jv_ix p 77200) (hq : jv_ix q 77200) (hpq : q.toNatClampNeg ≠ p.toNatClampNeg) (hf : I 215 p.toNatClampNeg = vr_b f) (hg : I 215 q.toNatClampNeg = vr_b g) {n sl : Nat} :
    jv_Ms 243 [.ref 208, .int p, .int q, .long a, .long b, .int (vr_b s)] (jv_H K I L R) n sl (none, jv_H K (jv_u (jv_u I 215 p.toNatClampNeg (vr_b (f || (s && decide (a.toBitVec = 0))))) 215 q.toNatClampNeg (vr_b (g || (s && decide (b.toBitVec = vb_m1)))))
      (vr_set (vr_set L p.toNatClampNeg (vb_rdown (vr_S L p.toNatClampNeg) (if s = true ∧ a.toBitVec ≠ 0 then a.toBitVec - 1 else a.toBitVec))) q.toNatClampNeg (vb_rup (vr_S L q.toNatClampNeg) (if s = true ∧ b.toBitVec ≠ vb_m1 then b.toBitVec + 1 else b.toBitVec))) R, n, sl) := by
  have H := jv_s243 (I := I) (L := L) (n := n) (sl := sl) p q a b (vr_b s) hW hp hq _ rfl _ rfl _ rfl _ rfl _ rfl _ rfl
  have n1 : ∀ c : Prop, ∀ [Decidable c], (if ¬ c then (0 : Int32) else 1) = vr_b (decide c) := by
    intro c _
    by_cases h : c <;> simp [h, vr_b]
  rw [jv_u_j _ _ _ _ hpq, hf, hg, n1, n1, vr_b_ifs, vr_b_ifs, vr_b_or, vr_b_or, vr_b_and1, vr_b_and1, vr_u212, vr_u211, vr_set_o hpq] at H
  simp only [vl_eqb, vl_zero, vl_m1, vr_larger, vr_lesser] at H
  refine (congrArg (fun Z => jv_Ms 243 [.ref 208, .int p, .int q, .long a, .long b, .int (vr_b s)] (jv_H K I L R) n sl (none, jv_H K (jv_u (jv_u I 215 p.toNatClampNeg (vr_b (f || (s && decide (a.toBitVec = 0))))) 215 q.toNatClampNeg (vr_b (g || (s && decide (b.toBitVec = vb_m1))))) Z R, n, sl)) ?_).mp H
  have e1 : (if vr_b s = 0 then a else if a.toBitVec = 0 then a else a - (1 : Int64)).toBitVec = if s = true ∧ a.toBitVec ≠ 0 then a.toBitVec - 1 else a.toBitVec := by
    cases s
    · rw [if_pos (show vr_b false = 0 from rfl), if_neg (fun z => absurd z.1 (by decide))]
    · by_cases h : a.toBitVec = 0
      · rw [if_neg (show ¬ vr_b true = 0 by decide), if_pos h, if_neg (fun z => z.2 h)]
      · rw [if_neg (show ¬ vr_b true = 0 by decide), if_neg h, if_pos ⟨rfl, h⟩]
        rfl
  have e2 : (if vr_b s = 0 then b else if b.toBitVec = vb_m1 then b else b + (1 : Int64)).toBitVec = if s = true ∧ b.toBitVec ≠ vb_m1 then b.toBitVec + 1 else b.toBitVec := by
    cases s
    · rw [if_pos (show vr_b false = 0 from rfl), if_neg (fun z => absurd z.1 (by decide))]
    · by_cases h : b.toBitVec = vb_m1
      · rw [if_neg (show ¬ vr_b true = 0 by decide), if_pos h, if_neg (fun z => z.2 h)]
      · rw [if_neg (show ¬ vr_b true = 0 by decide), if_neg h, if_pos ⟨rfl, h⟩]
        rfl
  rw [e1, e2]
  rfl
theorem vr_orderLongs {K : Nat → Option (Nat × Nat)} {I : Nat → Nat → Int32} {L : Nat → Nat → Int64} {R : Nat → Nat → Value} (p q : Int32) (a b : Int64) (s f g : Bool) (hW : jv_rW K R) (hp : jv_ix p 77200) (hq : jv_ix q 77200) (hpq : q.toNatClampNeg ≠ p.toNatClampNeg) (hf : I 215 p.toNatClampNeg = vr_b f) (hg : I 215 q.toNatClampNeg = vr_b g) {n sl : Nat} :
    jv_Ms 244 [.ref 208, .int p, .int q, .long a, .long b, .int (vr_b s)] (jv_H K I L R) n sl (none, jv_H K (jv_u (jv_u I 215 p.toNatClampNeg (vr_b (f || (s && decide (a.toBitVec = vb_top_))))) 215 q.toNatClampNeg (vr_b (g || (s && decide (b.toBitVec = vb_most)))))
      (vr_set (vr_set L p.toNatClampNeg (vb_rdownS (vr_S L p.toNatClampNeg) (if s = true ∧ a.toBitVec ≠ vb_top_ then a.toBitVec - 1 else a.toBitVec))) q.toNatClampNeg (vb_rupS (vr_S L q.toNatClampNeg) (if s = true ∧ b.toBitVec ≠ vb_most then b.toBitVec + 1 else b.toBitVec))) R, n, sl) := by
  have H := jv_s244 (I := I) (L := L) (n := n) (sl := sl) p q a b (vr_b s) hW hp hq _ rfl _ rfl _ rfl _ rfl _ rfl _ rfl _ rfl _ rfl
  have n1 : ∀ c : Prop, ∀ [Decidable c], (if ¬ c then (0 : Int32) else 1) = vr_b (decide c) := by
    intro c _
    by_cases h : c <;> simp [h, vr_b]
  rw [jv_u_j _ _ _ _ hpq, hf, hg, n1, n1, vr_b_ifs, vr_b_ifs, vr_b_or, vr_b_or, vr_b_and1, vr_b_and1, vr_u214, vr_u213, vr_set_o hpq] at H
  simp only [vl_eqb, vl_top, vl_most, vr_smax2, vr_smin2] at H
  refine (congrArg (fun Z => jv_Ms 244 [.ref 208, .int p, .int q, .long a, .long b, .int (vr_b s)] (jv_H K I L R) n sl (none, jv_H K (jv_u (jv_u I 215 p.toNatClampNeg (vr_b (f || (s && decide (a.toBitVec = vb_top_))))) 215 q.toNatClampNeg (vr_b (g || (s && decide (b.toBitVec = vb_most))))) Z R, n, sl)) ?_).mp H
  have e1 : (if vr_b s = 0 then a else if a.toBitVec = vb_top_ then a else a - (1 : Int64)).toBitVec = if s = true ∧ a.toBitVec ≠ vb_top_ then a.toBitVec - 1 else a.toBitVec := by
    cases s
    · rw [if_pos (show vr_b false = 0 from rfl), if_neg (fun z => absurd z.1 (by decide))]
    · by_cases h : a.toBitVec = vb_top_
      · rw [if_neg (show ¬ vr_b true = 0 by decide), if_pos h, if_neg (fun z => z.2 h)]
      · rw [if_neg (show ¬ vr_b true = 0 by decide), if_neg h, if_pos ⟨rfl, h⟩]
        rfl
  have e2 : (if vr_b s = 0 then b else if b.toBitVec = vb_most then b else b + (1 : Int64)).toBitVec = if s = true ∧ b.toBitVec ≠ vb_most then b.toBitVec + 1 else b.toBitVec := by
    cases s
    · rw [if_pos (show vr_b false = 0 from rfl), if_neg (fun z => absurd z.1 (by decide))]
    · by_cases h : b.toBitVec = vb_most
      · rw [if_neg (show ¬ vr_b true = 0 by decide), if_pos h, if_neg (fun z => z.2 h)]
      · rw [if_neg (show ¬ vr_b true = 0 by decide), if_neg h, if_pos ⟨rfl, h⟩]
        rfl
  rw [e1, e2]
  unfold vb_rdownS vb_rupS
  rw [vb_smax_comm]
  rfl
theorem vr_force {K : Nat → Option (Nat × Nat)} {I : Nat → Nat → Int32} {L : Nat → Nat → Int64} {R : Nat → Nat → Value} (p : Int32) (a b : Int64) (f : Bool) (hW : jv_rW K R) (hp : jv_ix p 77200) (hf : I 215 p.toNatClampNeg = vr_b f) {n sl : Nat} :
    jv_Ms 246 [.ref 208, .int p, .long a, .long b] (jv_H K I L R) n sl (none, jv_H K (jv_u I 215 p.toNatClampNeg (vr_b (f || vb_rforced (vr_S L p.toNatClampNeg) a.toBitVec b.toBitVec))) (vr_set L p.toNatClampNeg (vb_rforce (vr_S L p.toNatClampNeg) a.toBitVec b.toBitVec)) R, n, sl) := by
  have H := jv_s246 (I := I) (L := L) (n := n) (sl := sl) p a b hW hp _ rfl _ rfl _ rfl
  have n2 : ∀ c : Prop, ∀ [Decidable c] (g : Bool), (if ¬ c then (1 : Int32) else vr_b g) = vr_b (!decide c || g) := by
    intro c _ g
    by_cases h : c <;> simp [h, vr_b]
  rw [hf, vr_b_dec, n2, vr_b_or, vr_b_and1, vr_u209, vr_u210, vr_set_S, vr_set_set] at H
  simp only [vl_eqb, Int64.toBitVec_and, Int64.toBitVec_or, Int64.toBitVec_xor, vl_x1, vl_zero] at H
  exact H