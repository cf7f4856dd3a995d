/-! part b01: the checker as a function of things, states and words (what the document's part CHECK says of one instruction) -/
abbrev vt_T : Type := Nat × Int × Int × vb_S
abbrev vt_T.sort (t : vt_T) : Nat := t.1
abbrev vt_T.det (t : vt_T) : Int := t.2.1
abbrev vt_T.org (t : vt_T) : Int := t.2.2.1
abbrev vt_T.val (t : vt_T) : vb_S := t.2.2.2
/-- nothing, with the bytes that are written -/
def vt_none (w : Nat) : vt_T := (0, (w : Int), -1, vb_any)
def vt_num (v : vb_S) : vt_T := (1, 0, -1, v)
def vt_ctx (c : Int) : vt_T := (2, c, -1, vb_any)
def vt_stk (c : Int) : vt_T := (3, c, -1, vb_any)
def vt_pkt (v : vb_S) : vt_T := (4, 0, -1, v)
def vt_end : vt_T := (5, 0, -1, vb_any)
def vt_map (k : Int) : vt_T := (6, k, -1, vb_any)
def vt_item (k : Int) (v : vb_S) : vt_T := (7, k, -1, v)
def vt_maybe (k t : Int) : vt_T := (8, k, t, vb_any)
def vt_has (s : Nat) : Bool := decide (s = 1) || decide (s = 4) || decide (s = 7)
/-- bytes of a slot that have numbers -/
def vt_wr (t : vt_T) : Nat := if t.sort = 0 then t.det.toNat else if t.sort = 1 then 255 else 0
/-- joined, or widened -/
def vt_meet (w : Bool) (t u : vt_T) : vt_T :=
  if t.sort ≠ 0 ∧ t.sort = u.sort ∧ t.det = u.det ∧ t.org = u.org then (if vt_has t.sort = true then (t.sort, t.det, t.org, vb_meet w t.val u.val) else t) else vt_none (vt_wr t &&& vt_wr u)
/-- registers 0 .. 10, slots 11 .. 74; how many bytes of the packet are known -/
abbrev vt_A : Type := (Nat → vt_T) × Int
def vt_up (A : vt_A) (r : Nat) (t : vt_T) : vt_A := (fun n => if n = r then t else A.1 n, A.2)
def vt_meetA (w : Bool) (A B : vt_A) : vt_A := (fun n => if n < 75 then vt_meet w (A.1 n) (B.1 n) else A.1 n, if B.2 < A.2 then B.2 else A.2)
def vt_start : vt_A := (fun n => if n = 1 then vt_ctx 0 else if n = 10 then vt_stk 0 else vt_none 0, 0)
/-- a word: code, d, s, o, i -/
abbrev vf_F : Type := Nat × Nat × Nat × Int × Int
abbrev vf_F.code (f : vf_F) : Nat := f.1
abbrev vf_F.d (f : vf_F) : Nat := f.2.1
abbrev vf_F.s (f : vf_F) : Nat := f.2.2.1
abbrev vf_F.o (f : vf_F) : Int := f.2.2.2.1
abbrev vf_F.i (f : vf_F) : Int := f.2.2.2.2
def vf_F.kind (f : vf_F) : Nat := f.code % 8
def vf_F.n (f : vf_F) : Nat := f.code / 16
def vf_F.bit3 (f : vf_F) : Bool := decide (f.code / 8 % 2 = 1)
def vf_F.z (f : vf_F) : Nat := if f.code / 8 % 4 = 0 then 4 else if f.code / 8 % 4 = 1 then 2 else if f.code / 8 % 4 = 2 then 1 else 8
def vf_F.mode (f : vf_F) : Nat := f.code / 32
/-- maps: kind (0 array, 1 table, 2 ring), size of a key, of a value -/
abbrev vf_M : Type := Nat → Option (Nat × Nat × Nat)
def vf_M.kind (M : vf_M) (k : Int) : Option Nat := (M k.toNat).map (fun e => e.1)
def vf_M.key (M : vf_M) (k : Int) : Nat := match M k.toNat with
  | some e => e.2.1
  | none => 0
def vf_M.value (M : vf_M) (k : Int) : Nat := match M k.toNat with
  | some e => e.2.2
  | none => 0
/-- the number i -/
def vx_just (i : Int) : vb_S := vb_just (BitVec.ofInt 64 i)
def vx_y (f : vf_F) (A : vt_A) : vt_T := if f.bit3 = true then A.1 f.s else vt_num (vx_just f.i)
/-- operations by the highest four bits of a code, as the class's vb_cOp has them -/
def vx_op (n : Nat) (x y : vb_S) (top : Nat) : vb_S := vb_tt (vb_cOp (vl_I n) x y top)
def vx_cut (x : vb_S) (m : Nat) : vb_S := vb_tt (vb_cCut x m)
def vx_ext (x : vb_S) (m : Nat) : vb_S := vb_tt (vb_cExt (vb_tt (vb_cCut x m)) m)
def vx_swap (x : vb_S) (m : Nat) : vb_S := vb_tt (vb_cSwap (vb_tt (vb_cCut x m)) m)
def vx_op32 (n : Nat) (x y : vb_S) : vb_S := vx_cut (vx_op n (if n = 12 then vx_ext x 32 else vx_cut x 32) (vx_cut y 32) 31) 32
/-- what a reckoning with numbers makes -/
def vx_reckon (f : vf_F) (x y : vb_S) : vb_S :=
  if f.n = 13 then (if f.kind = 7 ∨ f.bit3 = true then vx_swap x f.i.toNat else vx_cut x f.i.toNat)
  else if f.o ≠ 0 then vx_cut (if f.n = 11 then vx_ext y f.o.toNat else vb_any) (if f.kind = 7 then 64 else 32)
  else if f.n = 8 then (if f.kind = 7 then vx_op 1 (vb_just 0) x 63 else vx_op32 1 (vb_just 0) x)
  else (if f.kind = 7 then vx_op f.n x y 63 else vx_op32 f.n x y)
def vx_far : Int := 536870912
/-- a pointer and a number: a reason, or the thing -/
def vx_move (n : Nat) (d y : vt_T) : Nat × vt_T :=
  let b := if d.sort = 1 then y else d
  let x := if d.sort = 1 then d else y
  if x.sort ≠ 1 ∨ (n = 1 ∧ d.sort = 1) then (2, d)
  else if b.sort = 4 ∨ b.sort = 7 then
    (let v := vx_op n b.val x.val 63
     if v.least.toInt < -vx_far ∨ vx_far < v.greatest.toInt then (2, d) else (0, (b.sort, b.det, -1, v)))
  else if (b.sort ≠ 2 ∧ b.sort ≠ 3) ∨ x.val.low ≠ x.val.high then (2, d)
  else
    (let c := if n = 0 then b.det + x.val.low.toInt else b.det - x.val.low.toInt
     if c < -vx_far ∨ vx_far < c then (2, d) else (0, (b.sort, c, -1, vb_any)))
/-- arithmetic: a reason, or the state -/
def vx_arith (f : vf_F) (A : vt_A) : Nat × vt_A :=
  let d := A.1 f.d
  let y := vx_y f A
  let rd := decide (f.n ≠ 11)
  let ry := decide (f.n ≠ 8) && decide (f.n ≠ 13)
  if (rd = true ∧ d.sort = 0) ∨ (ry = true ∧ y.sort = 0) then (1, A)
  else if f.n = 11 ∧ f.kind = 7 ∧ f.o = 0 then (0, vt_up A f.d y)
  else if (rd = true ∧ d.sort ≠ 1) ∨ (ry = true ∧ y.sort ≠ 1) then
    (if f.kind = 7 ∧ (f.n = 0 ∨ f.n = 1) then (let r := vx_move f.n d y; if r.1 ≠ 0 then (r.1, A) else (0, vt_up A f.d r.2)) else (2, A))
  else (0, vt_up A f.d (vt_num (vx_reckon f d.val y.val)))
/-- whether so many bytes behind each number and o are among the first ones -/
def vx_within (v : vb_S) (o many first : Int) : Prop := 0 ≤ v.least.toInt + o ∧ v.greatest.toInt + o + many ≤ first
/-- why z bytes at o behind a thing can't be read, or written (of one that is not nothing) -/
def vx_reach (M : vf_M) (A : vt_A) (t : vt_T) (o : Int) (z : Nat) (writes : Bool) : Nat :=
  if t.sort = 2 then (if (if writes = true then 32 else if z = 8 then 0 else 16) ≤ t.det + o ∧ t.det + o ≤ 64 - (z : Int) ∧ (t.det + o) % (z : Int) = 0 then 0 else 4)
  else if t.sort = 3 then (if -512 ≤ t.det + o ∧ t.det + o ≤ -(z : Int) ∧ (t.det + o) % (z : Int) = 0 then 0 else 4)
  else if t.sort = 4 then (if 0 ≤ t.val.least.toInt + o ∧ t.val.greatest.toInt + o + z ≤ A.2 then 0 else 4)
  else if t.sort = 7 then (if 0 ≤ t.val.least.toInt + o ∧ t.val.greatest.toInt + o + z ≤ (M.value t.det : Int) then 0 else 4)
  else 3
/-- the slot of a byte of the stack -/
def vx_slot (a : Int) : Nat := 11 + ((a + 512) / 8).toNat
def vx_bit (a : Int) : Nat := (a % 8).toNat
/-- whether n bytes of the stack from a on all have numbers -/
def vx_nums (A : vt_A) (a : Int) (n : Nat) : Bool := (List.range n).all (fun k => (vt_wr (A.1 (vx_slot (a + k)))).testBit (vx_bit (a + k)))
/-- any number of z bytes, without or with sign -/
def vx_anyz (z : Nat) : vb_S := vx_cut vb_any (8 * z)
def vx_anys (z : Nat) : vb_S := vx_ext vb_any (8 * z)
def vx_load (M : vf_M) (f : vf_F) (A : vt_A) : Nat × vt_A :=
  let t := A.1 f.s
  let a := t.det + f.o
  let r := vx_reach M A t f.o f.z false
  let any := vt_num (if f.mode = 4 then vx_anys f.z else vx_anyz f.z)
  if t.sort = 0 then (1, A)
  else if r ≠ 0 then (r, A)
  else if t.sort = 2 ∧ a = 0 then (0, vt_up A f.d (vt_pkt (vb_just 0)))
  else if t.sort = 2 ∧ a = 8 then (0, vt_up A f.d vt_end)
  else if t.sort = 3 then
    (if f.z = 8 ∧ (A.1 (vx_slot a)).sort ≠ 0 then (0, vt_up A f.d (A.1 (vx_slot a)))
     else if vx_nums A a f.z = true then (0, vt_up A f.d any) else (5, A))
  else (0, vt_up A f.d any)
def vx_put (A : vt_A) (a : Int) (z : Nat) (y : vt_T) : vt_A :=
  if z = 8 then vt_up A (vx_slot a) y else vt_up A (vx_slot a) (vt_none (vt_wr (A.1 (vx_slot a)) ||| ((2 ^ z - 1) <<< vx_bit a)))
def vx_store (M : vf_M) (f : vf_F) (A : vt_A) : Nat × vt_A :=
  let d := A.1 f.d
  let y := if f.kind = 3 then A.1 f.s else vt_num (vx_just f.i)
  let r := vx_reach M A d f.o f.z true
  if d.sort = 0 ∨ y.sort = 0 then (1, A)
  else if r ≠ 0 then (r, A)
  else if y.sort ≠ 1 ∧ (d.sort ≠ 3 ∨ f.z ≠ 8) then (6, A)
  else if d.sort = 3 then (0, vx_put A (d.det + f.o) f.z y)
  else (0, A)
/-- whether an address is a multiple of z, as far as is known -/
def vx_even (v : vb_S) (o : Int) (z : Nat) : Bool := decide (v.mask &&& BitVec.ofNat 64 (z - 1) = BitVec.ofNat 64 (z - 1)) && decide ((v.ones + BitVec.ofInt 64 o) &&& BitVec.ofNat 64 (z - 1) = 0)
def vx_atomic (M : vf_M) (f : vf_F) (A : vt_A) : Nat × vt_A :=
  let d := A.1 f.d
  let y := A.1 f.s
  let q := A.1 0
  let ex := decide (f.i = 241)
  if d.sort = 0 ∨ y.sort = 0 ∨ (ex = true ∧ q.sort = 0) then (1, A)
  else if d.sort ≠ 7 then (3, A)
  else if vx_even d.val f.o f.z = false ∨ vx_reach M A d f.o f.z true ≠ 0 then (4, A)
  else if y.sort ≠ 1 ∨ (ex = true ∧ q.sort ≠ 1) then (6, A)
  else if f.i % 2 = 1 then (0, vt_up A (if ex = true then 0 else f.s) (vt_num (vx_anyz f.z)))
  else (0, A)
def vx_wide (M : vf_M) (f : vf_F) (i2 : Int) (A : vt_A) : Nat × vt_A :=
  if f.s = 0 then (0, vt_up A f.d (vt_num (vb_just (BitVec.ofInt 64 (i2 * 4294967296 + f.i % 4294967296)))))
  else if (M f.i.toNat).isSome = true then (0, vt_up A f.d (vt_map f.i)) else (8, A)
/-- things that are maybe with a place: found, or not -/
def vx_settle (A : vt_A) (place : Int) (found : Bool) : vt_A :=
  (fun n => if n < 75 ∧ (A.1 n).sort = 8 ∧ (A.1 n).org = place then (if found = true then vt_item (A.1 n).det (vb_just 0) else vt_num (vb_just 0)) else A.1 n, A.2)
def vx_know (A : vt_A) (k : Int) : vt_A := (A.1, if A.2 < k then k else A.2)
/-- the comparison of a jump -/
def vx_cmp (n : Nat) : Nat := match n with
  | 1 => 0 | 2 => 4 | 3 => 5 | 4 => 10 | 5 => 1 | 6 => 8 | 7 => 9 | 10 => 2 | 11 => 3 | 12 => 6 | _ => 7
def vx_small (v : vb_S) : Bool := decide (0 ≤ v.least.toInt) && decide (v.greatest.toInt ≤ 2147483647)
/-- a state with two numbers refined -/
def vx_refd (f : vf_F) (A : vt_A) (p : vb_S × vb_S) : vt_A :=
  if f.bit3 = true then vt_up (vt_up A f.d (vt_num p.1)) f.s (vt_num p.2) else vt_up A f.d (vt_num p.1)
/-- a jump by a condition: a reason; what falls through; what jumps -/
def vx_jump (f : vf_F) (A : vt_A) : Nat × Option vt_A × Option vt_A :=
  let d := A.1 f.d
  let y := vx_y f A
  let yv := if f.bit3 = true then y.val else if f.kind = 5 then vx_just f.i else vb_just (BitVec.ofInt 64 (f.i % 4294967296))
  if d.sort = 0 ∨ y.sort = 0 then (1, none, none)
  else if d.sort = 1 ∧ y.sort = 1 then
    (if f.bit3 = true ∧ f.d = f.s then (0, some A, some A)
     else if f.kind ≠ 5 ∧ ¬ (vx_small d.val = true ∧ vx_small yv = true) then (0, some A, some A)
     else (0, (vb_refine (vb_opp (vx_cmp f.n)) d.val yv).map (vx_refd f A), (vb_refine (vx_cmp f.n) d.val yv).map (vx_refd f A)))
  else if f.kind = 5 ∧ (f.n = 1 ∨ f.n = 5) ∧ d.sort = 8 ∧ y.sort = 1 ∧ y.val.low = 0 ∧ y.val.high = 0 then
    (0, some (vx_settle A d.org (decide (f.n = 1))), some (vx_settle A d.org (decide (f.n = 5))))
  else if f.kind = 5 ∧ (f.n = 2 ∨ f.n = 3 ∨ f.n = 10 ∨ f.n = 11) ∧ ((d.sort = 4 ∧ y.sort = 5) ∨ (d.sort = 5 ∧ y.sort = 4)) then
    (let pf := decide (d.sort = 4)
     let v := if pf = true then d.val else y.val
     let k := v.low.toInt
     if v.low ≠ v.high ∨ k < 0 then (0, some A, some A)
     else if f.n = 2 then (if pf = true then (0, some (vx_know A k), some A) else (0, some A, some (vx_know A (k + 1))))
     else if f.n = 3 then (if pf = true then (0, some (vx_know A (k + 1)), some A) else (0, some A, some (vx_know A k)))
     else if f.n = 10 then (if pf = true then (0, some A, some (vx_know A (k + 1))) else (0, some (vx_know A k), some A))
     else (if pf = true then (0, some A, some (vx_know A k)) else (0, some (vx_know A (k + 1)), some A)))
  else (2, none, none)
/-- why a register does not tell n bytes -/
def vx_tells (M : vf_M) (A : vt_A) (r : Nat) (n : Nat) : Nat :=
  let t := A.1 r
  if t.sort = 0 then 1
  else if t.sort = 4 then (if 0 ≤ t.val.least.toInt ∧ t.val.greatest.toInt + n ≤ A.2 then 0 else 4)
  else if t.sort = 7 then (if 0 ≤ t.val.least.toInt ∧ t.val.greatest.toInt + n ≤ (M.value t.det : Int) then 0 else 4)
  else if t.sort = 3 then (if t.det < -512 ∨ -(n : Int) < t.det then 4 else if vx_nums A t.det n = true then 0 else 5)
  else 3
def vx_isnum (A : vt_A) (r other : Nat) : Nat := if (A.1 r).sort = 1 then 0 else if (A.1 r).sort = 0 then 1 else other
def vx_then (a b : Nat) : Nat := if a ≠ 0 then a else b
/-- whether register 1 has a map that takes a call -/
def vx_ismap (M : vf_M) (A : vt_A) (call : Int) : Nat :=
  if (A.1 1).sort = 0 then 1
  else if (A.1 1).sort = 6 then (match M.kind (A.1 1).det with
    | some k => if (if call = 4 then k = 2 else if call = 3 then k = 1 else k ≠ 2) then 0 else 8
    | none => 8)
  else 8
def vx_allowed (M : vf_M) (A : vt_A) (call : Int) : Nat :=
  if call = 5 then 0
  else if call < 1 ∨ 6 < call then 7
  else if call = 6 then (if (A.1 1).sort = 0 then 1 else if (A.1 1).sort = 2 ∧ (A.1 1).det = 0 then vx_isnum A 2 8 else 8)
  else if call = 4 then
    vx_then (vx_ismap M A call) (vx_then (vx_isnum A 3 8) (vx_then (if (A.1 3).val.least.toInt < 1 ∨ 256 < (A.1 3).val.greatest.toInt then 8 else 0) (vx_tells M A 2 (A.1 3).val.greatest.toInt.toNat)))
  else if call = 2 then
    vx_then (vx_ismap M A call) (vx_then (vx_tells M A 2 (M.key (A.1 1).det)) (vx_then (vx_tells M A 3 (M.value (A.1 1).det)) (vx_isnum A 4 8)))
  else vx_then (vx_ismap M A call) (vx_tells M A 2 (M.key (A.1 1).det))
/-- things that a predicate names become nothing -/
def vx_drop (A : vt_A) (q : vt_T → Bool) : vt_A := (fun n => if n < 75 ∧ q (A.1 n) = true then vt_none 0 else A.1 n, A.2)
def vx_clear (A : vt_A) : vt_A := (fun n => if 1 ≤ n ∧ n ≤ 5 then vt_none 0 else A.1 n, A.2)
def vx_call (M : vf_M) (call : Int) (p : Nat) (A : vt_A) : Nat × vt_A :=
  let r := vx_allowed M A call
  let k := (A.1 1).det
  if r ≠ 0 then (r, A)
  else if call = 1 then (0, vt_up (vx_clear (vx_drop A (fun t => decide (t.sort = 8) && decide (t.org = (p : Int))))) 0 (vt_maybe k p))
  else if call = 6 then (0, vt_up (vx_clear ((vx_drop A (fun t => decide (t.sort = 4) || decide (t.sort = 5))).1, 0)) 0 (vt_num vb_any))
  else (0, vt_up (vx_clear A) 0 (vt_num vb_any))
/-- an instruction at p: a reason, and where what comes of it goes, in order -/
def vx_does (M : vf_M) (f : vf_F) (i2 : Int) (p : Nat) (A : vt_A) : Nat × List (Int × vt_A) :=
  let one := fun (r : Nat × vt_A) (q : Int) => if r.1 ≠ 0 then (r.1, []) else (0, [(q, r.2)])
  if f.kind = 0 then one (vx_wide M f i2 A) (p + 2)
  else if f.kind = 1 then one (vx_load M f A) (p + 1)
  else if f.kind = 2 then one (vx_store M f A) (p + 1)
  else if f.kind = 3 then one (if f.mode = 6 then vx_atomic M f A else vx_store M f A) (p + 1)
  else if f.kind = 4 ∨ f.kind = 7 then one (vx_arith f A) (p + 1)
  else if f.code = 5 then (0, [(p + 1 + f.o, A)])
  else if f.code = 6 then (0, [(p + 1 + f.i, A)])
  else if f.code = 133 then one (vx_call M f.i p A) (p + 1)
  else if f.code = 149 then (vx_isnum A 0 6, [])
  else
    (let r := vx_jump f A
     if r.1 ≠ 0 then (r.1, []) else (0, (match r.2.1 with | some B => [((p : Int) + 1, B)] | none => []) ++ (match r.2.2 with | some B => [((p : Int) + 1 + f.o, B)] | none => [])))
