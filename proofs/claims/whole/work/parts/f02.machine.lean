/-! part f02: the machine as a function (what the document's parts RUN and MAPS say), strict: none where a breach would be (a hand text: this part is the source) -/
/-- longs: 0 registers, 1 the clock (at 0); numbers: 0 scalars (0 the packet's size, 1 maps, 2 the area that is given), 1 which registers are given, 2 the stack, 3 which bytes of it are written, 4 the packet, 5 the context, 6 the area, 7 which entries of tables were found (4096 k + e), 8 kinds, 9 keys, 10 values, 11 entries, 12 begins, 13 which entries are taken (4096 k + e), 14 keys' bytes (131072 k + 32 e + j), 15 heads, 16 tails, 17 records, 18 broken, 19 the desk -/
abbrev vm_S : Type := (Nat → Nat → Int64) × (Nat → Nat → Nat)
def vm_fill (n : Nat) : Nat := (n + 7) / 8 * 8
abbrev vm_ins (a lo n : Int) : Prop := lo ≤ a ∧ a < lo + n
abbrev vm_size (S : vm_S) : Nat := S.2 0 0
abbrev vm_cnt (S : vm_S) : Nat := S.2 0 1
/-- where an entry's value begins, in the area -/
abbrev vm_at (S : vm_S) (k e : Nat) : Nat := S.2 12 k + e * vm_fill (S.2 10 k)
/-- whether a byte of the area is one of a value that was found -/
def vm_led (S : vm_S) (q : Nat) : Prop := ∃ k e, k < vm_cnt S ∧ S.2 8 k ≠ 2 ∧ e < S.2 11 k ∧ vm_at S k e ≤ q ∧ q < vm_at S k e + S.2 10 k ∧ (S.2 8 k = 0 ∨ S.2 7 (4096 * k + e) = 1)
/-- the byte at an address (SE: the stack's end, AB: where the area begins) -/
noncomputable def vm_get (SE AB : Int) (S : vm_S) (a : Int64) : Option Nat :=
  haveI := Classical.propDecidable (vm_led S (a.toInt - AB).toNat)
  if vm_ins a.toInt (SE - 512) 512 then (if S.2 3 (a.toInt - (SE - 512)).toNat = 1 then some (S.2 2 (a.toInt - (SE - 512)).toNat) else none)
  else if vm_ins a.toInt 1073741824 (vm_size S) then some (S.2 4 (a.toInt - 1073741824).toNat)
  else if vm_ins a.toInt 1073745920 64 then (if 16 ≤ a.toInt - 1073745920 then some (S.2 5 (a.toInt - 1073745920).toNat) else none)
  else if vm_ins a.toInt AB 65536 ∧ vm_led S (a.toInt - AB).toNat then some (S.2 6 (a.toInt - AB).toNat) else none
noncomputable def vm_put (SE AB : Int) (S : vm_S) (a : Int64) (b : Nat) : Option vm_S :=
  haveI := Classical.propDecidable (vm_led S (a.toInt - AB).toNat)
  if vm_ins a.toInt (SE - 512) 512 then some (S.1, jv_u (jv_u S.2 2 (a.toInt - (SE - 512)).toNat b) 3 (a.toInt - (SE - 512)).toNat 1)
  else if vm_ins a.toInt 1073741824 (vm_size S) then some (S.1, jv_u S.2 4 (a.toInt - 1073741824).toNat b)
  else if vm_ins a.toInt 1073745920 64 then (if 16 ≤ a.toInt - 1073745920 then some (S.1, jv_u S.2 5 (a.toInt - 1073745920).toNat b) else none)
  else if vm_ins a.toInt AB 65536 ∧ vm_led S (a.toInt - AB).toNat then some (S.1, jv_u S.2 6 (a.toInt - AB).toNat b) else none
/-- the k-th byte behind an address -/
abbrev vm_nx (a : Int64) (k : Nat) : Int64 := a + Int64.ofNat k
def vm_all (SE AB : Int) (S : vm_S) (a : Int64) (n : Nat) : Prop := ∀ k, k < n → ∃ b, vm_get SE AB S (vm_nx a k) = some b
/-- the bytes from an address on -/
noncomputable def vm_row (SE AB : Int) (S : vm_S) (a : Int64) : Nat → Nat := fun k => (vm_get SE AB S (vm_nx a k)).getD 0
/-- the number of n bytes at an address -/
noncomputable def vm_num (SE AB : Int) (S : vm_S) (a : Int64) (n : Nat) : Option Nat :=
  haveI := Classical.propDecidable (vm_all SE AB S a n)
  if n = 8 ∧ a.toInt = 1073745920 then some 1073741824
  else if n = 8 ∧ a.toInt = 1073745928 then some (1073741824 + vm_size S)
  else if vm_all SE AB S a n then some (vm_le (vm_row SE AB S a) 0 n) else none
/-- bytes f are put from an address on -/
noncomputable def vm_keep (SE AB : Int) (S : vm_S) (a : Int64) (f : Nat → Nat) : Nat → Option vm_S
  | 0 => some S
  | n + 1 => (vm_keep SE AB S a f n).bind (fun T => vm_put SE AB T (vm_nx a n) (f n))
/-- stack and context are touched at multiples alone -/
abbrev vm_even (SE : Int) (a : Int64) (z : Nat) : Prop := vm_ins a.toInt (SE - 512) 512 ∨ vm_ins a.toInt 1073745920 64 → a.toInt % (z : Int) = 0
def vm_rd (S : vm_S) (r : Nat) : Option Int64 := if S.2 1 r = 1 then some (S.1 0 r) else none
def vm_gv (S : vm_S) (r : Nat) (v : Int64) : vm_S := (jv_u S.1 0 r v, jv_u S.2 1 r 1)
/-- the number i -/
abbrev vm_i (i : Int) : Int64 := Int64.ofBitVec (BitVec.ofInt 64 i)
/-- a long, of its lowest n bits with their sign -/
def vm_sx (x : BitVec 64) (n : Nat) : BitVec 64 := if n = 64 then x else vb_sext (x &&& vb_lowest n) n
/-- what a division, or a rest, with signs makes -/
def vm_sg (f : vf_F) (x y : BitVec 64) : BitVec 64 :=
  let a := if f.kind = 7 then x else vm_sx x 32
  let b := if f.kind = 7 then y else vm_sx y 32
  if f.n = 3 then a.sdiv b else a - a.sdiv b * b
noncomputable def vm_arith (f : vf_F) (S : vm_S) : Option vm_S :=
  (if f.n = 11 then some 0 else vm_rd S f.d).bind fun x =>
    (if f.n = 13 then some 0 else if f.bit3 = true then vm_rd S f.s else some (vm_i f.i)).bind fun y =>
      some (vm_gv S f.d (Int64.ofBitVec (vx_do f x.toBitVec y.toBitVec (vm_sg f x.toBitVec y.toBitVec))))
noncomputable def vm_load (SE AB : Int) (f : vf_F) (S : vm_S) : Option vm_S :=
  (vm_rd S f.s).bind fun b => if vm_even SE (b + vm_i f.o) f.z then (vm_num SE AB S (b + vm_i f.o) f.z).map fun v => vm_gv S f.d (if f.mode = 4 then Int64.ofBitVec (vm_sx (BitVec.ofNat 64 v) (8 * f.z)) else vm_J v) else none
noncomputable def vm_store (SE AB : Int) (f : vf_F) (S : vm_S) : Option vm_S :=
  (vm_rd S f.d).bind fun b => (if f.kind = 2 then some (vm_i f.i) else vm_rd S f.s).bind fun v => if vm_even SE (b + vm_i f.o) f.z then vm_keep SE AB S (b + vm_i f.o) (vm_bt v) f.z else none
/-- what stands there after an atomic instruction -/
def vm_new (f : vf_F) (old y zero : BitVec 64) : BitVec 64 :=
  if f.i = 0 ∨ f.i = 1 then old + y else if f.i = 64 ∨ f.i = 65 then old ||| y else if f.i = 80 ∨ f.i = 81 then old &&& y else if f.i = 160 ∨ f.i = 161 then old ^^^ y else if f.i = 225 then y else if old = zero &&& vb_lowest (8 * f.z) then y else old
noncomputable def vm_atomic (SE AB : Int) (f : vf_F) (S : vm_S) : Option vm_S :=
  (vm_rd S f.d).bind fun b => (vm_rd S f.s).bind fun y => (if f.i = 241 then vm_rd S 0 else some 0).bind fun q =>
    if (b + vm_i f.o).toInt % (f.z : Int) = 0 then
      (vm_num SE AB S (b + vm_i f.o) f.z).bind fun old => (vm_keep SE AB S (b + vm_i f.o) (vm_bt (Int64.ofBitVec (vm_new f (BitVec.ofNat 64 old) y.toBitVec q.toBitVec))) f.z).map fun T =>
        if f.i = 241 then vm_gv T 0 (vm_J old) else if f.i % 2 = 1 then vm_gv T f.s (vm_J old) else T
    else none
/-- whether a jump goes -/
noncomputable def vm_so (f : vf_F) (x y : BitVec 64) : Bool :=
  haveI := Classical.propDecidable (vb_cmp (vx_cmp f.n) (if f.kind = 5 then x else vm_sx x 32) (if f.kind = 5 then y else vm_sx y 32))
  decide (vb_cmp (vx_cmp f.n) (if f.kind = 5 then x else vm_sx x 32) (if f.kind = 5 then y else vm_sx y 32))
noncomputable def vm_jump (f : vf_F) (p : Nat) (S : vm_S) : Option Int :=
  (vm_rd S f.d).bind fun x => (if f.bit3 = true then vm_rd S f.s else some (vm_i f.i)).bind fun y => some (if vm_so f x.toBitVec y.toBitVec = true then p + 1 + f.o else p + 1)
/-! maps -/
/-- whether an entry of a table has a key -/
def vm_has (S : vm_S) (k : Nat) (key : Nat → Nat) (e : Nat) : Bool := decide (S.2 13 (4096 * k + e) = 1) && (List.range (S.2 9 k)).all fun j => decide (S.2 14 (131072 * k + 32 * e + j) = key j)
def vm_look (S : vm_S) (k : Nat) (key : Nat → Nat) : Nat := vf_fi (fun e => !vm_has S k key e) (S.2 11 k) 0
/-- the entry that has a key -/
def vm_ent (S : vm_S) (k : Nat) (key : Nat → Nat) : Option Nat :=
  if S.2 8 k = 0 then (if vm_le key 0 4 < S.2 11 k then some (vm_le key 0 4) else none) else (if vm_look S k key < S.2 11 k then some (vm_look S k key) else none)
/-- the first entry that is free -/
def vm_free (S : vm_S) (k : Nat) : Nat := vf_fi (fun e => decide (S.2 13 (4096 * k + e) = 1)) (S.2 11 k) 0
def vm_write (S : vm_S) (k e : Nat) (val : Nat → Nat) : vm_S := (S.1, vm_wr S.2 6 (vm_at S k e) (S.2 10 k) val)
/-- the table's entry e gets a key -/
def vm_take (S : vm_S) (k e : Nat) (key : Nat → Nat) : vm_S := (S.1, vm_wr (jv_u S.2 13 (4096 * k + e) 1) 14 (131072 * k + 32 * e) (S.2 9 k) key)
def vm_upd (S : vm_S) (k : Nat) (key val : Nat → Nat) (flags : Int) : Int × vm_S :=
  if flags < 0 ∨ 2 < flags then (-22, S)
  else match vm_ent S k key with
    | some e => if flags = 1 then (-17, S) else (0, vm_write S k e val)
    | none => if S.2 8 k = 0 then (-7, S) else if flags = 2 then (-2, S) else if vm_free S k < S.2 11 k then (0, vm_write (vm_take S k (vm_free S k) key) k (vm_free S k) val) else (-7, S)
def vm_drop (S : vm_S) (k : Nat) (key : Nat → Nat) : Int × vm_S :=
  match vm_ent S k key with
    | some e => (0, (S.1, jv_u S.2 13 (4096 * k + e) 0))
    | none => (-2, S)
/-- n cells of a ring are put in anew, from a count on -/
def vm_ring {α : Type} (A : Nat → Nat → α) (r begin len c : Nat) (f : Nat → α) : Nat → (Nat → Nat → α)
  | 0 => A
  | n + 1 => jv_u (vm_ring A r begin len c f n) r (begin + (c + n) % len) (f n)
/-- the bytes of a record -/
def vm_rec (n records : Nat) (data : Nat → Nat) (j : Nat) : Nat := if j < 4 then n / 256 ^ j % 256 else if j < 8 then records / 256 ^ (j - 4) % 256 else if j < 8 + n then data (j - 8) else 0
def vm_send (S : vm_S) (k : Nat) (data : Nat → Nat) (n : Nat) : Int × vm_S :=
  if S.2 18 k = 1 then (-22, S)
  else if S.2 11 k < S.2 15 k - S.2 16 k + (8 + vm_fill n) then (-11, S)
  else (0, (S.1, jv_u (jv_u (vm_ring S.2 6 (S.2 12 k) (S.2 11 k) (S.2 15 k) (vm_rec n (S.2 17 k) data) (8 + vm_fill n)) 15 k (S.2 15 k + (8 + vm_fill n))) 17 k (S.2 17 k + 1)))
/-- registers 1 to 5 have nothing, and 0 an answer -/
def vm_ans (S : vm_S) (v : Int64) : vm_S := vm_gv (S.1, fun c i => if c = 1 ∧ 1 ≤ i ∧ i ≤ 5 then 0 else S.2 c i) 0 v
/-- the map that register 1 has -/
def vm_map (S : vm_S) : Option Nat := (vm_rd S 1).bind fun m => if 0 ≤ m.toInt ∧ m.toInt < vm_cnt S then some m.toInt.toNat else none
noncomputable def vm_gat (SE AB : Int) (S : vm_S) (r n : Nat) : Option (Nat → Nat) :=
  (vm_rd S r).bind fun a => (haveI := Classical.propDecidable (vm_all SE AB S a n); if vm_all SE AB S a n then some (fun i => if i < n then vm_row SE AB S a i else 0) else none)
noncomputable def vm_call (SE AB : Int) (i : Int) (S : vm_S) : Option vm_S :=
  if i = 5 then some (vm_ans (jv_u S.1 1 0 (S.1 1 0 + 1), S.2) (S.1 1 0))
  else if i = 6 then (vm_rd S 1).bind fun c => (vm_rd S 2).bind fun n => if c.toInt = 1073745920 then (if 0 ≤ n.toInt ∧ n.toInt ≤ vm_size S then some (vm_ans (S.1, jv_u S.2 0 0 n.toInt.toNat) 0) else some (vm_ans S (-22))) else none
  else (vm_map S).bind fun k =>
    if i = 1 then (if S.2 8 k = 2 then none else (vm_gat SE AB S 2 (S.2 9 k)).map fun key => match vm_ent S k key with
      | none => vm_ans S 0
      | some e => vm_ans (if S.2 8 k = 0 then S else (S.1, jv_u S.2 7 (4096 * k + e) 1)) (vm_i (AB + vm_at S k e)))
    else if i = 2 then (if S.2 8 k = 2 then none else (vm_gat SE AB S 2 (S.2 9 k)).bind fun key => (vm_gat SE AB S 3 (S.2 10 k)).bind fun val => (vm_rd S 4).map fun fl => vm_ans (vm_upd S k key val fl.toInt32.toInt).2 (vm_i (vm_upd S k key val fl.toInt32.toInt).1))
    else if i = 3 then (if S.2 8 k = 1 then (vm_gat SE AB S 2 (S.2 9 k)).map fun key => vm_ans (vm_drop S k key).2 (vm_i (vm_drop S k key).1) else none)
    else if i = 4 then (if S.2 8 k = 2 then (vm_rd S 3).bind fun m => if 1 ≤ m.toInt ∧ m.toInt ≤ 256 then (vm_gat SE AB S 2 m.toInt.toNat).map fun data => vm_ans (vm_send S k data m.toInt.toNat).2 (vm_i (vm_send S k data m.toInt.toNat).1) else none else none)
    else none
/-- one instruction that is no exit: the place behind, and what there is then -/
noncomputable def vm_step (SE AB : Int) (f : vf_F) (i2 : Int) (p : Nat) (S : vm_S) : Option (Int × vm_S) :=
  if f.kind = 0 then some ((p : Int) + 2, vm_gv S f.d (vm_i (i2 * 4294967296 + f.i % 4294967296)))
  else if f.kind = 1 then (vm_load SE AB f S).map fun T => ((p : Int) + 1, T)
  else if f.kind = 2 then (vm_store SE AB f S).map fun T => ((p : Int) + 1, T)
  else if f.kind = 3 then (if f.mode = 6 then vm_atomic SE AB f S else vm_store SE AB f S).map fun T => ((p : Int) + 1, T)
  else if f.kind = 4 ∨ f.kind = 7 then (vm_arith f S).map fun T => ((p : Int) + 1, T)
  else if f.code = 5 then some ((p : Int) + 1 + f.o, S)
  else if f.code = 6 then some ((p : Int) + 1 + f.i, S)
  else if f.code = 133 then (vm_call SE AB f.i S).map fun T => ((p : Int) + 1, T)
  else (vm_jump f p S).map fun q => (q, S)
