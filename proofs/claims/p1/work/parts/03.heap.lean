/-! part 03: the classes whose objects the worlds hold (names and field tables as printed), the abstract heap, what instructions do to it -/
def RX1 : String := "ProgramBox$BoxMap"
def TX1 : u_T := fun k => match k with
  | 0 => ("ProgramBox$BoxMap", "kind", "I", true)
  | 1 => ("ProgramBox$BoxMap", "keySize", "I", true)
  | 2 => ("ProgramBox$BoxMap", "valueSize", "I", true)
  | 3 => ("ProgramBox$BoxMap", "entries", "I", true)
  | 4 => ("ProgramBox$BoxMap", "row", "[B", true)
  | 5 => ("ProgramBox$BoxMap", "start", "I", true)
  | _ => ("ProgramBox$BoxMap", "stride", "I", true)
def tyX1 : Nat → FieldType := fun k => match k with
  | 0 => .int
  | 1 => .int
  | 2 => .int
  | 3 => .int
  | 4 => .array .byte
  | 5 => .int
  | _ => .int
def RX2 : String := "ProgramBox$Checker"
def TX2 : u_T := fun k => match k with
  | 0 => ("ProgramBox$Checker", "store", "LProgramBox$Store;", true)
  | 1 => ("ProgramBox$Checker", "states", "[LProgramBox$State;", true)
  | 2 => ("ProgramBox$Checker", "now", "LProgramBox$State;", true)
  | 3 => ("ProgramBox$Checker", "jumped", "LProgramBox$State;", true)
  | 4 => ("ProgramBox$Checker", "constant", "LProgramBox$Thing;", true)
  | 5 => ("ProgramBox$Checker", "left", "LProgramBox$Value;", true)
  | 6 => ("ProgramBox$Checker", "right", "LProgramBox$Value;", true)
  | 7 => ("ProgramBox$Checker", "out", "LProgramBox$Value;", true)
  | 8 => ("ProgramBox$Checker", "room", "LProgramBox$Value;", true)
  | 9 => ("ProgramBox$Checker", "next", "I", false)
  | 10 => ("ProgramBox$Checker", "target", "I", false)
  | _ => ("ProgramBox$Checker", "at", "I", false)
def tyX2 : Nat → FieldType := fun k => match k with
  | 0 => .object "ProgramBox$Store"
  | 1 => .array (.object "ProgramBox$State")
  | 2 => .object "ProgramBox$State"
  | 3 => .object "ProgramBox$State"
  | 4 => .object "ProgramBox$Thing"
  | 5 => .object "ProgramBox$Value"
  | 6 => .object "ProgramBox$Value"
  | 7 => .object "ProgramBox$Value"
  | 8 => .object "ProgramBox$Value"
  | 9 => .int
  | 10 => .int
  | _ => .int
def RX3 : String := "ProgramBox$Machine"
def TX3 : u_T := fun k => match k with
  | 0 => ("ProgramBox$Machine", "store", "LProgramBox$Store;", true)
  | 1 => ("ProgramBox$Machine", "registers", "[J", true)
  | 2 => ("ProgramBox$Machine", "filled", "I", false)
  | 3 => ("ProgramBox$Machine", "stack", "[B", true)
  | 4 => ("ProgramBox$Machine", "written", "[Z", true)
  | 5 => ("ProgramBox$Machine", "key", "[B", true)
  | 6 => ("ProgramBox$Machine", "value", "[B", true)
  | 7 => ("ProgramBox$Machine", "runs", "I", false)
  | 8 => ("ProgramBox$Machine", "next", "I", false)
  | 9 => ("ProgramBox$Machine", "lastResult", "J", false)
  | 10 => ("ProgramBox$Machine", "lastPlace", "I", false)
  | 11 => ("ProgramBox$Machine", "stepCount", "I", false)
  | _ => ("ProgramBox$Machine", "breachCount", "I", false)
def tyX3 : Nat → FieldType := fun k => match k with
  | 0 => .object "ProgramBox$Store"
  | 1 => .array .long
  | 2 => .int
  | 3 => .array .byte
  | 4 => .array .boolean
  | 5 => .array .byte
  | 6 => .array .byte
  | 7 => .int
  | 8 => .int
  | 9 => .long
  | 10 => .int
  | 11 => .int
  | _ => .int
def RX4 : String := "ProgramBox$Program"
def TX4 : u_T := fun k => match k with
  | _ => ("ProgramBox$Program", "words", "[J", true)
def tyX4 : Nat → FieldType := fun k => match k with
  | _ => .array .long
def RX5 : String := "ProgramBox$Ring"
def TX5 : u_T := fun k => match k with
  | 0 => ("ProgramBox$BoxMap", "kind", "I", true)
  | 1 => ("ProgramBox$BoxMap", "keySize", "I", true)
  | 2 => ("ProgramBox$BoxMap", "valueSize", "I", true)
  | 3 => ("ProgramBox$BoxMap", "entries", "I", true)
  | 4 => ("ProgramBox$BoxMap", "row", "[B", true)
  | 5 => ("ProgramBox$BoxMap", "start", "I", true)
  | 6 => ("ProgramBox$BoxMap", "stride", "I", true)
  | 7 => ("ProgramBox$Ring", "head", "J", false)
  | 8 => ("ProgramBox$Ring", "tail", "J", false)
  | 9 => ("ProgramBox$Ring", "records", "I", false)
  | _ => ("ProgramBox$Ring", "broken", "Z", false)
def tyX5 : Nat → FieldType := fun k => match k with
  | 0 => .int
  | 1 => .int
  | 2 => .int
  | 3 => .int
  | 4 => .array .byte
  | 5 => .int
  | 6 => .int
  | 7 => .long
  | 8 => .long
  | 9 => .int
  | _ => .boolean
def RX6 : String := "ProgramBox$State"
def TX6 : u_T := fun k => match k with
  | 0 => ("ProgramBox$State", "things", "[LProgramBox$Thing;", true)
  | 1 => ("ProgramBox$State", "known", "J", false)
  | 2 => ("ProgramBox$State", "changes", "I", false)
  | 3 => ("ProgramBox$State", "there", "Z", false)
  | _ => ("ProgramBox$State", "fresh", "Z", false)
def tyX6 : Nat → FieldType := fun k => match k with
  | 0 => .array (.object "ProgramBox$Thing")
  | 1 => .long
  | 2 => .int
  | 3 => .boolean
  | _ => .boolean
def RX7 : String := "ProgramBox$Store"
def TX7 : u_T := fun k => match k with
  | 0 => ("ProgramBox$Store", "packetBytes", "[B", true)
  | 1 => ("ProgramBox$Store", "packetSize", "I", false)
  | 2 => ("ProgramBox$Store", "contextBytes", "[B", true)
  | 3 => ("ProgramBox$Store", "deskBytes", "[B", true)
  | 4 => ("ProgramBox$Store", "areaBytes", "[B", true)
  | 5 => ("ProgramBox$Store", "given", "I", false)
  | 6 => ("ProgramBox$Store", "maps", "[LProgramBox$BoxMap;", true)
  | 7 => ("ProgramBox$Store", "mapCount", "I", false)
  | 8 => ("ProgramBox$Store", "time", "J", false)
  | 9 => ("ProgramBox$Store", "valueBytes", "[B", true)
  | _ => ("ProgramBox$Store", "ledBy", "[I", true)
def tyX7 : Nat → FieldType := fun k => match k with
  | 0 => .array .byte
  | 1 => .int
  | 2 => .array .byte
  | 3 => .array .byte
  | 4 => .array .byte
  | 5 => .int
  | 6 => .array (.object "ProgramBox$BoxMap")
  | 7 => .int
  | 8 => .long
  | 9 => .array .byte
  | _ => .array .int
def RX8 : String := "ProgramBox$Table"
def TX8 : u_T := fun k => match k with
  | 0 => ("ProgramBox$BoxMap", "kind", "I", true)
  | 1 => ("ProgramBox$BoxMap", "keySize", "I", true)
  | 2 => ("ProgramBox$BoxMap", "valueSize", "I", true)
  | 3 => ("ProgramBox$BoxMap", "entries", "I", true)
  | 4 => ("ProgramBox$BoxMap", "row", "[B", true)
  | 5 => ("ProgramBox$BoxMap", "start", "I", true)
  | 6 => ("ProgramBox$BoxMap", "stride", "I", true)
  | 7 => ("ProgramBox$Table", "keys", "[B", true)
  | 8 => ("ProgramBox$Table", "taken", "[Z", true)
  | 9 => ("ProgramBox$Table", "heads", "[I", true)
  | 10 => ("ProgramBox$Table", "links", "[I", true)
  | 11 => ("ProgramBox$Table", "count", "I", false)
  | _ => ("ProgramBox$Table", "firstFree", "I", false)
def tyX8 : Nat → FieldType := fun k => match k with
  | 0 => .int
  | 1 => .int
  | 2 => .int
  | 3 => .int
  | 4 => .array .byte
  | 5 => .int
  | 6 => .int
  | 7 => .array .byte
  | 8 => .array .boolean
  | 9 => .array .int
  | 10 => .array .int
  | 11 => .int
  | _ => .int
def RX9 : String := "ProgramBox$Thing"
def TX9 : u_T := fun k => match k with
  | 0 => ("ProgramBox$Value", "mask", "J", false)
  | 1 => ("ProgramBox$Value", "ones", "J", false)
  | 2 => ("ProgramBox$Value", "low", "J", false)
  | 3 => ("ProgramBox$Value", "high", "J", false)
  | 4 => ("ProgramBox$Value", "least", "J", false)
  | 5 => ("ProgramBox$Value", "greatest", "J", false)
  | 6 => ("ProgramBox$Thing", "sort", "I", false)
  | 7 => ("ProgramBox$Thing", "map", "I", false)
  | 8 => ("ProgramBox$Thing", "mark", "J", false)
  | _ => ("ProgramBox$Thing", "written", "I", false)
def tyX9 : Nat → FieldType := fun k => match k with
  | 0 => .long
  | 1 => .long
  | 2 => .long
  | 3 => .long
  | 4 => .long
  | 5 => .long
  | 6 => .int
  | 7 => .int
  | 8 => .long
  | _ => .int
def RX10 : String := "ProgramBox$Value"
def TX10 : u_T := fun k => match k with
  | 0 => ("ProgramBox$Value", "mask", "J", false)
  | 1 => ("ProgramBox$Value", "ones", "J", false)
  | 2 => ("ProgramBox$Value", "low", "J", false)
  | 3 => ("ProgramBox$Value", "high", "J", false)
  | 4 => ("ProgramBox$Value", "least", "J", false)
  | _ => ("ProgramBox$Value", "greatest", "J", false)
def tyX10 : Nat → FieldType := fun k => match k with
  | 0 => .long
  | 1 => .long
  | 2 => .long
  | 3 => .long
  | 4 => .long
  | _ => .long
def RX11 : String := "ProgramBox"
def TX11 : u_T := fun k => match k with
  | 0 => ("ProgramBox", "tape", "[B", true)
  | 1 => ("ProgramBox", "tapeLength", "I", false)
  | 2 => ("ProgramBox", "store", "LProgramBox$Store;", true)
  | 3 => ("ProgramBox", "checker", "LProgramBox$Checker;", true)
  | 4 => ("ProgramBox", "machine", "LProgramBox$Machine;", true)
  | 5 => ("ProgramBox", "letIn", "[LProgramBox$Program;", true)
  | 6 => ("ProgramBox", "letInCount", "I", false)
  | 7 => ("ProgramBox", "refusedAt", "I", false)
  | _ => ("ProgramBox", "refusedFor", "I", false)
def tyX11 : Nat → FieldType := fun k => match k with
  | 0 => .array .byte
  | 1 => .int
  | 2 => .object "ProgramBox$Store"
  | 3 => .object "ProgramBox$Checker"
  | 4 => .object "ProgramBox$Machine"
  | 5 => .array (.object "ProgramBox$Program")
  | 6 => .int
  | 7 => .int
  | _ => .int
def RX12 : String := "ProgramBoxModel$Check$Sets"
def TX12 : u_T := fun k => match k with
  | 0 => ("ProgramBoxModel$Check$Sets", "bits", "[J", true)
  | 1 => ("ProgramBoxModel$Check$Sets", "open", "[J", true)
  | 2 => ("ProgramBoxModel$Check$Sets", "low", "[J", true)
  | 3 => ("ProgramBoxModel$Check$Sets", "high", "[J", true)
  | 4 => ("ProgramBoxModel$Check$Sets", "least", "[J", true)
  | 5 => ("ProgramBoxModel$Check$Sets", "greatest", "[J", true)
  | _ => ("ProgramBoxModel$Check$Sets", "empty", "[Z", true)
def tyX12 : Nat → FieldType := fun k => match k with
  | 0 => .array .long
  | 1 => .array .long
  | 2 => .array .long
  | 3 => .array .long
  | 4 => .array .long
  | 5 => .array .long
  | _ => .array .boolean
def RX13 : String := "ProgramBoxModel$Check"
def TX13 : u_T := fun k => match k with
  | 0 => ("ProgramBoxModel$Check", "thrown", "I", false)
  | 1 => ("ProgramBoxModel$Check", "tape", "[I", true)
  | 2 => ("ProgramBoxModel$Check", "taped", "I", false)
  | 3 => ("ProgramBoxModel$Check", "program", "[I", true)
  | 4 => ("ProgramBoxModel$Check", "places", "I", false)
  | 5 => ("ProgramBoxModel$Check", "reason", "I", false)
  | 6 => ("ProgramBoxModel$Check", "passes", "I", false)
  | 7 => ("ProgramBoxModel$Check", "kinds", "[I", true)
  | 8 => ("ProgramBoxModel$Check", "keys", "[I", true)
  | 9 => ("ProgramBoxModel$Check", "values", "[I", true)
  | 10 => ("ProgramBoxModel$Check", "has", "[Z", true)
  | 11 => ("ProgramBoxModel$Check", "known", "[I", true)
  | 12 => ("ProgramBoxModel$Check", "changes", "[I", true)
  | 13 => ("ProgramBoxModel$Check", "sort", "[I", true)
  | 14 => ("ProgramBoxModel$Check", "detail", "[I", true)
  | 15 => ("ProgramBoxModel$Check", "origin", "[I", true)
  | 16 => ("ProgramBoxModel$Check", "sets", "LProgramBoxModel$Check$Sets;", true)
  | 17 => ("ProgramBoxModel$Check", "changed", "Z", false)
  | 18 => ("ProgramBoxModel$Check", "from", "I", false)
  | 19 => ("ProgramBoxModel$Check", "code", "I", false)
  | 20 => ("ProgramBoxModel$Check", "d", "I", false)
  | 21 => ("ProgramBoxModel$Check", "s", "I", false)
  | 22 => ("ProgramBoxModel$Check", "o", "I", false)
  | _ => ("ProgramBoxModel$Check", "i", "I", false)
def tyX13 : Nat → FieldType := fun k => match k with
  | 0 => .int
  | 1 => .array .int
  | 2 => .int
  | 3 => .array .int
  | 4 => .int
  | 5 => .int
  | 6 => .int
  | 7 => .array .int
  | 8 => .array .int
  | 9 => .array .int
  | 10 => .array .boolean
  | 11 => .array .int
  | 12 => .array .int
  | 13 => .array .int
  | 14 => .array .int
  | 15 => .array .int
  | 16 => .object "ProgramBoxModel$Check$Sets"
  | 17 => .boolean
  | 18 => .int
  | 19 => .int
  | 20 => .int
  | 21 => .int
  | 22 => .int
  | _ => .int
def RX14 : String := "ProgramBoxModel$Store"
def TX14 : u_T := fun k => match k with
  | 0 => ("ProgramBoxModel$Store", "code", "I", false)
  | 1 => ("ProgramBoxModel$Store", "ownDesk", "[B", true)
  | 2 => ("ProgramBoxModel$Store", "desk", "[B", false)
  | 3 => ("ProgramBoxModel$Store", "area", "[B", true)
  | 4 => ("ProgramBoxModel$Store", "areaUsed", "I", false)
  | 5 => ("ProgramBoxModel$Store", "maps", "I", false)
  | 6 => ("ProgramBoxModel$Store", "kinds", "[I", true)
  | 7 => ("ProgramBoxModel$Store", "keySizes", "[I", true)
  | 8 => ("ProgramBoxModel$Store", "valueSizes", "[I", true)
  | 9 => ("ProgramBoxModel$Store", "entries", "[I", true)
  | 10 => ("ProgramBoxModel$Store", "begins", "[I", true)
  | 11 => ("ProgramBoxModel$Store", "firstEntry", "[I", true)
  | 12 => ("ProgramBoxModel$Store", "firstKey", "[I", true)
  | 13 => ("ProgramBoxModel$Store", "entryCount", "I", false)
  | 14 => ("ProgramBoxModel$Store", "keyCount", "I", false)
  | 15 => ("ProgramBoxModel$Store", "taken", "[Z", true)
  | 16 => ("ProgramBoxModel$Store", "keys", "[B", true)
  | 17 => ("ProgramBoxModel$Store", "heads", "[J", true)
  | 18 => ("ProgramBoxModel$Store", "tails", "[J", true)
  | 19 => ("ProgramBoxModel$Store", "records", "[I", true)
  | 20 => ("ProgramBoxModel$Store", "broken", "[Z", true)
  | _ => ("ProgramBoxModel$Store", "breaches", "I", false)
def tyX14 : Nat → FieldType := fun k => match k with
  | 0 => .int
  | 1 => .array .byte
  | 2 => .array .byte
  | 3 => .array .byte
  | 4 => .int
  | 5 => .int
  | 6 => .array .int
  | 7 => .array .int
  | 8 => .array .int
  | 9 => .array .int
  | 10 => .array .int
  | 11 => .array .int
  | 12 => .array .int
  | 13 => .int
  | 14 => .int
  | 15 => .array .boolean
  | 16 => .array .byte
  | 17 => .array .long
  | 18 => .array .long
  | 19 => .array .int
  | 20 => .array .boolean
  | _ => .int
def RX15 : String := "ProgramBoxModel"
def TX15 : u_T := fun k => match k with
  | 0 => ("ProgramBoxModel", "thrown", "I", false)
  | 1 => ("ProgramBoxModel", "tape", "[I", true)
  | 2 => ("ProgramBoxModel", "taped", "I", false)
  | 3 => ("ProgramBoxModel", "store", "LProgramBoxModel$Store;", true)
  | 4 => ("ProgramBoxModel", "check", "LProgramBoxModel$Check;", true)
  | 5 => ("ProgramBoxModel", "programs", "[I", true)
  | 6 => ("ProgramBoxModel", "places", "[I", true)
  | 7 => ("ProgramBoxModel", "many", "I", false)
  | 8 => ("ProgramBoxModel", "refused", "I", false)
  | 9 => ("ProgramBoxModel", "reason", "I", false)
  | 10 => ("ProgramBoxModel", "packet", "[I", true)
  | 11 => ("ProgramBoxModel", "size", "I", false)
  | 12 => ("ProgramBoxModel", "context", "[I", true)
  | 13 => ("ProgramBoxModel", "clock", "J", false)
  | 14 => ("ProgramBoxModel", "registers", "[J", true)
  | 15 => ("ProgramBoxModel", "given", "[Z", true)
  | 16 => ("ProgramBoxModel", "stack", "[I", true)
  | 17 => ("ProgramBoxModel", "written", "[Z", true)
  | 18 => ("ProgramBoxModel", "found", "[Z", true)
  | 19 => ("ProgramBoxModel", "gathered", "[B", true)
  | 20 => ("ProgramBoxModel", "breaches", "I", false)
  | 21 => ("ProgramBoxModel", "result", "J", false)
  | 22 => ("ProgramBoxModel", "place", "I", false)
  | 23 => ("ProgramBoxModel", "steps", "I", false)
  | 24 => ("ProgramBoxModel", "base", "I", false)
  | 25 => ("ProgramBoxModel", "code", "I", false)
  | 26 => ("ProgramBoxModel", "d", "I", false)
  | 27 => ("ProgramBoxModel", "s", "I", false)
  | 28 => ("ProgramBoxModel", "o", "I", false)
  | 29 => ("ProgramBoxModel", "i", "I", false)
  | _ => ("ProgramBoxModel", "next", "I", false)
def tyX15 : Nat → FieldType := fun k => match k with
  | 0 => .int
  | 1 => .array .int
  | 2 => .int
  | 3 => .object "ProgramBoxModel$Store"
  | 4 => .object "ProgramBoxModel$Check"
  | 5 => .array .int
  | 6 => .array .int
  | 7 => .int
  | 8 => .int
  | 9 => .int
  | 10 => .array .int
  | 11 => .int
  | 12 => .array .int
  | 13 => .long
  | 14 => .array .long
  | 15 => .array .boolean
  | 16 => .array .int
  | 17 => .array .boolean
  | 18 => .array .boolean
  | 19 => .array .byte
  | 20 => .int
  | 21 => .long
  | 22 => .int
  | 23 => .int
  | 24 => .int
  | 25 => .int
  | 26 => .int
  | 27 => .int
  | 28 => .int
  | 29 => .int
  | _ => .int
/-- class number k of the small machine: 0 BoxMap, 1 Checker, 2 Machine, 3 Program, 4 Ring, 5 State, 6 Store, 7 Table, 8 Thing, 9 Value, 10 ProgramBox; of the check: 11 Sets, 12 Check, 13 Store, 14 the model -/
abbrev jv_cl : List vw_C := [(RX1, TX1, 7), (RX2, TX2, 12), (RX3, TX3, 13), (RX4, TX4, 1), (RX5, TX5, 11), (RX6, TX6, 5), (RX7, TX7, 11), (RX8, TX8, 13), (RX9, TX9, 10), (RX10, TX10, 6), (RX11, TX11, 9), (RX12, TX12, 7), (RX13, TX13, 24), (RX14, TX14, 22), (RX15, TX15, 31)]
/-- the words that a method hands on to those that it calls -/
def jv_okw (w : Cond) : Bool := match w with
  | .arrayOver t => match t with | .object _ => true | _ => false
  | .fieldLinkNest _ _ _ _ _ _ => true
  | .methodLinkNest _ _ _ _ => true
  | w => goodWord w
/-- private methods of Value that are called on a Thing: what is selected -/
def jv_selx : List Cond := [Cond.selects "ProgramBox$Thing" ⟨"ProgramBox$Value", "lowestKnown", "()I"⟩ ⟨"ProgramBox$Value", "lowestKnown", "()I"⟩, Cond.selects "ProgramBox$Thing" ⟨"ProgramBox$Value", "lowestZeros", "()I"⟩ ⟨"ProgramBox$Value", "lowestZeros", "()I"⟩, Cond.selects "ProgramBox$Thing" ⟨"ProgramBox$Value", "without", "(J)V"⟩ ⟨"ProgramBox$Value", "without", "(J)V"⟩]
theorem jv_selp {C : String} {y : MethodName} {s : State} {args : Array Value} {n n' : Nat} (hy : y.cls ≠ "java/lang/invoke/MethodHandle" ∧ y.cls ≠ "java/lang/invoke/VarHandle")
    (hC : (Cond.instantiable C n').before args s = true) (hins : (Cond.instantiable y.cls n).before args s = true) (hpriv : (Cond.privateMethod y).before args s = true) (hinst : (Cond.instanceMethod y).before args s = true) :
    (Cond.selects C y y).before args s = true := by
  obtain ⟨c, k, hc, hk, -, hniab, -, -⟩ := Cond.instantiable_spec hins
  obtain ⟨c', k', hc', hk', -, -, -, -⟩ := Cond.instantiable_spec hC
  have hni : k.isInterface = false := (Bool.or_eq_false_iff.mp hniab).1
  obtain ⟨mk, methM, hnamed, hmethM, -, -⟩ := Cond.instanceMethod_spec hinst
  have hfound : s.methodFound? y.cls y.name y.desc = some mk := State.methodFound?_of_named hnamed hy
  have hcls : mk.cls = c := Option.some.inj ((findClass_of_methodNamed hnamed).symm.trans hc)
  have hsel : selectMethod {} s.vm c' mk = .method mk := selectMethod_private hmethM (Cond.privateMethod_at hpriv mk methM hnamed hmethM)
  simp only [Cond.before, Cond.holds, Cond.value, hc', hfound, hnamed, hsel, hcls, hk]
  simp; exact hni
theorem jv_selx_ok {s : State} {args : Array Value} (hts : ∀ w ∈ tables_1, w.before args s = true) : ∀ w ∈ jv_selx, w.before args s = true := by
  have hT : (Cond.instantiable "ProgramBox$Thing" 10).before args s = true := hts _ (List.mem_of_getElem? (i := 106) (by decide +kernel))
  have g : ∀ q : MethodName × Nat, lw_okq q → (Cond.selects "ProgramBox$Thing" q.1 q.1).before args s = true := fun q hq => jv_selp hq.1 hT (hts _ hq.2.1) (hts _ hq.2.2.1) (hts _ hq.2.2.2)
  exact List.forall_mem_cons.mpr ⟨g _ lw_p22, List.forall_mem_cons.mpr ⟨g _ lw_p23, List.forall_mem_cons.mpr ⟨g _ lw_p39, fun _ h => absurd h List.not_mem_nil⟩⟩⟩
def lw_ok : List Cond := (lw_tbl ++ jv_selx).filter jv_okw
theorem jv_okw_ok {args a' : Array Value} {s U : State} {w : Cond} (h : jv_okw w = true) (hb : w.before args s = true) (hW : s.WarmedH U.vm) : w.before a' U = true := by
  cases w
  case arrayOver t =>
    cases t
    case object C => exact (va_AO.of hb).moved hW.alike
    all_goals cases h
  case fieldLinkNest a b c d e f => exact va_Nw.use rfl (va_Nw.warmF hW (va_Nw.of rfl hb))
  case methodLinkNest a b c d => exact va_Nw.use rfl (va_Nw.warmM hW (va_Nw.of rfl hb))
  all_goals exact word_at hW (good_of_word h) hb
theorem jv_memok {w : Cond} (h : w ∈ lw_tbl) (h2 : jv_okw w = true) : w ∈ lw_ok := List.mem_filter.mpr ⟨List.mem_append_left _ h, h2⟩
def jv_ty (k j : Nat) : FieldType := match k with
  | 0 => tyX1 j
  | 1 => tyX2 j
  | 2 => tyX3 j
  | 3 => tyX4 j
  | 4 => tyX5 j
  | 5 => tyX6 j
  | 6 => tyX7 j
  | 7 => tyX8 j
  | 8 => tyX9 j
  | 9 => tyX10 j
  | 10 => tyX11 j
  | 11 => tyX12 j
  | 12 => tyX13 j
  | 13 => tyX14 j
  | _ => tyX15 j
theorem jv_in0 : ∀ w ∈ u_ws RX1 TX1 7, w ∈ lw_ok := fun w h => jv_memok ((by decide +kernel : ∀ w ∈ u_ws RX1 TX1 7, w ∈ lw_tbl) w h) (List.all_eq_true.mp (by decide +kernel : (u_ws RX1 TX1 7).all jv_okw = true) w h)
theorem jv_nm0 : ∀ a, a < 7 → ∀ b, b < 7 → a ≠ b → (TX1 a).2.1 ≠ (TX1 b).2.1 := by decide +kernel
theorem jv_fd0 : ∀ j, j < 7 → parseFieldDescriptor (TX1 j).2.2.1 = some (jv_ty 0 j) := by decide +kernel
theorem jv_in1 : ∀ w ∈ u_ws RX2 TX2 12, w ∈ lw_ok := fun w h => jv_memok ((by decide +kernel : ∀ w ∈ u_ws RX2 TX2 12, w ∈ lw_tbl) w h) (List.all_eq_true.mp (by decide +kernel : (u_ws RX2 TX2 12).all jv_okw = true) w h)
theorem jv_nm1 : ∀ a, a < 12 → ∀ b, b < 12 → a ≠ b → (TX2 a).2.1 ≠ (TX2 b).2.1 := by decide +kernel
theorem jv_fd1 : ∀ j, j < 12 → parseFieldDescriptor (TX2 j).2.2.1 = some (jv_ty 1 j) := by decide +kernel
theorem jv_in2 : ∀ w ∈ u_ws RX3 TX3 13, w ∈ lw_ok := fun w h => jv_memok ((by decide +kernel : ∀ w ∈ u_ws RX3 TX3 13, w ∈ lw_tbl) w h) (List.all_eq_true.mp (by decide +kernel : (u_ws RX3 TX3 13).all jv_okw = true) w h)
theorem jv_nm2 : ∀ a, a < 13 → ∀ b, b < 13 → a ≠ b → (TX3 a).2.1 ≠ (TX3 b).2.1 := by decide +kernel
theorem jv_fd2 : ∀ j, j < 13 → parseFieldDescriptor (TX3 j).2.2.1 = some (jv_ty 2 j) := by decide +kernel
theorem jv_in3 : ∀ w ∈ u_ws RX4 TX4 1, w ∈ lw_ok := fun w h => jv_memok ((by decide +kernel : ∀ w ∈ u_ws RX4 TX4 1, w ∈ lw_tbl) w h) (List.all_eq_true.mp (by decide +kernel : (u_ws RX4 TX4 1).all jv_okw = true) w h)
theorem jv_nm3 : ∀ a, a < 1 → ∀ b, b < 1 → a ≠ b → (TX4 a).2.1 ≠ (TX4 b).2.1 := by decide +kernel
theorem jv_fd3 : ∀ j, j < 1 → parseFieldDescriptor (TX4 j).2.2.1 = some (jv_ty 3 j) := by decide +kernel
theorem jv_in4 : ∀ w ∈ u_ws RX5 TX5 11, w ∈ lw_ok := fun w h => jv_memok ((by decide +kernel : ∀ w ∈ u_ws RX5 TX5 11, w ∈ lw_tbl) w h) (List.all_eq_true.mp (by decide +kernel : (u_ws RX5 TX5 11).all jv_okw = true) w h)
theorem jv_nm4 : ∀ a, a < 11 → ∀ b, b < 11 → a ≠ b → (TX5 a).2.1 ≠ (TX5 b).2.1 := by decide +kernel
theorem jv_fd4 : ∀ j, j < 11 → parseFieldDescriptor (TX5 j).2.2.1 = some (jv_ty 4 j) := by decide +kernel
theorem jv_in5 : ∀ w ∈ u_ws RX6 TX6 5, w ∈ lw_ok := fun w h => jv_memok ((by decide +kernel : ∀ w ∈ u_ws RX6 TX6 5, w ∈ lw_tbl) w h) (List.all_eq_true.mp (by decide +kernel : (u_ws RX6 TX6 5).all jv_okw = true) w h)
theorem jv_nm5 : ∀ a, a < 5 → ∀ b, b < 5 → a ≠ b → (TX6 a).2.1 ≠ (TX6 b).2.1 := by decide +kernel
theorem jv_fd5 : ∀ j, j < 5 → parseFieldDescriptor (TX6 j).2.2.1 = some (jv_ty 5 j) := by decide +kernel
theorem jv_in6 : ∀ w ∈ u_ws RX7 TX7 11, w ∈ lw_ok := fun w h => jv_memok ((by decide +kernel : ∀ w ∈ u_ws RX7 TX7 11, w ∈ lw_tbl) w h) (List.all_eq_true.mp (by decide +kernel : (u_ws RX7 TX7 11).all jv_okw = true) w h)
theorem jv_nm6 : ∀ a, a < 11 → ∀ b, b < 11 → a ≠ b → (TX7 a).2.1 ≠ (TX7 b).2.1 := by decide +kernel
theorem jv_fd6 : ∀ j, j < 11 → parseFieldDescriptor (TX7 j).2.2.1 = some (jv_ty 6 j) := by decide +kernel
theorem jv_in7 : ∀ w ∈ u_ws RX8 TX8 13, w ∈ lw_ok := fun w h => jv_memok ((by decide +kernel : ∀ w ∈ u_ws RX8 TX8 13, w ∈ lw_tbl) w h) (List.all_eq_true.mp (by decide +kernel : (u_ws RX8 TX8 13).all jv_okw = true) w h)
theorem jv_nm7 : ∀ a, a < 13 → ∀ b, b < 13 → a ≠ b → (TX8 a).2.1 ≠ (TX8 b).2.1 := by decide +kernel
theorem jv_fd7 : ∀ j, j < 13 → parseFieldDescriptor (TX8 j).2.2.1 = some (jv_ty 7 j) := by decide +kernel
theorem jv_in8 : ∀ w ∈ u_ws RX9 TX9 10, w ∈ lw_ok := fun w h => jv_memok ((by decide +kernel : ∀ w ∈ u_ws RX9 TX9 10, w ∈ lw_tbl) w h) (List.all_eq_true.mp (by decide +kernel : (u_ws RX9 TX9 10).all jv_okw = true) w h)
theorem jv_nm8 : ∀ a, a < 10 → ∀ b, b < 10 → a ≠ b → (TX9 a).2.1 ≠ (TX9 b).2.1 := by decide +kernel
theorem jv_fd8 : ∀ j, j < 10 → parseFieldDescriptor (TX9 j).2.2.1 = some (jv_ty 8 j) := by decide +kernel
theorem jv_in9 : ∀ w ∈ u_ws RX10 TX10 6, w ∈ lw_ok := fun w h => jv_memok ((by decide +kernel : ∀ w ∈ u_ws RX10 TX10 6, w ∈ lw_tbl) w h) (List.all_eq_true.mp (by decide +kernel : (u_ws RX10 TX10 6).all jv_okw = true) w h)
theorem jv_nm9 : ∀ a, a < 6 → ∀ b, b < 6 → a ≠ b → (TX10 a).2.1 ≠ (TX10 b).2.1 := by decide +kernel
theorem jv_fd9 : ∀ j, j < 6 → parseFieldDescriptor (TX10 j).2.2.1 = some (jv_ty 9 j) := by decide +kernel
theorem jv_in10 : ∀ w ∈ u_ws RX11 TX11 9, w ∈ lw_ok := fun w h => jv_memok ((by decide +kernel : ∀ w ∈ u_ws RX11 TX11 9, w ∈ lw_tbl) w h) (List.all_eq_true.mp (by decide +kernel : (u_ws RX11 TX11 9).all jv_okw = true) w h)
theorem jv_nm10 : ∀ a, a < 9 → ∀ b, b < 9 → a ≠ b → (TX11 a).2.1 ≠ (TX11 b).2.1 := by decide +kernel
theorem jv_fd10 : ∀ j, j < 9 → parseFieldDescriptor (TX11 j).2.2.1 = some (jv_ty 10 j) := by decide +kernel
theorem jv_in11 : ∀ w ∈ u_ws RX12 TX12 7, w ∈ lw_ok := fun w h => jv_memok ((by decide +kernel : ∀ w ∈ u_ws RX12 TX12 7, w ∈ lw_tbl) w h) (List.all_eq_true.mp (by decide +kernel : (u_ws RX12 TX12 7).all jv_okw = true) w h)
theorem jv_nm11 : ∀ a, a < 7 → ∀ b, b < 7 → a ≠ b → (TX12 a).2.1 ≠ (TX12 b).2.1 := by decide +kernel
theorem jv_fd11 : ∀ j, j < 7 → parseFieldDescriptor (TX12 j).2.2.1 = some (jv_ty 11 j) := by decide +kernel
theorem jv_in12 : ∀ w ∈ u_ws RX13 TX13 24, w ∈ lw_ok := fun w h => jv_memok ((by decide +kernel : ∀ w ∈ u_ws RX13 TX13 24, w ∈ lw_tbl) w h) (List.all_eq_true.mp (by decide +kernel : (u_ws RX13 TX13 24).all jv_okw = true) w h)
theorem jv_nm12 : ∀ a, a < 24 → ∀ b, b < 24 → a ≠ b → (TX13 a).2.1 ≠ (TX13 b).2.1 := by decide +kernel
theorem jv_fd12 : ∀ j, j < 24 → parseFieldDescriptor (TX13 j).2.2.1 = some (jv_ty 12 j) := by decide +kernel
theorem jv_in13 : ∀ w ∈ u_ws RX14 TX14 22, w ∈ lw_ok := fun w h => jv_memok ((by decide +kernel : ∀ w ∈ u_ws RX14 TX14 22, w ∈ lw_tbl) w h) (List.all_eq_true.mp (by decide +kernel : (u_ws RX14 TX14 22).all jv_okw = true) w h)
theorem jv_nm13 : ∀ a, a < 22 → ∀ b, b < 22 → a ≠ b → (TX14 a).2.1 ≠ (TX14 b).2.1 := by decide +kernel
theorem jv_fd13 : ∀ j, j < 22 → parseFieldDescriptor (TX14 j).2.2.1 = some (jv_ty 13 j) := by decide +kernel
theorem jv_in14 : ∀ w ∈ u_ws RX15 TX15 31, w ∈ lw_ok := fun w h => jv_memok ((by decide +kernel : ∀ w ∈ u_ws RX15 TX15 31, w ∈ lw_tbl) w h) (List.all_eq_true.mp (by decide +kernel : (u_ws RX15 TX15 31).all jv_okw = true) w h)
theorem jv_nm14 : ∀ a, a < 31 → ∀ b, b < 31 → a ≠ b → (TX15 a).2.1 ≠ (TX15 b).2.1 := by decide +kernel
theorem jv_fd14 : ∀ j, j < 31 → parseFieldDescriptor (TX15 j).2.2.1 = some (jv_ty 14 j) := by decide +kernel
theorem jv_cls {k : Nat} {r : vw_C} (h : jv_cl[k]? = some r) : (∀ w ∈ u_ws r.1 r.2.1 r.2.2, w ∈ lw_ok) ∧ (∀ a, a < r.2.2 → ∀ b, b < r.2.2 → a ≠ b → (r.2.1 a).2.1 ≠ (r.2.1 b).2.1) ∧ (∀ j, j < r.2.2 → parseFieldDescriptor (r.2.1 j).2.2.1 = some (jv_ty k j)) := by
  match k, h with
  | 0, h => cases h; exact ⟨jv_in0, jv_nm0, jv_fd0⟩
  | 1, h => cases h; exact ⟨jv_in1, jv_nm1, jv_fd1⟩
  | 2, h => cases h; exact ⟨jv_in2, jv_nm2, jv_fd2⟩
  | 3, h => cases h; exact ⟨jv_in3, jv_nm3, jv_fd3⟩
  | 4, h => cases h; exact ⟨jv_in4, jv_nm4, jv_fd4⟩
  | 5, h => cases h; exact ⟨jv_in5, jv_nm5, jv_fd5⟩
  | 6, h => cases h; exact ⟨jv_in6, jv_nm6, jv_fd6⟩
  | 7, h => cases h; exact ⟨jv_in7, jv_nm7, jv_fd7⟩
  | 8, h => cases h; exact ⟨jv_in8, jv_nm8, jv_fd8⟩
  | 9, h => cases h; exact ⟨jv_in9, jv_nm9, jv_fd9⟩
  | 10, h => cases h; exact ⟨jv_in10, jv_nm10, jv_fd10⟩
  | 11, h => cases h; exact ⟨jv_in11, jv_nm11, jv_fd11⟩
  | 12, h => cases h; exact ⟨jv_in12, jv_nm12, jv_fd12⟩
  | 13, h => cases h; exact ⟨jv_in13, jv_nm13, jv_fd13⟩
  | 14, h => cases h; exact ⟨jv_in14, jv_nm14, jv_fd14⟩
  | k + 15, h => simp [jv_cl] at h
/-- a cell: its kind (below 100 an object of that class; 100 booleans, 101 bytes, 102 ints, 103 longs, 104 .. 107 rows of objects, 110 a class's own row of ints), how many fields or elements, what they are -/
abbrev jv_E : Type := Nat × Nat × (Nat → Value)
abbrev jv_G : Type := Nat → Option jv_E
def jv_up (V : Nat → Value) (b : Nat) (v : Value) : Nat → Value := fun j => bif Nat.beq j b then v else V j
def jv_set (G : jv_G) (o : Nat) (e : jv_E) : jv_G := fun q => bif Nat.beq q o then some e else G q
theorem jv_set_self (G : jv_G) (o : Nat) (e : jv_E) : jv_set G o e o = some e := by simp [jv_set]
theorem jv_set_ne (G : jv_G) {o q : Nat} (e : jv_E) (h : q ≠ o) : jv_set G o e q = G q := by
  have : Nat.beq q o = false := by
    cases hb : Nat.beq q o with
    | false => rfl
    | true => exact absurd (Nat.eq_of_beq_eq_true hb) h
  simp [jv_set, this]
theorem jv_up_self (V : Nat → Value) (b : Nat) (v : Value) : jv_up V b v b = v := by simp [jv_up]
theorem jv_up_ne (V : Nat → Value) {b j : Nat} (v : Value) (h : j ≠ b) : jv_up V b v j = V j := by
  have : Nat.beq j b = false := by
    cases hb : Nat.beq j b with
    | false => rfl
    | true => exact absurd (Nat.eq_of_beq_eq_true hb) h
  simp [jv_up, this]
theorem jv_up_tr (f : Nat → Nat) (V : Nat → Value) (b : Nat) (v : Value) : (fun j => jv_tr f (jv_up V b v j)) = updV (fun j => jv_tr f (V j)) b (jv_tr f v) := by
  funext j
  by_cases h : j = b
  · subst h; simp [jv_up_self, updV]
  · simp [jv_up_ne V v h, updV, h]
def jv_sub (k k' : Nat) : Bool := Nat.beq k k' || (Nat.beq k 0 && (Nat.beq k' 4 || Nat.beq k' 7)) || (Nat.beq k 9 && Nat.beq k' 8)
/-- the class of a row's elements -/
def jv_el (k : Nat) : Nat := match k with
  | 104 => 5
  | 105 => 8
  | 106 => 0
  | _ => 3
def jv_fitv (ty : FieldType) (v : Value) : Bool := match ty with
  | .int => match v with | .int _ => true | _ => false
  | .long => match v with | .long _ => true | _ => false
  | .boolean => match v with | .int x => (x == 0 || x == 1) | _ => false
  | .object _ => match v with | .ref _ => true | .null => true | _ => false
  | .array _ => match v with | .ref _ => true | .null => true | _ => false
  | _ => false
theorem jv_fitv_ok {ty : FieldType} {v : Value} (f : Nat → Nat) (h : jv_fitv ty v = true) : narrow ty (jv_tr f v) = jv_tr f v ∧ fits ty (jv_tr f v) = true := by
  cases ty <;> cases v <;> simp [jv_fitv] at h <;> try (first | exact ⟨rfl, rfl⟩ | (simp [jv_tr, narrow, fits]; done))
  rcases h with h | h
  · subst h; exact (by decide +kernel : narrow .boolean (.int 0) = .int 0 ∧ fits .boolean (.int 0) = true)
  · subst h; exact (by decide +kernel : narrow .boolean (.int 1) = .int 1 ∧ fits .boolean (.int 1) = true)
/-- an index of a row -/
abbrev jv_ix (i : Int32) (len : Nat) : Prop := 0 ≤ i.toInt ∧ i.toInt < (len : Int)
/-- what an instruction that reads or writes a cell makes of stack and heap; (a, b): the field -/
def jv_mem (i : Instr) (a b : Nat) (st : List Value) (G : jv_G) : Option (List Value × jv_G) := match i with
  | .getfield _ => match st with
    | .ref o :: r => match G o with
      | some (k, len, V) => bif jv_sub a k && Nat.blt b len then some (V b :: r, G) else none
      | none => none
    | _ => none
  | .putfield _ => match st with
    | v :: .ref o :: r => match G o with
      | some (k, len, V) => bif jv_sub a k && (Nat.blt b len && jv_fitv (jv_ty a b) v) then some (r, jv_set G o (k, len, jv_up V b v)) else none
      | none => none
    | _ => none
  | .arraylength => match st with
    | .ref o :: r => match G o with
      | some (k, len, _) => bif Nat.ble 100 k && (Nat.blt k 108 || Nat.beq k 110) then some (.int (Int32.ofNat len) :: r, G) else none
      | none => none
    | _ => none
  | .iaload => match st with
    | .int j :: .ref o :: r => match G o with
      | some (k, len, V) => bif Nat.beq k 102 || Nat.beq k 110 then (if jv_ix j len then some (V j.toNatClampNeg :: r, G) else none) else none
      | none => none
    | _ => none
  | .laload => match st with
    | .int j :: .ref o :: r => match G o with
      | some (k, len, V) => bif Nat.beq k 103 then (if jv_ix j len then some (V j.toNatClampNeg :: r, G) else none) else none
      | none => none
    | _ => none
  | .baload => match st with
    | .int j :: .ref o :: r => match G o with
      | some (k, len, V) => bif Nat.beq k 100 || Nat.beq k 101 then (if jv_ix j len then some (V j.toNatClampNeg :: r, G) else none) else none
      | none => none
    | _ => none
  | .aaload => match st with
    | .int j :: .ref o :: r => match G o with
      | some (k, len, V) => bif Nat.ble 104 k && Nat.blt k 108 then (if jv_ix j len then some (V j.toNatClampNeg :: r, G) else none) else none
      | none => none
    | _ => none
  | .iastore => match st with
    | .int x :: .int j :: .ref o :: r => match G o with
      | some (k, len, V) => bif Nat.beq k 102 then (if jv_ix j len then some (r, jv_set G o (k, len, jv_up V j.toNatClampNeg (.int x))) else none) else none
      | none => none
    | _ => none
  | .lastore => match st with
    | .long x :: .int j :: .ref o :: r => match G o with
      | some (k, len, V) => bif Nat.beq k 103 then (if jv_ix j len then some (r, jv_set G o (k, len, jv_up V j.toNatClampNeg (.long x))) else none) else none
      | none => none
    | _ => none
  | .bastore => match st with
    | .int x :: .int j :: .ref o :: r => match G o with
      | some (k, len, V) => bif Nat.beq k 101 then (if jv_ix j len then some (r, jv_set G o (k, len, jv_up V j.toNatClampNeg (.int x.toInt8.toInt32))) else none)
          else bif Nat.beq k 100 then (if jv_ix j len then some (r, jv_set G o (k, len, jv_up V j.toNatClampNeg (.int (x &&& 1)))) else none) else none
      | none => none
    | _ => none
  | .aastore => match st with
    | .ref v :: .int j :: .ref o :: r => match G o with
      | some (k, len, V) => match G v with
        | some (k', _, _) => bif Nat.ble 104 k && (Nat.blt k 108 && jv_sub (jv_el k) k') then (if jv_ix j len then some (r, jv_set G o (k, len, jv_up V j.toNatClampNeg (.ref v))) else none) else none
        | none => none
      | none => none
    | _ => none
  | _ => none
/-- where the world lies: f: the place of a cell; D: the classes; dA: the classes of rows; B: where the law's own cells begin; Ho: the heap before them -/
abbrev jv_Env : Type := (Nat → Nat) × va_G × (Nat → ClassId) × Nat × Heap
def jv_tys (dA : Nat → ClassId) : List (ClassId × FieldType) := [(dA 0, .boolean), (dA 1, .byte), (dA 2, .int), (dA 3, .long), (dA 4, .object RX6), (dA 5, .object RX9), (dA 6, .object RX1), (dA 7, .object RX4)]
def jv_obj (E : jv_Env) (H : Heap) (a : Nat) (e : jv_E) : Prop := ∃ r : vw_C, jv_cl[e.1]? = some r ∧ e.2.1 = r.2.2 ∧ t_OB (E.1 a) (E.2.1.1 e.1) r.2.2 (E.2.1.2 e.1) H (fun j => jv_tr E.1 (e.2.2 j))
def jv_arr (E : jv_Env) (H : Heap) (a : Nat) (e : jv_E) : Prop := H[E.1 a]? = some (arrV (E.2.2.1 (e.1 - 100)) e.2.1 (fun j => jv_tr E.1 (e.2.2 j)))
/-- the two rows of ints that classes of the program's own keep -/
def jv_sC (i : Nat) : String × String := match i with
  | 0 => (RX2, "COMPARISON")
  | _ => (RX10, "OPPOSITE")
def jv_sN (i : Nat) : Nat := match i with
  | 0 => 16
  | _ => 12
def jv_sV (i j : Nat) : Int32 := match i with
  | 0 => [0, 0, 4, 5, 10, 1, 8, 9, 0, 0, 2, 3, 6, 7, 0, 0].getD j 0
  | _ => [1, 0, 5, 4, 3, 2, 9, 8, 7, 6, 11, 10].getD j 0
def jv_old (a : Nat) (e : jv_E) : Prop := ∃ i, i < 2 ∧ a = 1000000 + i ∧ e = (110, jv_sN i, fun j => .int (jv_sV i j))
def jv_at (E : jv_Env) (H : Heap) (a : Nat) (e : jv_E) : Prop := (e.1 < 100 → jv_obj E H a e) ∧ (100 ≤ e.1 → e.1 < 108 → jv_arr E H a e ∧ (e.1 = 101 → ∀ j, fits .byte (e.2.2 j) = true)) ∧ (e.1 = 110 → jv_old a e)
def jv_EOk (E : jv_Env) : Prop := (∀ a, a < 1000000 → E.1 a = E.2.2.2.1 + a) ∧ (∀ a, 1000000 ≤ a → E.1 a < E.2.2.2.1) ∧ E.2.2.2.2.size = E.2.2.2.1
/-- the picture: the heap is as long as told, old cells are as they were, each cell is as told -/
def jv_pic (E : jv_Env) (G : jv_G) (n : Nat) (H : Heap) : Prop := H.size = E.2.2.2.1 + n ∧ (∀ q, q < E.2.2.2.1 → H[q]? = E.2.2.2.2[q]?) ∧ (∀ a e, G a = some e → jv_at E H a e ∧ (e.1 = 110 ∧ 1000000 ≤ a ∨ a < n)) ∧ n ≤ 1000000
def jv_Zs (E : jv_Env) (U : State) : Prop := ∀ i, i < 2 → va_Z (jv_sC i).1 (jv_sC i).2 "[I" (.ref (E.1 (1000000 + i))) (fun q => E.2.2.2.1 ≤ q) U E.2.2.2.2 ∧ va_T .int (E.1 (1000000 + i)) (jv_sN i) (fun j => .int (jv_sV i j)) (fun q => E.2.2.2.1 ≤ q) U E.2.2.2.2
def jv_K (E : jv_Env) (U : State) : Prop := va_K E.2.1 jv_cl (jv_tys E.2.2.1) U ∧ jv_Zs E U
theorem jv_K.moved {E : jv_Env} {u U : State} (hvm : u.vm.Alike U.vm) (h : jv_K E u) : jv_K E U := ⟨va_K.moved hvm h.1, fun i hi => ⟨va_Z.moved hvm (h.2 i hi).1, va_T.moved hvm (h.2 i hi).2⟩⟩
