section
/-! Our own judgement over the kit's W: one world (a list of cells, addressed by small numbers), one context; a rule an instruction. -/
abbrev xm_E : Type := (Nat × Nat × (Nat → Int32)) ⊕ ((Nat × Nat × (Nat → Value)) ⊕ ((Nat × List Value) ⊕ Nat))
abbrev xm_H : Type := List (Option xm_E)
/-- an array of ints (or booleans) of type number t; an array of references or longs; an object of class number c; a string constant -/
abbrev xI (t n : Nat) (f : Nat → Int32) : Option xm_E := some (.inl (t, n, f))
abbrev xV (t n : Nat) (f : Nat → Value) : Option xm_E := some (.inr (.inl (t, n, f)))
abbrev xO (c : Nat) (fs : List Value) : Option xm_E := some (.inr (.inr (.inl (c, fs))))
abbrev xS (n : Nat) : Option xm_E := some (.inr (.inr (.inr n)))
/-- addresses; classes, slots; array classes; the first address that may change -/
abbrev xm_G : Type := (Nat → Nat) × va_G × (Nat → ClassId) × Nat
def xm_tv (r : Nat → Nat) (v : Value) : Value := match v with
  | .ref a => .ref (r a)
  | x => x
theorem xm_tv_cat (r : Nat → Nat) (v : Value) : (xm_tv r v).category = v.category := by cases v <;> rfl
abbrev xm_row : Type := Instr × Nat × Nat × Nat × Int32
def xm_len (i : Instr) (r2 : Nat) : Nat := match i with
  | .aload _ | .astore _ | .bipush _ | .iload _ | .istore _ | .ldc _ | .newarray _ => 2
  | .anewarray _ | .getfield _ | .getstatic _ | .goto _ | .if_acmp _ _ | .if_icmp _ _ | .ifCond _ _ | .ifnonnull _ | .ifnull _ | .iinc _ _ | .invokespecial _ | .invokestatic _ | .invokevirtual _ | .new _ | .putfield _ | .putstatic _ | .sipush _ | .checkcast _ => 3
  | .multianewarray _ _ => 4
  | .tableswitch _ _ _ _ | .lookupswitch _ _ => r2
  | _ => 1
def xm_c0 : Nat := 32
def xm_nt : Nat := 5
def xm_ty (t : Nat) : FieldType := match t with
  | 0 => .int
  | 1 => .long
  | 2 => .boolean
  | 3 => .object "FabLink$Message"
  | _ => .array .int
def xT0 : u_T := fun k => match k with
  | 0 => ("FabLink", "tape", "LFabLink$Tape;", true)
  | 1 => ("FabLink", "outbox", "LFabLink$Outbox;", true)
  | 2 => ("FabLink", "talks", "LFabLink$Talks;", true)
  | 3 => ("FabLink", "line", "LFabLink$Line;", true)
  | 4 => ("FabLink", "machine", "LFabLink$Machine;", true)
  | _ => ("FabLink", "desk", "LFabLink$Desk;", true)
def xF0 : Nat → FieldType := fun k => match k with
  | 0 => .object "FabLink$Tape"
  | 1 => .object "FabLink$Outbox"
  | 2 => .object "FabLink$Talks"
  | 3 => .object "FabLink$Line"
  | 4 => .object "FabLink$Machine"
  | _ => .object "FabLink$Desk"
def xT1 : u_T := fun k => match k with
  | 0 => ("FabLink$Tape", "bytes", "[I", true)
  | _ => ("FabLink$Tape", "count", "I", false)
def xF1 : Nat → FieldType := fun k => match k with
  | 0 => .array (.int)
  | _ => .int
def xT2 : u_T := fun k => match k with
  | 0 => ("FabLink$Outbox", "messages", "[LFabLink$Message;", true)
  | 1 => ("FabLink$Outbox", "body", "LFabLink$Body;", true)
  | 2 => ("FabLink$Outbox", "first", "I", false)
  | 3 => ("FabLink$Outbox", "count", "I", false)
  | 4 => ("FabLink$Outbox", "lost", "I", false)
  | _ => ("FabLink$Outbox", "number", "I", false)
def xF2 : Nat → FieldType := fun k => match k with
  | 0 => .array (.object "FabLink$Message")
  | 1 => .object "FabLink$Body"
  | 2 => .int
  | 3 => .int
  | 4 => .int
  | _ => .int
def xT3 : u_T := fun k => match k with
  | 0 => ("FabLink$Body", "bytes", "[I", true)
  | _ => ("FabLink$Body", "length", "I", false)
def xF3 : Nat → FieldType := fun k => match k with
  | 0 => .array (.int)
  | _ => .int
def xT4 : u_T := fun k => match k with
  | 0 => ("FabLink$Message", "bytes", "[I", true)
  | 1 => ("FabLink$Message", "length", "I", false)
  | _ => ("FabLink$Message", "failures", "I", false)
def xF4 : Nat → FieldType := fun k => match k with
  | 0 => .array (.int)
  | 1 => .int
  | _ => .int
def xT5 : u_T := fun k => match k with
  | 0 => ("FabLink$Talks", "headers", "[[I", true)
  | 1 => ("FabLink$Talks", "ages", "[I", true)
  | _ => ("FabLink$Talks", "count", "I", false)
def xF5 : Nat → FieldType := fun k => match k with
  | 0 => .array (.array (.int))
  | 1 => .array (.int)
  | _ => .int
def xT6 : u_T := fun k => match k with
  | 0 => ("FabLink$Line", "tape", "LFabLink$Tape;", true)
  | 1 => ("FabLink$Line", "outbox", "LFabLink$Outbox;", true)
  | 2 => ("FabLink$Line", "talks", "LFabLink$Talks;", true)
  | 3 => ("FabLink$Line", "block", "LFabLink$Message;", true)
  | 4 => ("FabLink$Line", "state", "I", false)
  | 5 => ("FabLink$Line", "quietUnits", "I", false)
  | 6 => ("FabLink$Line", "lengthKnown", "Z", false)
  | 7 => ("FabLink$Line", "got", "I", false)
  | _ => ("FabLink$Line", "heardSum", "I", false)
def xF6 : Nat → FieldType := fun k => match k with
  | 0 => .object "FabLink$Tape"
  | 1 => .object "FabLink$Outbox"
  | 2 => .object "FabLink$Talks"
  | 3 => .object "FabLink$Message"
  | 4 => .int
  | 5 => .int
  | 6 => .boolean
  | 7 => .int
  | _ => .int
def xT7 : u_T := fun k => match k with
  | 0 => ("FabLink$Machine", "outbox", "LFabLink$Outbox;", true)
  | 1 => ("FabLink$Machine", "variables", "LFabLink$Variables;", true)
  | 2 => ("FabLink$Machine", "links", "LFabLink$Links;", true)
  | 3 => ("FabLink$Machine", "isOn", "Z", false)
  | 4 => ("FabLink$Machine", "speaking", "Z", false)
  | 5 => ("FabLink$Machine", "chosen", "I", false)
  | _ => ("FabLink$Machine", "workTime", "I", false)
def xF7 : Nat → FieldType := fun k => match k with
  | 0 => .object "FabLink$Outbox"
  | 1 => .object "FabLink$Variables"
  | 2 => .object "FabLink$Links"
  | 3 => .boolean
  | 4 => .boolean
  | 5 => .int
  | _ => .int
def xT8 : u_T := fun k => match k with
  | 0 => ("FabLink$Variables", "formats", "[I", true)
  | 1 => ("FabLink$Variables", "sizes", "[I", true)
  | _ => ("FabLink$Variables", "bytes", "[[I", true)
def xF8 : Nat → FieldType := fun k => match k with
  | 0 => .array (.int)
  | 1 => .array (.int)
  | _ => .array (.array (.int))
def xT9 : u_T := fun k => match k with
  | 0 => ("FabLink$Links", "variableCounts", "[I", true)
  | 1 => ("FabLink$Links", "variables", "[[I", true)
  | 2 => ("FabLink$Links", "reportCounts", "[I", true)
  | 3 => ("FabLink$Links", "reports", "[[I", true)
  | _ => ("FabLink$Links", "enabled", "[Z", true)
def xF9 : Nat → FieldType := fun k => match k with
  | 0 => .array (.int)
  | 1 => .array (.array (.int))
  | 2 => .array (.int)
  | 3 => .array (.array (.int))
  | _ => .array (.boolean)
def xT10 : u_T := fun k => match k with
  | 0 => ("FabLink$Desk", "taken", "LFabLink$Message;", true)
  | 1 => ("FabLink$Desk", "machine", "LFabLink$Machine;", true)
  | 2 => ("FabLink$Desk", "outbox", "LFabLink$Outbox;", true)
  | 3 => ("FabLink$Desk", "talks", "LFabLink$Talks;", true)
  | _ => ("FabLink$Desk", "items", "LFabLink$Items;", true)
def xF10 : Nat → FieldType := fun k => match k with
  | 0 => .object "FabLink$Message"
  | 1 => .object "FabLink$Machine"
  | 2 => .object "FabLink$Outbox"
  | 3 => .object "FabLink$Talks"
  | _ => .object "FabLink$Items"
def xT11 : u_T := fun k => match k with
  | 0 => ("FabLink$Items", "formats", "[I", true)
  | 1 => ("FabLink$Items", "sizes", "[I", true)
  | 2 => ("FabLink$Items", "starts", "[I", true)
  | 3 => ("FabLink$Items", "behinds", "[I", true)
  | 4 => ("FabLink$Items", "message", "LFabLink$Message;", true)
  | _ => ("FabLink$Items", "count", "I", false)
def xF11 : Nat → FieldType := fun k => match k with
  | 0 => .array (.int)
  | 1 => .array (.int)
  | 2 => .array (.int)
  | 3 => .array (.int)
  | 4 => .object "FabLink$Message"
  | _ => .int
def xT12 : u_T := fun k => match k with
  | 0 => ("FabLinkModel", "thrown", "I", false)
  | 1 => ("FabLinkModel", "line", "I", false)
  | 2 => ("FabLinkModel", "silent", "I", false)
  | 3 => ("FabLinkModel", "heard", "I", false)
  | 4 => ("FabLinkModel", "block", "[I", false)
  | 5 => ("FabLinkModel", "saidCount", "I", false)
  | 6 => ("FabLinkModel", "saidRing", "[I", false)
  | 7 => ("FabLinkModel", "queued", "I", false)
  | 8 => ("FabLinkModel", "queue", "[I", false)
  | 9 => ("FabLinkModel", "sizes", "[I", false)
  | 10 => ("FabLinkModel", "failures", "[I", false)
  | 11 => ("FabLinkModel", "lost", "I", false)
  | 12 => ("FabLinkModel", "numbers", "I", false)
  | 13 => ("FabLinkModel", "talks", "I", false)
  | 14 => ("FabLinkModel", "headers", "[I", false)
  | 15 => ("FabLinkModel", "ages", "[I", false)
  | 16 => ("FabLinkModel", "made", "I", false)
  | 17 => ("FabLinkModel", "body", "[I", false)
  | 18 => ("FabLinkModel", "enabled", "Z", false)
  | 19 => ("FabLinkModel", "speaking", "Z", false)
  | 20 => ("FabLinkModel", "control", "I", false)
  | 21 => ("FabLinkModel", "chosen", "I", false)
  | 22 => ("FabLinkModel", "work", "I", false)
  | 23 => ("FabLinkModel", "workTime", "I", false)
  | 24 => ("FabLinkModel", "formats", "[I", false)
  | 25 => ("FabLinkModel", "lengths", "[I", false)
  | 26 => ("FabLinkModel", "octets", "[I", false)
  | 27 => ("FabLinkModel", "reportSize", "[I", false)
  | 28 => ("FabLinkModel", "reportHas", "[I", false)
  | 29 => ("FabLinkModel", "linked", "[I", false)
  | 30 => ("FabLinkModel", "links", "[I", false)
  | 31 => ("FabLinkModel", "on", "[Z", false)
  | 32 => ("FabLinkModel", "taken", "I", false)
  | _ => ("FabLinkModel", "open", "[I", false)
def xF12 : Nat → FieldType := fun k => match k with
  | 0 => .int
  | 1 => .int
  | 2 => .int
  | 3 => .int
  | 4 => .array (.int)
  | 5 => .int
  | 6 => .array (.int)
  | 7 => .int
  | 8 => .array (.int)
  | 9 => .array (.int)
  | 10 => .array (.int)
  | 11 => .int
  | 12 => .int
  | 13 => .int
  | 14 => .array (.int)
  | 15 => .array (.int)
  | 16 => .int
  | 17 => .array (.int)
  | 18 => .boolean
  | 19 => .boolean
  | 20 => .int
  | 21 => .int
  | 22 => .int
  | 23 => .int
  | 24 => .array (.int)
  | 25 => .array (.int)
  | 26 => .array (.int)
  | 27 => .array (.int)
  | 28 => .array (.int)
  | 29 => .array (.int)
  | 30 => .array (.int)
  | 31 => .array (.boolean)
  | 32 => .int
  | _ => .array (.int)
def xm_cl : List vw_C := [("FabLink", xT0, 6), ("FabLink$Tape", xT1, 2), ("FabLink$Outbox", xT2, 6), ("FabLink$Body", xT3, 2), ("FabLink$Message", xT4, 3), ("FabLink$Talks", xT5, 3), ("FabLink$Line", xT6, 9), ("FabLink$Machine", xT7, 7), ("FabLink$Variables", xT8, 3), ("FabLink$Links", xT9, 5), ("FabLink$Desk", xT10, 5), ("FabLink$Items", xT11, 6), ("FabLinkModel", xT12, 34)]
def xm_ft (c : Nat) : Nat → FieldType := match c with
  | 0 => xF0
  | 1 => xF1
  | 2 => xF2
  | 3 => xF3
  | 4 => xF4
  | 5 => xF5
  | 6 => xF6
  | 7 => xF7
  | 8 => xF8
  | 9 => xF9
  | 10 => xF10
  | 11 => xF11
  | _ => xF12
def xm_txs : List (List Int32) := [[], [97, 32, 98, 121, 116, 101, 32, 105, 115, 32, 48, 32, 46, 46, 32, 50, 53, 53], [70, 76], [49], [83, 84, 65, 82, 84], [83, 84, 79, 80], [80, 65, 85, 83, 69], [71, 79], [117, 110, 105, 116, 115, 32, 97, 114, 101, 32, 49, 32, 46, 46, 32, 54, 48], [105, 116, 32, 105, 115, 32, 115, 111, 32, 97, 108, 114, 101, 97, 100, 121], [99, 111, 110, 116, 114, 111, 108, 32, 105, 115, 32, 115, 101, 116, 32, 116, 111, 32, 48, 44, 32, 50, 32, 111, 114, 32, 51], [110, 111, 32, 115, 117, 99, 104, 32, 98, 121, 116, 101, 32, 105, 115, 32, 107, 101, 112, 116], [119, 104, 105, 99, 104, 32, 105, 115, 32, 48, 32, 46, 46, 32, 55], [114, 101, 112, 111, 114, 116, 115, 32, 97, 114, 101, 32, 49, 32, 46, 46, 32, 52], [101, 118, 101, 110, 116, 115, 32, 97, 114, 101, 32, 49, 32, 46, 46, 32, 53], [118, 97, 114, 105, 97, 98, 108, 101, 115, 32, 97, 114, 101, 32, 48, 32, 46, 46, 32, 53], [110, 111, 32, 115, 117, 99, 104, 32, 118, 97, 114, 105, 97, 98, 108, 101, 32, 111, 114, 32, 98, 121, 116, 101]]
def xm_tx (n : Nat) : List Int32 := xm_txs.getD n []
def xm_sl : List (String × Nat × String × Nat) := [("FabLink", 63, "a byte is 0 .. 255", 1), ("FabLink$Body", 35, "FL", 2), ("FabLink$Body", 41, "1", 3), ("FabLink$Machine", 87, "START", 4), ("FabLink$Machine", 99, "STOP", 5), ("FabLink$Machine", 101, "PAUSE", 6), ("FabLink$Machine", 103, "GO", 7), ("FabLink", 86, "units are 1 .. 60", 8), ("FabLink", 99, "it is so already", 9), ("FabLink", 106, "control is set to 0, 2 or 3", 10), ("FabLink", 120, "no such byte is kept", 11), ("FabLink", 147, "which is 0 .. 7", 12), ("FabLink", 154, "reports are 1 .. 4", 13), ("FabLink", 166, "events are 1 .. 5", 14), ("FabLink", 178, "variables are 0 .. 5", 15), ("FabLink", 191, "no such variable or byte", 16)]
def xL0 : List (Nat × Cond) := [(1, (Cond.methodLink "FabLink" (1 : Nat) ({ cls := "java/lang/Object", name := "<init>", desc := "()V" } : MethodName))),
  (7, (Cond.classLink "FabLink" (7 : Nat) "FabLink$Tape")),
  (9, (Cond.methodLinkNest "FabLink" (9 : Nat) ({ cls := "FabLink$Tape", name := "<init>", desc := "()V" } : MethodName) "FabLink")),
  (10, (Cond.fieldLink "FabLink" (10 : Nat) "FabLink" "tape" "LFabLink$Tape;")),
  (16, (Cond.classLink "FabLink" (16 : Nat) "FabLink$Outbox")),
  (18, (Cond.methodLink "FabLink" (18 : Nat) ({ cls := "FabLink$Outbox", name := "<init>", desc := "()V" } : MethodName))),
  (19, (Cond.fieldLink "FabLink" (19 : Nat) "FabLink" "outbox" "LFabLink$Outbox;")),
  (23, (Cond.classLink "FabLink" (23 : Nat) "FabLink$Talks")),
  (25, (Cond.methodLinkNest "FabLink" (25 : Nat) ({ cls := "FabLink$Talks", name := "<init>", desc := "()V" } : MethodName) "FabLink")),
  (26, (Cond.fieldLink "FabLink" (26 : Nat) "FabLink" "talks" "LFabLink$Talks;")),
  (30, (Cond.classLink "FabLink" (30 : Nat) "FabLink$Line")),
  (32, (Cond.methodLink "FabLink" (32 : Nat) ({ cls := "FabLink$Line", name := "<init>", desc := "(LFabLink$Tape;LFabLink$Outbox;LFabLink$Talks;)V" } : MethodName))),
  (35, (Cond.fieldLink "FabLink" (35 : Nat) "FabLink" "line" "LFabLink$Line;")),
  (39, (Cond.classLink "FabLink" (39 : Nat) "FabLink$Machine")),
  (41, (Cond.methodLink "FabLink" (41 : Nat) ({ cls := "FabLink$Machine", name := "<init>", desc := "(LFabLink$Outbox;)V" } : MethodName))),
  (44, (Cond.fieldLink "FabLink" (44 : Nat) "FabLink" "machine" "LFabLink$Machine;")),
  (48, (Cond.classLink "FabLink" (48 : Nat) "FabLink$Desk")),
  (50, (Cond.methodLink "FabLink" (50 : Nat) ({ cls := "FabLink$Line", name := "block", desc := "()LFabLink$Message;" } : MethodName))),
  (54, (Cond.methodLink "FabLink" (54 : Nat) ({ cls := "FabLink$Desk", name := "<init>", desc := "(LFabLink$Message;LFabLink$Machine;LFabLink$Outbox;LFabLink$Talks;)V" } : MethodName))),
  (57, (Cond.fieldLink "FabLink" (57 : Nat) "FabLink" "desk" "LFabLink$Desk;")),
  (61, (Cond.classLink "FabLink" (61 : Nat) "java/lang/IllegalArgumentException")),
  (65, (Cond.methodLink "FabLink" (65 : Nat) ({ cls := "java/lang/IllegalArgumentException", name := "<init>", desc := "(Ljava/lang/String;)V" } : MethodName))),
  (68, (Cond.methodLink "FabLink" (68 : Nat) ({ cls := "FabLink$Tape", name := "count", desc := "()I" } : MethodName))),
  (72, (Cond.methodLink "FabLink" (72 : Nat) ({ cls := "FabLink$Line", name := "takesMessageBy", desc := "(I)Z" } : MethodName))),
  (76, (Cond.methodLink "FabLink" (76 : Nat) ({ cls := "FabLink$Desk", name := "admits", desc := "()Z" } : MethodName))),
  (80, (Cond.methodLink "FabLink" (80 : Nat) ({ cls := "FabLink$Desk", name := "carryOut", desc := "()V" } : MethodName))),
  (83, (Cond.methodLink "FabLink" (83 : Nat) ({ cls := "FabLink$Line", name := "settle", desc := "()V" } : MethodName))),
  (88, (Cond.methodLink "FabLink" (88 : Nat) ({ cls := "FabLink$Talks", name := "passUnit", desc := "(LFabLink$Outbox;)V" } : MethodName))),
  (91, (Cond.methodLink "FabLink" (91 : Nat) ({ cls := "FabLink$Machine", name := "passUnit", desc := "()V" } : MethodName))),
  (93, (Cond.methodLink "FabLink" (93 : Nat) ({ cls := "FabLink$Line", name := "passUnit", desc := "()V" } : MethodName))),
  (94, (Cond.methodLink "FabLink" (94 : Nat) ({ cls := "FabLink$Machine", name := "isEnabled", desc := "()Z" } : MethodName))),
  (97, (Cond.classLink "FabLink" (97 : Nat) "java/lang/IllegalStateException")),
  (101, (Cond.methodLink "FabLink" (101 : Nat) ({ cls := "java/lang/IllegalStateException", name := "<init>", desc := "(Ljava/lang/String;)V" } : MethodName))),
  (102, (Cond.methodLink "FabLink" (102 : Nat) ({ cls := "FabLink$Machine", name := "turn", desc := "(Z)V" } : MethodName))),
  (108, (Cond.methodLink "FabLink" (108 : Nat) ({ cls := "FabLink$Machine", name := "choose", desc := "(I)V" } : MethodName))),
  (112, (Cond.methodLink "FabLink" (112 : Nat) ({ cls := "FabLink$Machine", name := "happen", desc := "(I)Z" } : MethodName))),
  (115, (Cond.methodLink "FabLink" (115 : Nat) ({ cls := "FabLink$Tape", name := "holds", desc := "(I)Z" } : MethodName))),
  (118, (Cond.classLink "FabLink" (118 : Nat) "java/lang/IndexOutOfBoundsException")),
  (122, (Cond.methodLink "FabLink" (122 : Nat) ({ cls := "java/lang/IndexOutOfBoundsException", name := "<init>", desc := "(Ljava/lang/String;)V" } : MethodName))),
  (123, (Cond.methodLink "FabLink" (123 : Nat) ({ cls := "FabLink$Tape", name := "at", desc := "(I)I" } : MethodName))),
  (127, (Cond.methodLink "FabLink" (127 : Nat) ({ cls := "FabLink$Line", name := "state", desc := "()I" } : MethodName))),
  (130, (Cond.methodLink "FabLink" (130 : Nat) ({ cls := "FabLink$Machine", name := "speech", desc := "()I" } : MethodName))),
  (133, (Cond.methodLink "FabLink" (133 : Nat) ({ cls := "FabLink$Machine", name := "controlNow", desc := "()I" } : MethodName))),
  (136, (Cond.methodLink "FabLink" (136 : Nat) ({ cls := "FabLink$Machine", name := "workNow", desc := "()I" } : MethodName))),
  (139, (Cond.methodLink "FabLink" (139 : Nat) ({ cls := "FabLink$Machine", name := "workTime", desc := "()I" } : MethodName))),
  (142, (Cond.methodLink "FabLink" (142 : Nat) ({ cls := "FabLink$Outbox", name := "count", desc := "()I" } : MethodName))),
  (143, (Cond.methodLink "FabLink" (143 : Nat) ({ cls := "FabLink$Talks", name := "count", desc := "()I" } : MethodName))),
  (144, (Cond.methodLink "FabLink" (144 : Nat) ({ cls := "FabLink$Outbox", name := "lost", desc := "()I" } : MethodName))),
  (149, (Cond.methodLink "FabLink" (149 : Nat) ({ cls := "FabLink$Links", name := "isReport", desc := "(I)Z" } : MethodName))),
  (156, (Cond.methodLink "FabLink" (156 : Nat) ({ cls := "FabLink$Machine", name := "links", desc := "()LFabLink$Links;" } : MethodName))),
  (160, (Cond.methodLink "FabLink" (160 : Nat) ({ cls := "FabLink$Links", name := "variablesOf", desc := "(I)I" } : MethodName))),
  (163, (Cond.methodLink "FabLink" (163 : Nat) ({ cls := "FabLink$Links", name := "isEvent", desc := "(I)Z" } : MethodName))),
  (168, (Cond.methodLink "FabLink" (168 : Nat) ({ cls := "FabLink$Links", name := "reportsOf", desc := "(I)I" } : MethodName))),
  (171, (Cond.methodLink "FabLink" (171 : Nat) ({ cls := "FabLink$Links", name := "isEnabled", desc := "(I)Z" } : MethodName))),
  (173, (Cond.methodLink "FabLink" (173 : Nat) ({ cls := "FabLink$Variables", name := "isVariable", desc := "(I)Z" } : MethodName))),
  (180, (Cond.methodLink "FabLink" (180 : Nat) ({ cls := "FabLink$Machine", name := "variables", desc := "()LFabLink$Variables;" } : MethodName))),
  (184, (Cond.methodLink "FabLink" (184 : Nat) ({ cls := "FabLink$Variables", name := "formatOf", desc := "(I)I" } : MethodName))),
  (187, (Cond.methodLink "FabLink" (187 : Nat) ({ cls := "FabLink$Variables", name := "hasByte", desc := "(II)Z" } : MethodName))),
  (193, (Cond.methodLink "FabLink" (193 : Nat) ({ cls := "FabLink$Variables", name := "byteOf", desc := "(II)I" } : MethodName)))]
def xL1 : List (Nat × Cond) := [(1, (Cond.methodLink "FabLink$Tape" (1 : Nat) ({ cls := "java/lang/Object", name := "<init>", desc := "()V" } : MethodName))),
  (9, (Cond.fieldLink "FabLink$Tape" (9 : Nat) "FabLink$Tape" "bytes" "[I")),
  (13, (Cond.fieldLink "FabLink$Tape" (13 : Nat) "FabLink$Tape" "count" "I")),
  (17, (Cond.methodLink "FabLink$Tape" (17 : Nat) ({ cls := "java/lang/Math", name := "floorMod", desc := "(II)I" } : MethodName))),
  (23, (Cond.methodLink "FabLink$Tape" (23 : Nat) ({ cls := "FabLink$Tape", name := "holds", desc := "(I)Z" } : MethodName)))]
def xL2 : List (Nat × Cond) := [(3, (Cond.methodLink "FabLink$Outbox" (3 : Nat) ({ cls := "java/lang/Object", name := "<init>", desc := "()V" } : MethodName))),
  (11, (Cond.classLink "FabLink$Outbox" (11 : Nat) "FabLink$Message")),
  (13, (Cond.fieldLink "FabLink$Outbox" (13 : Nat) "FabLink$Outbox" "messages" "[LFabLink$Message;")),
  (17, (Cond.classLink "FabLink$Outbox" (17 : Nat) "FabLink$Body")),
  (19, (Cond.methodLinkNest "FabLink$Outbox" (19 : Nat) ({ cls := "FabLink$Body", name := "<init>", desc := "()V" } : MethodName) "FabLink")),
  (20, (Cond.fieldLink "FabLink$Outbox" (20 : Nat) "FabLink$Outbox" "body" "LFabLink$Body;")),
  (24, (Cond.methodLinkNest "FabLink$Outbox" (24 : Nat) ({ cls := "FabLink$Message", name := "<init>", desc := "()V" } : MethodName) "FabLink")),
  (25, (Cond.fieldLink "FabLink$Outbox" (25 : Nat) "FabLink$Outbox" "count" "I")),
  (29, (Cond.fieldLink "FabLink$Outbox" (29 : Nat) "FabLink$Outbox" "lost" "I")),
  (32, (Cond.fieldLink "FabLink$Outbox" (32 : Nat) "FabLink$Outbox" "first" "I")),
  (35, (Cond.methodLink "FabLink$Outbox" (35 : Nat) ({ cls := "FabLink$Message", name := "countFailure", desc := "()I" } : MethodName))),
  (39, (Cond.methodLink "FabLink$Outbox" (39 : Nat) ({ cls := "FabLink$Outbox", name := "dropFirst", desc := "()V" } : MethodName))),
  (42, (Cond.methodLink "FabLink$Outbox" (42 : Nat) ({ cls := "FabLink$Body", name := "clear", desc := "()V" } : MethodName))),
  (45, (Cond.fieldLink "FabLink$Outbox" (45 : Nat) "FabLink$Outbox" "number" "I")),
  (48, (Cond.constant "FabLink$Outbox" (48 : Nat) (65535 : Int32))),
  (49, (Cond.methodLink "FabLink$Outbox" (49 : Nat) ({ cls := "FabLink$Outbox", name := "freshBody", desc := "()LFabLink$Body;" } : MethodName))),
  (53, (Cond.methodLink "FabLink$Outbox" (53 : Nat) ({ cls := "FabLink$Body", name := "putHeader", desc := "([I)V" } : MethodName))),
  (57, (Cond.methodLink "FabLink$Outbox" (57 : Nat) ({ cls := "FabLink$Outbox", name := "nextNumber", desc := "()I" } : MethodName))),
  (60, (Cond.methodLink "FabLink$Outbox" (60 : Nat) ({ cls := "FabLink$Outbox", name := "send", desc := "(III)V" } : MethodName))),
  (64, (Cond.methodLink "FabLink$Outbox" (64 : Nat) ({ cls := "FabLink$Body", name := "fits", desc := "()Z" } : MethodName))),
  (68, (Cond.methodLink "FabLink$Outbox" (68 : Nat) ({ cls := "FabLink$Message", name := "stream", desc := "()I" } : MethodName))),
  (71, (Cond.methodLink "FabLink$Outbox" (71 : Nat) ({ cls := "FabLink$Message", name := "system", desc := "()I" } : MethodName))),
  (74, (Cond.methodLink "FabLink$Outbox" (74 : Nat) ({ cls := "FabLink$Outbox", name := "sendAbort", desc := "(LFabLink$Message;)V" } : MethodName))),
  (78, (Cond.methodLink "FabLink$Outbox" (78 : Nat) ({ cls := "FabLink$Body", name := "length", desc := "()I" } : MethodName))),
  (81, (Cond.methodLink "FabLink$Outbox" (81 : Nat) ({ cls := "FabLink$Message", name := "begin", desc := "(I)V" } : MethodName))),
  (85, (Cond.methodLink "FabLink$Outbox" (85 : Nat) ({ cls := "FabLink$Message", name := "writeHeader", desc := "(III)V" } : MethodName))),
  (88, (Cond.methodLink "FabLink$Outbox" (88 : Nat) ({ cls := "FabLink$Message", name := "bytes", desc := "()[I" } : MethodName))),
  (92, (Cond.methodLink "FabLink$Outbox" (92 : Nat) ({ cls := "FabLink$Body", name := "copyTo", desc := "([II)V" } : MethodName)))]
def xL3 : List (Nat × Cond) := [(3, (Cond.methodLink "FabLink$Body" (3 : Nat) ({ cls := "java/lang/Object", name := "<init>", desc := "()V" } : MethodName))),
  (11, (Cond.fieldLink "FabLink$Body" (11 : Nat) "FabLink$Body" "bytes" "[I")),
  (15, (Cond.fieldLink "FabLink$Body" (15 : Nat) "FabLink$Body" "length" "I")),
  (19, (Cond.methodLink "FabLink$Body" (19 : Nat) ({ cls := "FabLink$Body", name := "put", desc := "(I)V" } : MethodName))),
  (23, (Cond.methodLink "FabLink$Body" (23 : Nat) ({ cls := "java/lang/String", name := "length", desc := "()I" } : MethodName))),
  (28, (Cond.methodLink "FabLink$Body" (28 : Nat) ({ cls := "java/lang/String", name := "charAt", desc := "(I)C" } : MethodName))),
  (32, (Cond.methodLink "FabLink$Body" (32 : Nat) ({ cls := "FabLink$Body", name := "putList", desc := "(I)V" } : MethodName))),
  (37, (Cond.methodLink "FabLink$Body" (37 : Nat) ({ cls := "FabLink$Body", name := "putText", desc := "(Ljava/lang/String;)V" } : MethodName)))]
def xL4 : List (Nat × Cond) := [(3, (Cond.methodLink "FabLink$Message" (3 : Nat) ({ cls := "java/lang/Object", name := "<init>", desc := "()V" } : MethodName))),
  (11, (Cond.fieldLink "FabLink$Message" (11 : Nat) "FabLink$Message" "bytes" "[I")),
  (15, (Cond.fieldLink "FabLink$Message" (15 : Nat) "FabLink$Message" "length" "I")),
  (19, (Cond.fieldLink "FabLink$Message" (19 : Nat) "FabLink$Message" "failures" "I")),
  (22, (Cond.constant "FabLink$Message" (22 : Nat) (65535 : Int32)))]
def xL5 : List (Nat × Cond) := [(3, (Cond.methodLink "FabLink$Talks" (3 : Nat) ({ cls := "java/lang/Object", name := "<init>", desc := "()V" } : MethodName))),
  (11, (Cond.classLink "FabLink$Talks" (11 : Nat) "[[I")),
  (13, (Cond.fieldLink "FabLink$Talks" (13 : Nat) "FabLink$Talks" "headers" "[[I")),
  (16, (Cond.fieldLink "FabLink$Talks" (16 : Nat) "FabLink$Talks" "ages" "[I")),
  (20, (Cond.fieldLink "FabLink$Talks" (20 : Nat) "FabLink$Talks" "count" "I")),
  (24, (Cond.methodLink "FabLink$Talks" (24 : Nat) ({ cls := "FabLink$Talks", name := "isAnswer", desc := "([ILFabLink$Message;)Z" } : MethodName))),
  (28, (Cond.methodLink "FabLink$Talks" (28 : Nat) ({ cls := "FabLink$Message", name := "bytes", desc := "()[I" } : MethodName))),
  (34, (Cond.methodLink "FabLink$Talks" (34 : Nat) ({ cls := "FabLink$Message", name := "function", desc := "()I" } : MethodName))),
  (38, (Cond.methodLink "FabLink$Talks" (38 : Nat) ({ cls := "FabLink$Message", name := "stream", desc := "()I" } : MethodName))),
  (41, (Cond.methodLink "FabLink$Talks" (41 : Nat) ({ cls := "FabLink$Outbox", name := "sendComplaint", desc := "(I[I)V" } : MethodName))),
  (47, (Cond.methodLink "FabLink$Talks" (47 : Nat) ({ cls := "FabLink$Talks", name := "close", desc := "(I)V" } : MethodName)))]
def xL6 : List (Nat × Cond) := [(1, (Cond.methodLink "FabLink$Line" (1 : Nat) ({ cls := "java/lang/Object", name := "<init>", desc := "()V" } : MethodName))),
  (7, (Cond.classLink "FabLink$Line" (7 : Nat) "FabLink$Message")),
  (9, (Cond.methodLinkNest "FabLink$Line" (9 : Nat) ({ cls := "FabLink$Message", name := "<init>", desc := "()V" } : MethodName) "FabLink")),
  (10, (Cond.fieldLink "FabLink$Line" (10 : Nat) "FabLink$Line" "block" "LFabLink$Message;")),
  (16, (Cond.fieldLink "FabLink$Line" (16 : Nat) "FabLink$Line" "tape" "LFabLink$Tape;")),
  (20, (Cond.fieldLink "FabLink$Line" (20 : Nat) "FabLink$Line" "outbox" "LFabLink$Outbox;")),
  (24, (Cond.fieldLink "FabLink$Line" (24 : Nat) "FabLink$Line" "talks" "LFabLink$Talks;")),
  (28, (Cond.fieldLink "FabLink$Line" (28 : Nat) "FabLink$Line" "state" "I")),
  (32, (Cond.methodLink "FabLink$Line" (32 : Nat) ({ cls := "FabLink$Line", name := "readByte", desc := "(I)Z" } : MethodName))),
  (36, (Cond.methodLink "FabLink$Line" (36 : Nat) ({ cls := "FabLink$Line", name := "sayBlock", desc := "()V" } : MethodName))),
  (39, (Cond.methodLink "FabLink$Line" (39 : Nat) ({ cls := "FabLink$Line", name := "hearVerdict", desc := "(I)V" } : MethodName))),
  (43, (Cond.methodLink "FabLink$Line" (43 : Nat) ({ cls := "FabLink$Line", name := "beginReading", desc := "()V" } : MethodName))),
  (46, (Cond.methodLink "FabLink$Line" (46 : Nat) ({ cls := "FabLink$Tape", name := "say", desc := "(I)V" } : MethodName))),
  (51, (Cond.methodLink "FabLink$Line" (51 : Nat) ({ cls := "FabLink$Line", name := "enter", desc := "(I)V" } : MethodName))),
  (54, (Cond.fieldLink "FabLink$Line" (54 : Nat) "FabLink$Line" "lengthKnown" "Z")),
  (58, (Cond.fieldLink "FabLink$Line" (58 : Nat) "FabLink$Line" "got" "I")),
  (61, (Cond.fieldLink "FabLink$Line" (61 : Nat) "FabLink$Line" "heardSum" "I")),
  (64, (Cond.fieldLink "FabLink$Line" (64 : Nat) "FabLink$Line" "quietUnits" "I")),
  (67, (Cond.methodLink "FabLink$Line" (67 : Nat) ({ cls := "FabLink$Line", name := "readLength", desc := "(I)V" } : MethodName))),
  (70, (Cond.methodLink "FabLink$Line" (70 : Nat) ({ cls := "FabLink$Message", name := "length", desc := "()I" } : MethodName))),
  (74, (Cond.methodLink "FabLink$Line" (74 : Nat) ({ cls := "FabLink$Message", name := "set", desc := "(II)V" } : MethodName))),
  (78, (Cond.methodLink "FabLink$Line" (78 : Nat) ({ cls := "FabLink$Message", name := "sum", desc := "()I" } : MethodName))),
  (81, (Cond.methodLink "FabLink$Line" (81 : Nat) ({ cls := "FabLink$Line", name := "endReading", desc := "(I)V" } : MethodName))),
  (84, (Cond.methodLink "FabLink$Line" (84 : Nat) ({ cls := "FabLink$Message", name := "isLength", desc := "(I)Z" } : MethodName))),
  (87, (Cond.methodLink "FabLink$Line" (87 : Nat) ({ cls := "FabLink$Message", name := "begin", desc := "(I)V" } : MethodName))),
  (90, (Cond.methodLink "FabLink$Line" (90 : Nat) ({ cls := "FabLink$Outbox", name := "first", desc := "()LFabLink$Message;" } : MethodName))),
  (96, (Cond.methodLink "FabLink$Line" (96 : Nat) ({ cls := "FabLink$Message", name := "bytes", desc := "()[I" } : MethodName))),
  (100, (Cond.methodLink "FabLink$Line" (100 : Nat) ({ cls := "FabLink$Line", name := "fail", desc := "()V" } : MethodName))),
  (103, (Cond.methodLink "FabLink$Line" (103 : Nat) ({ cls := "FabLink$Message", name := "wantsReply", desc := "()Z" } : MethodName))),
  (107, (Cond.methodLink "FabLink$Line" (107 : Nat) ({ cls := "FabLink$Talks", name := "open", desc := "([I)V" } : MethodName))),
  (113, (Cond.methodLink "FabLink$Line" (113 : Nat) ({ cls := "FabLink$Outbox", name := "dropFirst", desc := "()V" } : MethodName))),
  (116, (Cond.methodLink "FabLink$Line" (116 : Nat) ({ cls := "FabLink$Outbox", name := "failFirst", desc := "()V" } : MethodName))),
  (119, (Cond.methodLink "FabLink$Line" (119 : Nat) ({ cls := "FabLink$Outbox", name := "count", desc := "()I" } : MethodName)))]
def xL7 : List (Nat × Cond) := [(3, (Cond.methodLink "FabLink$Machine" (3 : Nat) ({ cls := "java/lang/Object", name := "<init>", desc := "()V" } : MethodName))),
  (9, (Cond.classLink "FabLink$Machine" (9 : Nat) "FabLink$Variables")),
  (11, (Cond.methodLink "FabLink$Machine" (11 : Nat) ({ cls := "FabLink$Variables", name := "<init>", desc := "()V" } : MethodName))),
  (12, (Cond.fieldLink "FabLink$Machine" (12 : Nat) "FabLink$Machine" "variables" "LFabLink$Variables;")),
  (18, (Cond.classLink "FabLink$Machine" (18 : Nat) "FabLink$Links")),
  (20, (Cond.methodLinkNest "FabLink$Machine" (20 : Nat) ({ cls := "FabLink$Links", name := "<init>", desc := "()V" } : MethodName) "FabLink")),
  (21, (Cond.fieldLink "FabLink$Machine" (21 : Nat) "FabLink$Machine" "links" "LFabLink$Links;")),
  (25, (Cond.fieldLink "FabLink$Machine" (25 : Nat) "FabLink$Machine" "chosen" "I")),
  (29, (Cond.fieldLink "FabLink$Machine" (29 : Nat) "FabLink$Machine" "outbox" "LFabLink$Outbox;")),
  (33, (Cond.fieldLink "FabLink$Machine" (33 : Nat) "FabLink$Machine" "isOn" "Z")),
  (37, (Cond.fieldLink "FabLink$Machine" (37 : Nat) "FabLink$Machine" "speaking" "Z")),
  (40, (Cond.methodLink "FabLink$Machine" (40 : Nat) ({ cls := "FabLink$Variables", name := "controlNow", desc := "()I" } : MethodName))),
  (44, (Cond.methodLink "FabLink$Machine" (44 : Nat) ({ cls := "FabLink$Variables", name := "isOnline", desc := "()Z" } : MethodName))),
  (48, (Cond.methodLink "FabLink$Machine" (48 : Nat) ({ cls := "FabLink$Variables", name := "workNow", desc := "()I" } : MethodName))),
  (51, (Cond.fieldLink "FabLink$Machine" (51 : Nat) "FabLink$Machine" "workTime" "I")),
  (54, (Cond.methodLink "FabLink$Machine" (54 : Nat) ({ cls := "FabLink$Outbox", name := "freshBody", desc := "()LFabLink$Body;" } : MethodName))),
  (60, (Cond.methodLink "FabLink$Machine" (60 : Nat) ({ cls := "FabLink$Body", name := "putName", desc := "()V" } : MethodName))),
  (67, (Cond.methodLink "FabLink$Machine" (67 : Nat) ({ cls := "FabLink$Outbox", name := "nextNumber", desc := "()I" } : MethodName))),
  (70, (Cond.methodLink "FabLink$Machine" (70 : Nat) ({ cls := "FabLink$Outbox", name := "send", desc := "(III)V" } : MethodName))),
  (74, (Cond.methodLink "FabLink$Machine" (74 : Nat) ({ cls := "FabLink$Machine", name := "changeControl", desc := "(I)V" } : MethodName))),
  (78, (Cond.methodLink "FabLink$Machine" (78 : Nat) ({ cls := "FabLink$Machine", name := "controlNow", desc := "()I" } : MethodName))),
  (79, (Cond.methodLink "FabLink$Machine" (79 : Nat) ({ cls := "FabLink$Variables", name := "setControl", desc := "(I)V" } : MethodName))),
  (82, (Cond.methodLink "FabLink$Machine" (82 : Nat) ({ cls := "FabLink$Machine", name := "happen", desc := "(I)Z" } : MethodName))),
  (86, (Cond.methodLink "FabLink$Machine" (86 : Nat) ({ cls := "FabLink$Machine", name := "workNow", desc := "()I" } : MethodName))),
  (89, (Cond.methodLink "FabLink$Machine" (89 : Nat) ({ cls := "FabLink$Items", name := "isText", desc := "(ILjava/lang/String;)Z" } : MethodName))),
  (95, (Cond.methodLink "FabLink$Machine" (95 : Nat) ({ cls := "FabLink$Machine", name := "changeWork", desc := "(ZII)I" } : MethodName))),
  (105, (Cond.methodLink "FabLink$Machine" (105 : Nat) ({ cls := "FabLink$Variables", name := "setWork", desc := "(I)V" } : MethodName))),
  (108, (Cond.methodLink "FabLink$Machine" (108 : Nat) ({ cls := "FabLink$Links", name := "isTold", desc := "(I)Z" } : MethodName))),
  (111, (Cond.methodLink "FabLink$Machine" (111 : Nat) ({ cls := "FabLink$Body", name := "putList", desc := "(I)V" } : MethodName))),
  (114, (Cond.methodLink "FabLink$Machine" (114 : Nat) ({ cls := "FabLink$Body", name := "putNumber", desc := "(I)V" } : MethodName))),
  (117, (Cond.methodLink "FabLink$Machine" (117 : Nat) ({ cls := "FabLink$Links", name := "reportsOf", desc := "(I)I" } : MethodName))),
  (121, (Cond.methodLink "FabLink$Machine" (121 : Nat) ({ cls := "FabLink$Links", name := "reportOf", desc := "(II)I" } : MethodName))),
  (125, (Cond.methodLink "FabLink$Machine" (125 : Nat) ({ cls := "FabLink$Links", name := "variablesOf", desc := "(I)I" } : MethodName))),
  (128, (Cond.methodLink "FabLink$Machine" (128 : Nat) ({ cls := "FabLink$Links", name := "variableOf", desc := "(II)I" } : MethodName))),
  (131, (Cond.methodLink "FabLink$Machine" (131 : Nat) ({ cls := "FabLink$Variables", name := "writeTo", desc := "(LFabLink$Body;I)V" } : MethodName)))]
def xL8 : List (Nat × Cond) := [(3, (Cond.methodLink "FabLink$Variables" (3 : Nat) ({ cls := "java/lang/Object", name := "<init>", desc := "()V" } : MethodName))),
  (11, (Cond.fieldLink "FabLink$Variables" (11 : Nat) "FabLink$Variables" "formats" "[I")),
  (15, (Cond.fieldLink "FabLink$Variables" (15 : Nat) "FabLink$Variables" "sizes" "[I")),
  (18, (Cond.classLink "FabLink$Variables" (18 : Nat) "[[I")),
  (20, (Cond.fieldLink "FabLink$Variables" (20 : Nat) "FabLink$Variables" "bytes" "[[I")),
  (23, (Cond.methodLink "FabLink$Variables" (23 : Nat) ({ cls := "FabLink$Variables", name := "isVariable", desc := "(I)Z" } : MethodName))),
  (27, (Cond.methodLink "FabLink$Variables" (27 : Nat) ({ cls := "FabLink$Variables", name := "hasByte", desc := "(II)Z" } : MethodName))),
  (31, (Cond.methodLink "FabLink$Variables" (31 : Nat) ({ cls := "FabLink$Body", name := "put", desc := "(I)V" } : MethodName))),
  (37, (Cond.methodLink "FabLink$Variables" (37 : Nat) ({ cls := "FabLink$Variables", name := "faultOfPairs", desc := "(LFabLink$Items;)I" } : MethodName))),
  (41, (Cond.methodLink "FabLink$Variables" (41 : Nat) ({ cls := "FabLink$Items", name := "sizeOf", desc := "(I)I" } : MethodName))),
  (47, (Cond.methodLink "FabLink$Variables" (47 : Nat) ({ cls := "FabLink$Items", name := "numberOf", desc := "(I)I" } : MethodName))),
  (50, (Cond.methodLink "FabLink$Variables" (50 : Nat) ({ cls := "FabLink$Variables", name := "assignOne", desc := "(LFabLink$Items;II)V" } : MethodName))),
  (54, (Cond.methodLink "FabLink$Variables" (54 : Nat) ({ cls := "FabLink$Items", name := "behind", desc := "(I)I" } : MethodName))),
  (57, (Cond.methodLink "FabLink$Variables" (57 : Nat) ({ cls := "FabLink$Items", name := "isList", desc := "(I)Z" } : MethodName))),
  (60, (Cond.methodLink "FabLink$Variables" (60 : Nat) ({ cls := "FabLink$Items", name := "formatOf", desc := "(I)I" } : MethodName))),
  (63, (Cond.methodLink "FabLink$Variables" (63 : Nat) ({ cls := "java/lang/Math", name := "min", desc := "(II)I" } : MethodName))),
  (69, (Cond.methodLink "FabLink$Variables" (69 : Nat) ({ cls := "FabLink$Items", name := "byteOf", desc := "(II)I" } : MethodName)))]
def xL9 : List (Nat × Cond) := [(1, (Cond.methodLink "FabLink$Links" (1 : Nat) ({ cls := "java/lang/Object", name := "<init>", desc := "()V" } : MethodName))),
  (9, (Cond.fieldLink "FabLink$Links" (9 : Nat) "FabLink$Links" "variableCounts" "[I")),
  (13, (Cond.classLink "FabLink$Links" (13 : Nat) "[[I")),
  (15, (Cond.fieldLink "FabLink$Links" (15 : Nat) "FabLink$Links" "variables" "[[I")),
  (18, (Cond.fieldLink "FabLink$Links" (18 : Nat) "FabLink$Links" "reportCounts" "[I")),
  (21, (Cond.fieldLink "FabLink$Links" (21 : Nat) "FabLink$Links" "reports" "[[I")),
  (24, (Cond.fieldLink "FabLink$Links" (24 : Nat) "FabLink$Links" "enabled" "[Z")),
  (28, (Cond.methodLink "FabLink$Links" (28 : Nat) ({ cls := "FabLink$Links", name := "isReport", desc := "(I)Z" } : MethodName))),
  (32, (Cond.methodLink "FabLink$Links" (32 : Nat) ({ cls := "FabLink$Links", name := "isEvent", desc := "(I)Z" } : MethodName))),
  (35, (Cond.methodLink "FabLink$Links" (35 : Nat) ({ cls := "FabLink$Items", name := "sizeOf", desc := "(I)I" } : MethodName))),
  (41, (Cond.methodLink "FabLink$Links" (41 : Nat) ({ cls := "FabLink$Links", name := "faultOfReport", desc := "(LFabLink$Items;I)I" } : MethodName))),
  (45, (Cond.methodLink "FabLink$Links" (45 : Nat) ({ cls := "FabLink$Items", name := "behind", desc := "(I)I" } : MethodName))),
  (48, (Cond.methodLink "FabLink$Links" (48 : Nat) ({ cls := "FabLink$Links", name := "removeAllReports", desc := "()V" } : MethodName))),
  (51, (Cond.methodLink "FabLink$Links" (51 : Nat) ({ cls := "FabLink$Items", name := "numberOf", desc := "(I)I" } : MethodName))),
  (54, (Cond.methodLink "FabLink$Links" (54 : Nat) ({ cls := "FabLink$Links", name := "defineOne", desc := "(LFabLink$Items;II)V" } : MethodName))),
  (58, (Cond.methodLink "FabLink$Links" (58 : Nat) ({ cls := "FabLink$Links", name := "variablesOf", desc := "(I)I" } : MethodName))),
  (61, (Cond.methodLink "FabLink$Links" (61 : Nat) ({ cls := "FabLink$Variables", name := "isVariable", desc := "(I)Z" } : MethodName))),
  (66, (Cond.methodLink "FabLink$Links" (66 : Nat) ({ cls := "FabLink$Links", name := "removeReport", desc := "(I)V" } : MethodName))),
  (70, (Cond.methodLink "FabLink$Links" (70 : Nat) ({ cls := "java/lang/Math", name := "min", desc := "(II)I" } : MethodName))),
  (76, (Cond.methodLink "FabLink$Links" (76 : Nat) ({ cls := "FabLink$Links", name := "unlink", desc := "(II)V" } : MethodName))),
  (80, (Cond.methodLink "FabLink$Links" (80 : Nat) ({ cls := "FabLink$Links", name := "faultOfLink", desc := "(LFabLink$Items;I)I" } : MethodName))),
  (83, (Cond.methodLink "FabLink$Links" (83 : Nat) ({ cls := "FabLink$Links", name := "linkOne", desc := "(LFabLink$Items;II)V" } : MethodName))),
  (86, (Cond.methodLink "FabLink$Links" (86 : Nat) ({ cls := "FabLink$Items", name := "byteOf", desc := "(II)I" } : MethodName))),
  (89, (Cond.methodLink "FabLink$Links" (89 : Nat) ({ cls := "FabLink$Links", name := "enableOne", desc := "(IZ)V" } : MethodName))),
  (93, (Cond.methodLink "FabLink$Links" (93 : Nat) ({ cls := "FabLink$Links", name := "enableAll", desc := "(Z)V" } : MethodName)))]
def xL10 : List (Nat × Cond) := [(3, (Cond.methodLink "FabLink$Desk" (3 : Nat) ({ cls := "java/lang/Object", name := "<init>", desc := "()V" } : MethodName))),
  (9, (Cond.fieldLink "FabLink$Desk" (9 : Nat) "FabLink$Desk" "taken" "LFabLink$Message;")),
  (15, (Cond.fieldLink "FabLink$Desk" (15 : Nat) "FabLink$Desk" "machine" "LFabLink$Machine;")),
  (19, (Cond.fieldLink "FabLink$Desk" (19 : Nat) "FabLink$Desk" "outbox" "LFabLink$Outbox;")),
  (23, (Cond.fieldLink "FabLink$Desk" (23 : Nat) "FabLink$Desk" "talks" "LFabLink$Talks;")),
  (27, (Cond.classLink "FabLink$Desk" (27 : Nat) "FabLink$Items")),
  (29, (Cond.methodLink "FabLink$Desk" (29 : Nat) ({ cls := "FabLink$Items", name := "<init>", desc := "(LFabLink$Message;)V" } : MethodName))),
  (32, (Cond.fieldLink "FabLink$Desk" (32 : Nat) "FabLink$Desk" "items" "LFabLink$Items;")),
  (36, (Cond.methodLink "FabLink$Desk" (36 : Nat) ({ cls := "FabLink$Machine", name := "isEnabled", desc := "()Z" } : MethodName))),
  (42, (Cond.methodLink "FabLink$Desk" (42 : Nat) ({ cls := "FabLink$Message", name := "isFromMachine", desc := "()Z" } : MethodName))),
  (47, (Cond.methodLink "FabLink$Desk" (47 : Nat) ({ cls := "FabLink$Message", name := "isForDeviceOne", desc := "()Z" } : MethodName))),
  (50, (Cond.methodLink "FabLink$Desk" (50 : Nat) ({ cls := "FabLink$Desk", name := "refuse", desc := "(I)Z" } : MethodName))),
  (54, (Cond.methodLink "FabLink$Desk" (54 : Nat) ({ cls := "FabLink$Message", name := "isOnlyBlock", desc := "()Z" } : MethodName))),
  (57, (Cond.methodLink "FabLink$Desk" (57 : Nat) ({ cls := "FabLink$Message", name := "function", desc := "()I" } : MethodName))),
  (61, (Cond.methodLink "FabLink$Desk" (61 : Nat) ({ cls := "FabLink$Desk", name := "closeTalk", desc := "()V" } : MethodName))),
  (64, (Cond.methodLink "FabLink$Desk" (64 : Nat) ({ cls := "FabLink$Desk", name := "admitsRequest", desc := "()Z" } : MethodName))),
  (67, (Cond.methodLink "FabLink$Desk" (67 : Nat) ({ cls := "FabLink$Desk", name := "kind", desc := "()I" } : MethodName))),
  (70, (Cond.methodLink "FabLink$Desk" (70 : Nat) ({ cls := "FabLink$Machine", name := "isSpeaking", desc := "()Z" } : MethodName))),
  (73, (Cond.methodLink "FabLink$Desk" (73 : Nat) ({ cls := "FabLink$Message", name := "stream", desc := "()I" } : MethodName))),
  (76, (Cond.methodLink "FabLink$Desk" (76 : Nat) ({ cls := "FabLink$Desk", name := "isNamed", desc := "(I)Z" } : MethodName))),
  (79, (Cond.methodLink "FabLink$Desk" (79 : Nat) ({ cls := "FabLink$Machine", name := "isOnline", desc := "()Z" } : MethodName))),
  (82, (Cond.methodLink "FabLink$Desk" (82 : Nat) ({ cls := "FabLink$Desk", name := "abort", desc := "()Z" } : MethodName))),
  (85, (Cond.methodLink "FabLink$Desk" (85 : Nat) ({ cls := "FabLink$Desk", name := "bodyIsRight", desc := "(I)Z" } : MethodName))),
  (88, (Cond.methodLink "FabLink$Desk" (88 : Nat) ({ cls := "FabLink$Message", name := "bytes", desc := "()[I" } : MethodName))),
  (92, (Cond.methodLink "FabLink$Desk" (92 : Nat) ({ cls := "FabLink$Outbox", name := "sendComplaint", desc := "(I[I)V" } : MethodName))),
  (98, (Cond.methodLink "FabLink$Desk" (98 : Nat) ({ cls := "FabLink$Message", name := "wantsReply", desc := "()Z" } : MethodName))),
  (101, (Cond.methodLink "FabLink$Desk" (101 : Nat) ({ cls := "FabLink$Outbox", name := "sendAbort", desc := "(LFabLink$Message;)V" } : MethodName))),
  (104, (Cond.methodLink "FabLink$Desk" (104 : Nat) ({ cls := "FabLink$Talks", name := "find", desc := "(LFabLink$Message;)I" } : MethodName))),
  (110, (Cond.methodLink "FabLink$Desk" (110 : Nat) ({ cls := "FabLink$Talks", name := "isGreeting", desc := "(I)Z" } : MethodName))),
  (113, (Cond.methodLink "FabLink$Desk" (113 : Nat) ({ cls := "FabLink$Items", name := "read", desc := "()Z" } : MethodName))),
  (116, (Cond.methodLink "FabLink$Desk" (116 : Nat) ({ cls := "FabLink$Items", name := "isGreetingTaken", desc := "()Z" } : MethodName))),
  (119, (Cond.methodLink "FabLink$Desk" (119 : Nat) ({ cls := "FabLink$Machine", name := "beginSpeaking", desc := "()V" } : MethodName))),
  (122, (Cond.methodLink "FabLink$Desk" (122 : Nat) ({ cls := "FabLink$Talks", name := "close", desc := "(I)V" } : MethodName))),
  (126, (Cond.methodLink "FabLink$Desk" (126 : Nat) ({ cls := "FabLink$Items", name := "isNumbers", desc := "(I)Z" } : MethodName))),
  (129, (Cond.methodLink "FabLink$Desk" (129 : Nat) ({ cls := "FabLink$Items", name := "isPairs", desc := "()Z" } : MethodName))),
  (132, (Cond.methodLink "FabLink$Desk" (132 : Nat) ({ cls := "FabLink$Items", name := "isTable", desc := "()Z" } : MethodName))),
  (135, (Cond.methodLink "FabLink$Desk" (135 : Nat) ({ cls := "FabLink$Items", name := "isSwitch", desc := "()Z" } : MethodName))),
  (138, (Cond.methodLink "FabLink$Desk" (138 : Nat) ({ cls := "FabLink$Items", name := "isCommand", desc := "()Z" } : MethodName))),
  (141, (Cond.methodLink "FabLink$Desk" (141 : Nat) ({ cls := "FabLink$Message", name := "length", desc := "()I" } : MethodName))),
  (144, (Cond.methodLink "FabLink$Desk" (144 : Nat) ({ cls := "FabLink$Outbox", name := "freshBody", desc := "()LFabLink$Body;" } : MethodName))),
  (148, (Cond.methodLink "FabLink$Desk" (148 : Nat) ({ cls := "FabLink$Body", name := "putName", desc := "()V" } : MethodName))),
  (153, (Cond.methodLink "FabLink$Desk" (153 : Nat) ({ cls := "FabLink$Desk", name := "tellValues", desc := "()V" } : MethodName))),
  (156, (Cond.methodLink "FabLink$Desk" (156 : Nat) ({ cls := "FabLink$Desk", name := "answerInList", desc := "(I)V" } : MethodName))),
  (159, (Cond.methodLink "FabLink$Desk" (159 : Nat) ({ cls := "FabLink$Machine", name := "changeControl", desc := "(I)V" } : MethodName))),
  (162, (Cond.methodLink "FabLink$Desk" (162 : Nat) ({ cls := "FabLink$Desk", name := "answer", desc := "(I)V" } : MethodName))),
  (165, (Cond.methodLink "FabLink$Desk" (165 : Nat) ({ cls := "FabLink$Machine", name := "goOnline", desc := "()I" } : MethodName))),
  (168, (Cond.methodLink "FabLink$Desk" (168 : Nat) ({ cls := "FabLink$Machine", name := "variables", desc := "()LFabLink$Variables;" } : MethodName))),
  (172, (Cond.methodLink "FabLink$Desk" (172 : Nat) ({ cls := "FabLink$Variables", name := "assign", desc := "(LFabLink$Items;)I" } : MethodName))),
  (178, (Cond.methodLink "FabLink$Desk" (178 : Nat) ({ cls := "FabLink$Machine", name := "links", desc := "()LFabLink$Links;" } : MethodName))),
  (182, (Cond.methodLink "FabLink$Desk" (182 : Nat) ({ cls := "FabLink$Links", name := "define", desc := "(LFabLink$Items;)I" } : MethodName))),
  (187, (Cond.methodLink "FabLink$Desk" (187 : Nat) ({ cls := "FabLink$Links", name := "link", desc := "(LFabLink$Items;)I" } : MethodName))),
  (190, (Cond.methodLink "FabLink$Desk" (190 : Nat) ({ cls := "FabLink$Links", name := "enableEvents", desc := "(LFabLink$Items;)I" } : MethodName))),
  (193, (Cond.methodLink "FabLink$Desk" (193 : Nat) ({ cls := "FabLink$Machine", name := "obey", desc := "(LFabLink$Items;)I" } : MethodName))),
  (196, (Cond.methodLink "FabLink$Desk" (196 : Nat) ({ cls := "FabLink$Outbox", name := "sendReply", desc := "(LFabLink$Message;I)V" } : MethodName))),
  (200, (Cond.methodLink "FabLink$Desk" (200 : Nat) ({ cls := "FabLink$Body", name := "putBinary", desc := "(I)V" } : MethodName))),
  (203, (Cond.methodLink "FabLink$Desk" (203 : Nat) ({ cls := "FabLink$Body", name := "putList", desc := "(I)V" } : MethodName))),
  (206, (Cond.methodLink "FabLink$Desk" (206 : Nat) ({ cls := "FabLink$Items", name := "sizeOf", desc := "(I)I" } : MethodName))),
  (210, (Cond.methodLink "FabLink$Desk" (210 : Nat) ({ cls := "FabLink$Items", name := "numberOf", desc := "(I)I" } : MethodName))),
  (213, (Cond.methodLink "FabLink$Desk" (213 : Nat) ({ cls := "FabLink$Variables", name := "isVariable", desc := "(I)Z" } : MethodName))),
  (216, (Cond.methodLink "FabLink$Desk" (216 : Nat) ({ cls := "FabLink$Variables", name := "writeTo", desc := "(LFabLink$Body;I)V" } : MethodName)))]
def xL11 : List (Nat × Cond) := [(3, (Cond.methodLink "FabLink$Items" (3 : Nat) ({ cls := "java/lang/Object", name := "<init>", desc := "()V" } : MethodName))),
  (11, (Cond.fieldLink "FabLink$Items" (11 : Nat) "FabLink$Items" "formats" "[I")),
  (15, (Cond.fieldLink "FabLink$Items" (15 : Nat) "FabLink$Items" "sizes" "[I")),
  (18, (Cond.fieldLink "FabLink$Items" (18 : Nat) "FabLink$Items" "starts" "[I")),
  (21, (Cond.fieldLink "FabLink$Items" (21 : Nat) "FabLink$Items" "behinds" "[I")),
  (24, (Cond.fieldLink "FabLink$Items" (24 : Nat) "FabLink$Items" "message" "LFabLink$Message;")),
  (28, (Cond.fieldLink "FabLink$Items" (28 : Nat) "FabLink$Items" "count" "I")),
  (32, (Cond.methodLink "FabLink$Items" (32 : Nat) ({ cls := "FabLink$Items", name := "readItem", desc := "(II)I" } : MethodName))),
  (36, (Cond.methodLink "FabLink$Items" (36 : Nat) ({ cls := "FabLink$Message", name := "length", desc := "()I" } : MethodName))),
  (42, (Cond.methodLink "FabLink$Items" (42 : Nat) ({ cls := "FabLink$Message", name := "bytes", desc := "()[I" } : MethodName))),
  (46, (Cond.methodLink "FabLink$Items" (46 : Nat) ({ cls := "java/lang/Math", name := "min", desc := "(II)I" } : MethodName))),
  (51, (Cond.methodLink "FabLink$Items" (51 : Nat) ({ cls := "FabLink$Items", name := "readList", desc := "(II)I" } : MethodName))),
  (54, (Cond.methodLink "FabLink$Items" (54 : Nat) ({ cls := "FabLink$Items", name := "widthOf", desc := "(I)I" } : MethodName))),
  (58, (Cond.methodLink "FabLink$Items" (58 : Nat) ({ cls := "FabLink$Items", name := "endOfBytes", desc := "(IIII)I" } : MethodName))),
  (62, (Cond.methodLink "FabLink$Items" (62 : Nat) ({ cls := "FabLink$Items", name := "sizeOf", desc := "(I)I" } : MethodName))),
  (65, (Cond.methodLink "FabLink$Items" (65 : Nat) ({ cls := "FabLink$Items", name := "byteOf", desc := "(II)I" } : MethodName))),
  (68, (Cond.methodLink "FabLink$Items" (68 : Nat) ({ cls := "FabLink$Items", name := "isList", desc := "(I)Z" } : MethodName))),
  (72, (Cond.methodLink "FabLink$Items" (72 : Nat) ({ cls := "FabLink$Items", name := "isOneByte", desc := "(II)Z" } : MethodName))),
  (76, (Cond.methodLink "FabLink$Items" (76 : Nat) ({ cls := "FabLink$Items", name := "isListOf", desc := "(II)Z" } : MethodName))),
  (79, (Cond.methodLink "FabLink$Items" (79 : Nat) ({ cls := "FabLink$Items", name := "behind", desc := "(I)I" } : MethodName))),
  (82, (Cond.methodLink "FabLink$Items" (82 : Nat) ({ cls := "FabLink$Items", name := "isNumbers", desc := "(I)Z" } : MethodName))),
  (85, (Cond.methodLink "FabLink$Items" (85 : Nat) ({ cls := "FabLink$Items", name := "formatOf", desc := "(I)I" } : MethodName))),
  (88, (Cond.methodLink "FabLink$Items" (88 : Nat) ({ cls := "java/lang/String", name := "length", desc := "()I" } : MethodName))),
  (91, (Cond.methodLink "FabLink$Items" (91 : Nat) ({ cls := "java/lang/String", name := "charAt", desc := "(I)C" } : MethodName)))]
def xL12 : List (Nat × Cond) := [(1, (Cond.methodLink "FabLinkModel" (1 : Nat) ({ cls := "java/lang/Object", name := "<init>", desc := "()V" } : MethodName))),
  (7, (Cond.fieldLink "FabLinkModel" (7 : Nat) "FabLinkModel" "block" "[I")),
  (13, (Cond.fieldLink "FabLinkModel" (13 : Nat) "FabLinkModel" "saidRing" "[I")),
  (16, (Cond.fieldLink "FabLinkModel" (16 : Nat) "FabLinkModel" "queue" "[I")),
  (19, (Cond.fieldLink "FabLinkModel" (19 : Nat) "FabLinkModel" "sizes" "[I")),
  (22, (Cond.fieldLink "FabLinkModel" (22 : Nat) "FabLinkModel" "failures" "[I")),
  (25, (Cond.fieldLink "FabLinkModel" (25 : Nat) "FabLinkModel" "headers" "[I")),
  (28, (Cond.fieldLink "FabLinkModel" (28 : Nat) "FabLinkModel" "ages" "[I")),
  (31, (Cond.fieldLink "FabLinkModel" (31 : Nat) "FabLinkModel" "body" "[I")),
  (34, (Cond.fieldLink "FabLinkModel" (34 : Nat) "FabLinkModel" "chosen" "I")),
  (38, (Cond.fieldLink "FabLinkModel" (38 : Nat) "FabLinkModel" "formats" "[I")),
  (41, (Cond.fieldLink "FabLinkModel" (41 : Nat) "FabLinkModel" "lengths" "[I")),
  (44, (Cond.fieldLink "FabLinkModel" (44 : Nat) "FabLinkModel" "octets" "[I")),
  (47, (Cond.fieldLink "FabLinkModel" (47 : Nat) "FabLinkModel" "reportSize" "[I")),
  (50, (Cond.fieldLink "FabLinkModel" (50 : Nat) "FabLinkModel" "reportHas" "[I")),
  (53, (Cond.fieldLink "FabLinkModel" (53 : Nat) "FabLinkModel" "linked" "[I")),
  (56, (Cond.fieldLink "FabLinkModel" (56 : Nat) "FabLinkModel" "links" "[I")),
  (59, (Cond.fieldLink "FabLinkModel" (59 : Nat) "FabLinkModel" "on" "[Z")),
  (63, (Cond.fieldLink "FabLinkModel" (63 : Nat) "FabLinkModel" "open" "[I")),
  (66, (Cond.fieldLink "FabLinkModel" (66 : Nat) "FabLinkModel" "thrown" "I")),
  (69, (Cond.fieldLink "FabLinkModel" (69 : Nat) "FabLinkModel" "saidCount" "I")),
  (72, (Cond.fieldLink "FabLinkModel" (72 : Nat) "FabLinkModel" "line" "I")),
  (75, (Cond.fieldLink "FabLinkModel" (75 : Nat) "FabLinkModel" "silent" "I")),
  (78, (Cond.fieldLink "FabLinkModel" (78 : Nat) "FabLinkModel" "queued" "I")),
  (81, (Cond.methodLink "FabLinkModel" (81 : Nat) ({ cls := "FabLinkModel", name := "say", desc := "(I)V" } : MethodName))),
  (85, (Cond.methodLink "FabLinkModel" (85 : Nat) ({ cls := "FabLinkModel", name := "enter", desc := "(I)V" } : MethodName))),
  (88, (Cond.fieldLink "FabLinkModel" (88 : Nat) "FabLinkModel" "lost" "I")),
  (91, (Cond.methodLink "FabLinkModel" (91 : Nat) ({ cls := "FabLinkModel", name := "dropFirst", desc := "()V" } : MethodName))),
  (94, (Cond.fieldLink "FabLinkModel" (94 : Nat) "FabLinkModel" "talks" "I")),
  (97, (Cond.fieldLink "FabLinkModel" (97 : Nat) "FabLinkModel" "made" "I")),
  (100, (Cond.fieldLink "FabLinkModel" (100 : Nat) "FabLinkModel" "numbers" "I")),
  (103, (Cond.constant "FabLinkModel" (103 : Nat) (65536 : Int32))),
  (104, (Cond.methodLink "FabLinkModel" (104 : Nat) ({ cls := "FabLinkModel", name := "send", desc := "(IIIIII)V" } : MethodName))),
  (108, (Cond.methodLink "FabLinkModel" (108 : Nat) ({ cls := "FabLinkModel", name := "put", desc := "(I)V" } : MethodName))),
  (111, (Cond.methodLink "FabLinkModel" (111 : Nat) ({ cls := "FabLinkModel", name := "putHead", desc := "(II)V" } : MethodName))),
  (115, (Cond.fieldLink "FabLinkModel" (115 : Nat) "FabLinkModel" "control" "I")),
  (118, (Cond.fieldLink "FabLinkModel" (118 : Nat) "FabLinkModel" "work" "I")),
  (121, (Cond.methodLink "FabLinkModel" (121 : Nat) ({ cls := "FabLinkModel", name := "putNumber", desc := "(I)V" } : MethodName))),
  (124, (Cond.methodLink "FabLinkModel" (124 : Nat) ({ cls := "FabLinkModel", name := "tell", desc := "(II)V" } : MethodName))),
  (127, (Cond.methodLink "FabLinkModel" (127 : Nat) ({ cls := "FabLinkModel", name := "putBinary", desc := "(I)V" } : MethodName))),
  (130, (Cond.methodLink "FabLinkModel" (130 : Nat) ({ cls := "FabLinkModel", name := "reply", desc := "(I)V" } : MethodName))),
  (133, (Cond.fieldLink "FabLinkModel" (133 : Nat) "FabLinkModel" "speaking" "Z")),
  (137, (Cond.methodLink "FabLinkModel" (137 : Nat) ({ cls := "FabLinkModel", name := "putVariable", desc := "(I)V" } : MethodName))),
  (140, (Cond.methodLink "FabLinkModel" (140 : Nat) ({ cls := "FabLinkModel", name := "happen", desc := "(I)Z" } : MethodName))),
  (144, (Cond.fieldLink "FabLinkModel" (144 : Nat) "FabLinkModel" "taken" "I")),
  (147, (Cond.methodLink "FabLinkModel" (147 : Nat) ({ cls := "FabLinkModel", name := "end", desc := "()I" } : MethodName))),
  (151, (Cond.methodLink "FabLinkModel" (151 : Nat) ({ cls := "FabLinkModel", name := "formatAt", desc := "(I)I" } : MethodName))),
  (155, (Cond.methodLink "FabLinkModel" (155 : Nat) ({ cls := "FabLinkModel", name := "sizeAt", desc := "(I)I" } : MethodName))),
  (158, (Cond.methodLink "FabLinkModel" (158 : Nat) ({ cls := "FabLinkModel", name := "inside", desc := "(I)I" } : MethodName))),
  (161, (Cond.methodLink "FabLinkModel" (161 : Nat) ({ cls := "FabLinkModel", name := "unitOf", desc := "(I)I" } : MethodName))),
  (164, (Cond.methodLink "FabLinkModel" (164 : Nat) ({ cls := "FabLinkModel", name := "behind", desc := "(I)I" } : MethodName))),
  (167, (Cond.methodLink "FabLinkModel" (167 : Nat) ({ cls := "FabLinkModel", name := "isList", desc := "(II)Z" } : MethodName))),
  (171, (Cond.methodLink "FabLinkModel" (171 : Nat) ({ cls := "FabLinkModel", name := "nth", desc := "(II)I" } : MethodName))),
  (175, (Cond.methodLink "FabLinkModel" (175 : Nat) ({ cls := "FabLinkModel", name := "isNumber", desc := "(I)Z" } : MethodName))),
  (178, (Cond.methodLink "FabLinkModel" (178 : Nat) ({ cls := "FabLinkModel", name := "areNumbers", desc := "(I)Z" } : MethodName))),
  (181, (Cond.methodLink "FabLinkModel" (181 : Nat) ({ cls := "FabLinkModel", name := "wellFormed", desc := "()Z" } : MethodName))),
  (185, (Cond.methodLink "FabLinkModel" (185 : Nat) ({ cls := "FabLinkModel", name := "arePairs", desc := "()Z" } : MethodName))),
  (188, (Cond.methodLink "FabLinkModel" (188 : Nat) ({ cls := "FabLinkModel", name := "isSwitch", desc := "()Z" } : MethodName))),
  (191, (Cond.methodLink "FabLinkModel" (191 : Nat) ({ cls := "FabLinkModel", name := "isCommand", desc := "()Z" } : MethodName))),
  (194, (Cond.methodLink "FabLinkModel" (194 : Nat) ({ cls := "FabLinkModel", name := "isTable", desc := "()Z" } : MethodName))),
  (197, (Cond.methodLink "FabLinkModel" (197 : Nat) ({ cls := "FabLinkModel", name := "number", desc := "(I)I" } : MethodName))),
  (200, (Cond.methodLink "FabLinkModel" (200 : Nat) ({ cls := "FabLinkModel", name := "replyByte", desc := "(I)V" } : MethodName))),
  (203, (Cond.methodLink "FabLinkModel" (203 : Nat) ({ cls := "FabLinkModel", name := "unlink", desc := "(I)V" } : MethodName))),
  (206, (Cond.methodLink "FabLinkModel" (206 : Nat) ({ cls := "FabLinkModel", name := "noEvent", desc := "(I)Z" } : MethodName))),
  (209, (Cond.methodLink "FabLinkModel" (209 : Nat) ({ cls := "FabLinkModel", name := "noReport", desc := "(I)Z" } : MethodName))),
  (212, (Cond.methodLink "FabLinkModel" (212 : Nat) ({ cls := "FabLinkModel", name := "commandOf", desc := "(I)I" } : MethodName))),
  (215, (Cond.fieldLink "FabLinkModel" (215 : Nat) "FabLinkModel" "workTime" "I")),
  (218, (Cond.methodLink "FabLinkModel" (218 : Nat) ({ cls := "FabLinkModel", name := "become", desc := "(I)V" } : MethodName))),
  (221, (Cond.methodLink "FabLinkModel" (221 : Nat) ({ cls := "FabLinkModel", name := "putWho", desc := "()V" } : MethodName))),
  (224, (Cond.methodLink "FabLinkModel" (224 : Nat) ({ cls := "FabLinkModel", name := "values", desc := "()V" } : MethodName))),
  (227, (Cond.methodLink "FabLinkModel" (227 : Nat) ({ cls := "FabLinkModel", name := "toHost", desc := "()V" } : MethodName))),
  (230, (Cond.methodLink "FabLinkModel" (230 : Nat) ({ cls := "FabLinkModel", name := "assign", desc := "()V" } : MethodName))),
  (233, (Cond.methodLink "FabLinkModel" (233 : Nat) ({ cls := "FabLinkModel", name := "define", desc := "()V" } : MethodName))),
  (236, (Cond.methodLink "FabLinkModel" (236 : Nat) ({ cls := "FabLinkModel", name := "link", desc := "()V" } : MethodName))),
  (239, (Cond.methodLink "FabLinkModel" (239 : Nat) ({ cls := "FabLinkModel", name := "switchEvents", desc := "()V" } : MethodName))),
  (242, (Cond.methodLink "FabLinkModel" (242 : Nat) ({ cls := "FabLinkModel", name := "command", desc := "()V" } : MethodName))),
  (245, (Cond.methodLink "FabLinkModel" (245 : Nat) ({ cls := "FabLinkModel", name := "complain", desc := "(II)V" } : MethodName))),
  (248, (Cond.methodLink "FabLinkModel" (248 : Nat) ({ cls := "FabLinkModel", name := "named", desc := "(II)Z" } : MethodName))),
  (251, (Cond.methodLink "FabLinkModel" (251 : Nat) ({ cls := "FabLinkModel", name := "fits", desc := "(II)Z" } : MethodName))),
  (254, (Cond.methodLink "FabLinkModel" (254 : Nat) ({ cls := "FabLinkModel", name := "act", desc := "(II)V" } : MethodName))),
  (257, (Cond.methodLink "FabLinkModel" (257 : Nat) ({ cls := "FabLinkModel", name := "dropTalk", desc := "(I)V" } : MethodName))),
  (260, (Cond.methodLink "FabLinkModel" (260 : Nat) ({ cls := "FabLinkModel", name := "welcomes", desc := "()Z" } : MethodName))),
  (263, (Cond.fieldLink "FabLinkModel" (263 : Nat) "FabLinkModel" "enabled" "Z")),
  (266, (Cond.methodLink "FabLinkModel" (266 : Nat) ({ cls := "FabLinkModel", name := "answered", desc := "(II)V" } : MethodName))),
  (269, (Cond.methodLink "FabLinkModel" (269 : Nat) ({ cls := "FabLinkModel", name := "asked", desc := "(II)V" } : MethodName))),
  (272, (Cond.fieldLink "FabLinkModel" (272 : Nat) "FabLinkModel" "heard" "I")),
  (275, (Cond.methodLink "FabLinkModel" (275 : Nat) ({ cls := "FabLinkModel", name := "take", desc := "()V" } : MethodName))),
  (278, (Cond.methodLink "FabLinkModel" (278 : Nat) ({ cls := "FabLinkModel", name := "read", desc := "(I)V" } : MethodName))),
  (281, (Cond.methodLink "FabLinkModel" (281 : Nat) ({ cls := "FabLinkModel", name := "sayBlock", desc := "()V" } : MethodName))),
  (284, (Cond.methodLink "FabLinkModel" (284 : Nat) ({ cls := "FabLinkModel", name := "wasSent", desc := "()V" } : MethodName))),
  (287, (Cond.methodLink "FabLinkModel" (287 : Nat) ({ cls := "FabLinkModel", name := "fail", desc := "()V" } : MethodName))),
  (290, (Cond.methodLink "FabLinkModel" (290 : Nat) ({ cls := "FabLinkModel", name := "settle", desc := "()V" } : MethodName))),
  (293, (Cond.methodLink "FabLinkModel" (293 : Nat) ({ cls := "FabLinkModel", name := "unit", desc := "()V" } : MethodName)))]
def xL13 : List (Nat × Cond) := []
def xL14 : List (Nat × Cond) := [(7, (Cond.methodLink "FabLinkLaw" (7 : Nat) ({ cls := "FabLink", name := "hear", desc := "(I)I" } : MethodName))),
  (8, (Cond.classLink "FabLinkLaw" (8 : Nat) "FabLink")),
  (13, (Cond.classLink "FabLinkLaw" (13 : Nat) "java/lang/IllegalArgumentException")),
  (15, (Cond.methodLink "FabLinkLaw" (15 : Nat) ({ cls := "FabLink", name := "tick", desc := "(I)I" } : MethodName))),
  (18, (Cond.methodLink "FabLinkLaw" (18 : Nat) ({ cls := "FabLink", name := "enable", desc := "(Z)V" } : MethodName))),
  (22, (Cond.classLink "FabLinkLaw" (22 : Nat) "java/lang/IllegalStateException")),
  (24, (Cond.methodLink "FabLinkLaw" (24 : Nat) ({ cls := "FabLink", name := "control", desc := "(I)V" } : MethodName))),
  (28, (Cond.methodLink "FabLinkLaw" (28 : Nat) ({ cls := "FabLink", name := "saidAt", desc := "(I)I" } : MethodName))),
  (31, (Cond.classLink "FabLinkLaw" (31 : Nat) "java/lang/IndexOutOfBoundsException")),
  (33, (Cond.methodLink "FabLinkLaw" (33 : Nat) ({ cls := "FabLink", name := "look", desc := "(I)I" } : MethodName))),
  (36, (Cond.methodLink "FabLinkLaw" (36 : Nat) ({ cls := "FabLink", name := "report", desc := "(I)I" } : MethodName))),
  (39, (Cond.methodLink "FabLinkLaw" (39 : Nat) ({ cls := "FabLink", name := "event", desc := "(I)I" } : MethodName))),
  (42, (Cond.methodLink "FabLinkLaw" (42 : Nat) ({ cls := "FabLink", name := "format", desc := "(I)I" } : MethodName))),
  (45, (Cond.methodLink "FabLinkLaw" (45 : Nat) ({ cls := "FabLink", name := "octet", desc := "(II)I" } : MethodName))),
  (49, (Cond.methodLink "FabLinkLaw" (49 : Nat) ({ cls := "FabLink", name := "<init>", desc := "()V" } : MethodName))),
  (50, (Cond.classLink "FabLinkLaw" (50 : Nat) "FabLinkModel")),
  (52, (Cond.methodLink "FabLinkLaw" (52 : Nat) ({ cls := "FabLinkModel", name := "<init>", desc := "()V" } : MethodName))),
  (53, (Cond.methodLink "FabLinkLaw" (53 : Nat) ({ cls := "FabLinkLaw", name := "hear", desc := "(LFabLink;I[J)I" } : MethodName))),
  (58, (Cond.methodLink "FabLinkLaw" (58 : Nat) ({ cls := "FabLinkModel", name := "hear", desc := "(I)I" } : MethodName))),
  (59, (Cond.methodLink "FabLinkLaw" (59 : Nat) ({ cls := "FabLinkModel", name := "thrown", desc := "()I" } : MethodName))),
  (63, (Cond.methodLink "FabLinkLaw" (63 : Nat) ({ cls := "FabLinkLaw", name := "tick", desc := "(LFabLink;I[J)I" } : MethodName))),
  (65, (Cond.methodLink "FabLinkLaw" (65 : Nat) ({ cls := "FabLinkModel", name := "tick", desc := "(I)I" } : MethodName))),
  (66, (Cond.methodLink "FabLinkLaw" (66 : Nat) ({ cls := "FabLinkLaw", name := "enable", desc := "(LFabLink;Z)I" } : MethodName))),
  (69, (Cond.methodLink "FabLinkLaw" (69 : Nat) ({ cls := "FabLinkModel", name := "enable", desc := "(Z)V" } : MethodName))),
  (70, (Cond.methodLink "FabLinkLaw" (70 : Nat) ({ cls := "FabLinkLaw", name := "control", desc := "(LFabLink;I)I" } : MethodName))),
  (73, (Cond.methodLink "FabLinkLaw" (73 : Nat) ({ cls := "FabLinkModel", name := "control", desc := "(I)V" } : MethodName))),
  (74, (Cond.methodLink "FabLinkLaw" (74 : Nat) ({ cls := "FabLink", name := "ring", desc := "()Z" } : MethodName))),
  (78, (Cond.methodLink "FabLinkLaw" (78 : Nat) ({ cls := "FabLinkModel", name := "ring", desc := "()Z" } : MethodName))),
  (79, (Cond.methodLink "FabLinkLaw" (79 : Nat) ({ cls := "FabLink", name := "said", desc := "()I" } : MethodName))),
  (82, (Cond.methodLink "FabLinkLaw" (82 : Nat) ({ cls := "FabLinkModel", name := "said", desc := "()I" } : MethodName))),
  (83, (Cond.methodLink "FabLinkLaw" (83 : Nat) ({ cls := "FabLinkLaw", name := "saidAt", desc := "(LFabLink;I[J)I" } : MethodName))),
  (85, (Cond.methodLink "FabLinkLaw" (85 : Nat) ({ cls := "FabLinkModel", name := "saidAt", desc := "(I)I" } : MethodName))),
  (86, (Cond.methodLink "FabLinkLaw" (86 : Nat) ({ cls := "FabLinkLaw", name := "look", desc := "(LFabLink;I[J)I" } : MethodName))),
  (88, (Cond.methodLink "FabLinkLaw" (88 : Nat) ({ cls := "FabLinkModel", name := "look", desc := "(I)I" } : MethodName))),
  (89, (Cond.methodLink "FabLinkLaw" (89 : Nat) ({ cls := "FabLinkLaw", name := "report", desc := "(LFabLink;I[J)I" } : MethodName))),
  (91, (Cond.methodLink "FabLinkLaw" (91 : Nat) ({ cls := "FabLinkModel", name := "report", desc := "(I)I" } : MethodName))),
  (92, (Cond.methodLink "FabLinkLaw" (92 : Nat) ({ cls := "FabLinkLaw", name := "event", desc := "(LFabLink;I[J)I" } : MethodName))),
  (94, (Cond.methodLink "FabLinkLaw" (94 : Nat) ({ cls := "FabLinkModel", name := "event", desc := "(I)I" } : MethodName))),
  (95, (Cond.methodLink "FabLinkLaw" (95 : Nat) ({ cls := "FabLinkLaw", name := "format", desc := "(LFabLink;I[J)I" } : MethodName))),
  (97, (Cond.methodLink "FabLinkLaw" (97 : Nat) ({ cls := "FabLinkModel", name := "format", desc := "(I)I" } : MethodName))),
  (98, (Cond.methodLink "FabLinkLaw" (98 : Nat) ({ cls := "FabLinkLaw", name := "octet", desc := "(LFabLink;II[J)I" } : MethodName))),
  (101, (Cond.methodLink "FabLinkLaw" (101 : Nat) ({ cls := "FabLinkModel", name := "octet", desc := "(II)I" } : MethodName)))]
def xm_lks : List (List (Nat × Cond)) := [xL0, xL1, xL2, xL3, xL4, xL5, xL6, xL7, xL8, xL9, xL10, xL11, xL12, xL13, xL14]
def xm_M0 : MethodName × ByteArray × Nat × Option FieldType × Nat × Nat := (⟨"", "", ""⟩, ByteArray.empty, 0, none, 9, 0)
def xM0 : MethodName × ByteArray × Nat × Option FieldType × Nat × Nat := (⟨"FabLink", "<init>", "()V"⟩, prog_1_method_1_code, 1, none, 2, 0)
def xM1 : MethodName × ByteArray × Nat × Option FieldType × Nat × Nat := (⟨"FabLink$Tape", "<init>", "()V"⟩, prog_11_method_1_code, 1, none, 2, 1)
def xM2 : MethodName × ByteArray × Nat × Option FieldType × Nat × Nat := (⟨"FabLink$Outbox", "<init>", "()V"⟩, prog_9_method_1_code, 2, none, 2, 2)
def xM3 : MethodName × ByteArray × Nat × Option FieldType × Nat × Nat := (⟨"FabLink$Body", "<init>", "()V"⟩, prog_2_method_1_code, 1, none, 2, 3)
def xM4 : MethodName × ByteArray × Nat × Option FieldType × Nat × Nat := (⟨"FabLink$Message", "<init>", "()V"⟩, prog_8_method_1_code, 1, none, 2, 4)
def xM5 : MethodName × ByteArray × Nat × Option FieldType × Nat × Nat := (⟨"FabLink$Talks", "<init>", "()V"⟩, prog_10_method_1_code, 1, none, 2, 5)
def xM6 : MethodName × ByteArray × Nat × Option FieldType × Nat × Nat := (⟨"FabLink$Line", "<init>", "(LFabLink$Tape;LFabLink$Outbox;LFabLink$Talks;)V"⟩, prog_5_method_1_code, 4, none, 2, 6)
def xM7 : MethodName × ByteArray × Nat × Option FieldType × Nat × Nat := (⟨"FabLink$Machine", "<init>", "(LFabLink$Outbox;)V"⟩, prog_7_method_1_code, 2, none, 2, 7)
def xM8 : MethodName × ByteArray × Nat × Option FieldType × Nat × Nat := (⟨"FabLink$Variables", "<init>", "()V"⟩, prog_12_method_1_code, 2, none, 2, 8)
def xM9 : MethodName × ByteArray × Nat × Option FieldType × Nat × Nat := (⟨"FabLink$Links", "<init>", "()V"⟩, prog_6_method_1_code, 1, none, 2, 9)
def xM10 : MethodName × ByteArray × Nat × Option FieldType × Nat × Nat := (⟨"FabLink$Line", "block", "()LFabLink$Message;"⟩, prog_5_method_3_code, 1, some (.object "FabLink$Message"), 1, 6)
def xM11 : MethodName × ByteArray × Nat × Option FieldType × Nat × Nat := (⟨"FabLink$Desk", "<init>", "(LFabLink$Message;LFabLink$Machine;LFabLink$Outbox;LFabLink$Talks;)V"⟩, prog_3_method_1_code, 5, none, 2, 10)
def xM12 : MethodName × ByteArray × Nat × Option FieldType × Nat × Nat := (⟨"FabLink$Items", "<init>", "(LFabLink$Message;)V"⟩, prog_4_method_1_code, 2, none, 2, 11)
def xM13 : MethodName × ByteArray × Nat × Option FieldType × Nat × Nat := (⟨"FabLink", "ring", "()Z"⟩, prog_1_method_6_code, 2, some (.boolean), 1, 0)
def xM14 : MethodName × ByteArray × Nat × Option FieldType × Nat × Nat := (⟨"FabLink$Machine", "happen", "(I)Z"⟩, prog_7_method_19_code, 6, some (.boolean), 1, 7)
def xM15 : MethodName × ByteArray × Nat × Option FieldType × Nat × Nat := (⟨"FabLink$Links", "isTold", "(I)Z"⟩, prog_6_method_9_code, 2, some (.boolean), 1, 9)
def xM16 : MethodName × ByteArray × Nat × Option FieldType × Nat × Nat := (⟨"FabLink$Links", "isEvent", "(I)Z"⟩, prog_6_method_3_code, 1, some (.boolean), 0, 9)
def xM17 : MethodName × ByteArray × Nat × Option FieldType × Nat × Nat := (⟨"FabLink$Variables", "isOnline", "()Z"⟩, prog_12_method_8_code, 1, some (.boolean), 1, 8)
def xM18 : MethodName × ByteArray × Nat × Option FieldType × Nat × Nat := (⟨"FabLink$Outbox", "freshBody", "()LFabLink$Body;"⟩, prog_9_method_7_code, 1, some (.object "FabLink$Body"), 1, 2)
def xM19 : MethodName × ByteArray × Nat × Option FieldType × Nat × Nat := (⟨"FabLink$Body", "clear", "()V"⟩, prog_2_method_2_code, 1, none, 1, 3)
def xM20 : MethodName × ByteArray × Nat × Option FieldType × Nat × Nat := (⟨"FabLink$Body", "putList", "(I)V"⟩, prog_2_method_6_code, 2, none, 1, 3)
def xM21 : MethodName × ByteArray × Nat × Option FieldType × Nat × Nat := (⟨"FabLink$Body", "put", "(I)V"⟩, prog_2_method_5_code, 2, none, 1, 3)
def xM22 : MethodName × ByteArray × Nat × Option FieldType × Nat × Nat := (⟨"FabLink$Body", "putNumber", "(I)V"⟩, prog_2_method_7_code, 2, none, 1, 3)
def xM23 : MethodName × ByteArray × Nat × Option FieldType × Nat × Nat := (⟨"FabLink$Links", "reportsOf", "(I)I"⟩, prog_6_method_6_code, 2, some (.int), 1, 9)
def xM24 : MethodName × ByteArray × Nat × Option FieldType × Nat × Nat := (⟨"FabLink$Links", "reportOf", "(II)I"⟩, prog_6_method_7_code, 3, some (.int), 1, 9)
def xM25 : MethodName × ByteArray × Nat × Option FieldType × Nat × Nat := (⟨"FabLink$Links", "variablesOf", "(I)I"⟩, prog_6_method_4_code, 2, some (.int), 1, 9)
def xM26 : MethodName × ByteArray × Nat × Option FieldType × Nat × Nat := (⟨"FabLink$Links", "isReport", "(I)Z"⟩, prog_6_method_2_code, 1, some (.boolean), 0, 9)
def xM27 : MethodName × ByteArray × Nat × Option FieldType × Nat × Nat := (⟨"FabLink$Links", "variableOf", "(II)I"⟩, prog_6_method_5_code, 3, some (.int), 1, 9)
def xM28 : MethodName × ByteArray × Nat × Option FieldType × Nat × Nat := (⟨"FabLink$Variables", "writeTo", "(LFabLink$Body;I)V"⟩, prog_12_method_11_code, 4, none, 1, 8)
def xM29 : MethodName × ByteArray × Nat × Option FieldType × Nat × Nat := (⟨"FabLink$Variables", "isVariable", "(I)Z"⟩, prog_12_method_2_code, 1, some (.boolean), 0, 8)
def xM30 : MethodName × ByteArray × Nat × Option FieldType × Nat × Nat := (⟨"FabLink$Outbox", "nextNumber", "()I"⟩, prog_9_method_8_code, 1, some (.int), 1, 2)
def xM31 : MethodName × ByteArray × Nat × Option FieldType × Nat × Nat := (⟨"FabLink$Outbox", "send", "(III)V"⟩, prog_9_method_12_code, 5, none, 1, 2)
def xM32 : MethodName × ByteArray × Nat × Option FieldType × Nat × Nat := (⟨"FabLink$Body", "fits", "()Z"⟩, prog_2_method_3_code, 1, some (.boolean), 1, 3)
def xM33 : MethodName × ByteArray × Nat × Option FieldType × Nat × Nat := (⟨"FabLink$Body", "length", "()I"⟩, prog_2_method_4_code, 1, some (.int), 1, 3)
def xM34 : MethodName × ByteArray × Nat × Option FieldType × Nat × Nat := (⟨"FabLink$Message", "begin", "(I)V"⟩, prog_8_method_3_code, 2, none, 1, 4)
def xM35 : MethodName × ByteArray × Nat × Option FieldType × Nat × Nat := (⟨"FabLink$Message", "writeHeader", "(III)V"⟩, prog_8_method_5_code, 4, none, 1, 4)
def xM36 : MethodName × ByteArray × Nat × Option FieldType × Nat × Nat := (⟨"FabLink$Message", "bytes", "()[I"⟩, prog_8_method_6_code, 1, some (.array (.int)), 1, 4)
def xM37 : MethodName × ByteArray × Nat × Option FieldType × Nat × Nat := (⟨"FabLink$Body", "copyTo", "([II)V"⟩, prog_2_method_12_code, 4, none, 1, 3)
def xM38 : MethodName × ByteArray × Nat × Option FieldType × Nat × Nat := (⟨"FabLink$Line", "settle", "()V"⟩, prog_5_method_14_code, 1, none, 1, 6)
def xM39 : MethodName × ByteArray × Nat × Option FieldType × Nat × Nat := (⟨"FabLink$Outbox", "count", "()I"⟩, prog_9_method_2_code, 1, some (.int), 1, 2)
def xM40 : MethodName × ByteArray × Nat × Option FieldType × Nat × Nat := (⟨"FabLink$Tape", "say", "(I)V"⟩, prog_11_method_2_code, 2, none, 1, 1)
def xM41 : MethodName × ByteArray × Nat × Option FieldType × Nat × Nat := (⟨"java/lang/Math", "floorMod", "(II)I"⟩, prog_19_method_50_code, 3, some (.int), 0, 13)
def xM42 : MethodName × ByteArray × Nat × Option FieldType × Nat × Nat := (⟨"FabLink$Line", "enter", "(I)V"⟩, prog_5_method_12_code, 2, none, 1, 6)
def xM43 : MethodName × ByteArray × Nat × Option FieldType × Nat × Nat := (⟨"FabLink", "said", "()I"⟩, prog_1_method_7_code, 1, some (.int), 1, 0)
def xM44 : MethodName × ByteArray × Nat × Option FieldType × Nat × Nat := (⟨"FabLink$Tape", "count", "()I"⟩, prog_11_method_3_code, 1, some (.int), 1, 1)
def xM45 : MethodName × ByteArray × Nat × Option FieldType × Nat × Nat := (⟨"FabLink", "hear", "(I)I"⟩, prog_1_method_2_code, 3, some (.int), 1, 0)
def xM46 : MethodName × ByteArray × Nat × Option FieldType × Nat × Nat := (⟨"FabLink$Line", "takesMessageBy", "(I)Z"⟩, prog_5_method_4_code, 2, some (.boolean), 1, 6)
def xM47 : MethodName × ByteArray × Nat × Option FieldType × Nat × Nat := (⟨"FabLink$Line", "readByte", "(I)Z"⟩, prog_5_method_6_code, 3, some (.boolean), 1, 6)
def xM48 : MethodName × ByteArray × Nat × Option FieldType × Nat × Nat := (⟨"FabLink$Line", "readLength", "(I)V"⟩, prog_5_method_7_code, 2, none, 1, 6)
def xM49 : MethodName × ByteArray × Nat × Option FieldType × Nat × Nat := (⟨"FabLink$Message", "isLength", "(I)Z"⟩, prog_8_method_2_code, 1, some (.boolean), 0, 4)
def xM50 : MethodName × ByteArray × Nat × Option FieldType × Nat × Nat := (⟨"FabLink$Line", "endReading", "(I)V"⟩, prog_5_method_8_code, 2, none, 1, 6)
def xM51 : MethodName × ByteArray × Nat × Option FieldType × Nat × Nat := (⟨"FabLink$Message", "length", "()I"⟩, prog_8_method_7_code, 1, some (.int), 1, 4)
def xM52 : MethodName × ByteArray × Nat × Option FieldType × Nat × Nat := (⟨"FabLink$Message", "set", "(II)V"⟩, prog_8_method_4_code, 3, none, 1, 4)
def xM53 : MethodName × ByteArray × Nat × Option FieldType × Nat × Nat := (⟨"FabLink$Message", "sum", "()I"⟩, prog_8_method_8_code, 3, some (.int), 1, 4)
def xM54 : MethodName × ByteArray × Nat × Option FieldType × Nat × Nat := (⟨"FabLink$Line", "sayBlock", "()V"⟩, prog_5_method_9_code, 5, none, 1, 6)
def xM55 : MethodName × ByteArray × Nat × Option FieldType × Nat × Nat := (⟨"FabLink$Outbox", "first", "()LFabLink$Message;"⟩, prog_9_method_4_code, 1, some (.object "FabLink$Message"), 1, 2)
def xM56 : MethodName × ByteArray × Nat × Option FieldType × Nat × Nat := (⟨"FabLink$Line", "hearVerdict", "(I)V"⟩, prog_5_method_10_code, 3, none, 1, 6)
def xM57 : MethodName × ByteArray × Nat × Option FieldType × Nat × Nat := (⟨"FabLink$Line", "fail", "()V"⟩, prog_5_method_11_code, 1, none, 1, 6)
def xM58 : MethodName × ByteArray × Nat × Option FieldType × Nat × Nat := (⟨"FabLink$Outbox", "failFirst", "()V"⟩, prog_9_method_6_code, 1, none, 1, 2)
def xM59 : MethodName × ByteArray × Nat × Option FieldType × Nat × Nat := (⟨"FabLink$Message", "countFailure", "()I"⟩, prog_8_method_9_code, 1, some (.int), 1, 4)
def xM60 : MethodName × ByteArray × Nat × Option FieldType × Nat × Nat := (⟨"FabLink$Outbox", "dropFirst", "()V"⟩, prog_9_method_5_code, 1, none, 1, 2)
def xM61 : MethodName × ByteArray × Nat × Option FieldType × Nat × Nat := (⟨"FabLink$Message", "wantsReply", "()Z"⟩, prog_8_method_13_code, 1, some (.boolean), 1, 4)
def xM62 : MethodName × ByteArray × Nat × Option FieldType × Nat × Nat := (⟨"FabLink$Talks", "open", "([I)V"⟩, prog_10_method_3_code, 3, none, 1, 5)
def xM63 : MethodName × ByteArray × Nat × Option FieldType × Nat × Nat := (⟨"FabLink$Line", "beginReading", "()V"⟩, prog_5_method_5_code, 1, none, 1, 6)
def xM64 : MethodName × ByteArray × Nat × Option FieldType × Nat × Nat := (⟨"FabLink$Desk", "admits", "()Z"⟩, prog_3_method_2_code, 1, some (.boolean), 1, 10)
def xM65 : MethodName × ByteArray × Nat × Option FieldType × Nat × Nat := (⟨"FabLink$Machine", "isEnabled", "()Z"⟩, prog_7_method_4_code, 1, some (.boolean), 1, 7)
def xM66 : MethodName × ByteArray × Nat × Option FieldType × Nat × Nat := (⟨"FabLink$Message", "isFromMachine", "()Z"⟩, prog_8_method_10_code, 1, some (.boolean), 1, 4)
def xM67 : MethodName × ByteArray × Nat × Option FieldType × Nat × Nat := (⟨"FabLink$Message", "isForDeviceOne", "()Z"⟩, prog_8_method_11_code, 1, some (.boolean), 1, 4)
def xM68 : MethodName × ByteArray × Nat × Option FieldType × Nat × Nat := (⟨"FabLink$Desk", "refuse", "(I)Z"⟩, prog_3_method_5_code, 2, some (.boolean), 1, 10)
def xM69 : MethodName × ByteArray × Nat × Option FieldType × Nat × Nat := (⟨"FabLink$Outbox", "sendComplaint", "(I[I)V"⟩, prog_9_method_9_code, 3, none, 1, 2)
def xM70 : MethodName × ByteArray × Nat × Option FieldType × Nat × Nat := (⟨"FabLink$Body", "putHeader", "([I)V"⟩, prog_2_method_11_code, 3, none, 1, 3)
def xM71 : MethodName × ByteArray × Nat × Option FieldType × Nat × Nat := (⟨"FabLink$Message", "isOnlyBlock", "()Z"⟩, prog_8_method_12_code, 1, some (.boolean), 1, 4)
def xM72 : MethodName × ByteArray × Nat × Option FieldType × Nat × Nat := (⟨"FabLink$Message", "function", "()I"⟩, prog_8_method_15_code, 1, some (.int), 1, 4)
def xM73 : MethodName × ByteArray × Nat × Option FieldType × Nat × Nat := (⟨"FabLink$Desk", "closeTalk", "()V"⟩, prog_3_method_7_code, 2, none, 1, 10)
def xM74 : MethodName × ByteArray × Nat × Option FieldType × Nat × Nat := (⟨"FabLink$Talks", "find", "(LFabLink$Message;)I"⟩, prog_10_method_4_code, 3, some (.int), 1, 5)
def xM75 : MethodName × ByteArray × Nat × Option FieldType × Nat × Nat := (⟨"FabLink$Talks", "isAnswer", "([ILFabLink$Message;)Z"⟩, prog_10_method_5_code, 4, some (.boolean), 0, 5)
def xM76 : MethodName × ByteArray × Nat × Option FieldType × Nat × Nat := (⟨"FabLink$Message", "stream", "()I"⟩, prog_8_method_14_code, 1, some (.int), 1, 4)
def xM77 : MethodName × ByteArray × Nat × Option FieldType × Nat × Nat := (⟨"FabLink$Talks", "isGreeting", "(I)Z"⟩, prog_10_method_6_code, 2, some (.boolean), 1, 5)
def xM78 : MethodName × ByteArray × Nat × Option FieldType × Nat × Nat := (⟨"FabLink$Items", "read", "()Z"⟩, prog_4_method_2_code, 1, some (.boolean), 1, 11)
def xM79 : MethodName × ByteArray × Nat × Option FieldType × Nat × Nat := (⟨"FabLink$Items", "readItem", "(II)I"⟩, prog_4_method_3_code, 9, some (.int), 1, 11)
def xM80 : MethodName × ByteArray × Nat × Option FieldType × Nat × Nat := (⟨"java/lang/Math", "min", "(II)I"⟩, prog_19_method_69_code, 2, some (.int), 0, 13)
def xM81 : MethodName × ByteArray × Nat × Option FieldType × Nat × Nat := (⟨"FabLink$Items", "readList", "(II)I"⟩, prog_4_method_4_code, 5, some (.int), 1, 11)
def xM82 : MethodName × ByteArray × Nat × Option FieldType × Nat × Nat := (⟨"FabLink$Items", "widthOf", "(I)I"⟩, prog_4_method_6_code, 1, some (.int), 0, 11)
def xM83 : MethodName × ByteArray × Nat × Option FieldType × Nat × Nat := (⟨"FabLink$Items", "endOfBytes", "(IIII)I"⟩, prog_4_method_5_code, 5, some (.int), 0, 11)
def xM84 : MethodName × ByteArray × Nat × Option FieldType × Nat × Nat := (⟨"FabLink$Items", "isGreetingTaken", "()Z"⟩, prog_4_method_20_code, 1, some (.boolean), 1, 11)
def xM85 : MethodName × ByteArray × Nat × Option FieldType × Nat × Nat := (⟨"FabLink$Items", "isList", "(I)Z"⟩, prog_4_method_12_code, 2, some (.boolean), 1, 11)
def xM86 : MethodName × ByteArray × Nat × Option FieldType × Nat × Nat := (⟨"FabLink$Items", "sizeOf", "(I)I"⟩, prog_4_method_8_code, 2, some (.int), 1, 11)
def xM87 : MethodName × ByteArray × Nat × Option FieldType × Nat × Nat := (⟨"FabLink$Items", "isOneByte", "(II)Z"⟩, prog_4_method_14_code, 3, some (.boolean), 1, 11)
def xM88 : MethodName × ByteArray × Nat × Option FieldType × Nat × Nat := (⟨"FabLink$Items", "byteOf", "(II)I"⟩, prog_4_method_9_code, 4, some (.int), 1, 11)
def xM89 : MethodName × ByteArray × Nat × Option FieldType × Nat × Nat := (⟨"FabLink$Machine", "beginSpeaking", "()V"⟩, prog_7_method_12_code, 1, none, 1, 7)
def xM90 : MethodName × ByteArray × Nat × Option FieldType × Nat × Nat := (⟨"FabLink$Talks", "close", "(I)V"⟩, prog_10_method_7_code, 4, none, 1, 5)
def xM91 : MethodName × ByteArray × Nat × Option FieldType × Nat × Nat := (⟨"FabLink$Desk", "admitsRequest", "()Z"⟩, prog_3_method_3_code, 2, some (.boolean), 1, 10)
def xM92 : MethodName × ByteArray × Nat × Option FieldType × Nat × Nat := (⟨"FabLink$Desk", "kind", "()I"⟩, prog_3_method_4_code, 1, some (.int), 1, 10)
def xM93 : MethodName × ByteArray × Nat × Option FieldType × Nat × Nat := (⟨"FabLink$Machine", "isSpeaking", "()Z"⟩, prog_7_method_5_code, 1, some (.boolean), 1, 7)
def xM94 : MethodName × ByteArray × Nat × Option FieldType × Nat × Nat := (⟨"FabLink$Desk", "isNamed", "(I)Z"⟩, prog_3_method_8_code, 1, some (.boolean), 0, 10)
def xM95 : MethodName × ByteArray × Nat × Option FieldType × Nat × Nat := (⟨"FabLink$Machine", "isOnline", "()Z"⟩, prog_7_method_8_code, 1, some (.boolean), 1, 7)
def xM96 : MethodName × ByteArray × Nat × Option FieldType × Nat × Nat := (⟨"FabLink$Desk", "abort", "()Z"⟩, prog_3_method_6_code, 1, some (.boolean), 1, 10)
def xM97 : MethodName × ByteArray × Nat × Option FieldType × Nat × Nat := (⟨"FabLink$Outbox", "sendAbort", "(LFabLink$Message;)V"⟩, prog_9_method_11_code, 2, none, 1, 2)
def xM98 : MethodName × ByteArray × Nat × Option FieldType × Nat × Nat := (⟨"FabLink$Message", "system", "()I"⟩, prog_8_method_16_code, 1, some (.int), 1, 4)
def xM99 : MethodName × ByteArray × Nat × Option FieldType × Nat × Nat := (⟨"FabLink$Desk", "bodyIsRight", "(I)Z"⟩, prog_3_method_9_code, 2, some (.boolean), 1, 10)
def xM100 : MethodName × ByteArray × Nat × Option FieldType × Nat × Nat := (⟨"FabLink$Items", "isNumbers", "(I)Z"⟩, prog_4_method_15_code, 4, some (.boolean), 1, 11)
def xM101 : MethodName × ByteArray × Nat × Option FieldType × Nat × Nat := (⟨"FabLink$Items", "isPairs", "()Z"⟩, prog_4_method_16_code, 4, some (.boolean), 1, 11)
def xM102 : MethodName × ByteArray × Nat × Option FieldType × Nat × Nat := (⟨"FabLink$Items", "isListOf", "(II)Z"⟩, prog_4_method_13_code, 3, some (.boolean), 1, 11)
def xM103 : MethodName × ByteArray × Nat × Option FieldType × Nat × Nat := (⟨"FabLink$Items", "behind", "(I)I"⟩, prog_4_method_10_code, 2, some (.int), 1, 11)
def xM104 : MethodName × ByteArray × Nat × Option FieldType × Nat × Nat := (⟨"FabLink$Items", "isTable", "()Z"⟩, prog_4_method_17_code, 4, some (.boolean), 1, 11)
def xM105 : MethodName × ByteArray × Nat × Option FieldType × Nat × Nat := (⟨"FabLink$Items", "isSwitch", "()Z"⟩, prog_4_method_18_code, 1, some (.boolean), 1, 11)
def xM106 : MethodName × ByteArray × Nat × Option FieldType × Nat × Nat := (⟨"FabLink$Items", "isCommand", "()Z"⟩, prog_4_method_19_code, 1, some (.boolean), 1, 11)
def xM107 : MethodName × ByteArray × Nat × Option FieldType × Nat × Nat := (⟨"FabLink$Items", "formatOf", "(I)I"⟩, prog_4_method_7_code, 2, some (.int), 1, 11)
def xM108 : MethodName × ByteArray × Nat × Option FieldType × Nat × Nat := (⟨"FabLink$Desk", "carryOut", "()V"⟩, prog_3_method_10_code, 1, none, 1, 10)
def xM109 : MethodName × ByteArray × Nat × Option FieldType × Nat × Nat := (⟨"FabLink$Body", "putName", "()V"⟩, prog_2_method_10_code, 1, none, 1, 3)
def xM110 : MethodName × ByteArray × Nat × Option FieldType × Nat × Nat := (⟨"FabLink$Body", "putText", "(Ljava/lang/String;)V"⟩, prog_2_method_9_code, 3, none, 1, 3)
def xM111 : MethodName × ByteArray × Nat × Option FieldType × Nat × Nat := (⟨"FabLink$Desk", "tellValues", "()V"⟩, prog_3_method_13_code, 5, none, 1, 10)
def xM112 : MethodName × ByteArray × Nat × Option FieldType × Nat × Nat := (⟨"FabLink$Items", "numberOf", "(I)I"⟩, prog_4_method_11_code, 2, some (.int), 1, 11)
def xM113 : MethodName × ByteArray × Nat × Option FieldType × Nat × Nat := (⟨"FabLink$Machine", "variables", "()LFabLink$Variables;"⟩, prog_7_method_2_code, 1, some (.object "FabLink$Variables"), 1, 7)
def xM114 : MethodName × ByteArray × Nat × Option FieldType × Nat × Nat := (⟨"FabLink$Desk", "answerInList", "(I)V"⟩, prog_3_method_12_code, 3, none, 1, 10)
def xM115 : MethodName × ByteArray × Nat × Option FieldType × Nat × Nat := (⟨"FabLink$Body", "putBinary", "(I)V"⟩, prog_2_method_8_code, 2, none, 1, 3)
def xM116 : MethodName × ByteArray × Nat × Option FieldType × Nat × Nat := (⟨"FabLink$Machine", "changeControl", "(I)V"⟩, prog_7_method_15_code, 2, none, 1, 7)
def xM117 : MethodName × ByteArray × Nat × Option FieldType × Nat × Nat := (⟨"FabLink$Machine", "controlNow", "()I"⟩, prog_7_method_7_code, 1, some (.int), 1, 7)
def xM118 : MethodName × ByteArray × Nat × Option FieldType × Nat × Nat := (⟨"FabLink$Variables", "controlNow", "()I"⟩, prog_12_method_6_code, 1, some (.int), 1, 8)
def xM119 : MethodName × ByteArray × Nat × Option FieldType × Nat × Nat := (⟨"FabLink$Variables", "setControl", "(I)V"⟩, prog_12_method_9_code, 2, none, 1, 8)
def xM120 : MethodName × ByteArray × Nat × Option FieldType × Nat × Nat := (⟨"FabLink$Desk", "answer", "(I)V"⟩, prog_3_method_11_code, 2, none, 1, 10)
def xM121 : MethodName × ByteArray × Nat × Option FieldType × Nat × Nat := (⟨"FabLink$Machine", "goOnline", "()I"⟩, prog_7_method_14_code, 1, some (.int), 1, 7)
def xM122 : MethodName × ByteArray × Nat × Option FieldType × Nat × Nat := (⟨"FabLink$Variables", "assign", "(LFabLink$Items;)I"⟩, prog_12_method_12_code, 5, some (.int), 1, 8)
def xM123 : MethodName × ByteArray × Nat × Option FieldType × Nat × Nat := (⟨"FabLink$Variables", "faultOfPairs", "(LFabLink$Items;)I"⟩, prog_12_method_13_code, 5, some (.int), 0, 8)
def xM124 : MethodName × ByteArray × Nat × Option FieldType × Nat × Nat := (⟨"FabLink$Variables", "assignOne", "(LFabLink$Items;II)V"⟩, prog_12_method_14_code, 5, none, 1, 8)
def xM125 : MethodName × ByteArray × Nat × Option FieldType × Nat × Nat := (⟨"FabLink$Machine", "links", "()LFabLink$Links;"⟩, prog_7_method_3_code, 1, some (.object "FabLink$Links"), 1, 7)
def xM126 : MethodName × ByteArray × Nat × Option FieldType × Nat × Nat := (⟨"FabLink$Links", "define", "(LFabLink$Items;)I"⟩, prog_6_method_10_code, 5, some (.int), 1, 9)
def xM127 : MethodName × ByteArray × Nat × Option FieldType × Nat × Nat := (⟨"FabLink$Links", "faultOfReport", "(LFabLink$Items;I)I"⟩, prog_6_method_11_code, 6, some (.int), 1, 9)
def xM128 : MethodName × ByteArray × Nat × Option FieldType × Nat × Nat := (⟨"FabLink$Links", "removeAllReports", "()V"⟩, prog_6_method_13_code, 2, none, 1, 9)
def xM129 : MethodName × ByteArray × Nat × Option FieldType × Nat × Nat := (⟨"FabLink$Links", "removeReport", "(I)V"⟩, prog_6_method_14_code, 3, none, 1, 9)
def xM130 : MethodName × ByteArray × Nat × Option FieldType × Nat × Nat := (⟨"FabLink$Links", "unlink", "(II)V"⟩, prog_6_method_15_code, 5, none, 1, 9)
def xM131 : MethodName × ByteArray × Nat × Option FieldType × Nat × Nat := (⟨"FabLink$Links", "defineOne", "(LFabLink$Items;II)V"⟩, prog_6_method_12_code, 5, none, 1, 9)
def xM132 : MethodName × ByteArray × Nat × Option FieldType × Nat × Nat := (⟨"FabLink$Links", "link", "(LFabLink$Items;)I"⟩, prog_6_method_16_code, 5, some (.int), 1, 9)
def xM133 : MethodName × ByteArray × Nat × Option FieldType × Nat × Nat := (⟨"FabLink$Links", "faultOfLink", "(LFabLink$Items;I)I"⟩, prog_6_method_17_code, 5, some (.int), 1, 9)
def xM134 : MethodName × ByteArray × Nat × Option FieldType × Nat × Nat := (⟨"FabLink$Links", "linkOne", "(LFabLink$Items;II)V"⟩, prog_6_method_18_code, 5, none, 1, 9)
def xM135 : MethodName × ByteArray × Nat × Option FieldType × Nat × Nat := (⟨"FabLink$Links", "enableEvents", "(LFabLink$Items;)I"⟩, prog_6_method_19_code, 5, some (.int), 1, 9)
def xM136 : MethodName × ByteArray × Nat × Option FieldType × Nat × Nat := (⟨"FabLink$Links", "enableOne", "(IZ)V"⟩, prog_6_method_21_code, 3, none, 1, 9)
def xM137 : MethodName × ByteArray × Nat × Option FieldType × Nat × Nat := (⟨"FabLink$Links", "enableAll", "(Z)V"⟩, prog_6_method_20_code, 3, none, 1, 9)
def xM138 : MethodName × ByteArray × Nat × Option FieldType × Nat × Nat := (⟨"FabLink$Machine", "obey", "(LFabLink$Items;)I"⟩, prog_7_method_16_code, 3, some (.int), 1, 7)
def xM139 : MethodName × ByteArray × Nat × Option FieldType × Nat × Nat := (⟨"FabLink$Machine", "workNow", "()I"⟩, prog_7_method_9_code, 1, some (.int), 1, 7)
def xM140 : MethodName × ByteArray × Nat × Option FieldType × Nat × Nat := (⟨"FabLink$Variables", "workNow", "()I"⟩, prog_12_method_7_code, 1, some (.int), 1, 8)
def xM141 : MethodName × ByteArray × Nat × Option FieldType × Nat × Nat := (⟨"FabLink$Items", "isText", "(ILjava/lang/String;)Z"⟩, prog_4_method_21_code, 5, some (.boolean), 1, 11)
def xM142 : MethodName × ByteArray × Nat × Option FieldType × Nat × Nat := (⟨"FabLink$Machine", "changeWork", "(ZII)I"⟩, prog_7_method_17_code, 4, some (.int), 1, 7)
def xM143 : MethodName × ByteArray × Nat × Option FieldType × Nat × Nat := (⟨"FabLink$Variables", "setWork", "(I)V"⟩, prog_12_method_10_code, 2, none, 1, 8)
def xM144 : MethodName × ByteArray × Nat × Option FieldType × Nat × Nat := (⟨"FabLink$Outbox", "sendReply", "(LFabLink$Message;I)V"⟩, prog_9_method_10_code, 3, none, 1, 2)
def xM145 : MethodName × ByteArray × Nat × Option FieldType × Nat × Nat := (⟨"FabLink", "tick", "(I)I"⟩, prog_1_method_3_code, 4, some (.int), 1, 0)
def xM146 : MethodName × ByteArray × Nat × Option FieldType × Nat × Nat := (⟨"FabLink$Talks", "passUnit", "(LFabLink$Outbox;)V"⟩, prog_10_method_8_code, 3, none, 1, 5)
def xM147 : MethodName × ByteArray × Nat × Option FieldType × Nat × Nat := (⟨"FabLink$Machine", "passUnit", "()V"⟩, prog_7_method_18_code, 1, none, 1, 7)
def xM148 : MethodName × ByteArray × Nat × Option FieldType × Nat × Nat := (⟨"FabLink$Line", "passUnit", "()V"⟩, prog_5_method_13_code, 2, none, 1, 6)
def xM149 : MethodName × ByteArray × Nat × Option FieldType × Nat × Nat := (⟨"FabLink", "enable", "(Z)V"⟩, prog_1_method_4_code, 2, none, 1, 0)
def xM150 : MethodName × ByteArray × Nat × Option FieldType × Nat × Nat := (⟨"FabLink$Machine", "turn", "(Z)V"⟩, prog_7_method_11_code, 2, none, 1, 7)
def xM151 : MethodName × ByteArray × Nat × Option FieldType × Nat × Nat := (⟨"FabLink", "control", "(I)V"⟩, prog_1_method_5_code, 2, none, 1, 0)
def xM152 : MethodName × ByteArray × Nat × Option FieldType × Nat × Nat := (⟨"FabLink$Machine", "choose", "(I)V"⟩, prog_7_method_13_code, 2, none, 1, 7)
def xM153 : MethodName × ByteArray × Nat × Option FieldType × Nat × Nat := (⟨"FabLink", "saidAt", "(I)I"⟩, prog_1_method_8_code, 2, some (.int), 1, 0)
def xM154 : MethodName × ByteArray × Nat × Option FieldType × Nat × Nat := (⟨"FabLink$Tape", "holds", "(I)Z"⟩, prog_11_method_4_code, 2, some (.boolean), 1, 1)
def xM155 : MethodName × ByteArray × Nat × Option FieldType × Nat × Nat := (⟨"FabLink$Tape", "at", "(I)I"⟩, prog_11_method_5_code, 2, some (.int), 1, 1)
def xM156 : MethodName × ByteArray × Nat × Option FieldType × Nat × Nat := (⟨"FabLink", "look", "(I)I"⟩, prog_1_method_9_code, 2, some (.int), 1, 0)
def xM157 : MethodName × ByteArray × Nat × Option FieldType × Nat × Nat := (⟨"FabLink$Line", "state", "()I"⟩, prog_5_method_2_code, 1, some (.int), 1, 6)
def xM158 : MethodName × ByteArray × Nat × Option FieldType × Nat × Nat := (⟨"FabLink$Machine", "speech", "()I"⟩, prog_7_method_6_code, 1, some (.int), 1, 7)
def xM159 : MethodName × ByteArray × Nat × Option FieldType × Nat × Nat := (⟨"FabLink$Machine", "workTime", "()I"⟩, prog_7_method_10_code, 1, some (.int), 1, 7)
def xM160 : MethodName × ByteArray × Nat × Option FieldType × Nat × Nat := (⟨"FabLink$Talks", "count", "()I"⟩, prog_10_method_2_code, 1, some (.int), 1, 5)
def xM161 : MethodName × ByteArray × Nat × Option FieldType × Nat × Nat := (⟨"FabLink$Outbox", "lost", "()I"⟩, prog_9_method_3_code, 1, some (.int), 1, 2)
def xM162 : MethodName × ByteArray × Nat × Option FieldType × Nat × Nat := (⟨"FabLink", "report", "(I)I"⟩, prog_1_method_10_code, 2, some (.int), 1, 0)
def xM163 : MethodName × ByteArray × Nat × Option FieldType × Nat × Nat := (⟨"FabLink", "event", "(I)I"⟩, prog_1_method_11_code, 3, some (.int), 1, 0)
def xM164 : MethodName × ByteArray × Nat × Option FieldType × Nat × Nat := (⟨"FabLink$Links", "isEnabled", "(I)Z"⟩, prog_6_method_8_code, 2, some (.boolean), 1, 9)
def xM165 : MethodName × ByteArray × Nat × Option FieldType × Nat × Nat := (⟨"FabLink", "format", "(I)I"⟩, prog_1_method_12_code, 2, some (.int), 1, 0)
def xM166 : MethodName × ByteArray × Nat × Option FieldType × Nat × Nat := (⟨"FabLink$Variables", "formatOf", "(I)I"⟩, prog_12_method_3_code, 2, some (.int), 1, 8)
def xM167 : MethodName × ByteArray × Nat × Option FieldType × Nat × Nat := (⟨"FabLink", "octet", "(II)I"⟩, prog_1_method_13_code, 3, some (.int), 1, 0)
def xM168 : MethodName × ByteArray × Nat × Option FieldType × Nat × Nat := (⟨"FabLink$Variables", "hasByte", "(II)Z"⟩, prog_12_method_4_code, 3, some (.boolean), 1, 8)
def xM169 : MethodName × ByteArray × Nat × Option FieldType × Nat × Nat := (⟨"FabLink$Variables", "byteOf", "(II)I"⟩, prog_12_method_5_code, 3, some (.int), 1, 8)
def xM170 : MethodName × ByteArray × Nat × Option FieldType × Nat × Nat := (⟨"FabLinkModel", "<init>", "()V"⟩, prog_14_method_1_code, 2, none, 2, 12)
def xM171 : MethodName × ByteArray × Nat × Option FieldType × Nat × Nat := (⟨"FabLinkModel", "thrown", "()I"⟩, prog_14_method_2_code, 1, some (.int), 1, 12)
def xM172 : MethodName × ByteArray × Nat × Option FieldType × Nat × Nat := (⟨"FabLinkModel", "hear", "(I)I"⟩, prog_14_method_59_code, 3, some (.int), 1, 12)
def xM173 : MethodName × ByteArray × Nat × Option FieldType × Nat × Nat := (⟨"FabLinkModel", "say", "(I)V"⟩, prog_14_method_3_code, 2, none, 1, 12)
def xM174 : MethodName × ByteArray × Nat × Option FieldType × Nat × Nat := (⟨"FabLinkModel", "enter", "(I)V"⟩, prog_14_method_4_code, 2, none, 1, 12)
def xM175 : MethodName × ByteArray × Nat × Option FieldType × Nat × Nat := (⟨"FabLinkModel", "read", "(I)V"⟩, prog_14_method_58_code, 5, none, 1, 12)
def xM176 : MethodName × ByteArray × Nat × Option FieldType × Nat × Nat := (⟨"FabLinkModel", "take", "()V"⟩, prog_14_method_57_code, 3, none, 1, 12)
def xM177 : MethodName × ByteArray × Nat × Option FieldType × Nat × Nat := (⟨"FabLinkModel", "complain", "(II)V"⟩, prog_14_method_18_code, 4, none, 1, 12)
def xM178 : MethodName × ByteArray × Nat × Option FieldType × Nat × Nat := (⟨"FabLinkModel", "putHead", "(II)V"⟩, prog_14_method_13_code, 3, none, 1, 12)
def xM179 : MethodName × ByteArray × Nat × Option FieldType × Nat × Nat := (⟨"FabLinkModel", "put", "(I)V"⟩, prog_14_method_12_code, 2, none, 1, 12)
def xM180 : MethodName × ByteArray × Nat × Option FieldType × Nat × Nat := (⟨"FabLinkModel", "tell", "(II)V"⟩, prog_14_method_11_code, 3, none, 1, 12)
def xM181 : MethodName × ByteArray × Nat × Option FieldType × Nat × Nat := (⟨"FabLinkModel", "send", "(IIIIII)V"⟩, prog_14_method_10_code, 9, none, 1, 12)
def xM182 : MethodName × ByteArray × Nat × Option FieldType × Nat × Nat := (⟨"FabLinkModel", "answered", "(II)V"⟩, prog_14_method_56_code, 8, none, 1, 12)
def xM183 : MethodName × ByteArray × Nat × Option FieldType × Nat × Nat := (⟨"FabLinkModel", "dropTalk", "(I)V"⟩, prog_14_method_55_code, 3, none, 1, 12)
def xM184 : MethodName × ByteArray × Nat × Option FieldType × Nat × Nat := (⟨"FabLinkModel", "welcomes", "()Z"⟩, prog_14_method_54_code, 2, some (.boolean), 1, 12)
def xM185 : MethodName × ByteArray × Nat × Option FieldType × Nat × Nat := (⟨"FabLinkModel", "wellFormed", "()Z"⟩, prog_14_method_28_code, 7, some (.boolean), 1, 12)
def xM186 : MethodName × ByteArray × Nat × Option FieldType × Nat × Nat := (⟨"FabLinkModel", "end", "()I"⟩, prog_14_method_23_code, 1, some (.int), 1, 12)
def xM187 : MethodName × ByteArray × Nat × Option FieldType × Nat × Nat := (⟨"FabLinkModel", "formatAt", "(I)I"⟩, prog_14_method_24_code, 2, some (.int), 1, 12)
def xM188 : MethodName × ByteArray × Nat × Option FieldType × Nat × Nat := (⟨"FabLinkModel", "sizeAt", "(I)I"⟩, prog_14_method_25_code, 5, some (.int), 1, 12)
def xM189 : MethodName × ByteArray × Nat × Option FieldType × Nat × Nat := (⟨"FabLinkModel", "inside", "(I)I"⟩, prog_14_method_26_code, 2, some (.int), 1, 12)
def xM190 : MethodName × ByteArray × Nat × Option FieldType × Nat × Nat := (⟨"FabLinkModel", "unitOf", "(I)I"⟩, prog_14_method_27_code, 2, some (.int), 1, 12)
def xM191 : MethodName × ByteArray × Nat × Option FieldType × Nat × Nat := (⟨"FabLinkModel", "isList", "(II)Z"⟩, prog_14_method_31_code, 3, some (.boolean), 1, 12)
def xM192 : MethodName × ByteArray × Nat × Option FieldType × Nat × Nat := (⟨"FabLinkModel", "number", "(I)I"⟩, prog_14_method_33_code, 2, some (.int), 1, 12)
def xM193 : MethodName × ByteArray × Nat × Option FieldType × Nat × Nat := (⟨"FabLinkModel", "asked", "(II)V"⟩, prog_14_method_53_code, 4, none, 1, 12)
def xM194 : MethodName × ByteArray × Nat × Option FieldType × Nat × Nat := (⟨"FabLinkModel", "named", "(II)Z"⟩, prog_14_method_51_code, 3, some (.boolean), 1, 12)
def xM195 : MethodName × ByteArray × Nat × Option FieldType × Nat × Nat := (⟨"FabLinkModel", "reply", "(I)V"⟩, prog_14_method_19_code, 3, none, 1, 12)
def xM196 : MethodName × ByteArray × Nat × Option FieldType × Nat × Nat := (⟨"FabLinkModel", "fits", "(II)Z"⟩, prog_14_method_39_code, 3, some (.boolean), 1, 12)
def xM197 : MethodName × ByteArray × Nat × Option FieldType × Nat × Nat := (⟨"FabLinkModel", "areNumbers", "(I)Z"⟩, prog_14_method_34_code, 4, some (.boolean), 1, 12)
def xM198 : MethodName × ByteArray × Nat × Option FieldType × Nat × Nat := (⟨"FabLinkModel", "nth", "(II)I"⟩, prog_14_method_30_code, 5, some (.int), 1, 12)
def xM199 : MethodName × ByteArray × Nat × Option FieldType × Nat × Nat := (⟨"FabLinkModel", "behind", "(I)I"⟩, prog_14_method_29_code, 6, some (.int), 1, 12)
def xM200 : MethodName × ByteArray × Nat × Option FieldType × Nat × Nat := (⟨"FabLinkModel", "isNumber", "(I)Z"⟩, prog_14_method_32_code, 2, some (.boolean), 1, 12)
def xM201 : MethodName × ByteArray × Nat × Option FieldType × Nat × Nat := (⟨"FabLinkModel", "arePairs", "()Z"⟩, prog_14_method_36_code, 4, some (.boolean), 1, 12)
def xM202 : MethodName × ByteArray × Nat × Option FieldType × Nat × Nat := (⟨"FabLinkModel", "isSwitch", "()Z"⟩, prog_14_method_37_code, 1, some (.boolean), 1, 12)
def xM203 : MethodName × ByteArray × Nat × Option FieldType × Nat × Nat := (⟨"FabLinkModel", "isCommand", "()Z"⟩, prog_14_method_38_code, 1, some (.boolean), 1, 12)
def xM204 : MethodName × ByteArray × Nat × Option FieldType × Nat × Nat := (⟨"FabLinkModel", "isTable", "()Z"⟩, prog_14_method_35_code, 5, some (.boolean), 1, 12)
def xM205 : MethodName × ByteArray × Nat × Option FieldType × Nat × Nat := (⟨"FabLinkModel", "act", "(II)V"⟩, prog_14_method_52_code, 3, none, 1, 12)
def xM206 : MethodName × ByteArray × Nat × Option FieldType × Nat × Nat := (⟨"FabLinkModel", "putWho", "()V"⟩, prog_14_method_17_code, 1, none, 1, 12)
def xM207 : MethodName × ByteArray × Nat × Option FieldType × Nat × Nat := (⟨"FabLinkModel", "values", "()V"⟩, prog_14_method_40_code, 3, none, 1, 12)
def xM208 : MethodName × ByteArray × Nat × Option FieldType × Nat × Nat := (⟨"FabLinkModel", "putVariable", "(I)V"⟩, prog_14_method_16_code, 3, none, 1, 12)
def xM209 : MethodName × ByteArray × Nat × Option FieldType × Nat × Nat := (⟨"FabLinkModel", "putNumber", "(I)V"⟩, prog_14_method_14_code, 2, none, 1, 12)
def xM210 : MethodName × ByteArray × Nat × Option FieldType × Nat × Nat := (⟨"FabLinkModel", "putBinary", "(I)V"⟩, prog_14_method_15_code, 2, none, 1, 12)
def xM211 : MethodName × ByteArray × Nat × Option FieldType × Nat × Nat := (⟨"FabLinkModel", "become", "(I)V"⟩, prog_14_method_22_code, 4, none, 1, 12)
def xM212 : MethodName × ByteArray × Nat × Option FieldType × Nat × Nat := (⟨"FabLinkModel", "happen", "(I)Z"⟩, prog_14_method_21_code, 5, some (.boolean), 1, 12)
def xM213 : MethodName × ByteArray × Nat × Option FieldType × Nat × Nat := (⟨"FabLinkModel", "replyByte", "(I)V"⟩, prog_14_method_20_code, 2, none, 1, 12)
def xM214 : MethodName × ByteArray × Nat × Option FieldType × Nat × Nat := (⟨"FabLinkModel", "toHost", "()V"⟩, prog_14_method_50_code, 2, none, 1, 12)
def xM215 : MethodName × ByteArray × Nat × Option FieldType × Nat × Nat := (⟨"FabLinkModel", "assign", "()V"⟩, prog_14_method_41_code, 7, none, 1, 12)
def xM216 : MethodName × ByteArray × Nat × Option FieldType × Nat × Nat := (⟨"FabLinkModel", "define", "()V"⟩, prog_14_method_43_code, 10, none, 1, 12)
def xM217 : MethodName × ByteArray × Nat × Option FieldType × Nat × Nat := (⟨"FabLinkModel", "unlink", "(I)V"⟩, prog_14_method_42_code, 6, none, 1, 12)
def xM218 : MethodName × ByteArray × Nat × Option FieldType × Nat × Nat := (⟨"FabLinkModel", "link", "()V"⟩, prog_14_method_46_code, 9, none, 1, 12)
def xM219 : MethodName × ByteArray × Nat × Option FieldType × Nat × Nat := (⟨"FabLinkModel", "noEvent", "(I)Z"⟩, prog_14_method_45_code, 2, some (.boolean), 1, 12)
def xM220 : MethodName × ByteArray × Nat × Option FieldType × Nat × Nat := (⟨"FabLinkModel", "noReport", "(I)Z"⟩, prog_14_method_44_code, 2, some (.boolean), 1, 12)
def xM221 : MethodName × ByteArray × Nat × Option FieldType × Nat × Nat := (⟨"FabLinkModel", "switchEvents", "()V"⟩, prog_14_method_47_code, 6, none, 1, 12)
def xM222 : MethodName × ByteArray × Nat × Option FieldType × Nat × Nat := (⟨"FabLinkModel", "command", "()V"⟩, prog_14_method_49_code, 5, none, 1, 12)
def xM223 : MethodName × ByteArray × Nat × Option FieldType × Nat × Nat := (⟨"FabLinkModel", "commandOf", "(I)I"⟩, prog_14_method_48_code, 10, some (.int), 1, 12)
def xM224 : MethodName × ByteArray × Nat × Option FieldType × Nat × Nat := (⟨"FabLinkModel", "sayBlock", "()V"⟩, prog_14_method_8_code, 4, none, 1, 12)
def xM225 : MethodName × ByteArray × Nat × Option FieldType × Nat × Nat := (⟨"FabLinkModel", "wasSent", "()V"⟩, prog_14_method_9_code, 2, none, 1, 12)
def xM226 : MethodName × ByteArray × Nat × Option FieldType × Nat × Nat := (⟨"FabLinkModel", "dropFirst", "()V"⟩, prog_14_method_6_code, 2, none, 1, 12)
def xM227 : MethodName × ByteArray × Nat × Option FieldType × Nat × Nat := (⟨"FabLinkModel", "fail", "()V"⟩, prog_14_method_7_code, 1, none, 1, 12)
def xM228 : MethodName × ByteArray × Nat × Option FieldType × Nat × Nat := (⟨"FabLinkModel", "settle", "()V"⟩, prog_14_method_5_code, 1, none, 1, 12)
def xM229 : MethodName × ByteArray × Nat × Option FieldType × Nat × Nat := (⟨"FabLinkModel", "tick", "(I)I"⟩, prog_14_method_61_code, 4, some (.int), 1, 12)
def xM230 : MethodName × ByteArray × Nat × Option FieldType × Nat × Nat := (⟨"FabLinkModel", "unit", "()V"⟩, prog_14_method_60_code, 2, none, 1, 12)
def xM231 : MethodName × ByteArray × Nat × Option FieldType × Nat × Nat := (⟨"FabLinkModel", "enable", "(Z)V"⟩, prog_14_method_62_code, 2, none, 1, 12)
def xM232 : MethodName × ByteArray × Nat × Option FieldType × Nat × Nat := (⟨"FabLinkModel", "control", "(I)V"⟩, prog_14_method_63_code, 2, none, 1, 12)
def xM233 : MethodName × ByteArray × Nat × Option FieldType × Nat × Nat := (⟨"FabLinkModel", "ring", "()Z"⟩, prog_14_method_64_code, 2, some (.boolean), 1, 12)
def xM234 : MethodName × ByteArray × Nat × Option FieldType × Nat × Nat := (⟨"FabLinkModel", "said", "()I"⟩, prog_14_method_65_code, 1, some (.int), 1, 12)
def xM235 : MethodName × ByteArray × Nat × Option FieldType × Nat × Nat := (⟨"FabLinkModel", "saidAt", "(I)I"⟩, prog_14_method_66_code, 2, some (.int), 1, 12)
def xM236 : MethodName × ByteArray × Nat × Option FieldType × Nat × Nat := (⟨"FabLinkModel", "look", "(I)I"⟩, prog_14_method_67_code, 2, some (.int), 1, 12)
def xM237 : MethodName × ByteArray × Nat × Option FieldType × Nat × Nat := (⟨"FabLinkModel", "report", "(I)I"⟩, prog_14_method_68_code, 2, some (.int), 1, 12)
def xM238 : MethodName × ByteArray × Nat × Option FieldType × Nat × Nat := (⟨"FabLinkModel", "event", "(I)I"⟩, prog_14_method_69_code, 2, some (.int), 1, 12)
def xM239 : MethodName × ByteArray × Nat × Option FieldType × Nat × Nat := (⟨"FabLinkModel", "format", "(I)I"⟩, prog_14_method_70_code, 2, some (.int), 1, 12)
def xM240 : MethodName × ByteArray × Nat × Option FieldType × Nat × Nat := (⟨"FabLinkModel", "octet", "(II)I"⟩, prog_14_method_71_code, 3, some (.int), 1, 12)
def xM241 : MethodName × ByteArray × Nat × Option FieldType × Nat × Nat := (⟨"FabLinkLaw", "hear", "(LFabLink;I[J)I"⟩, method_3_code, 4, some (.int), 3, 14)
def xM242 : MethodName × ByteArray × Nat × Option FieldType × Nat × Nat := (⟨"FabLinkLaw", "tick", "(LFabLink;I[J)I"⟩, method_4_code, 4, some (.int), 3, 14)
def xM243 : MethodName × ByteArray × Nat × Option FieldType × Nat × Nat := (⟨"FabLinkLaw", "enable", "(LFabLink;Z)I"⟩, method_5_code, 3, some (.int), 3, 14)
def xM244 : MethodName × ByteArray × Nat × Option FieldType × Nat × Nat := (⟨"FabLinkLaw", "control", "(LFabLink;I)I"⟩, method_6_code, 3, some (.int), 3, 14)
def xM245 : MethodName × ByteArray × Nat × Option FieldType × Nat × Nat := (⟨"FabLinkLaw", "saidAt", "(LFabLink;I[J)I"⟩, method_7_code, 4, some (.int), 3, 14)
def xM246 : MethodName × ByteArray × Nat × Option FieldType × Nat × Nat := (⟨"FabLinkLaw", "look", "(LFabLink;I[J)I"⟩, method_8_code, 4, some (.int), 3, 14)
def xM247 : MethodName × ByteArray × Nat × Option FieldType × Nat × Nat := (⟨"FabLinkLaw", "report", "(LFabLink;I[J)I"⟩, method_9_code, 4, some (.int), 3, 14)
def xM248 : MethodName × ByteArray × Nat × Option FieldType × Nat × Nat := (⟨"FabLinkLaw", "event", "(LFabLink;I[J)I"⟩, method_10_code, 4, some (.int), 3, 14)
def xM249 : MethodName × ByteArray × Nat × Option FieldType × Nat × Nat := (⟨"FabLinkLaw", "format", "(LFabLink;I[J)I"⟩, method_11_code, 4, some (.int), 3, 14)
def xM250 : MethodName × ByteArray × Nat × Option FieldType × Nat × Nat := (⟨"FabLinkLaw", "octet", "(LFabLink;II[J)I"⟩, method_12_code, 5, some (.int), 3, 14)
def xM251 : MethodName × ByteArray × Nat × Option FieldType × Nat × Nat := (⟨"FabLinkLaw", "law", "([I)Z"⟩, code, 7, some (.boolean), 4, 14)
def xm_Ms : List (MethodName × ByteArray × Nat × Option FieldType × Nat × Nat) := [xM0, xM1, xM2, xM3, xM4, xM5, xM6, xM7, xM8, xM9, xM10, xM11, xM12, xM13, xM14, xM15, xM16, xM17, xM18, xM19, xM20, xM21, xM22, xM23, xM24, xM25, xM26, xM27, xM28, xM29, xM30, xM31, xM32, xM33, xM34, xM35, xM36, xM37, xM38, xM39, xM40, xM41, xM42, xM43, xM44, xM45, xM46, xM47, xM48, xM49, xM50, xM51, xM52, xM53, xM54, xM55, xM56, xM57, xM58, xM59, xM60, xM61, xM62, xM63, xM64, xM65, xM66, xM67, xM68, xM69, xM70, xM71, xM72, xM73, xM74, xM75, xM76, xM77, xM78, xM79, xM80, xM81, xM82, xM83, xM84, xM85, xM86, xM87, xM88, xM89, xM90, xM91, xM92, xM93, xM94, xM95, xM96, xM97, xM98, xM99, xM100, xM101, xM102, xM103, xM104, xM105, xM106, xM107, xM108, xM109, xM110, xM111, xM112, xM113, xM114, xM115, xM116, xM117, xM118, xM119, xM120, xM121, xM122, xM123, xM124, xM125, xM126, xM127, xM128, xM129, xM130, xM131, xM132, xM133, xM134, xM135, xM136, xM137, xM138, xM139, xM140, xM141, xM142, xM143, xM144, xM145, xM146, xM147, xM148, xM149, xM150, xM151, xM152, xM153, xM154, xM155, xM156, xM157, xM158, xM159, xM160, xM161, xM162, xM163, xM164, xM165, xM166, xM167, xM168, xM169, xM170, xM171, xM172, xM173, xM174, xM175, xM176, xM177, xM178, xM179, xM180, xM181, xM182, xM183, xM184, xM185, xM186, xM187, xM188, xM189, xM190, xM191, xM192, xM193, xM194, xM195, xM196, xM197, xM198, xM199, xM200, xM201, xM202, xM203, xM204, xM205, xM206, xM207, xM208, xM209, xM210, xM211, xM212, xM213, xM214, xM215, xM216, xM217, xM218, xM219, xM220, xM221, xM222, xM223, xM224, xM225, xM226, xM227, xM228, xM229, xM230, xM231, xM232, xM233, xM234, xM235, xM236, xM237, xM238, xM239, xM240, xM241, xM242, xM243, xM244, xM245, xM246, xM247, xM248, xM249, xM250, xM251]
def xB0 : List (Nat × xm_row) := [(0, (.aload_n 0, 1, 0, 0, 0)),
  (1, (.invokespecial 1, 4, 900, 0, 0)),
  (4, (.aload_n 0, 5, 0, 0, 0)),
  (5, (.new 7, 8, 1, 0, 0)),
  (8, (.dup, 9, 0, 0, 0)),
  (9, (.invokespecial 9, 12, 1, 0, 0)),
  (12, (.putfield 10, 15, 0, 0, 0)),
  (15, (.aload_n 0, 16, 0, 0, 0)),
  (16, (.new 16, 19, 2, 0, 0)),
  (19, (.dup, 20, 0, 0, 0)),
  (20, (.invokespecial 18, 23, 2, 0, 0)),
  (23, (.putfield 19, 26, 0, 1, 0)),
  (26, (.aload_n 0, 27, 0, 0, 0)),
  (27, (.new 23, 30, 5, 0, 0)),
  (30, (.dup, 31, 0, 0, 0)),
  (31, (.invokespecial 25, 34, 5, 0, 0)),
  (34, (.putfield 26, 37, 0, 2, 0)),
  (37, (.aload_n 0, 38, 0, 0, 0)),
  (38, (.new 30, 41, 6, 0, 0)),
  (41, (.dup, 42, 0, 0, 0)),
  (42, (.aload_n 0, 43, 0, 0, 0)),
  (43, (.getfield 10, 46, 0, 0, 0)),
  (46, (.aload_n 0, 47, 0, 0, 0)),
  (47, (.getfield 19, 50, 0, 1, 0)),
  (50, (.aload_n 0, 51, 0, 0, 0)),
  (51, (.getfield 26, 54, 0, 2, 0)),
  (54, (.invokespecial 32, 57, 6, 3, 0)),
  (57, (.putfield 35, 60, 0, 3, 0)),
  (60, (.aload_n 0, 61, 0, 0, 0)),
  (61, (.new 39, 64, 7, 0, 0)),
  (64, (.dup, 65, 0, 0, 0)),
  (65, (.aload_n 0, 66, 0, 0, 0)),
  (66, (.getfield 19, 69, 0, 1, 0)),
  (69, (.invokespecial 41, 72, 7, 1, 0)),
  (72, (.putfield 44, 75, 0, 4, 0)),
  (75, (.aload_n 0, 76, 0, 0, 0)),
  (76, (.new 48, 79, 10, 0, 0)),
  (79, (.dup, 80, 0, 0, 0)),
  (80, (.aload_n 0, 81, 0, 0, 0)),
  (81, (.getfield 35, 84, 0, 3, 0)),
  (84, (.invokevirtual 50, 87, 10, 0, 0)),
  (87, (.aload_n 0, 88, 0, 0, 0)),
  (88, (.getfield 44, 91, 0, 4, 0)),
  (91, (.aload_n 0, 92, 0, 0, 0)),
  (92, (.getfield 19, 95, 0, 1, 0)),
  (95, (.aload_n 0, 96, 0, 0, 0)),
  (96, (.getfield 26, 99, 0, 2, 0)),
  (99, (.invokespecial 54, 102, 11, 4, 0)),
  (102, (.putfield 57, 105, 0, 5, 0)),
  (105, (.return_, 106, 0, 0, 0))]
def xB1 : List (Nat × xm_row) := [(0, (.aload_n 0, 1, 0, 0, 0)),
  (1, (.invokespecial 1, 4, 900, 0, 0)),
  (4, (.aload_n 0, 5, 0, 0, 0)),
  (5, (.sipush 501, 8, 0, 0, 501)),
  (8, (.newarray .int, 10, 0, 0, 0)),
  (10, (.putfield 9, 13, 1, 0, 0)),
  (13, (.return_, 14, 0, 0, 0))]
def xB2 : List (Nat × xm_row) := [(0, (.aload_n 0, 1, 0, 0, 0)),
  (1, (.invokespecial 3, 4, 900, 0, 0)),
  (4, (.aload_n 0, 5, 0, 0, 0)),
  (5, (.bipush 8, 7, 0, 0, 8)),
  (7, (.anewarray 11, 10, 3, 0, 0)),
  (10, (.putfield 13, 13, 2, 0, 0)),
  (13, (.aload_n 0, 14, 0, 0, 0)),
  (14, (.new 17, 17, 3, 0, 0)),
  (17, (.dup, 18, 0, 0, 0)),
  (18, (.invokespecial 19, 21, 3, 0, 0)),
  (21, (.putfield 20, 24, 2, 1, 0)),
  (24, (.iconst 0, 25, 0, 0, 0)),
  (25, (.istore_n 1, 26, 0, 0, 0)),
  (26, (.iload_n 1, 27, 0, 0, 0)),
  (27, (.bipush 8, 29, 0, 0, 8)),
  (29, (.if_icmp .ge 22, 32, 51, 0, 0)),
  (32, (.aload_n 0, 33, 0, 0, 0)),
  (33, (.getfield 13, 36, 2, 0, 0)),
  (36, (.iload_n 1, 37, 0, 0, 0)),
  (37, (.new 11, 40, 4, 0, 0)),
  (40, (.dup, 41, 0, 0, 0)),
  (41, (.invokespecial 24, 44, 4, 0, 0)),
  (44, (.aastore, 45, 0, 0, 0)),
  (45, (.iinc 1 1, 48, 0, 0, 1)),
  (48, (.goto (-22), 51, 26, 0, 0)),
  (51, (.return_, 52, 0, 0, 0))]
def xB3 : List (Nat × xm_row) := [(0, (.aload_n 0, 1, 0, 0, 0)),
  (1, (.invokespecial 3, 4, 900, 0, 0)),
  (4, (.aload_n 0, 5, 0, 0, 0)),
  (5, (.bipush 120, 7, 0, 0, 120)),
  (7, (.newarray .int, 9, 0, 0, 0)),
  (9, (.putfield 11, 12, 3, 0, 0)),
  (12, (.return_, 13, 0, 0, 0))]
def xB4 : List (Nat × xm_row) := [(0, (.aload_n 0, 1, 0, 0, 0)),
  (1, (.invokespecial 3, 4, 900, 0, 0)),
  (4, (.aload_n 0, 5, 0, 0, 0)),
  (5, (.sipush 130, 8, 0, 0, 130)),
  (8, (.newarray .int, 10, 0, 0, 0)),
  (10, (.putfield 11, 13, 4, 0, 0)),
  (13, (.return_, 14, 0, 0, 0))]
def xB5 : List (Nat × xm_row) := [(0, (.aload_n 0, 1, 0, 0, 0)),
  (1, (.invokespecial 3, 4, 900, 0, 0)),
  (4, (.aload_n 0, 5, 0, 0, 0)),
  (5, (.bipush 8, 7, 0, 0, 8)),
  (7, (.bipush 10, 9, 0, 0, 10)),
  (9, (.multianewarray 11 2, 13, 4, 0, 0)),
  (13, (.putfield 13, 16, 5, 0, 0)),
  (16, (.aload_n 0, 17, 0, 0, 0)),
  (17, (.bipush 8, 19, 0, 0, 8)),
  (19, (.newarray .int, 21, 0, 0, 0)),
  (21, (.putfield 16, 24, 5, 1, 0)),
  (24, (.return_, 25, 0, 0, 0))]
def xB6 : List (Nat × xm_row) := [(0, (.aload_n 0, 1, 0, 0, 0)),
  (1, (.invokespecial 1, 4, 900, 0, 0)),
  (4, (.aload_n 0, 5, 0, 0, 0)),
  (5, (.new 7, 8, 4, 0, 0)),
  (8, (.dup, 9, 0, 0, 0)),
  (9, (.invokespecial 9, 12, 4, 0, 0)),
  (12, (.putfield 10, 15, 6, 3, 0)),
  (15, (.aload_n 0, 16, 0, 0, 0)),
  (16, (.aload_n 1, 17, 0, 0, 0)),
  (17, (.putfield 16, 20, 6, 0, 0)),
  (20, (.aload_n 0, 21, 0, 0, 0)),
  (21, (.aload_n 2, 22, 0, 0, 0)),
  (22, (.putfield 20, 25, 6, 1, 0)),
  (25, (.aload_n 0, 26, 0, 0, 0)),
  (26, (.aload_n 3, 27, 0, 0, 0)),
  (27, (.putfield 24, 30, 6, 2, 0)),
  (30, (.return_, 31, 0, 0, 0))]
def xB7 : List (Nat × xm_row) := [(0, (.aload_n 0, 1, 0, 0, 0)),
  (1, (.invokespecial 3, 4, 900, 0, 0)),
  (4, (.aload_n 0, 5, 0, 0, 0)),
  (5, (.new 9, 8, 8, 0, 0)),
  (8, (.dup, 9, 0, 0, 0)),
  (9, (.invokespecial 11, 12, 8, 0, 0)),
  (12, (.putfield 12, 15, 7, 1, 0)),
  (15, (.aload_n 0, 16, 0, 0, 0)),
  (16, (.new 18, 19, 9, 0, 0)),
  (19, (.dup, 20, 0, 0, 0)),
  (20, (.invokespecial 20, 23, 9, 0, 0)),
  (23, (.putfield 21, 26, 7, 2, 0)),
  (26, (.aload_n 0, 27, 0, 0, 0)),
  (27, (.iconst 3, 28, 0, 0, 3)),
  (28, (.putfield 25, 31, 7, 5, 0)),
  (31, (.aload_n 0, 32, 0, 0, 0)),
  (32, (.aload_n 1, 33, 0, 0, 0)),
  (33, (.putfield 29, 36, 7, 0, 0)),
  (36, (.return_, 37, 0, 0, 0))]
def xB8 : List (Nat × xm_row) := [(0, (.aload_n 0, 1, 0, 0, 0)),
  (1, (.invokespecial 3, 4, 900, 0, 0)),
  (4, (.aload_n 0, 5, 0, 0, 0)),
  (5, (.bipush 6, 7, 0, 0, 6)),
  (7, (.newarray .int, 9, 0, 0, 0)),
  (9, (.putfield 11, 12, 8, 0, 0)),
  (12, (.aload_n 0, 13, 0, 0, 0)),
  (13, (.bipush 6, 15, 0, 0, 6)),
  (15, (.newarray .int, 17, 0, 0, 0)),
  (17, (.putfield 15, 20, 8, 1, 0)),
  (20, (.aload_n 0, 21, 0, 0, 0)),
  (21, (.bipush 6, 23, 0, 0, 6)),
  (23, (.bipush 8, 25, 0, 0, 8)),
  (25, (.multianewarray 18 2, 29, 4, 0, 0)),
  (29, (.putfield 20, 32, 8, 2, 0)),
  (32, (.iconst 0, 33, 0, 0, 0)),
  (33, (.istore_n 1, 34, 0, 0, 0)),
  (34, (.iload_n 1, 35, 0, 0, 0)),
  (35, (.bipush 6, 37, 0, 0, 6)),
  (37, (.if_icmp .ge 24, 40, 61, 0, 0)),
  (40, (.aload_n 0, 41, 0, 0, 0)),
  (41, (.getfield 11, 44, 8, 0, 0)),
  (44, (.iload_n 1, 45, 0, 0, 0)),
  (45, (.bipush 41, 47, 0, 0, 41)),
  (47, (.iastore, 48, 0, 0, 0)),
  (48, (.aload_n 0, 49, 0, 0, 0)),
  (49, (.getfield 15, 52, 8, 1, 0)),
  (52, (.iload_n 1, 53, 0, 0, 0)),
  (53, (.iconst 1, 54, 0, 0, 1)),
  (54, (.iastore, 55, 0, 0, 0)),
  (55, (.iinc 1 1, 58, 0, 0, 1)),
  (58, (.goto (-24), 61, 34, 0, 0)),
  (61, (.return_, 62, 0, 0, 0))]
def xB9 : List (Nat × xm_row) := [(0, (.aload_n 0, 1, 0, 0, 0)),
  (1, (.invokespecial 1, 4, 900, 0, 0)),
  (4, (.aload_n 0, 5, 0, 0, 0)),
  (5, (.iconst 5, 6, 0, 0, 5)),
  (6, (.newarray .int, 8, 0, 0, 0)),
  (8, (.putfield 9, 11, 9, 0, 0)),
  (11, (.aload_n 0, 12, 0, 0, 0)),
  (12, (.iconst 5, 13, 0, 0, 5)),
  (13, (.iconst 3, 14, 0, 0, 3)),
  (14, (.multianewarray 13 2, 18, 4, 0, 0)),
  (18, (.putfield 15, 21, 9, 1, 0)),
  (21, (.aload_n 0, 22, 0, 0, 0)),
  (22, (.bipush 6, 24, 0, 0, 6)),
  (24, (.newarray .int, 26, 0, 0, 0)),
  (26, (.putfield 18, 29, 9, 2, 0)),
  (29, (.aload_n 0, 30, 0, 0, 0)),
  (30, (.bipush 6, 32, 0, 0, 6)),
  (32, (.iconst 2, 33, 0, 0, 2)),
  (33, (.multianewarray 13 2, 37, 4, 0, 0)),
  (37, (.putfield 21, 40, 9, 3, 0)),
  (40, (.aload_n 0, 41, 0, 0, 0)),
  (41, (.bipush 6, 43, 0, 0, 6)),
  (43, (.newarray .boolean, 45, 2, 0, 0)),
  (45, (.putfield 24, 48, 9, 4, 0)),
  (48, (.return_, 49, 0, 0, 0))]
def xB10 : List (Nat × xm_row) := [(0, (.aload_n 0, 1, 0, 0, 0)),
  (1, (.getfield 10, 4, 6, 3, 0)),
  (4, (.areturn, 5, 0, 0, 0))]
def xB11 : List (Nat × xm_row) := [(0, (.aload_n 0, 1, 0, 0, 0)),
  (1, (.invokespecial 3, 4, 900, 0, 0)),
  (4, (.aload_n 0, 5, 0, 0, 0)),
  (5, (.aload_n 1, 6, 0, 0, 0)),
  (6, (.putfield 9, 9, 10, 0, 0)),
  (9, (.aload_n 0, 10, 0, 0, 0)),
  (10, (.aload_n 2, 11, 0, 0, 0)),
  (11, (.putfield 15, 14, 10, 1, 0)),
  (14, (.aload_n 0, 15, 0, 0, 0)),
  (15, (.aload_n 3, 16, 0, 0, 0)),
  (16, (.putfield 19, 19, 10, 2, 0)),
  (19, (.aload_n 0, 20, 0, 0, 0)),
  (20, (.aload 4, 22, 0, 0, 0)),
  (22, (.putfield 23, 25, 10, 3, 0)),
  (25, (.aload_n 0, 26, 0, 0, 0)),
  (26, (.new 27, 29, 11, 0, 0)),
  (29, (.dup, 30, 0, 0, 0)),
  (30, (.aload_n 1, 31, 0, 0, 0)),
  (31, (.invokespecial 29, 34, 12, 1, 0)),
  (34, (.putfield 32, 37, 10, 4, 0)),
  (37, (.return_, 38, 0, 0, 0))]
def xB12 : List (Nat × xm_row) := [(0, (.aload_n 0, 1, 0, 0, 0)),
  (1, (.invokespecial 3, 4, 900, 0, 0)),
  (4, (.aload_n 0, 5, 0, 0, 0)),
  (5, (.bipush 60, 7, 0, 0, 60)),
  (7, (.newarray .int, 9, 0, 0, 0)),
  (9, (.putfield 11, 12, 11, 0, 0)),
  (12, (.aload_n 0, 13, 0, 0, 0)),
  (13, (.bipush 60, 15, 0, 0, 60)),
  (15, (.newarray .int, 17, 0, 0, 0)),
  (17, (.putfield 15, 20, 11, 1, 0)),
  (20, (.aload_n 0, 21, 0, 0, 0)),
  (21, (.bipush 60, 23, 0, 0, 60)),
  (23, (.newarray .int, 25, 0, 0, 0)),
  (25, (.putfield 18, 28, 11, 2, 0)),
  (28, (.aload_n 0, 29, 0, 0, 0)),
  (29, (.bipush 60, 31, 0, 0, 60)),
  (31, (.newarray .int, 33, 0, 0, 0)),
  (33, (.putfield 21, 36, 11, 3, 0)),
  (36, (.aload_n 0, 37, 0, 0, 0)),
  (37, (.aload_n 1, 38, 0, 0, 0)),
  (38, (.putfield 24, 41, 11, 4, 0)),
  (41, (.return_, 42, 0, 0, 0))]
def xB13 : List (Nat × xm_row) := [(0, (.aload_n 0, 1, 0, 0, 0)),
  (1, (.getfield 44, 4, 0, 4, 0)),
  (4, (.iconst 5, 5, 0, 0, 5)),
  (5, (.invokevirtual 112, 8, 14, 1, 0)),
  (8, (.istore_n 1, 9, 0, 0, 0)),
  (9, (.aload_n 0, 10, 0, 0, 0)),
  (10, (.getfield 35, 13, 0, 3, 0)),
  (13, (.invokevirtual 83, 16, 38, 0, 0)),
  (16, (.iload_n 1, 17, 0, 0, 0)),
  (17, (.ireturn, 18, 0, 0, 0))]
def xB14 : List (Nat × xm_row) := [(0, (.aload_n 0, 1, 0, 0, 0)),
  (1, (.getfield 21, 4, 7, 2, 0)),
  (4, (.iload_n 1, 5, 0, 0, 0)),
  (5, (.invokevirtual 108, 8, 15, 1, 0)),
  (8, (.ifCond .eq 20, 11, 28, 0, 0)),
  (11, (.aload_n 0, 12, 0, 0, 0)),
  (12, (.getfield 37, 15, 7, 4, 0)),
  (15, (.ifCond .eq 13, 18, 28, 0, 0)),
  (18, (.aload_n 0, 19, 0, 0, 0)),
  (19, (.getfield 12, 22, 7, 1, 0)),
  (22, (.invokevirtual 44, 25, 17, 0, 0)),
  (25, (.ifCond .ne 5, 28, 30, 0, 0)),
  (28, (.iconst 0, 29, 0, 0, 0)),
  (29, (.ireturn, 30, 0, 0, 0)),
  (30, (.aload_n 0, 31, 0, 0, 0)),
  (31, (.getfield 29, 34, 7, 0, 0)),
  (34, (.invokevirtual 54, 37, 18, 0, 0)),
  (37, (.astore_n 2, 38, 0, 0, 0)),
  (38, (.aload_n 2, 39, 0, 0, 0)),
  (39, (.iconst 3, 40, 0, 0, 3)),
  (40, (.invokevirtual 111, 43, 20, 1, 0)),
  (43, (.aload_n 2, 44, 0, 0, 0)),
  (44, (.iconst 0, 45, 0, 0, 0)),
  (45, (.invokevirtual 114, 48, 22, 1, 0)),
  (48, (.aload_n 2, 49, 0, 0, 0)),
  (49, (.iload_n 1, 50, 0, 0, 0)),
  (50, (.invokevirtual 114, 53, 22, 1, 0)),
  (53, (.aload_n 2, 54, 0, 0, 0)),
  (54, (.aload_n 0, 55, 0, 0, 0)),
  (55, (.getfield 21, 58, 7, 2, 0)),
  (58, (.iload_n 1, 59, 0, 0, 0)),
  (59, (.invokevirtual 117, 62, 23, 1, 0)),
  (62, (.invokevirtual 111, 65, 20, 1, 0)),
  (65, (.iconst 0, 66, 0, 0, 0)),
  (66, (.istore_n 3, 67, 0, 0, 0)),
  (67, (.iload_n 3, 68, 0, 0, 0)),
  (68, (.aload_n 0, 69, 0, 0, 0)),
  (69, (.getfield 21, 72, 7, 2, 0)),
  (72, (.iload_n 1, 73, 0, 0, 0)),
  (73, (.invokevirtual 117, 76, 23, 1, 0)),
  (76, (.if_icmp .ge 86, 79, 162, 0, 0)),
  (79, (.aload_n 0, 80, 0, 0, 0)),
  (80, (.getfield 21, 83, 7, 2, 0)),
  (83, (.iload_n 1, 84, 0, 0, 0)),
  (84, (.iload_n 3, 85, 0, 0, 0)),
  (85, (.invokevirtual 121, 88, 24, 2, 0)),
  (88, (.istore 4, 90, 0, 0, 0)),
  (90, (.aload_n 2, 91, 0, 0, 0)),
  (91, (.iconst 2, 92, 0, 0, 2)),
  (92, (.invokevirtual 111, 95, 20, 1, 0)),
  (95, (.aload_n 2, 96, 0, 0, 0)),
  (96, (.iload 4, 98, 0, 0, 0)),
  (98, (.invokevirtual 114, 101, 22, 1, 0)),
  (101, (.aload_n 2, 102, 0, 0, 0)),
  (102, (.aload_n 0, 103, 0, 0, 0)),
  (103, (.getfield 21, 106, 7, 2, 0)),
  (106, (.iload 4, 108, 0, 0, 0)),
  (108, (.invokevirtual 125, 111, 25, 1, 0)),
  (111, (.invokevirtual 111, 114, 20, 1, 0)),
  (114, (.iconst 0, 115, 0, 0, 0)),
  (115, (.istore 5, 117, 0, 0, 0)),
  (117, (.iload 5, 119, 0, 0, 0)),
  (119, (.aload_n 0, 120, 0, 0, 0)),
  (120, (.getfield 21, 123, 7, 2, 0)),
  (123, (.iload 4, 125, 0, 0, 0)),
  (125, (.invokevirtual 125, 128, 25, 1, 0)),
  (128, (.if_icmp .ge 28, 131, 156, 0, 0)),
  (131, (.aload_n 0, 132, 0, 0, 0)),
  (132, (.getfield 12, 135, 7, 1, 0)),
  (135, (.aload_n 2, 136, 0, 0, 0)),
  (136, (.aload_n 0, 137, 0, 0, 0)),
  (137, (.getfield 21, 140, 7, 2, 0)),
  (140, (.iload 4, 142, 0, 0, 0)),
  (142, (.iload 5, 144, 0, 0, 0)),
  (144, (.invokevirtual 128, 147, 27, 2, 0)),
  (147, (.invokevirtual 131, 150, 28, 2, 0)),
  (150, (.iinc 5 1, 153, 0, 0, 1)),
  (153, (.goto (-36), 156, 117, 0, 0)),
  (156, (.iinc 3 1, 159, 0, 0, 1)),
  (159, (.goto (-92), 162, 67, 0, 0)),
  (162, (.aload_n 0, 163, 0, 0, 0)),
  (163, (.getfield 29, 166, 7, 0, 0)),
  (166, (.sipush 134, 169, 0, 0, 134)),
  (169, (.bipush 11, 171, 0, 0, 11)),
  (171, (.aload_n 0, 172, 0, 0, 0)),
  (172, (.getfield 29, 175, 7, 0, 0)),
  (175, (.invokevirtual 67, 178, 30, 0, 0)),
  (178, (.invokevirtual 70, 181, 31, 3, 0)),
  (181, (.iconst 1, 182, 0, 0, 1)),
  (182, (.ireturn, 183, 0, 0, 0))]
def xB15 : List (Nat × xm_row) := [(0, (.iload_n 1, 1, 0, 0, 0)),
  (1, (.invokestatic 32, 4, 16, 1, 0)),
  (4, (.ifCond .eq 25, 7, 29, 0, 0)),
  (7, (.aload_n 0, 8, 0, 0, 0)),
  (8, (.getfield 24, 11, 9, 4, 0)),
  (11, (.iload_n 1, 12, 0, 0, 0)),
  (12, (.baload, 13, 0, 0, 0)),
  (13, (.ifCond .eq 16, 16, 29, 0, 0)),
  (16, (.aload_n 0, 17, 0, 0, 0)),
  (17, (.getfield 18, 20, 9, 2, 0)),
  (20, (.iload_n 1, 21, 0, 0, 0)),
  (21, (.iaload, 22, 0, 0, 0)),
  (22, (.ifCond .le 7, 25, 29, 0, 0)),
  (25, (.iconst 1, 26, 0, 0, 1)),
  (26, (.goto 4, 29, 30, 0, 0)),
  (29, (.iconst 0, 30, 0, 0, 0)),
  (30, (.ireturn, 31, 0, 0, 0))]
def xB16 : List (Nat × xm_row) := [(0, (.iload_n 0, 1, 0, 0, 0)),
  (1, (.iconst 1, 2, 0, 0, 1)),
  (2, (.if_icmp .lt 12, 5, 14, 0, 0)),
  (5, (.iload_n 0, 6, 0, 0, 0)),
  (6, (.iconst 5, 7, 0, 0, 5)),
  (7, (.if_icmp .gt 7, 10, 14, 0, 0)),
  (10, (.iconst 1, 11, 0, 0, 1)),
  (11, (.goto 4, 14, 15, 0, 0)),
  (14, (.iconst 0, 15, 0, 0, 0)),
  (15, (.ireturn, 16, 0, 0, 0))]
def xB17 : List (Nat × xm_row) := [(0, (.aload_n 0, 1, 0, 0, 0)),
  (1, (.getfield 20, 4, 8, 2, 0)),
  (4, (.iconst 0, 5, 0, 0, 0)),
  (5, (.aaload, 6, 0, 0, 0)),
  (6, (.iconst 0, 7, 0, 0, 0)),
  (7, (.iaload, 8, 0, 0, 0)),
  (8, (.iconst 2, 9, 0, 0, 2)),
  (9, (.if_icmp .eq 15, 12, 24, 0, 0)),
  (12, (.aload_n 0, 13, 0, 0, 0)),
  (13, (.getfield 20, 16, 8, 2, 0)),
  (16, (.iconst 0, 17, 0, 0, 0)),
  (17, (.aaload, 18, 0, 0, 0)),
  (18, (.iconst 0, 19, 0, 0, 0)),
  (19, (.iaload, 20, 0, 0, 0)),
  (20, (.iconst 3, 21, 0, 0, 3)),
  (21, (.if_icmp .ne 7, 24, 28, 0, 0)),
  (24, (.iconst 1, 25, 0, 0, 1)),
  (25, (.goto 4, 28, 29, 0, 0)),
  (28, (.iconst 0, 29, 0, 0, 0)),
  (29, (.ireturn, 30, 0, 0, 0))]
def xB18 : List (Nat × xm_row) := [(0, (.aload_n 0, 1, 0, 0, 0)),
  (1, (.getfield 20, 4, 2, 1, 0)),
  (4, (.invokevirtual 42, 7, 19, 0, 0)),
  (7, (.aload_n 0, 8, 0, 0, 0)),
  (8, (.getfield 20, 11, 2, 1, 0)),
  (11, (.areturn, 12, 0, 0, 0))]
def xB19 : List (Nat × xm_row) := [(0, (.aload_n 0, 1, 0, 0, 0)),
  (1, (.iconst 0, 2, 0, 0, 0)),
  (2, (.putfield 15, 5, 3, 1, 0)),
  (5, (.return_, 6, 0, 0, 0))]
def xB20 : List (Nat × xm_row) := [(0, (.aload_n 0, 1, 0, 0, 0)),
  (1, (.iconst 1, 2, 0, 0, 1)),
  (2, (.invokevirtual 19, 5, 21, 1, 0)),
  (5, (.aload_n 0, 6, 0, 0, 0)),
  (6, (.iload_n 1, 7, 0, 0, 0)),
  (7, (.invokevirtual 19, 10, 21, 1, 0)),
  (10, (.return_, 11, 0, 0, 0))]
def xB21 : List (Nat × xm_row) := [(0, (.aload_n 0, 1, 0, 0, 0)),
  (1, (.getfield 15, 4, 3, 1, 0)),
  (4, (.bipush 120, 6, 0, 0, 120)),
  (6, (.if_icmp .ge 13, 9, 19, 0, 0)),
  (9, (.aload_n 0, 10, 0, 0, 0)),
  (10, (.getfield 11, 13, 3, 0, 0)),
  (13, (.aload_n 0, 14, 0, 0, 0)),
  (14, (.getfield 15, 17, 3, 1, 0)),
  (17, (.iload_n 1, 18, 0, 0, 0)),
  (18, (.iastore, 19, 0, 0, 0)),
  (19, (.aload_n 0, 20, 0, 0, 0)),
  (20, (.dup, 21, 0, 0, 0)),
  (21, (.getfield 15, 24, 3, 1, 0)),
  (24, (.iconst 1, 25, 0, 0, 1)),
  (25, (.iadd, 26, 0, 0, 0)),
  (26, (.putfield 15, 29, 3, 1, 0)),
  (29, (.return_, 30, 0, 0, 0))]
def xB22 : List (Nat × xm_row) := [(0, (.aload_n 0, 1, 0, 0, 0)),
  (1, (.sipush 165, 4, 0, 0, 165)),
  (4, (.invokevirtual 19, 7, 21, 1, 0)),
  (7, (.aload_n 0, 8, 0, 0, 0)),
  (8, (.iconst 1, 9, 0, 0, 1)),
  (9, (.invokevirtual 19, 12, 21, 1, 0)),
  (12, (.aload_n 0, 13, 0, 0, 0)),
  (13, (.iload_n 1, 14, 0, 0, 0)),
  (14, (.invokevirtual 19, 17, 21, 1, 0)),
  (17, (.return_, 18, 0, 0, 0))]
def xB23 : List (Nat × xm_row) := [(0, (.iload_n 1, 1, 0, 0, 0)),
  (1, (.invokestatic 32, 4, 16, 1, 0)),
  (4, (.ifCond .eq 12, 7, 16, 0, 0)),
  (7, (.aload_n 0, 8, 0, 0, 0)),
  (8, (.getfield 18, 11, 9, 2, 0)),
  (11, (.iload_n 1, 12, 0, 0, 0)),
  (12, (.iaload, 13, 0, 0, 0)),
  (13, (.goto 4, 16, 17, 0, 0)),
  (16, (.iconst 0, 17, 0, 0, 0)),
  (17, (.ireturn, 18, 0, 0, 0))]
def xB24 : List (Nat × xm_row) := [(0, (.iload_n 1, 1, 0, 0, 0)),
  (1, (.invokestatic 32, 4, 16, 1, 0)),
  (4, (.ifCond .eq 28, 7, 32, 0, 0)),
  (7, (.iload_n 2, 8, 0, 0, 0)),
  (8, (.ifCond .lt 24, 11, 32, 0, 0)),
  (11, (.iload_n 2, 12, 0, 0, 0)),
  (12, (.aload_n 0, 13, 0, 0, 0)),
  (13, (.getfield 18, 16, 9, 2, 0)),
  (16, (.iload_n 1, 17, 0, 0, 0)),
  (17, (.iaload, 18, 0, 0, 0)),
  (18, (.if_icmp .ge 14, 21, 32, 0, 0)),
  (21, (.aload_n 0, 22, 0, 0, 0)),
  (22, (.getfield 21, 25, 9, 3, 0)),
  (25, (.iload_n 1, 26, 0, 0, 0)),
  (26, (.aaload, 27, 0, 0, 0)),
  (27, (.iload_n 2, 28, 0, 0, 0)),
  (28, (.iaload, 29, 0, 0, 0)),
  (29, (.goto 4, 32, 33, 0, 0)),
  (32, (.iconst 0, 33, 0, 0, 0)),
  (33, (.ireturn, 34, 0, 0, 0))]
def xB25 : List (Nat × xm_row) := [(0, (.iload_n 1, 1, 0, 0, 0)),
  (1, (.invokestatic 28, 4, 26, 1, 0)),
  (4, (.ifCond .eq 12, 7, 16, 0, 0)),
  (7, (.aload_n 0, 8, 0, 0, 0)),
  (8, (.getfield 9, 11, 9, 0, 0)),
  (11, (.iload_n 1, 12, 0, 0, 0)),
  (12, (.iaload, 13, 0, 0, 0)),
  (13, (.goto 4, 16, 17, 0, 0)),
  (16, (.iconst 0, 17, 0, 0, 0)),
  (17, (.ireturn, 18, 0, 0, 0))]
def xB26 : List (Nat × xm_row) := [(0, (.iload_n 0, 1, 0, 0, 0)),
  (1, (.iconst 1, 2, 0, 0, 1)),
  (2, (.if_icmp .lt 12, 5, 14, 0, 0)),
  (5, (.iload_n 0, 6, 0, 0, 0)),
  (6, (.iconst 4, 7, 0, 0, 4)),
  (7, (.if_icmp .gt 7, 10, 14, 0, 0)),
  (10, (.iconst 1, 11, 0, 0, 1)),
  (11, (.goto 4, 14, 15, 0, 0)),
  (14, (.iconst 0, 15, 0, 0, 0)),
  (15, (.ireturn, 16, 0, 0, 0))]
def xB27 : List (Nat × xm_row) := [(0, (.iload_n 1, 1, 0, 0, 0)),
  (1, (.invokestatic 28, 4, 26, 1, 0)),
  (4, (.ifCond .eq 28, 7, 32, 0, 0)),
  (7, (.iload_n 2, 8, 0, 0, 0)),
  (8, (.ifCond .lt 24, 11, 32, 0, 0)),
  (11, (.iload_n 2, 12, 0, 0, 0)),
  (12, (.aload_n 0, 13, 0, 0, 0)),
  (13, (.getfield 9, 16, 9, 0, 0)),
  (16, (.iload_n 1, 17, 0, 0, 0)),
  (17, (.iaload, 18, 0, 0, 0)),
  (18, (.if_icmp .ge 14, 21, 32, 0, 0)),
  (21, (.aload_n 0, 22, 0, 0, 0)),
  (22, (.getfield 15, 25, 9, 1, 0)),
  (25, (.iload_n 1, 26, 0, 0, 0)),
  (26, (.aaload, 27, 0, 0, 0)),
  (27, (.iload_n 2, 28, 0, 0, 0)),
  (28, (.iaload, 29, 0, 0, 0)),
  (29, (.goto 4, 32, 33, 0, 0)),
  (32, (.iconst 0, 33, 0, 0, 0)),
  (33, (.ireturn, 34, 0, 0, 0))]
def xB28 : List (Nat × xm_row) := [(0, (.iload_n 2, 1, 0, 0, 0)),
  (1, (.invokestatic 23, 4, 29, 1, 0)),
  (4, (.ifCond .ne 4, 7, 8, 0, 0)),
  (7, (.return_, 8, 0, 0, 0)),
  (8, (.aload_n 1, 9, 0, 0, 0)),
  (9, (.iconst 4, 10, 0, 0, 4)),
  (10, (.aload_n 0, 11, 0, 0, 0)),
  (11, (.getfield 11, 14, 8, 0, 0)),
  (14, (.iload_n 2, 15, 0, 0, 0)),
  (15, (.iaload, 16, 0, 0, 0)),
  (16, (.imul, 17, 0, 0, 0)),
  (17, (.iconst 1, 18, 0, 0, 1)),
  (18, (.iadd, 19, 0, 0, 0)),
  (19, (.invokevirtual 31, 22, 21, 1, 0)),
  (22, (.aload_n 1, 23, 0, 0, 0)),
  (23, (.aload_n 0, 24, 0, 0, 0)),
  (24, (.getfield 15, 27, 8, 1, 0)),
  (27, (.iload_n 2, 28, 0, 0, 0)),
  (28, (.iaload, 29, 0, 0, 0)),
  (29, (.invokevirtual 31, 32, 21, 1, 0)),
  (32, (.iconst 0, 33, 0, 0, 0)),
  (33, (.istore_n 3, 34, 0, 0, 0)),
  (34, (.iload_n 3, 35, 0, 0, 0)),
  (35, (.aload_n 0, 36, 0, 0, 0)),
  (36, (.getfield 15, 39, 8, 1, 0)),
  (39, (.iload_n 2, 40, 0, 0, 0)),
  (40, (.iaload, 41, 0, 0, 0)),
  (41, (.if_icmp .ge 27, 44, 68, 0, 0)),
  (44, (.iload_n 3, 45, 0, 0, 0)),
  (45, (.bipush 8, 47, 0, 0, 8)),
  (47, (.if_icmp .ge 21, 50, 68, 0, 0)),
  (50, (.aload_n 1, 51, 0, 0, 0)),
  (51, (.aload_n 0, 52, 0, 0, 0)),
  (52, (.getfield 20, 55, 8, 2, 0)),
  (55, (.iload_n 2, 56, 0, 0, 0)),
  (56, (.aaload, 57, 0, 0, 0)),
  (57, (.iload_n 3, 58, 0, 0, 0)),
  (58, (.iaload, 59, 0, 0, 0)),
  (59, (.invokevirtual 31, 62, 21, 1, 0)),
  (62, (.iinc 3 1, 65, 0, 0, 1)),
  (65, (.goto (-31), 68, 34, 0, 0)),
  (68, (.return_, 69, 0, 0, 0))]
def xB29 : List (Nat × xm_row) := [(0, (.iload_n 0, 1, 0, 0, 0)),
  (1, (.ifCond .lt 13, 4, 14, 0, 0)),
  (4, (.iload_n 0, 5, 0, 0, 0)),
  (5, (.bipush 6, 7, 0, 0, 6)),
  (7, (.if_icmp .ge 7, 10, 14, 0, 0)),
  (10, (.iconst 1, 11, 0, 0, 1)),
  (11, (.goto 4, 14, 15, 0, 0)),
  (14, (.iconst 0, 15, 0, 0, 0)),
  (15, (.ireturn, 16, 0, 0, 0))]
def xB30 : List (Nat × xm_row) := [(0, (.aload_n 0, 1, 0, 0, 0)),
  (1, (.aload_n 0, 2, 0, 0, 0)),
  (2, (.getfield 45, 5, 2, 5, 0)),
  (5, (.iconst 1, 6, 0, 0, 1)),
  (6, (.iadd, 7, 0, 0, 0)),
  (7, (.ldc 48, 9, 0, 0, 65535)),
  (9, (.iand, 10, 0, 0, 0)),
  (10, (.putfield 45, 13, 2, 5, 0)),
  (13, (.aload_n 0, 14, 0, 0, 0)),
  (14, (.getfield 45, 17, 2, 5, 0)),
  (17, (.ireturn, 18, 0, 0, 0))]
def xB31 : List (Nat × xm_row) := [(0, (.aload_n 0, 1, 0, 0, 0)),
  (1, (.getfield 25, 4, 2, 3, 0)),
  (4, (.bipush 8, 6, 0, 0, 8)),
  (6, (.if_icmp .ge 13, 9, 19, 0, 0)),
  (9, (.aload_n 0, 10, 0, 0, 0)),
  (10, (.getfield 20, 13, 2, 1, 0)),
  (13, (.invokevirtual 64, 16, 32, 0, 0)),
  (16, (.ifCond .ne 14, 19, 30, 0, 0)),
  (19, (.aload_n 0, 20, 0, 0, 0)),
  (20, (.dup, 21, 0, 0, 0)),
  (21, (.getfield 29, 24, 2, 4, 0)),
  (24, (.iconst 1, 25, 0, 0, 1)),
  (25, (.iadd, 26, 0, 0, 0)),
  (26, (.putfield 29, 29, 2, 4, 0)),
  (29, (.return_, 30, 0, 0, 0)),
  (30, (.aload_n 0, 31, 0, 0, 0)),
  (31, (.getfield 13, 34, 2, 0, 0)),
  (34, (.aload_n 0, 35, 0, 0, 0)),
  (35, (.getfield 32, 38, 2, 2, 0)),
  (38, (.aload_n 0, 39, 0, 0, 0)),
  (39, (.getfield 25, 42, 2, 3, 0)),
  (42, (.iadd, 43, 0, 0, 0)),
  (43, (.bipush 8, 45, 0, 0, 8)),
  (45, (.irem, 46, 0, 0, 0)),
  (46, (.aaload, 47, 0, 0, 0)),
  (47, (.astore 4, 49, 0, 0, 0)),
  (49, (.aload 4, 51, 0, 0, 0)),
  (51, (.bipush 10, 53, 0, 0, 10)),
  (53, (.aload_n 0, 54, 0, 0, 0)),
  (54, (.getfield 20, 57, 2, 1, 0)),
  (57, (.invokevirtual 78, 60, 33, 0, 0)),
  (60, (.iadd, 61, 0, 0, 0)),
  (61, (.invokevirtual 81, 64, 34, 1, 0)),
  (64, (.aload 4, 66, 0, 0, 0)),
  (66, (.iload_n 1, 67, 0, 0, 0)),
  (67, (.iload_n 2, 68, 0, 0, 0)),
  (68, (.iload_n 3, 69, 0, 0, 0)),
  (69, (.invokevirtual 85, 72, 35, 3, 0)),
  (72, (.aload_n 0, 73, 0, 0, 0)),
  (73, (.getfield 20, 76, 2, 1, 0)),
  (76, (.aload 4, 78, 0, 0, 0)),
  (78, (.invokevirtual 88, 81, 36, 0, 0)),
  (81, (.bipush 10, 83, 0, 0, 10)),
  (83, (.invokevirtual 92, 86, 37, 2, 0)),
  (86, (.aload_n 0, 87, 0, 0, 0)),
  (87, (.dup, 88, 0, 0, 0)),
  (88, (.getfield 25, 91, 2, 3, 0)),
  (91, (.iconst 1, 92, 0, 0, 1)),
  (92, (.iadd, 93, 0, 0, 0)),
  (93, (.putfield 25, 96, 2, 3, 0)),
  (96, (.return_, 97, 0, 0, 0))]
def xB32 : List (Nat × xm_row) := [(0, (.aload_n 0, 1, 0, 0, 0)),
  (1, (.getfield 15, 4, 3, 1, 0)),
  (4, (.bipush 120, 6, 0, 0, 120)),
  (6, (.if_icmp .gt 7, 9, 13, 0, 0)),
  (9, (.iconst 1, 10, 0, 0, 1)),
  (10, (.goto 4, 13, 14, 0, 0)),
  (13, (.iconst 0, 14, 0, 0, 0)),
  (14, (.ireturn, 15, 0, 0, 0))]
def xB33 : List (Nat × xm_row) := [(0, (.aload_n 0, 1, 0, 0, 0)),
  (1, (.getfield 15, 4, 3, 1, 0)),
  (4, (.ireturn, 5, 0, 0, 0))]
def xB34 : List (Nat × xm_row) := [(0, (.aload_n 0, 1, 0, 0, 0)),
  (1, (.iload_n 1, 2, 0, 0, 0)),
  (2, (.putfield 15, 5, 4, 1, 0)),
  (5, (.aload_n 0, 6, 0, 0, 0)),
  (6, (.iconst 0, 7, 0, 0, 0)),
  (7, (.putfield 19, 10, 4, 2, 0)),
  (10, (.return_, 11, 0, 0, 0))]
def xB35 : List (Nat × xm_row) := [(0, (.aload_n 0, 1, 0, 0, 0)),
  (1, (.getfield 11, 4, 4, 0, 0)),
  (4, (.iconst 0, 5, 0, 0, 0)),
  (5, (.sipush 128, 8, 0, 0, 128)),
  (8, (.iastore, 9, 0, 0, 0)),
  (9, (.aload_n 0, 10, 0, 0, 0)),
  (10, (.getfield 11, 13, 4, 0, 0)),
  (13, (.iconst 1, 14, 0, 0, 1)),
  (14, (.iconst 1, 15, 0, 0, 1)),
  (15, (.iastore, 16, 0, 0, 0)),
  (16, (.aload_n 0, 17, 0, 0, 0)),
  (17, (.getfield 11, 20, 4, 0, 0)),
  (20, (.iconst 2, 21, 0, 0, 2)),
  (21, (.iload_n 1, 22, 0, 0, 0)),
  (22, (.iastore, 23, 0, 0, 0)),
  (23, (.aload_n 0, 24, 0, 0, 0)),
  (24, (.getfield 11, 27, 4, 0, 0)),
  (27, (.iconst 3, 28, 0, 0, 3)),
  (28, (.iload_n 2, 29, 0, 0, 0)),
  (29, (.iastore, 30, 0, 0, 0)),
  (30, (.aload_n 0, 31, 0, 0, 0)),
  (31, (.getfield 11, 34, 4, 0, 0)),
  (34, (.iconst 4, 35, 0, 0, 4)),
  (35, (.sipush 128, 38, 0, 0, 128)),
  (38, (.iastore, 39, 0, 0, 0)),
  (39, (.aload_n 0, 40, 0, 0, 0)),
  (40, (.getfield 11, 43, 4, 0, 0)),
  (43, (.iconst 5, 44, 0, 0, 5)),
  (44, (.iconst 1, 45, 0, 0, 1)),
  (45, (.iastore, 46, 0, 0, 0)),
  (46, (.aload_n 0, 47, 0, 0, 0)),
  (47, (.getfield 11, 50, 4, 0, 0)),
  (50, (.bipush 6, 52, 0, 0, 6)),
  (52, (.iload_n 3, 53, 0, 0, 0)),
  (53, (.bipush 24, 55, 0, 0, 24)),
  (55, (.iushr, 56, 0, 0, 0)),
  (56, (.iastore, 57, 0, 0, 0)),
  (57, (.aload_n 0, 58, 0, 0, 0)),
  (58, (.getfield 11, 61, 4, 0, 0)),
  (61, (.bipush 7, 63, 0, 0, 7)),
  (63, (.iload_n 3, 64, 0, 0, 0)),
  (64, (.bipush 16, 66, 0, 0, 16)),
  (66, (.iushr, 67, 0, 0, 0)),
  (67, (.sipush 255, 70, 0, 0, 255)),
  (70, (.iand, 71, 0, 0, 0)),
  (71, (.iastore, 72, 0, 0, 0)),
  (72, (.aload_n 0, 73, 0, 0, 0)),
  (73, (.getfield 11, 76, 4, 0, 0)),
  (76, (.bipush 8, 78, 0, 0, 8)),
  (78, (.iload_n 3, 79, 0, 0, 0)),
  (79, (.bipush 8, 81, 0, 0, 8)),
  (81, (.iushr, 82, 0, 0, 0)),
  (82, (.sipush 255, 85, 0, 0, 255)),
  (85, (.iand, 86, 0, 0, 0)),
  (86, (.iastore, 87, 0, 0, 0)),
  (87, (.aload_n 0, 88, 0, 0, 0)),
  (88, (.getfield 11, 91, 4, 0, 0)),
  (91, (.bipush 9, 93, 0, 0, 9)),
  (93, (.iload_n 3, 94, 0, 0, 0)),
  (94, (.sipush 255, 97, 0, 0, 255)),
  (97, (.iand, 98, 0, 0, 0)),
  (98, (.iastore, 99, 0, 0, 0)),
  (99, (.return_, 100, 0, 0, 0))]
def xB36 : List (Nat × xm_row) := [(0, (.aload_n 0, 1, 0, 0, 0)),
  (1, (.getfield 11, 4, 4, 0, 0)),
  (4, (.areturn, 5, 0, 0, 0))]
def xB37 : List (Nat × xm_row) := [(0, (.iconst 0, 1, 0, 0, 0)),
  (1, (.istore_n 3, 2, 0, 0, 0)),
  (2, (.iload_n 3, 3, 0, 0, 0)),
  (3, (.aload_n 0, 4, 0, 0, 0)),
  (4, (.getfield 15, 7, 3, 1, 0)),
  (7, (.if_icmp .ge 34, 10, 41, 0, 0)),
  (10, (.iload_n 3, 11, 0, 0, 0)),
  (11, (.bipush 120, 13, 0, 0, 120)),
  (13, (.if_icmp .ge 28, 16, 41, 0, 0)),
  (16, (.iload_n 2, 17, 0, 0, 0)),
  (17, (.iload_n 3, 18, 0, 0, 0)),
  (18, (.iadd, 19, 0, 0, 0)),
  (19, (.aload_n 1, 20, 0, 0, 0)),
  (20, (.arraylength, 21, 0, 0, 0)),
  (21, (.if_icmp .ge 20, 24, 41, 0, 0)),
  (24, (.aload_n 1, 25, 0, 0, 0)),
  (25, (.iload_n 2, 26, 0, 0, 0)),
  (26, (.iload_n 3, 27, 0, 0, 0)),
  (27, (.iadd, 28, 0, 0, 0)),
  (28, (.aload_n 0, 29, 0, 0, 0)),
  (29, (.getfield 11, 32, 3, 0, 0)),
  (32, (.iload_n 3, 33, 0, 0, 0)),
  (33, (.iaload, 34, 0, 0, 0)),
  (34, (.iastore, 35, 0, 0, 0)),
  (35, (.iinc 3 1, 38, 0, 0, 1)),
  (38, (.goto (-36), 41, 2, 0, 0)),
  (41, (.return_, 42, 0, 0, 0))]
def xB38 : List (Nat × xm_row) := [(0, (.aload_n 0, 1, 0, 0, 0)),
  (1, (.getfield 28, 4, 6, 4, 0)),
  (4, (.ifCond .ne 26, 7, 30, 0, 0)),
  (7, (.aload_n 0, 8, 0, 0, 0)),
  (8, (.getfield 20, 11, 6, 1, 0)),
  (11, (.invokevirtual 119, 14, 39, 0, 0)),
  (14, (.ifCond .le 16, 17, 30, 0, 0)),
  (17, (.aload_n 0, 18, 0, 0, 0)),
  (18, (.getfield 16, 21, 6, 0, 0)),
  (21, (.iconst 5, 22, 0, 0, 5)),
  (22, (.invokevirtual 46, 25, 40, 1, 0)),
  (25, (.aload_n 0, 26, 0, 0, 0)),
  (26, (.iconst 2, 27, 0, 0, 2)),
  (27, (.invokevirtual 51, 30, 42, 1, 0)),
  (30, (.return_, 31, 0, 0, 0))]
def xB39 : List (Nat × xm_row) := [(0, (.aload_n 0, 1, 0, 0, 0)),
  (1, (.getfield 25, 4, 2, 3, 0)),
  (4, (.ireturn, 5, 0, 0, 0))]
def xB40 : List (Nat × xm_row) := [(0, (.aload_n 0, 1, 0, 0, 0)),
  (1, (.getfield 9, 4, 1, 0, 0)),
  (4, (.aload_n 0, 5, 0, 0, 0)),
  (5, (.getfield 13, 8, 1, 1, 0)),
  (8, (.sipush 501, 11, 0, 0, 501)),
  (11, (.invokestatic 17, 14, 41, 2, 0)),
  (14, (.iload_n 1, 15, 0, 0, 0)),
  (15, (.iastore, 16, 0, 0, 0)),
  (16, (.aload_n 0, 17, 0, 0, 0)),
  (17, (.dup, 18, 0, 0, 0)),
  (18, (.getfield 13, 21, 1, 1, 0)),
  (21, (.iconst 1, 22, 0, 0, 1)),
  (22, (.iadd, 23, 0, 0, 0)),
  (23, (.putfield 13, 26, 1, 1, 0)),
  (26, (.return_, 27, 0, 0, 0))]
def xB41 : List (Nat × xm_row) := [(0, (.iload_n 0, 1, 0, 0, 0)),
  (1, (.iload_n 1, 2, 0, 0, 0)),
  (2, (.irem, 3, 0, 0, 0)),
  (3, (.istore_n 2, 4, 0, 0, 0)),
  (4, (.iload_n 0, 5, 0, 0, 0)),
  (5, (.iload_n 1, 6, 0, 0, 0)),
  (6, (.ixor, 7, 0, 0, 0)),
  (7, (.ifCond .ge 11, 10, 18, 0, 0)),
  (10, (.iload_n 2, 11, 0, 0, 0)),
  (11, (.ifCond .eq 7, 14, 18, 0, 0)),
  (14, (.iload_n 2, 15, 0, 0, 0)),
  (15, (.iload_n 1, 16, 0, 0, 0)),
  (16, (.iadd, 17, 0, 0, 0)),
  (17, (.ireturn, 18, 0, 0, 0)),
  (18, (.iload_n 2, 19, 0, 0, 0)),
  (19, (.ireturn, 20, 0, 0, 0))]
def xB42 : List (Nat × xm_row) := [(0, (.aload_n 0, 1, 0, 0, 0)),
  (1, (.iload_n 1, 2, 0, 0, 0)),
  (2, (.putfield 28, 5, 6, 4, 0)),
  (5, (.aload_n 0, 6, 0, 0, 0)),
  (6, (.iconst 0, 7, 0, 0, 0)),
  (7, (.putfield 64, 10, 6, 5, 0)),
  (10, (.return_, 11, 0, 0, 0))]
def xB43 : List (Nat × xm_row) := [(0, (.aload_n 0, 1, 0, 0, 0)),
  (1, (.getfield 10, 4, 0, 0, 0)),
  (4, (.invokevirtual 68, 7, 44, 0, 0)),
  (7, (.ireturn, 8, 0, 0, 0))]
def xB44 : List (Nat × xm_row) := [(0, (.aload_n 0, 1, 0, 0, 0)),
  (1, (.getfield 13, 4, 1, 1, 0)),
  (4, (.ireturn, 5, 0, 0, 0))]
def xB45 : List (Nat × xm_row) := [(0, (.iload_n 1, 1, 0, 0, 0)),
  (1, (.ifCond .lt 10, 4, 11, 0, 0)),
  (4, (.iload_n 1, 5, 0, 0, 0)),
  (5, (.sipush 255, 8, 0, 0, 255)),
  (8, (.if_icmp .le 13, 11, 21, 0, 0)),
  (11, (.new 61, 14, 999, 0, 0)),
  (14, (.dup, 15, 0, 0, 0)),
  (15, (.ldc 63, 17, 1, 900, 0)),
  (17, (.invokespecial 65, 20, 999, 0, 0)),
  (20, (.athrow, 21, 0, 0, 0)),
  (21, (.aload_n 0, 22, 0, 0, 0)),
  (22, (.getfield 10, 25, 0, 0, 0)),
  (25, (.invokevirtual 68, 28, 44, 0, 0)),
  (28, (.istore_n 2, 29, 0, 0, 0)),
  (29, (.aload_n 0, 30, 0, 0, 0)),
  (30, (.getfield 35, 33, 0, 3, 0)),
  (33, (.iload_n 1, 34, 0, 0, 0)),
  (34, (.invokevirtual 72, 37, 46, 1, 0)),
  (37, (.ifCond .eq 20, 40, 57, 0, 0)),
  (40, (.aload_n 0, 41, 0, 0, 0)),
  (41, (.getfield 57, 44, 0, 5, 0)),
  (44, (.invokevirtual 76, 47, 64, 0, 0)),
  (47, (.ifCond .eq 10, 50, 57, 0, 0)),
  (50, (.aload_n 0, 51, 0, 0, 0)),
  (51, (.getfield 57, 54, 0, 5, 0)),
  (54, (.invokevirtual 80, 57, 108, 0, 0)),
  (57, (.aload_n 0, 58, 0, 0, 0)),
  (58, (.getfield 35, 61, 0, 3, 0)),
  (61, (.invokevirtual 83, 64, 38, 0, 0)),
  (64, (.aload_n 0, 65, 0, 0, 0)),
  (65, (.getfield 10, 68, 0, 0, 0)),
  (68, (.invokevirtual 68, 71, 44, 0, 0)),
  (71, (.iload_n 2, 72, 0, 0, 0)),
  (72, (.isub, 73, 0, 0, 0)),
  (73, (.ireturn, 74, 0, 0, 0))]
def xB46 : List (Nat × xm_row) := [(0, (.aload_n 0, 1, 0, 0, 0)),
  (1, (.getfield 28, 4, 6, 4, 0)),
  (4, (.tableswitch 52 1 3 #[28, 34, 45], 32, 0, 28, 0)),
  (32, (.aload_n 0, 33, 0, 0, 0)),
  (33, (.iload_n 1, 34, 0, 0, 0)),
  (34, (.invokevirtual 32, 37, 47, 1, 0)),
  (37, (.ireturn, 38, 0, 0, 0)),
  (38, (.iload_n 1, 39, 0, 0, 0)),
  (39, (.iconst 4, 40, 0, 0, 4)),
  (40, (.if_icmp .ne 7, 43, 47, 0, 0)),
  (43, (.aload_n 0, 44, 0, 0, 0)),
  (44, (.invokevirtual 36, 47, 54, 0, 0)),
  (47, (.iconst 0, 48, 0, 0, 0)),
  (48, (.ireturn, 49, 0, 0, 0)),
  (49, (.aload_n 0, 50, 0, 0, 0)),
  (50, (.iload_n 1, 51, 0, 0, 0)),
  (51, (.invokevirtual 39, 54, 56, 1, 0)),
  (54, (.iconst 0, 55, 0, 0, 0)),
  (55, (.ireturn, 56, 0, 0, 0)),
  (56, (.iload_n 1, 57, 0, 0, 0)),
  (57, (.iconst 5, 58, 0, 0, 5)),
  (58, (.if_icmp .ne 7, 61, 65, 0, 0)),
  (61, (.aload_n 0, 62, 0, 0, 0)),
  (62, (.invokevirtual 43, 65, 63, 0, 0)),
  (65, (.iconst 0, 66, 0, 0, 0)),
  (66, (.ireturn, 67, 0, 0, 0))]
def xB47 : List (Nat × xm_row) := [(0, (.aload_n 0, 1, 0, 0, 0)),
  (1, (.iconst 0, 2, 0, 0, 0)),
  (2, (.putfield 64, 5, 6, 5, 0)),
  (5, (.aload_n 0, 6, 0, 0, 0)),
  (6, (.getfield 54, 9, 6, 6, 0)),
  (9, (.ifCond .ne 10, 12, 19, 0, 0)),
  (12, (.aload_n 0, 13, 0, 0, 0)),
  (13, (.iload_n 1, 14, 0, 0, 0)),
  (14, (.invokevirtual 67, 17, 48, 1, 0)),
  (17, (.iconst 0, 18, 0, 0, 0)),
  (18, (.ireturn, 19, 0, 0, 0)),
  (19, (.aload_n 0, 20, 0, 0, 0)),
  (20, (.getfield 58, 23, 6, 7, 0)),
  (23, (.aload_n 0, 24, 0, 0, 0)),
  (24, (.getfield 10, 27, 6, 3, 0)),
  (27, (.invokevirtual 70, 30, 51, 0, 0)),
  (30, (.if_icmp .ge 18, 33, 48, 0, 0)),
  (33, (.aload_n 0, 34, 0, 0, 0)),
  (34, (.getfield 10, 37, 6, 3, 0)),
  (37, (.aload_n 0, 38, 0, 0, 0)),
  (38, (.getfield 58, 41, 6, 7, 0)),
  (41, (.iload_n 1, 42, 0, 0, 0)),
  (42, (.invokevirtual 74, 45, 52, 2, 0)),
  (45, (.goto 17, 48, 62, 0, 0)),
  (48, (.aload_n 0, 49, 0, 0, 0)),
  (49, (.aload_n 0, 50, 0, 0, 0)),
  (50, (.getfield 61, 53, 6, 8, 0)),
  (53, (.sipush 256, 56, 0, 0, 256)),
  (56, (.imul, 57, 0, 0, 0)),
  (57, (.iload_n 1, 58, 0, 0, 0)),
  (58, (.iadd, 59, 0, 0, 0)),
  (59, (.putfield 61, 62, 6, 8, 0)),
  (62, (.aload_n 0, 63, 0, 0, 0)),
  (63, (.dup, 64, 0, 0, 0)),
  (64, (.getfield 58, 67, 6, 7, 0)),
  (67, (.iconst 1, 68, 0, 0, 1)),
  (68, (.iadd, 69, 0, 0, 0)),
  (69, (.putfield 58, 72, 6, 7, 0)),
  (72, (.aload_n 0, 73, 0, 0, 0)),
  (73, (.getfield 58, 76, 6, 7, 0)),
  (76, (.aload_n 0, 77, 0, 0, 0)),
  (77, (.getfield 10, 80, 6, 3, 0)),
  (80, (.invokevirtual 70, 83, 51, 0, 0)),
  (83, (.iconst 2, 84, 0, 0, 2)),
  (84, (.iadd, 85, 0, 0, 0)),
  (85, (.if_icmp .ge 5, 88, 90, 0, 0)),
  (88, (.iconst 0, 89, 0, 0, 0)),
  (89, (.ireturn, 90, 0, 0, 0)),
  (90, (.aload_n 0, 91, 0, 0, 0)),
  (91, (.getfield 61, 94, 6, 8, 0)),
  (94, (.aload_n 0, 95, 0, 0, 0)),
  (95, (.getfield 10, 98, 6, 3, 0)),
  (98, (.invokevirtual 78, 101, 53, 0, 0)),
  (101, (.if_icmp .ne 7, 104, 108, 0, 0)),
  (104, (.iconst 1, 105, 0, 0, 1)),
  (105, (.goto 4, 108, 109, 0, 0)),
  (108, (.iconst 0, 109, 0, 0, 0)),
  (109, (.istore_n 2, 110, 0, 0, 0)),
  (110, (.aload_n 0, 111, 0, 0, 0)),
  (111, (.iload_n 2, 112, 0, 0, 0)),
  (112, (.ifCond .eq 8, 115, 120, 0, 0)),
  (115, (.bipush 6, 117, 0, 0, 6)),
  (117, (.goto 5, 120, 122, 0, 0)),
  (120, (.bipush 21, 122, 0, 0, 21)),
  (122, (.invokevirtual 81, 125, 50, 1, 0)),
  (125, (.iload_n 2, 126, 0, 0, 0)),
  (126, (.ireturn, 127, 0, 0, 0))]
def xB48 : List (Nat × xm_row) := [(0, (.iload_n 1, 1, 0, 0, 0)),
  (1, (.invokestatic 84, 4, 49, 1, 0)),
  (4, (.ifCond .ne 10, 7, 14, 0, 0)),
  (7, (.aload_n 0, 8, 0, 0, 0)),
  (8, (.bipush 21, 10, 0, 0, 21)),
  (10, (.invokevirtual 81, 13, 50, 1, 0)),
  (13, (.return_, 14, 0, 0, 0)),
  (14, (.aload_n 0, 15, 0, 0, 0)),
  (15, (.getfield 10, 18, 6, 3, 0)),
  (18, (.iload_n 1, 19, 0, 0, 0)),
  (19, (.invokevirtual 87, 22, 34, 1, 0)),
  (22, (.aload_n 0, 23, 0, 0, 0)),
  (23, (.iconst 1, 24, 0, 0, 1)),
  (24, (.putfield 54, 27, 6, 6, 0)),
  (27, (.return_, 28, 0, 0, 0))]
def xB49 : List (Nat × xm_row) := [(0, (.iload_n 0, 1, 0, 0, 0)),
  (1, (.bipush 10, 3, 0, 0, 10)),
  (3, (.if_icmp .lt 14, 6, 17, 0, 0)),
  (6, (.iload_n 0, 7, 0, 0, 0)),
  (7, (.sipush 130, 10, 0, 0, 130)),
  (10, (.if_icmp .gt 7, 13, 17, 0, 0)),
  (13, (.iconst 1, 14, 0, 0, 1)),
  (14, (.goto 4, 17, 18, 0, 0)),
  (17, (.iconst 0, 18, 0, 0, 0)),
  (18, (.ireturn, 19, 0, 0, 0))]
def xB50 : List (Nat × xm_row) := [(0, (.aload_n 0, 1, 0, 0, 0)),
  (1, (.getfield 16, 4, 6, 0, 0)),
  (4, (.iload_n 1, 5, 0, 0, 0)),
  (5, (.invokevirtual 46, 8, 40, 1, 0)),
  (8, (.aload_n 0, 9, 0, 0, 0)),
  (9, (.iconst 0, 10, 0, 0, 0)),
  (10, (.invokevirtual 51, 13, 42, 1, 0)),
  (13, (.return_, 14, 0, 0, 0))]
def xB51 : List (Nat × xm_row) := [(0, (.aload_n 0, 1, 0, 0, 0)),
  (1, (.getfield 15, 4, 4, 1, 0)),
  (4, (.ireturn, 5, 0, 0, 0))]
def xB52 : List (Nat × xm_row) := [(0, (.iload_n 1, 1, 0, 0, 0)),
  (1, (.ifCond .lt 17, 4, 18, 0, 0)),
  (4, (.iload_n 1, 5, 0, 0, 0)),
  (5, (.sipush 130, 8, 0, 0, 130)),
  (8, (.if_icmp .ge 10, 11, 18, 0, 0)),
  (11, (.aload_n 0, 12, 0, 0, 0)),
  (12, (.getfield 11, 15, 4, 0, 0)),
  (15, (.iload_n 1, 16, 0, 0, 0)),
  (16, (.iload_n 2, 17, 0, 0, 0)),
  (17, (.iastore, 18, 0, 0, 0)),
  (18, (.return_, 19, 0, 0, 0))]
def xB53 : List (Nat × xm_row) := [(0, (.iconst 0, 1, 0, 0, 0)),
  (1, (.istore_n 1, 2, 0, 0, 0)),
  (2, (.iconst 0, 3, 0, 0, 0)),
  (3, (.istore_n 2, 4, 0, 0, 0)),
  (4, (.iload_n 2, 5, 0, 0, 0)),
  (5, (.aload_n 0, 6, 0, 0, 0)),
  (6, (.getfield 15, 9, 4, 1, 0)),
  (9, (.if_icmp .ge 25, 12, 34, 0, 0)),
  (12, (.iload_n 2, 13, 0, 0, 0)),
  (13, (.sipush 130, 16, 0, 0, 130)),
  (16, (.if_icmp .ge 18, 19, 34, 0, 0)),
  (19, (.iload_n 1, 20, 0, 0, 0)),
  (20, (.aload_n 0, 21, 0, 0, 0)),
  (21, (.getfield 11, 24, 4, 0, 0)),
  (24, (.iload_n 2, 25, 0, 0, 0)),
  (25, (.iaload, 26, 0, 0, 0)),
  (26, (.iadd, 27, 0, 0, 0)),
  (27, (.istore_n 1, 28, 0, 0, 0)),
  (28, (.iinc 2 1, 31, 0, 0, 1)),
  (31, (.goto (-27), 34, 4, 0, 0)),
  (34, (.iload_n 1, 35, 0, 0, 0)),
  (35, (.ldc 22, 37, 0, 0, 65535)),
  (37, (.iand, 38, 0, 0, 0)),
  (38, (.ireturn, 39, 0, 0, 0))]
def xB54 : List (Nat × xm_row) := [(0, (.aload_n 0, 1, 0, 0, 0)),
  (1, (.getfield 20, 4, 6, 1, 0)),
  (4, (.invokevirtual 90, 7, 55, 0, 0)),
  (7, (.astore_n 1, 8, 0, 0, 0)),
  (8, (.aload_n 1, 9, 0, 0, 0)),
  (9, (.invokevirtual 96, 12, 36, 0, 0)),
  (12, (.astore_n 2, 13, 0, 0, 0)),
  (13, (.aload_n 1, 14, 0, 0, 0)),
  (14, (.invokevirtual 78, 17, 53, 0, 0)),
  (17, (.istore_n 3, 18, 0, 0, 0)),
  (18, (.aload_n 0, 19, 0, 0, 0)),
  (19, (.getfield 16, 22, 6, 0, 0)),
  (22, (.aload_n 1, 23, 0, 0, 0)),
  (23, (.invokevirtual 70, 26, 51, 0, 0)),
  (26, (.invokevirtual 46, 29, 40, 1, 0)),
  (29, (.iconst 0, 30, 0, 0, 0)),
  (30, (.istore 4, 32, 0, 0, 0)),
  (32, (.iload 4, 34, 0, 0, 0)),
  (34, (.aload_n 1, 35, 0, 0, 0)),
  (35, (.invokevirtual 70, 38, 51, 0, 0)),
  (38, (.if_icmp .ge 27, 41, 65, 0, 0)),
  (41, (.iload 4, 43, 0, 0, 0)),
  (43, (.aload_n 2, 44, 0, 0, 0)),
  (44, (.arraylength, 45, 0, 0, 0)),
  (45, (.if_icmp .ge 20, 48, 65, 0, 0)),
  (48, (.aload_n 0, 49, 0, 0, 0)),
  (49, (.getfield 16, 52, 6, 0, 0)),
  (52, (.aload_n 2, 53, 0, 0, 0)),
  (53, (.iload 4, 55, 0, 0, 0)),
  (55, (.iaload, 56, 0, 0, 0)),
  (56, (.invokevirtual 46, 59, 40, 1, 0)),
  (59, (.iinc 4 1, 62, 0, 0, 1)),
  (62, (.goto (-30), 65, 32, 0, 0)),
  (65, (.aload_n 0, 66, 0, 0, 0)),
  (66, (.getfield 16, 69, 6, 0, 0)),
  (69, (.iload_n 3, 70, 0, 0, 0)),
  (70, (.bipush 8, 72, 0, 0, 8)),
  (72, (.ishr, 73, 0, 0, 0)),
  (73, (.invokevirtual 46, 76, 40, 1, 0)),
  (76, (.aload_n 0, 77, 0, 0, 0)),
  (77, (.getfield 16, 80, 6, 0, 0)),
  (80, (.iload_n 3, 81, 0, 0, 0)),
  (81, (.sipush 255, 84, 0, 0, 255)),
  (84, (.iand, 85, 0, 0, 0)),
  (85, (.invokevirtual 46, 88, 40, 1, 0)),
  (88, (.aload_n 0, 89, 0, 0, 0)),
  (89, (.iconst 3, 90, 0, 0, 3)),
  (90, (.invokevirtual 51, 93, 42, 1, 0)),
  (93, (.return_, 94, 0, 0, 0))]
def xB55 : List (Nat × xm_row) := [(0, (.aload_n 0, 1, 0, 0, 0)),
  (1, (.getfield 13, 4, 2, 0, 0)),
  (4, (.aload_n 0, 5, 0, 0, 0)),
  (5, (.getfield 32, 8, 2, 2, 0)),
  (8, (.aaload, 9, 0, 0, 0)),
  (9, (.areturn, 10, 0, 0, 0))]
def xB56 : List (Nat × xm_row) := [(0, (.iload_n 1, 1, 0, 0, 0)),
  (1, (.bipush 6, 3, 0, 0, 6)),
  (3, (.if_icmp .eq 8, 6, 11, 0, 0)),
  (6, (.aload_n 0, 7, 0, 0, 0)),
  (7, (.invokevirtual 100, 10, 57, 0, 0)),
  (10, (.return_, 11, 0, 0, 0)),
  (11, (.aload_n 0, 12, 0, 0, 0)),
  (12, (.getfield 20, 15, 6, 1, 0)),
  (15, (.invokevirtual 90, 18, 55, 0, 0)),
  (18, (.astore_n 2, 19, 0, 0, 0)),
  (19, (.aload_n 2, 20, 0, 0, 0)),
  (20, (.invokevirtual 103, 23, 61, 0, 0)),
  (23, (.ifCond .eq 14, 26, 37, 0, 0)),
  (26, (.aload_n 0, 27, 0, 0, 0)),
  (27, (.getfield 24, 30, 6, 2, 0)),
  (30, (.aload_n 2, 31, 0, 0, 0)),
  (31, (.invokevirtual 96, 34, 36, 0, 0)),
  (34, (.invokevirtual 107, 37, 62, 1, 0)),
  (37, (.aload_n 0, 38, 0, 0, 0)),
  (38, (.getfield 20, 41, 6, 1, 0)),
  (41, (.invokevirtual 113, 44, 60, 0, 0)),
  (44, (.aload_n 0, 45, 0, 0, 0)),
  (45, (.iconst 0, 46, 0, 0, 0)),
  (46, (.invokevirtual 51, 49, 42, 1, 0)),
  (49, (.return_, 50, 0, 0, 0))]
def xB57 : List (Nat × xm_row) := [(0, (.aload_n 0, 1, 0, 0, 0)),
  (1, (.getfield 20, 4, 6, 1, 0)),
  (4, (.invokevirtual 116, 7, 58, 0, 0)),
  (7, (.aload_n 0, 8, 0, 0, 0)),
  (8, (.iconst 0, 9, 0, 0, 0)),
  (9, (.invokevirtual 51, 12, 42, 1, 0)),
  (12, (.return_, 13, 0, 0, 0))]
def xB58 : List (Nat × xm_row) := [(0, (.aload_n 0, 1, 0, 0, 0)),
  (1, (.getfield 13, 4, 2, 0, 0)),
  (4, (.aload_n 0, 5, 0, 0, 0)),
  (5, (.getfield 32, 8, 2, 2, 0)),
  (8, (.aaload, 9, 0, 0, 0)),
  (9, (.invokevirtual 35, 12, 59, 0, 0)),
  (12, (.iconst 4, 13, 0, 0, 4)),
  (13, (.if_icmp .lt 17, 16, 30, 0, 0)),
  (16, (.aload_n 0, 17, 0, 0, 0)),
  (17, (.invokevirtual 39, 20, 60, 0, 0)),
  (20, (.aload_n 0, 21, 0, 0, 0)),
  (21, (.dup, 22, 0, 0, 0)),
  (22, (.getfield 29, 25, 2, 4, 0)),
  (25, (.iconst 1, 26, 0, 0, 1)),
  (26, (.iadd, 27, 0, 0, 0)),
  (27, (.putfield 29, 30, 2, 4, 0)),
  (30, (.return_, 31, 0, 0, 0))]
def xB59 : List (Nat × xm_row) := [(0, (.aload_n 0, 1, 0, 0, 0)),
  (1, (.dup, 2, 0, 0, 0)),
  (2, (.getfield 19, 5, 4, 2, 0)),
  (5, (.iconst 1, 6, 0, 0, 1)),
  (6, (.iadd, 7, 0, 0, 0)),
  (7, (.putfield 19, 10, 4, 2, 0)),
  (10, (.aload_n 0, 11, 0, 0, 0)),
  (11, (.getfield 19, 14, 4, 2, 0)),
  (14, (.ireturn, 15, 0, 0, 0))]
def xB60 : List (Nat × xm_row) := [(0, (.aload_n 0, 1, 0, 0, 0)),
  (1, (.getfield 25, 4, 2, 3, 0)),
  (4, (.ifCond .le 26, 7, 30, 0, 0)),
  (7, (.aload_n 0, 8, 0, 0, 0)),
  (8, (.aload_n 0, 9, 0, 0, 0)),
  (9, (.getfield 32, 12, 2, 2, 0)),
  (12, (.iconst 1, 13, 0, 0, 1)),
  (13, (.iadd, 14, 0, 0, 0)),
  (14, (.bipush 8, 16, 0, 0, 8)),
  (16, (.irem, 17, 0, 0, 0)),
  (17, (.putfield 32, 20, 2, 2, 0)),
  (20, (.aload_n 0, 21, 0, 0, 0)),
  (21, (.dup, 22, 0, 0, 0)),
  (22, (.getfield 25, 25, 2, 3, 0)),
  (25, (.iconst 1, 26, 0, 0, 1)),
  (26, (.isub, 27, 0, 0, 0)),
  (27, (.putfield 25, 30, 2, 3, 0)),
  (30, (.return_, 31, 0, 0, 0))]
def xB61 : List (Nat × xm_row) := [(0, (.aload_n 0, 1, 0, 0, 0)),
  (1, (.getfield 11, 4, 4, 0, 0)),
  (4, (.iconst 2, 5, 0, 0, 2)),
  (5, (.iaload, 6, 0, 0, 0)),
  (6, (.sipush 128, 9, 0, 0, 128)),
  (9, (.iand, 10, 0, 0, 0)),
  (10, (.ifCond .eq 7, 13, 17, 0, 0)),
  (13, (.iconst 1, 14, 0, 0, 1)),
  (14, (.goto 4, 17, 18, 0, 0)),
  (17, (.iconst 0, 18, 0, 0, 0)),
  (18, (.ireturn, 19, 0, 0, 0))]
def xB62 : List (Nat × xm_row) := [(0, (.aload_n 0, 1, 0, 0, 0)),
  (1, (.getfield 20, 4, 5, 2, 0)),
  (4, (.bipush 8, 6, 0, 0, 8)),
  (6, (.if_icmp .lt 4, 9, 10, 0, 0)),
  (9, (.return_, 10, 0, 0, 0)),
  (10, (.iconst 0, 11, 0, 0, 0)),
  (11, (.istore_n 2, 12, 0, 0, 0)),
  (12, (.iload_n 2, 13, 0, 0, 0)),
  (13, (.bipush 10, 15, 0, 0, 10)),
  (15, (.if_icmp .ge 29, 18, 44, 0, 0)),
  (18, (.iload_n 2, 19, 0, 0, 0)),
  (19, (.aload_n 1, 20, 0, 0, 0)),
  (20, (.arraylength, 21, 0, 0, 0)),
  (21, (.if_icmp .ge 23, 24, 44, 0, 0)),
  (24, (.aload_n 0, 25, 0, 0, 0)),
  (25, (.getfield 13, 28, 5, 0, 0)),
  (28, (.aload_n 0, 29, 0, 0, 0)),
  (29, (.getfield 20, 32, 5, 2, 0)),
  (32, (.aaload, 33, 0, 0, 0)),
  (33, (.iload_n 2, 34, 0, 0, 0)),
  (34, (.aload_n 1, 35, 0, 0, 0)),
  (35, (.iload_n 2, 36, 0, 0, 0)),
  (36, (.iaload, 37, 0, 0, 0)),
  (37, (.iastore, 38, 0, 0, 0)),
  (38, (.iinc 2 1, 41, 0, 0, 1)),
  (41, (.goto (-29), 44, 12, 0, 0)),
  (44, (.aload_n 0, 45, 0, 0, 0)),
  (45, (.getfield 16, 48, 5, 1, 0)),
  (48, (.aload_n 0, 49, 0, 0, 0)),
  (49, (.getfield 20, 52, 5, 2, 0)),
  (52, (.iconst 0, 53, 0, 0, 0)),
  (53, (.iastore, 54, 0, 0, 0)),
  (54, (.aload_n 0, 55, 0, 0, 0)),
  (55, (.dup, 56, 0, 0, 0)),
  (56, (.getfield 20, 59, 5, 2, 0)),
  (59, (.iconst 1, 60, 0, 0, 1)),
  (60, (.iadd, 61, 0, 0, 0)),
  (61, (.putfield 20, 64, 5, 2, 0)),
  (64, (.return_, 65, 0, 0, 0))]
def xB63 : List (Nat × xm_row) := [(0, (.aload_n 0, 1, 0, 0, 0)),
  (1, (.getfield 16, 4, 6, 0, 0)),
  (4, (.iconst 4, 5, 0, 0, 4)),
  (5, (.invokevirtual 46, 8, 40, 1, 0)),
  (8, (.aload_n 0, 9, 0, 0, 0)),
  (9, (.iconst 1, 10, 0, 0, 1)),
  (10, (.invokevirtual 51, 13, 42, 1, 0)),
  (13, (.aload_n 0, 14, 0, 0, 0)),
  (14, (.iconst 0, 15, 0, 0, 0)),
  (15, (.putfield 54, 18, 6, 6, 0)),
  (18, (.aload_n 0, 19, 0, 0, 0)),
  (19, (.iconst 0, 20, 0, 0, 0)),
  (20, (.putfield 58, 23, 6, 7, 0)),
  (23, (.aload_n 0, 24, 0, 0, 0)),
  (24, (.iconst 0, 25, 0, 0, 0)),
  (25, (.putfield 61, 28, 6, 8, 0)),
  (28, (.return_, 29, 0, 0, 0))]
def xB64 : List (Nat × xm_row) := [(0, (.aload_n 0, 1, 0, 0, 0)),
  (1, (.getfield 15, 4, 10, 1, 0)),
  (4, (.invokevirtual 36, 7, 65, 0, 0)),
  (7, (.ifCond .eq 13, 10, 20, 0, 0)),
  (10, (.aload_n 0, 11, 0, 0, 0)),
  (11, (.getfield 9, 14, 10, 0, 0)),
  (14, (.invokevirtual 42, 17, 66, 0, 0)),
  (17, (.ifCond .eq 5, 20, 22, 0, 0)),
  (20, (.iconst 0, 21, 0, 0, 0)),
  (21, (.ireturn, 22, 0, 0, 0)),
  (22, (.aload_n 0, 23, 0, 0, 0)),
  (23, (.getfield 9, 26, 10, 0, 0)),
  (26, (.invokevirtual 47, 29, 67, 0, 0)),
  (29, (.ifCond .ne 9, 32, 38, 0, 0)),
  (32, (.aload_n 0, 33, 0, 0, 0)),
  (33, (.iconst 1, 34, 0, 0, 1)),
  (34, (.invokevirtual 50, 37, 68, 1, 0)),
  (37, (.ireturn, 38, 0, 0, 0)),
  (38, (.aload_n 0, 39, 0, 0, 0)),
  (39, (.getfield 9, 42, 10, 0, 0)),
  (42, (.invokevirtual 54, 45, 71, 0, 0)),
  (45, (.ifCond .ne 10, 48, 55, 0, 0)),
  (48, (.aload_n 0, 49, 0, 0, 0)),
  (49, (.bipush 11, 51, 0, 0, 11)),
  (51, (.invokevirtual 50, 54, 68, 1, 0)),
  (54, (.ireturn, 55, 0, 0, 0)),
  (55, (.aload_n 0, 56, 0, 0, 0)),
  (56, (.getfield 9, 59, 10, 0, 0)),
  (59, (.invokevirtual 57, 62, 72, 0, 0)),
  (62, (.iconst 2, 63, 0, 0, 2)),
  (63, (.irem, 64, 0, 0, 0)),
  (64, (.ifCond .ne 9, 67, 73, 0, 0)),
  (67, (.aload_n 0, 68, 0, 0, 0)),
  (68, (.invokevirtual 61, 71, 73, 0, 0)),
  (71, (.iconst 0, 72, 0, 0, 0)),
  (72, (.ireturn, 73, 0, 0, 0)),
  (73, (.aload_n 0, 74, 0, 0, 0)),
  (74, (.invokevirtual 64, 77, 91, 0, 0)),
  (77, (.ireturn, 78, 0, 0, 0))]
def xB65 : List (Nat × xm_row) := [(0, (.aload_n 0, 1, 0, 0, 0)),
  (1, (.getfield 33, 4, 7, 3, 0)),
  (4, (.ireturn, 5, 0, 0, 0))]
def xB66 : List (Nat × xm_row) := [(0, (.aload_n 0, 1, 0, 0, 0)),
  (1, (.getfield 11, 4, 4, 0, 0)),
  (4, (.iconst 0, 5, 0, 0, 0)),
  (5, (.iaload, 6, 0, 0, 0)),
  (6, (.sipush 128, 9, 0, 0, 128)),
  (9, (.iand, 10, 0, 0, 0)),
  (10, (.ifCond .eq 7, 13, 17, 0, 0)),
  (13, (.iconst 1, 14, 0, 0, 1)),
  (14, (.goto 4, 17, 18, 0, 0)),
  (17, (.iconst 0, 18, 0, 0, 0)),
  (18, (.ireturn, 19, 0, 0, 0))]
def xB67 : List (Nat × xm_row) := [(0, (.aload_n 0, 1, 0, 0, 0)),
  (1, (.getfield 11, 4, 4, 0, 0)),
  (4, (.iconst 0, 5, 0, 0, 0)),
  (5, (.iaload, 6, 0, 0, 0)),
  (6, (.ifCond .ne 17, 9, 23, 0, 0)),
  (9, (.aload_n 0, 10, 0, 0, 0)),
  (10, (.getfield 11, 13, 4, 0, 0)),
  (13, (.iconst 1, 14, 0, 0, 1)),
  (14, (.iaload, 15, 0, 0, 0)),
  (15, (.iconst 1, 16, 0, 0, 1)),
  (16, (.if_icmp .ne 7, 19, 23, 0, 0)),
  (19, (.iconst 1, 20, 0, 0, 1)),
  (20, (.goto 4, 23, 24, 0, 0)),
  (23, (.iconst 0, 24, 0, 0, 0)),
  (24, (.ireturn, 25, 0, 0, 0))]
def xB68 : List (Nat × xm_row) := [(0, (.aload_n 0, 1, 0, 0, 0)),
  (1, (.getfield 19, 4, 10, 2, 0)),
  (4, (.iload_n 1, 5, 0, 0, 0)),
  (5, (.aload_n 0, 6, 0, 0, 0)),
  (6, (.getfield 9, 9, 10, 0, 0)),
  (9, (.invokevirtual 88, 12, 36, 0, 0)),
  (12, (.invokevirtual 92, 15, 69, 2, 0)),
  (15, (.iconst 0, 16, 0, 0, 0)),
  (16, (.ireturn, 17, 0, 0, 0))]
def xB69 : List (Nat × xm_row) := [(0, (.aload_n 0, 1, 0, 0, 0)),
  (1, (.invokevirtual 49, 4, 18, 0, 0)),
  (4, (.aload_n 2, 5, 0, 0, 0)),
  (5, (.invokevirtual 53, 8, 70, 1, 0)),
  (8, (.aload_n 0, 9, 0, 0, 0)),
  (9, (.bipush 9, 11, 0, 0, 9)),
  (11, (.iload_n 1, 12, 0, 0, 0)),
  (12, (.aload_n 0, 13, 0, 0, 0)),
  (13, (.invokevirtual 57, 16, 30, 0, 0)),
  (16, (.invokevirtual 60, 19, 31, 3, 0)),
  (19, (.return_, 20, 0, 0, 0))]
def xB70 : List (Nat × xm_row) := [(0, (.aload_n 0, 1, 0, 0, 0)),
  (1, (.bipush 33, 3, 0, 0, 33)),
  (3, (.invokevirtual 19, 6, 21, 1, 0)),
  (6, (.aload_n 0, 7, 0, 0, 0)),
  (7, (.bipush 10, 9, 0, 0, 10)),
  (9, (.invokevirtual 19, 12, 21, 1, 0)),
  (12, (.iconst 0, 13, 0, 0, 0)),
  (13, (.istore_n 2, 14, 0, 0, 0)),
  (14, (.iload_n 2, 15, 0, 0, 0)),
  (15, (.bipush 10, 17, 0, 0, 10)),
  (17, (.if_icmp .ge 22, 20, 39, 0, 0)),
  (20, (.iload_n 2, 21, 0, 0, 0)),
  (21, (.aload_n 1, 22, 0, 0, 0)),
  (22, (.arraylength, 23, 0, 0, 0)),
  (23, (.if_icmp .ge 16, 26, 39, 0, 0)),
  (26, (.aload_n 0, 27, 0, 0, 0)),
  (27, (.aload_n 1, 28, 0, 0, 0)),
  (28, (.iload_n 2, 29, 0, 0, 0)),
  (29, (.iaload, 30, 0, 0, 0)),
  (30, (.invokevirtual 19, 33, 21, 1, 0)),
  (33, (.iinc 2 1, 36, 0, 0, 1)),
  (36, (.goto (-22), 39, 14, 0, 0)),
  (39, (.return_, 40, 0, 0, 0))]
def xB71 : List (Nat × xm_row) := [(0, (.aload_n 0, 1, 0, 0, 0)),
  (1, (.getfield 11, 4, 4, 0, 0)),
  (4, (.iconst 4, 5, 0, 0, 4)),
  (5, (.iaload, 6, 0, 0, 0)),
  (6, (.sipush 128, 9, 0, 0, 128)),
  (9, (.if_icmp .ne 17, 12, 26, 0, 0)),
  (12, (.aload_n 0, 13, 0, 0, 0)),
  (13, (.getfield 11, 16, 4, 0, 0)),
  (16, (.iconst 5, 17, 0, 0, 5)),
  (17, (.iaload, 18, 0, 0, 0)),
  (18, (.iconst 1, 19, 0, 0, 1)),
  (19, (.if_icmp .ne 7, 22, 26, 0, 0)),
  (22, (.iconst 1, 23, 0, 0, 1)),
  (23, (.goto 4, 26, 27, 0, 0)),
  (26, (.iconst 0, 27, 0, 0, 0)),
  (27, (.ireturn, 28, 0, 0, 0))]
def xB72 : List (Nat × xm_row) := [(0, (.aload_n 0, 1, 0, 0, 0)),
  (1, (.getfield 11, 4, 4, 0, 0)),
  (4, (.iconst 3, 5, 0, 0, 3)),
  (5, (.iaload, 6, 0, 0, 0)),
  (6, (.ireturn, 7, 0, 0, 0))]
def xB73 : List (Nat × xm_row) := [(0, (.aload_n 0, 1, 0, 0, 0)),
  (1, (.getfield 23, 4, 10, 3, 0)),
  (4, (.aload_n 0, 5, 0, 0, 0)),
  (5, (.getfield 9, 8, 10, 0, 0)),
  (8, (.invokevirtual 104, 11, 74, 1, 0)),
  (11, (.istore_n 1, 12, 0, 0, 0)),
  (12, (.aload_n 0, 13, 0, 0, 0)),
  (13, (.getfield 23, 16, 10, 3, 0)),
  (16, (.iload_n 1, 17, 0, 0, 0)),
  (17, (.invokevirtual 110, 20, 77, 1, 0)),
  (20, (.ifCond .eq 42, 23, 62, 0, 0)),
  (23, (.aload_n 0, 24, 0, 0, 0)),
  (24, (.getfield 9, 27, 10, 0, 0)),
  (27, (.invokevirtual 57, 30, 72, 0, 0)),
  (30, (.bipush 14, 32, 0, 0, 14)),
  (32, (.if_icmp .ne 30, 35, 62, 0, 0)),
  (35, (.aload_n 0, 36, 0, 0, 0)),
  (36, (.getfield 32, 39, 10, 4, 0)),
  (39, (.invokevirtual 113, 42, 78, 0, 0)),
  (42, (.ifCond .eq 20, 45, 62, 0, 0)),
  (45, (.aload_n 0, 46, 0, 0, 0)),
  (46, (.getfield 32, 49, 10, 4, 0)),
  (49, (.invokevirtual 116, 52, 84, 0, 0)),
  (52, (.ifCond .eq 10, 55, 62, 0, 0)),
  (55, (.aload_n 0, 56, 0, 0, 0)),
  (56, (.getfield 15, 59, 10, 1, 0)),
  (59, (.invokevirtual 119, 62, 89, 0, 0)),
  (62, (.aload_n 0, 63, 0, 0, 0)),
  (63, (.getfield 23, 66, 10, 3, 0)),
  (66, (.iload_n 1, 67, 0, 0, 0)),
  (67, (.invokevirtual 122, 70, 90, 1, 0)),
  (70, (.return_, 71, 0, 0, 0))]
def xB74 : List (Nat × xm_row) := [(0, (.iconst 0, 1, 0, 0, 0)),
  (1, (.istore_n 2, 2, 0, 0, 0)),
  (2, (.iload_n 2, 3, 0, 0, 0)),
  (3, (.aload_n 0, 4, 0, 0, 0)),
  (4, (.getfield 20, 7, 5, 2, 0)),
  (7, (.if_icmp .ge 24, 10, 31, 0, 0)),
  (10, (.aload_n 0, 11, 0, 0, 0)),
  (11, (.getfield 13, 14, 5, 0, 0)),
  (14, (.iload_n 2, 15, 0, 0, 0)),
  (15, (.aaload, 16, 0, 0, 0)),
  (16, (.aload_n 1, 17, 0, 0, 0)),
  (17, (.invokestatic 24, 20, 75, 2, 0)),
  (20, (.ifCond .eq 5, 23, 25, 0, 0)),
  (23, (.iload_n 2, 24, 0, 0, 0)),
  (24, (.ireturn, 25, 0, 0, 0)),
  (25, (.iinc 2 1, 28, 0, 0, 1)),
  (28, (.goto (-26), 31, 2, 0, 0)),
  (31, (.iconst (-1), 32, 0, 0, (-1))),
  (32, (.ireturn, 33, 0, 0, 0))]
def xB75 : List (Nat × xm_row) := [(0, (.aload_n 1, 1, 0, 0, 0)),
  (1, (.invokevirtual 28, 4, 36, 0, 0)),
  (4, (.astore_n 2, 5, 0, 0, 0)),
  (5, (.bipush 6, 7, 0, 0, 6)),
  (7, (.istore_n 3, 8, 0, 0, 0)),
  (8, (.iload_n 3, 9, 0, 0, 0)),
  (9, (.bipush 10, 11, 0, 0, 10)),
  (11, (.if_icmp .ge 20, 14, 31, 0, 0)),
  (14, (.aload_n 0, 15, 0, 0, 0)),
  (15, (.iload_n 3, 16, 0, 0, 0)),
  (16, (.iaload, 17, 0, 0, 0)),
  (17, (.aload_n 2, 18, 0, 0, 0)),
  (18, (.iload_n 3, 19, 0, 0, 0)),
  (19, (.iaload, 20, 0, 0, 0)),
  (20, (.if_icmp .eq 5, 23, 25, 0, 0)),
  (23, (.iconst 0, 24, 0, 0, 0)),
  (24, (.ireturn, 25, 0, 0, 0)),
  (25, (.iinc 3 1, 28, 0, 0, 1)),
  (28, (.goto (-20), 31, 8, 0, 0)),
  (31, (.aload_n 1, 32, 0, 0, 0)),
  (32, (.invokevirtual 34, 35, 72, 0, 0)),
  (35, (.ifCond .eq 15, 38, 50, 0, 0)),
  (38, (.aload_n 1, 39, 0, 0, 0)),
  (39, (.invokevirtual 34, 42, 72, 0, 0)),
  (42, (.aload_n 0, 43, 0, 0, 0)),
  (43, (.iconst 3, 44, 0, 0, 3)),
  (44, (.iaload, 45, 0, 0, 0)),
  (45, (.iconst 1, 46, 0, 0, 1)),
  (46, (.iadd, 47, 0, 0, 0)),
  (47, (.if_icmp .ne 7, 50, 54, 0, 0)),
  (50, (.iconst 1, 51, 0, 0, 1)),
  (51, (.goto 4, 54, 55, 0, 0)),
  (54, (.iconst 0, 55, 0, 0, 0)),
  (55, (.istore_n 3, 56, 0, 0, 0)),
  (56, (.iload_n 3, 57, 0, 0, 0)),
  (57, (.ifCond .eq 20, 60, 77, 0, 0)),
  (60, (.aload_n 0, 61, 0, 0, 0)),
  (61, (.iconst 2, 62, 0, 0, 2)),
  (62, (.iaload, 63, 0, 0, 0)),
  (63, (.bipush 127, 65, 0, 0, 127)),
  (65, (.iand, 66, 0, 0, 0)),
  (66, (.aload_n 1, 67, 0, 0, 0)),
  (67, (.invokevirtual 38, 70, 76, 0, 0)),
  (70, (.if_icmp .ne 7, 73, 77, 0, 0)),
  (73, (.iconst 1, 74, 0, 0, 1)),
  (74, (.goto 4, 77, 78, 0, 0)),
  (77, (.iconst 0, 78, 0, 0, 0)),
  (78, (.ireturn, 79, 0, 0, 0))]
def xB76 : List (Nat × xm_row) := [(0, (.aload_n 0, 1, 0, 0, 0)),
  (1, (.getfield 11, 4, 4, 0, 0)),
  (4, (.iconst 2, 5, 0, 0, 2)),
  (5, (.iaload, 6, 0, 0, 0)),
  (6, (.bipush 127, 8, 0, 0, 127)),
  (8, (.iand, 9, 0, 0, 0)),
  (9, (.ireturn, 10, 0, 0, 0))]
def xB77 : List (Nat × xm_row) := [(0, (.iload_n 1, 1, 0, 0, 0)),
  (1, (.ifCond .lt 43, 4, 44, 0, 0)),
  (4, (.iload_n 1, 5, 0, 0, 0)),
  (5, (.aload_n 0, 6, 0, 0, 0)),
  (6, (.getfield 20, 9, 5, 2, 0)),
  (9, (.if_icmp .ge 35, 12, 44, 0, 0)),
  (12, (.aload_n 0, 13, 0, 0, 0)),
  (13, (.getfield 13, 16, 5, 0, 0)),
  (16, (.iload_n 1, 17, 0, 0, 0)),
  (17, (.aaload, 18, 0, 0, 0)),
  (18, (.iconst 2, 19, 0, 0, 2)),
  (19, (.iaload, 20, 0, 0, 0)),
  (20, (.bipush 127, 22, 0, 0, 127)),
  (22, (.iand, 23, 0, 0, 0)),
  (23, (.iconst 1, 24, 0, 0, 1)),
  (24, (.if_icmp .ne 20, 27, 44, 0, 0)),
  (27, (.aload_n 0, 28, 0, 0, 0)),
  (28, (.getfield 13, 31, 5, 0, 0)),
  (31, (.iload_n 1, 32, 0, 0, 0)),
  (32, (.aaload, 33, 0, 0, 0)),
  (33, (.iconst 3, 34, 0, 0, 3)),
  (34, (.iaload, 35, 0, 0, 0)),
  (35, (.bipush 13, 37, 0, 0, 13)),
  (37, (.if_icmp .ne 7, 40, 44, 0, 0)),
  (40, (.iconst 1, 41, 0, 0, 1)),
  (41, (.goto 4, 44, 45, 0, 0)),
  (44, (.iconst 0, 45, 0, 0, 0)),
  (45, (.ireturn, 46, 0, 0, 0))]
def xB78 : List (Nat × xm_row) := [(0, (.aload_n 0, 1, 0, 0, 0)),
  (1, (.iconst 0, 2, 0, 0, 0)),
  (2, (.putfield 28, 5, 11, 5, 0)),
  (5, (.aload_n 0, 6, 0, 0, 0)),
  (6, (.bipush 10, 8, 0, 0, 10)),
  (8, (.iconst 0, 9, 0, 0, 0)),
  (9, (.invokevirtual 32, 12, 79, 2, 0)),
  (12, (.aload_n 0, 13, 0, 0, 0)),
  (13, (.getfield 24, 16, 11, 4, 0)),
  (16, (.invokevirtual 36, 19, 51, 0, 0)),
  (19, (.if_icmp .ne 7, 22, 26, 0, 0)),
  (22, (.iconst 1, 23, 0, 0, 1)),
  (23, (.goto 4, 26, 27, 0, 0)),
  (26, (.iconst 0, 27, 0, 0, 0)),
  (27, (.ireturn, 28, 0, 0, 0))]
def xB79 : List (Nat × xm_row) := [(0, (.aload_n 0, 1, 0, 0, 0)),
  (1, (.getfield 24, 4, 11, 4, 0)),
  (4, (.invokevirtual 42, 7, 36, 0, 0)),
  (7, (.astore_n 3, 8, 0, 0, 0)),
  (8, (.aload_n 0, 9, 0, 0, 0)),
  (9, (.getfield 24, 12, 11, 4, 0)),
  (12, (.invokevirtual 36, 15, 51, 0, 0)),
  (15, (.aload_n 3, 16, 0, 0, 0)),
  (16, (.arraylength, 17, 0, 0, 0)),
  (17, (.invokestatic 46, 20, 80, 2, 0)),
  (20, (.istore 4, 22, 0, 0, 0)),
  (22, (.iload_n 1, 23, 0, 0, 0)),
  (23, (.ifCond .lt 18, 26, 41, 0, 0)),
  (26, (.iload_n 1, 27, 0, 0, 0)),
  (27, (.iload 4, 29, 0, 0, 0)),
  (29, (.if_icmp .ge 12, 32, 41, 0, 0)),
  (32, (.aload_n 0, 33, 0, 0, 0)),
  (33, (.getfield 28, 36, 11, 5, 0)),
  (36, (.bipush 60, 38, 0, 0, 60)),
  (38, (.if_icmp .lt 5, 41, 43, 0, 0)),
  (41, (.iconst (-1), 42, 0, 0, (-1))),
  (42, (.ireturn, 43, 0, 0, 0)),
  (43, (.iload_n 1, 44, 0, 0, 0)),
  (44, (.iconst 1, 45, 0, 0, 1)),
  (45, (.iadd, 46, 0, 0, 0)),
  (46, (.aload_n 3, 47, 0, 0, 0)),
  (47, (.iload_n 1, 48, 0, 0, 0)),
  (48, (.iaload, 49, 0, 0, 0)),
  (49, (.iconst 3, 50, 0, 0, 3)),
  (50, (.iand, 51, 0, 0, 0)),
  (51, (.iadd, 52, 0, 0, 0)),
  (52, (.istore 5, 54, 0, 0, 0)),
  (54, (.iload 5, 56, 0, 0, 0)),
  (56, (.iload_n 1, 57, 0, 0, 0)),
  (57, (.iconst 1, 58, 0, 0, 1)),
  (58, (.iadd, 59, 0, 0, 0)),
  (59, (.if_icmp .eq 10, 62, 69, 0, 0)),
  (62, (.iload 5, 64, 0, 0, 0)),
  (64, (.iload 4, 66, 0, 0, 0)),
  (66, (.if_icmp .le 5, 69, 71, 0, 0)),
  (69, (.iconst (-1), 70, 0, 0, (-1))),
  (70, (.ireturn, 71, 0, 0, 0)),
  (71, (.iconst 0, 72, 0, 0, 0)),
  (72, (.istore 6, 74, 0, 0, 0)),
  (74, (.iload_n 1, 75, 0, 0, 0)),
  (75, (.iconst 1, 76, 0, 0, 1)),
  (76, (.iadd, 77, 0, 0, 0)),
  (77, (.istore 7, 79, 0, 0, 0)),
  (79, (.iload 7, 81, 0, 0, 0)),
  (81, (.iload 5, 83, 0, 0, 0)),
  (83, (.if_icmp .ge 22, 86, 105, 0, 0)),
  (86, (.iload 6, 88, 0, 0, 0)),
  (88, (.sipush 256, 91, 0, 0, 256)),
  (91, (.imul, 92, 0, 0, 0)),
  (92, (.aload_n 3, 93, 0, 0, 0)),
  (93, (.iload 7, 95, 0, 0, 0)),
  (95, (.iaload, 96, 0, 0, 0)),
  (96, (.iadd, 97, 0, 0, 0)),
  (97, (.istore 6, 99, 0, 0, 0)),
  (99, (.iinc 7 1, 102, 0, 0, 1)),
  (102, (.goto (-23), 105, 79, 0, 0)),
  (105, (.aload_n 0, 106, 0, 0, 0)),
  (106, (.getfield 28, 109, 11, 5, 0)),
  (109, (.istore 7, 111, 0, 0, 0)),
  (111, (.aload_n 0, 112, 0, 0, 0)),
  (112, (.dup, 113, 0, 0, 0)),
  (113, (.getfield 28, 116, 11, 5, 0)),
  (116, (.iconst 1, 117, 0, 0, 1)),
  (117, (.iadd, 118, 0, 0, 0)),
  (118, (.putfield 28, 121, 11, 5, 0)),
  (121, (.aload_n 0, 122, 0, 0, 0)),
  (122, (.getfield 11, 125, 11, 0, 0)),
  (125, (.iload 7, 127, 0, 0, 0)),
  (127, (.aload_n 3, 128, 0, 0, 0)),
  (128, (.iload_n 1, 129, 0, 0, 0)),
  (129, (.iaload, 130, 0, 0, 0)),
  (130, (.iconst 2, 131, 0, 0, 2)),
  (131, (.ishr, 132, 0, 0, 0)),
  (132, (.iastore, 133, 0, 0, 0)),
  (133, (.aload_n 0, 134, 0, 0, 0)),
  (134, (.getfield 15, 137, 11, 1, 0)),
  (137, (.iload 7, 139, 0, 0, 0)),
  (139, (.iload 6, 141, 0, 0, 0)),
  (141, (.iastore, 142, 0, 0, 0)),
  (142, (.aload_n 0, 143, 0, 0, 0)),
  (143, (.getfield 18, 146, 11, 2, 0)),
  (146, (.iload 7, 148, 0, 0, 0)),
  (148, (.iload 5, 150, 0, 0, 0)),
  (150, (.iastore, 151, 0, 0, 0)),
  (151, (.aload_n 0, 152, 0, 0, 0)),
  (152, (.getfield 11, 155, 11, 0, 0)),
  (155, (.iload 7, 157, 0, 0, 0)),
  (157, (.iaload, 158, 0, 0, 0)),
  (158, (.ifCond .ne 13, 161, 171, 0, 0)),
  (161, (.aload_n 0, 162, 0, 0, 0)),
  (162, (.iload 7, 164, 0, 0, 0)),
  (164, (.iload_n 2, 165, 0, 0, 0)),
  (165, (.invokevirtual 51, 168, 81, 2, 0)),
  (168, (.goto 22, 171, 190, 0, 0)),
  (171, (.iload 5, 173, 0, 0, 0)),
  (173, (.iload 6, 175, 0, 0, 0)),
  (175, (.aload_n 0, 176, 0, 0, 0)),
  (176, (.getfield 11, 179, 11, 0, 0)),
  (179, (.iload 7, 181, 0, 0, 0)),
  (181, (.iaload, 182, 0, 0, 0)),
  (182, (.invokestatic 54, 185, 82, 1, 0)),
  (185, (.iload 4, 187, 0, 0, 0)),
  (187, (.invokestatic 58, 190, 83, 4, 0)),
  (190, (.istore 8, 192, 0, 0, 0)),
  (192, (.aload_n 0, 193, 0, 0, 0)),
  (193, (.getfield 21, 196, 11, 3, 0)),
  (196, (.iload 7, 198, 0, 0, 0)),
  (198, (.aload_n 0, 199, 0, 0, 0)),
  (199, (.getfield 28, 202, 11, 5, 0)),
  (202, (.iastore, 203, 0, 0, 0)),
  (203, (.iload 8, 205, 0, 0, 0)),
  (205, (.ireturn, 206, 0, 0, 0))]
def xB80 : List (Nat × xm_row) := [(0, (.iload_n 0, 1, 0, 0, 0)),
  (1, (.iload_n 1, 2, 0, 0, 0)),
  (2, (.if_icmp .gt 7, 5, 9, 0, 0)),
  (5, (.iload_n 0, 6, 0, 0, 0)),
  (6, (.goto 4, 9, 10, 0, 0)),
  (9, (.iload_n 1, 10, 0, 0, 0)),
  (10, (.ireturn, 11, 0, 0, 0))]
def xB81 : List (Nat × xm_row) := [(0, (.iload_n 2, 1, 0, 0, 0)),
  (1, (.bipush 6, 3, 0, 0, 6)),
  (3, (.if_icmp .lt 5, 6, 8, 0, 0)),
  (6, (.iconst (-1), 7, 0, 0, (-1))),
  (7, (.ireturn, 8, 0, 0, 0)),
  (8, (.aload_n 0, 9, 0, 0, 0)),
  (9, (.getfield 18, 12, 11, 2, 0)),
  (12, (.iload_n 1, 13, 0, 0, 0)),
  (13, (.iaload, 14, 0, 0, 0)),
  (14, (.istore_n 3, 15, 0, 0, 0)),
  (15, (.iconst 0, 16, 0, 0, 0)),
  (16, (.istore 4, 18, 0, 0, 0)),
  (18, (.iload 4, 20, 0, 0, 0)),
  (20, (.aload_n 0, 21, 0, 0, 0)),
  (21, (.getfield 15, 24, 11, 1, 0)),
  (24, (.iload_n 1, 25, 0, 0, 0)),
  (25, (.iaload, 26, 0, 0, 0)),
  (26, (.if_icmp .ge 23, 29, 49, 0, 0)),
  (29, (.iload_n 3, 30, 0, 0, 0)),
  (30, (.iconst (-1), 31, 0, 0, (-1))),
  (31, (.if_icmp .eq 18, 34, 49, 0, 0)),
  (34, (.aload_n 0, 35, 0, 0, 0)),
  (35, (.iload_n 3, 36, 0, 0, 0)),
  (36, (.iload_n 2, 37, 0, 0, 0)),
  (37, (.iconst 1, 38, 0, 0, 1)),
  (38, (.iadd, 39, 0, 0, 0)),
  (39, (.invokevirtual 32, 42, 79, 2, 0)),
  (42, (.istore_n 3, 43, 0, 0, 0)),
  (43, (.iinc 4 1, 46, 0, 0, 1)),
  (46, (.goto (-28), 49, 18, 0, 0)),
  (49, (.iload_n 3, 50, 0, 0, 0)),
  (50, (.ireturn, 51, 0, 0, 0))]
def xB82 : List (Nat × xm_row) := [(0, (.iload_n 0, 1, 0, 0, 0)),
  (1, (.tableswitch 172 8 44 #[163, 163, 172, 172, 172, 172, 172, 172, 163, 172, 172, 172, 172, 172, 172, 172, 172, 163, 165, 172, 167, 172, 172, 172, 169, 172, 172, 172, 167, 172, 172, 172, 172, 163, 165, 172, 167], 164, 0, 163, 0)),
  (164, (.iconst 1, 165, 0, 0, 1)),
  (165, (.ireturn, 166, 0, 0, 0)),
  (166, (.iconst 2, 167, 0, 0, 2)),
  (167, (.ireturn, 168, 0, 0, 0)),
  (168, (.iconst 4, 169, 0, 0, 4)),
  (169, (.ireturn, 170, 0, 0, 0)),
  (170, (.bipush 8, 172, 0, 0, 8)),
  (172, (.ireturn, 173, 0, 0, 0)),
  (173, (.iconst 0, 174, 0, 0, 0)),
  (174, (.ireturn, 175, 0, 0, 0))]
def xB83 : List (Nat × xm_row) := [(0, (.iload_n 2, 1, 0, 0, 0)),
  (1, (.ifCond .le 13, 4, 14, 0, 0)),
  (4, (.iload_n 1, 5, 0, 0, 0)),
  (5, (.iload_n 2, 6, 0, 0, 0)),
  (6, (.irem, 7, 0, 0, 0)),
  (7, (.ifCond .ne 7, 10, 14, 0, 0)),
  (10, (.iconst 1, 11, 0, 0, 1)),
  (11, (.goto 4, 14, 15, 0, 0)),
  (14, (.iconst 0, 15, 0, 0, 0)),
  (15, (.istore 4, 17, 0, 0, 0)),
  (17, (.iload 4, 19, 0, 0, 0)),
  (19, (.ifCond .eq 16, 22, 35, 0, 0)),
  (22, (.iload_n 1, 23, 0, 0, 0)),
  (23, (.iload_n 3, 24, 0, 0, 0)),
  (24, (.iload_n 0, 25, 0, 0, 0)),
  (25, (.isub, 26, 0, 0, 0)),
  (26, (.if_icmp .gt 9, 29, 35, 0, 0)),
  (29, (.iload_n 0, 30, 0, 0, 0)),
  (30, (.iload_n 1, 31, 0, 0, 0)),
  (31, (.iadd, 32, 0, 0, 0)),
  (32, (.goto 4, 35, 36, 0, 0)),
  (35, (.iconst (-1), 36, 0, 0, (-1))),
  (36, (.ireturn, 37, 0, 0, 0))]
def xB84 : List (Nat × xm_row) := [(0, (.aload_n 0, 1, 0, 0, 0)),
  (1, (.iconst 0, 2, 0, 0, 0)),
  (2, (.invokevirtual 68, 5, 85, 1, 0)),
  (5, (.ifCond .eq 34, 8, 39, 0, 0)),
  (8, (.aload_n 0, 9, 0, 0, 0)),
  (9, (.iconst 0, 10, 0, 0, 0)),
  (10, (.invokevirtual 62, 13, 86, 1, 0)),
  (13, (.ifCond .le 26, 16, 39, 0, 0)),
  (16, (.aload_n 0, 17, 0, 0, 0)),
  (17, (.iconst 1, 18, 0, 0, 1)),
  (18, (.bipush 8, 20, 0, 0, 8)),
  (20, (.invokevirtual 72, 23, 87, 2, 0)),
  (23, (.ifCond .eq 16, 26, 39, 0, 0)),
  (26, (.aload_n 0, 27, 0, 0, 0)),
  (27, (.iconst 1, 28, 0, 0, 1)),
  (28, (.iconst 0, 29, 0, 0, 0)),
  (29, (.invokevirtual 65, 32, 88, 2, 0)),
  (32, (.ifCond .ne 7, 35, 39, 0, 0)),
  (35, (.iconst 1, 36, 0, 0, 1)),
  (36, (.goto 4, 39, 40, 0, 0)),
  (39, (.iconst 0, 40, 0, 0, 0)),
  (40, (.ireturn, 41, 0, 0, 0))]
def xB85 : List (Nat × xm_row) := [(0, (.iload_n 1, 1, 0, 0, 0)),
  (1, (.ifCond .lt 24, 4, 25, 0, 0)),
  (4, (.iload_n 1, 5, 0, 0, 0)),
  (5, (.aload_n 0, 6, 0, 0, 0)),
  (6, (.getfield 28, 9, 11, 5, 0)),
  (9, (.if_icmp .ge 16, 12, 25, 0, 0)),
  (12, (.aload_n 0, 13, 0, 0, 0)),
  (13, (.getfield 11, 16, 11, 0, 0)),
  (16, (.iload_n 1, 17, 0, 0, 0)),
  (17, (.iaload, 18, 0, 0, 0)),
  (18, (.ifCond .ne 7, 21, 25, 0, 0)),
  (21, (.iconst 1, 22, 0, 0, 1)),
  (22, (.goto 4, 25, 26, 0, 0)),
  (25, (.iconst 0, 26, 0, 0, 0)),
  (26, (.ireturn, 27, 0, 0, 0))]
def xB86 : List (Nat × xm_row) := [(0, (.iload_n 1, 1, 0, 0, 0)),
  (1, (.ifCond .lt 20, 4, 21, 0, 0)),
  (4, (.iload_n 1, 5, 0, 0, 0)),
  (5, (.aload_n 0, 6, 0, 0, 0)),
  (6, (.getfield 28, 9, 11, 5, 0)),
  (9, (.if_icmp .ge 12, 12, 21, 0, 0)),
  (12, (.aload_n 0, 13, 0, 0, 0)),
  (13, (.getfield 15, 16, 11, 1, 0)),
  (16, (.iload_n 1, 17, 0, 0, 0)),
  (17, (.iaload, 18, 0, 0, 0)),
  (18, (.goto 4, 21, 22, 0, 0)),
  (21, (.iconst 0, 22, 0, 0, 0)),
  (22, (.ireturn, 23, 0, 0, 0))]
def xB87 : List (Nat × xm_row) := [(0, (.iload_n 1, 1, 0, 0, 0)),
  (1, (.ifCond .lt 35, 4, 36, 0, 0)),
  (4, (.iload_n 1, 5, 0, 0, 0)),
  (5, (.aload_n 0, 6, 0, 0, 0)),
  (6, (.getfield 28, 9, 11, 5, 0)),
  (9, (.if_icmp .ge 27, 12, 36, 0, 0)),
  (12, (.aload_n 0, 13, 0, 0, 0)),
  (13, (.getfield 11, 16, 11, 0, 0)),
  (16, (.iload_n 1, 17, 0, 0, 0)),
  (17, (.iaload, 18, 0, 0, 0)),
  (18, (.iload_n 2, 19, 0, 0, 0)),
  (19, (.if_icmp .ne 17, 22, 36, 0, 0)),
  (22, (.aload_n 0, 23, 0, 0, 0)),
  (23, (.getfield 15, 26, 11, 1, 0)),
  (26, (.iload_n 1, 27, 0, 0, 0)),
  (27, (.iaload, 28, 0, 0, 0)),
  (28, (.iconst 1, 29, 0, 0, 1)),
  (29, (.if_icmp .ne 7, 32, 36, 0, 0)),
  (32, (.iconst 1, 33, 0, 0, 1)),
  (33, (.goto 4, 36, 37, 0, 0)),
  (36, (.iconst 0, 37, 0, 0, 0)),
  (37, (.ireturn, 38, 0, 0, 0))]
def xB88 : List (Nat × xm_row) := [(0, (.aload_n 0, 1, 0, 0, 0)),
  (1, (.getfield 24, 4, 11, 4, 0)),
  (4, (.invokevirtual 42, 7, 36, 0, 0)),
  (7, (.astore_n 3, 8, 0, 0, 0)),
  (8, (.iload_n 2, 9, 0, 0, 0)),
  (9, (.ifCond .lt 25, 12, 34, 0, 0)),
  (12, (.iload_n 2, 13, 0, 0, 0)),
  (13, (.aload_n 0, 14, 0, 0, 0)),
  (14, (.iload_n 1, 15, 0, 0, 0)),
  (15, (.invokevirtual 62, 18, 86, 1, 0)),
  (18, (.if_icmp .ge 16, 21, 34, 0, 0)),
  (21, (.aload_n 0, 22, 0, 0, 0)),
  (22, (.getfield 18, 25, 11, 2, 0)),
  (25, (.iload_n 1, 26, 0, 0, 0)),
  (26, (.iaload, 27, 0, 0, 0)),
  (27, (.iload_n 2, 28, 0, 0, 0)),
  (28, (.iadd, 29, 0, 0, 0)),
  (29, (.aload_n 3, 30, 0, 0, 0)),
  (30, (.arraylength, 31, 0, 0, 0)),
  (31, (.if_icmp .lt 5, 34, 36, 0, 0)),
  (34, (.iconst 0, 35, 0, 0, 0)),
  (35, (.ireturn, 36, 0, 0, 0)),
  (36, (.aload_n 3, 37, 0, 0, 0)),
  (37, (.aload_n 0, 38, 0, 0, 0)),
  (38, (.getfield 18, 41, 11, 2, 0)),
  (41, (.iload_n 1, 42, 0, 0, 0)),
  (42, (.iaload, 43, 0, 0, 0)),
  (43, (.iload_n 2, 44, 0, 0, 0)),
  (44, (.iadd, 45, 0, 0, 0)),
  (45, (.iaload, 46, 0, 0, 0)),
  (46, (.ireturn, 47, 0, 0, 0))]
def xB89 : List (Nat × xm_row) := [(0, (.aload_n 0, 1, 0, 0, 0)),
  (1, (.iconst 1, 2, 0, 0, 1)),
  (2, (.putfield 37, 5, 7, 4, 0)),
  (5, (.return_, 6, 0, 0, 0))]
def xB90 : List (Nat × xm_row) := [(0, (.iload_n 1, 1, 0, 0, 0)),
  (1, (.ifCond .lt 11, 4, 12, 0, 0)),
  (4, (.iload_n 1, 5, 0, 0, 0)),
  (5, (.aload_n 0, 6, 0, 0, 0)),
  (6, (.getfield 20, 9, 5, 2, 0)),
  (9, (.if_icmp .lt 4, 12, 13, 0, 0)),
  (12, (.return_, 13, 0, 0, 0)),
  (13, (.aload_n 0, 14, 0, 0, 0)),
  (14, (.getfield 13, 17, 5, 0, 0)),
  (17, (.iload_n 1, 18, 0, 0, 0)),
  (18, (.aaload, 19, 0, 0, 0)),
  (19, (.astore_n 2, 20, 0, 0, 0)),
  (20, (.iload_n 1, 21, 0, 0, 0)),
  (21, (.istore_n 3, 22, 0, 0, 0)),
  (22, (.iload_n 3, 23, 0, 0, 0)),
  (23, (.iconst 1, 24, 0, 0, 1)),
  (24, (.iadd, 25, 0, 0, 0)),
  (25, (.aload_n 0, 26, 0, 0, 0)),
  (26, (.getfield 20, 29, 5, 2, 0)),
  (29, (.if_icmp .ge 37, 32, 66, 0, 0)),
  (32, (.aload_n 0, 33, 0, 0, 0)),
  (33, (.getfield 13, 36, 5, 0, 0)),
  (36, (.iload_n 3, 37, 0, 0, 0)),
  (37, (.aload_n 0, 38, 0, 0, 0)),
  (38, (.getfield 13, 41, 5, 0, 0)),
  (41, (.iload_n 3, 42, 0, 0, 0)),
  (42, (.iconst 1, 43, 0, 0, 1)),
  (43, (.iadd, 44, 0, 0, 0)),
  (44, (.aaload, 45, 0, 0, 0)),
  (45, (.aastore, 46, 0, 0, 0)),
  (46, (.aload_n 0, 47, 0, 0, 0)),
  (47, (.getfield 16, 50, 5, 1, 0)),
  (50, (.iload_n 3, 51, 0, 0, 0)),
  (51, (.aload_n 0, 52, 0, 0, 0)),
  (52, (.getfield 16, 55, 5, 1, 0)),
  (55, (.iload_n 3, 56, 0, 0, 0)),
  (56, (.iconst 1, 57, 0, 0, 1)),
  (57, (.iadd, 58, 0, 0, 0)),
  (58, (.iaload, 59, 0, 0, 0)),
  (59, (.iastore, 60, 0, 0, 0)),
  (60, (.iinc 3 1, 63, 0, 0, 1)),
  (63, (.goto (-41), 66, 22, 0, 0)),
  (66, (.aload_n 0, 67, 0, 0, 0)),
  (67, (.dup, 68, 0, 0, 0)),
  (68, (.getfield 20, 71, 5, 2, 0)),
  (71, (.iconst 1, 72, 0, 0, 1)),
  (72, (.isub, 73, 0, 0, 0)),
  (73, (.putfield 20, 76, 5, 2, 0)),
  (76, (.aload_n 0, 77, 0, 0, 0)),
  (77, (.getfield 13, 80, 5, 0, 0)),
  (80, (.aload_n 0, 81, 0, 0, 0)),
  (81, (.getfield 20, 84, 5, 2, 0)),
  (84, (.aload_n 2, 85, 0, 0, 0)),
  (85, (.aastore, 86, 0, 0, 0)),
  (86, (.return_, 87, 0, 0, 0))]
def xB91 : List (Nat × xm_row) := [(0, (.aload_n 0, 1, 0, 0, 0)),
  (1, (.invokevirtual 67, 4, 92, 0, 0)),
  (4, (.istore_n 1, 5, 0, 0, 0)),
  (5, (.aload_n 0, 6, 0, 0, 0)),
  (6, (.getfield 15, 9, 10, 1, 0)),
  (9, (.invokevirtual 70, 12, 93, 0, 0)),
  (12, (.ifCond .ne 12, 15, 24, 0, 0)),
  (15, (.iload_n 1, 16, 0, 0, 0)),
  (16, (.sipush 269, 19, 0, 0, 269)),
  (19, (.if_icmp .eq 5, 22, 24, 0, 0)),
  (22, (.iconst 0, 23, 0, 0, 0)),
  (23, (.ireturn, 24, 0, 0, 0)),
  (24, (.aload_n 0, 25, 0, 0, 0)),
  (25, (.getfield 9, 28, 10, 0, 0)),
  (28, (.invokevirtual 73, 31, 76, 0, 0)),
  (31, (.iconst 1, 32, 0, 0, 1)),
  (32, (.if_icmp .eq 20, 35, 52, 0, 0)),
  (35, (.aload_n 0, 36, 0, 0, 0)),
  (36, (.getfield 9, 39, 10, 0, 0)),
  (39, (.invokevirtual 73, 42, 76, 0, 0)),
  (42, (.iconst 2, 43, 0, 0, 2)),
  (43, (.if_icmp .eq 9, 46, 52, 0, 0)),
  (46, (.aload_n 0, 47, 0, 0, 0)),
  (47, (.iconst 3, 48, 0, 0, 3)),
  (48, (.invokevirtual 50, 51, 68, 1, 0)),
  (51, (.ireturn, 52, 0, 0, 0)),
  (52, (.iload_n 1, 53, 0, 0, 0)),
  (53, (.invokestatic 76, 56, 94, 1, 0)),
  (56, (.ifCond .ne 9, 59, 65, 0, 0)),
  (59, (.aload_n 0, 60, 0, 0, 0)),
  (60, (.iconst 5, 61, 0, 0, 5)),
  (61, (.invokevirtual 50, 64, 68, 1, 0)),
  (64, (.ireturn, 65, 0, 0, 0)),
  (65, (.aload_n 0, 66, 0, 0, 0)),
  (66, (.getfield 15, 69, 10, 1, 0)),
  (69, (.invokevirtual 79, 72, 95, 0, 0)),
  (72, (.ifCond .ne 22, 75, 94, 0, 0)),
  (75, (.iload_n 1, 76, 0, 0, 0)),
  (76, (.sipush 269, 79, 0, 0, 269)),
  (79, (.if_icmp .eq 15, 82, 94, 0, 0)),
  (82, (.iload_n 1, 83, 0, 0, 0)),
  (83, (.sipush 273, 86, 0, 0, 273)),
  (86, (.if_icmp .eq 8, 89, 94, 0, 0)),
  (89, (.aload_n 0, 90, 0, 0, 0)),
  (90, (.invokevirtual 82, 93, 96, 0, 0)),
  (93, (.ireturn, 94, 0, 0, 0)),
  (94, (.aload_n 0, 95, 0, 0, 0)),
  (95, (.iload_n 1, 96, 0, 0, 0)),
  (96, (.invokevirtual 85, 99, 99, 1, 0)),
  (99, (.ifCond .ne 12, 102, 111, 0, 0)),
  (102, (.aload_n 0, 103, 0, 0, 0)),
  (103, (.bipush 7, 105, 0, 0, 7)),
  (105, (.invokevirtual 50, 108, 68, 1, 0)),
  (108, (.ifCond .eq 7, 111, 115, 0, 0)),
  (111, (.iconst 1, 112, 0, 0, 1)),
  (112, (.goto 4, 115, 116, 0, 0)),
  (115, (.iconst 0, 116, 0, 0, 0)),
  (116, (.ireturn, 117, 0, 0, 0))]
def xB92 : List (Nat × xm_row) := [(0, (.sipush 256, 3, 0, 0, 256)),
  (3, (.aload_n 0, 4, 0, 0, 0)),
  (4, (.getfield 9, 7, 10, 0, 0)),
  (7, (.invokevirtual 73, 10, 76, 0, 0)),
  (10, (.imul, 11, 0, 0, 0)),
  (11, (.aload_n 0, 12, 0, 0, 0)),
  (12, (.getfield 9, 15, 10, 0, 0)),
  (15, (.invokevirtual 57, 18, 72, 0, 0)),
  (18, (.iadd, 19, 0, 0, 0)),
  (19, (.ireturn, 20, 0, 0, 0))]
def xB93 : List (Nat × xm_row) := [(0, (.aload_n 0, 1, 0, 0, 0)),
  (1, (.getfield 37, 4, 7, 4, 0)),
  (4, (.ireturn, 5, 0, 0, 0))]
def xB94 : List (Nat × xm_row) := [(0, (.iload_n 0, 1, 0, 0, 0)),
  (1, (.lookupswitch 93 #[(257, 91), (259, 91), (269, 91), (271, 91), (273, 91), (527, 91), (545, 91), (547, 91), (549, 91), (553, 91)], 92, 0, 91, 0)),
  (92, (.iconst 1, 93, 0, 0, 1)),
  (93, (.ireturn, 94, 0, 0, 0)),
  (94, (.iconst 0, 95, 0, 0, 0)),
  (95, (.ireturn, 96, 0, 0, 0))]
def xB95 : List (Nat × xm_row) := [(0, (.aload_n 0, 1, 0, 0, 0)),
  (1, (.getfield 12, 4, 7, 1, 0)),
  (4, (.invokevirtual 44, 7, 17, 0, 0)),
  (7, (.ireturn, 8, 0, 0, 0))]
def xB96 : List (Nat × xm_row) := [(0, (.aload_n 0, 1, 0, 0, 0)),
  (1, (.getfield 9, 4, 10, 0, 0)),
  (4, (.invokevirtual 98, 7, 61, 0, 0)),
  (7, (.ifCond .eq 14, 10, 21, 0, 0)),
  (10, (.aload_n 0, 11, 0, 0, 0)),
  (11, (.getfield 19, 14, 10, 2, 0)),
  (14, (.aload_n 0, 15, 0, 0, 0)),
  (15, (.getfield 9, 18, 10, 0, 0)),
  (18, (.invokevirtual 101, 21, 97, 1, 0)),
  (21, (.iconst 0, 22, 0, 0, 0)),
  (22, (.ireturn, 23, 0, 0, 0))]
def xB97 : List (Nat × xm_row) := [(0, (.aload_n 0, 1, 0, 0, 0)),
  (1, (.getfield 20, 4, 2, 1, 0)),
  (4, (.invokevirtual 42, 7, 19, 0, 0)),
  (7, (.aload_n 0, 8, 0, 0, 0)),
  (8, (.aload_n 1, 9, 0, 0, 0)),
  (9, (.invokevirtual 68, 12, 76, 0, 0)),
  (12, (.iconst 0, 13, 0, 0, 0)),
  (13, (.aload_n 1, 14, 0, 0, 0)),
  (14, (.invokevirtual 71, 17, 98, 0, 0)),
  (17, (.invokevirtual 60, 20, 31, 3, 0)),
  (20, (.return_, 21, 0, 0, 0))]
def xB98 : List (Nat × xm_row) := [(0, (.aload_n 0, 1, 0, 0, 0)),
  (1, (.getfield 11, 4, 4, 0, 0)),
  (4, (.bipush 6, 6, 0, 0, 6)),
  (6, (.iaload, 7, 0, 0, 0)),
  (7, (.bipush 24, 9, 0, 0, 24)),
  (9, (.ishl, 10, 0, 0, 0)),
  (10, (.aload_n 0, 11, 0, 0, 0)),
  (11, (.getfield 11, 14, 4, 0, 0)),
  (14, (.bipush 7, 16, 0, 0, 7)),
  (16, (.iaload, 17, 0, 0, 0)),
  (17, (.bipush 16, 19, 0, 0, 16)),
  (19, (.ishl, 20, 0, 0, 0)),
  (20, (.ior, 21, 0, 0, 0)),
  (21, (.aload_n 0, 22, 0, 0, 0)),
  (22, (.getfield 11, 25, 4, 0, 0)),
  (25, (.bipush 8, 27, 0, 0, 8)),
  (27, (.iaload, 28, 0, 0, 0)),
  (28, (.bipush 8, 30, 0, 0, 8)),
  (30, (.ishl, 31, 0, 0, 0)),
  (31, (.ior, 32, 0, 0, 0)),
  (32, (.aload_n 0, 33, 0, 0, 0)),
  (33, (.getfield 11, 36, 4, 0, 0)),
  (36, (.bipush 9, 38, 0, 0, 9)),
  (38, (.iaload, 39, 0, 0, 0)),
  (39, (.ior, 40, 0, 0, 0)),
  (40, (.ireturn, 41, 0, 0, 0))]
def xB99 : List (Nat × xm_row) := [(0, (.iload_n 1, 1, 0, 0, 0)),
  (1, (.lookupswitch 200 #[(259, 69), (269, 67), (527, 96), (545, 122), (547, 122), (549, 148), (553, 174)], 68, 0, 67, 0)),
  (68, (.iconst 1, 69, 0, 0, 1)),
  (69, (.ireturn, 70, 0, 0, 0)),
  (70, (.aload_n 0, 71, 0, 0, 0)),
  (71, (.getfield 32, 74, 10, 4, 0)),
  (74, (.invokevirtual 113, 77, 78, 0, 0)),
  (77, (.ifCond .eq 18, 80, 95, 0, 0)),
  (80, (.aload_n 0, 81, 0, 0, 0)),
  (81, (.getfield 32, 84, 10, 4, 0)),
  (84, (.iconst 0, 85, 0, 0, 0)),
  (85, (.invokevirtual 126, 88, 100, 1, 0)),
  (88, (.ifCond .eq 7, 91, 95, 0, 0)),
  (91, (.iconst 1, 92, 0, 0, 1)),
  (92, (.goto 4, 95, 96, 0, 0)),
  (95, (.iconst 0, 96, 0, 0, 0)),
  (96, (.ireturn, 97, 0, 0, 0)),
  (97, (.aload_n 0, 98, 0, 0, 0)),
  (98, (.getfield 32, 101, 10, 4, 0)),
  (101, (.invokevirtual 113, 104, 78, 0, 0)),
  (104, (.ifCond .eq 17, 107, 121, 0, 0)),
  (107, (.aload_n 0, 108, 0, 0, 0)),
  (108, (.getfield 32, 111, 10, 4, 0)),
  (111, (.invokevirtual 129, 114, 101, 0, 0)),
  (114, (.ifCond .eq 7, 117, 121, 0, 0)),
  (117, (.iconst 1, 118, 0, 0, 1)),
  (118, (.goto 4, 121, 122, 0, 0)),
  (121, (.iconst 0, 122, 0, 0, 0)),
  (122, (.ireturn, 123, 0, 0, 0)),
  (123, (.aload_n 0, 124, 0, 0, 0)),
  (124, (.getfield 32, 127, 10, 4, 0)),
  (127, (.invokevirtual 113, 130, 78, 0, 0)),
  (130, (.ifCond .eq 17, 133, 147, 0, 0)),
  (133, (.aload_n 0, 134, 0, 0, 0)),
  (134, (.getfield 32, 137, 10, 4, 0)),
  (137, (.invokevirtual 132, 140, 104, 0, 0)),
  (140, (.ifCond .eq 7, 143, 147, 0, 0)),
  (143, (.iconst 1, 144, 0, 0, 1)),
  (144, (.goto 4, 147, 148, 0, 0)),
  (147, (.iconst 0, 148, 0, 0, 0)),
  (148, (.ireturn, 149, 0, 0, 0)),
  (149, (.aload_n 0, 150, 0, 0, 0)),
  (150, (.getfield 32, 153, 10, 4, 0)),
  (153, (.invokevirtual 113, 156, 78, 0, 0)),
  (156, (.ifCond .eq 17, 159, 173, 0, 0)),
  (159, (.aload_n 0, 160, 0, 0, 0)),
  (160, (.getfield 32, 163, 10, 4, 0)),
  (163, (.invokevirtual 135, 166, 105, 0, 0)),
  (166, (.ifCond .eq 7, 169, 173, 0, 0)),
  (169, (.iconst 1, 170, 0, 0, 1)),
  (170, (.goto 4, 173, 174, 0, 0)),
  (173, (.iconst 0, 174, 0, 0, 0)),
  (174, (.ireturn, 175, 0, 0, 0)),
  (175, (.aload_n 0, 176, 0, 0, 0)),
  (176, (.getfield 32, 179, 10, 4, 0)),
  (179, (.invokevirtual 113, 182, 78, 0, 0)),
  (182, (.ifCond .eq 17, 185, 199, 0, 0)),
  (185, (.aload_n 0, 186, 0, 0, 0)),
  (186, (.getfield 32, 189, 10, 4, 0)),
  (189, (.invokevirtual 138, 192, 106, 0, 0)),
  (192, (.ifCond .eq 7, 195, 199, 0, 0)),
  (195, (.iconst 1, 196, 0, 0, 1)),
  (196, (.goto 4, 199, 200, 0, 0)),
  (199, (.iconst 0, 200, 0, 0, 0)),
  (200, (.ireturn, 201, 0, 0, 0)),
  (201, (.aload_n 0, 202, 0, 0, 0)),
  (202, (.getfield 9, 205, 10, 0, 0)),
  (205, (.invokevirtual 141, 208, 51, 0, 0)),
  (208, (.bipush 10, 210, 0, 0, 10)),
  (210, (.if_icmp .ne 7, 213, 217, 0, 0)),
  (213, (.iconst 1, 214, 0, 0, 1)),
  (214, (.goto 4, 217, 218, 0, 0)),
  (217, (.iconst 0, 218, 0, 0, 0)),
  (218, (.ireturn, 219, 0, 0, 0))]
def xB100 : List (Nat × xm_row) := [(0, (.aload_n 0, 1, 0, 0, 0)),
  (1, (.iload_n 1, 2, 0, 0, 0)),
  (2, (.invokevirtual 68, 5, 85, 1, 0)),
  (5, (.istore_n 2, 6, 0, 0, 0)),
  (6, (.iconst 1, 7, 0, 0, 1)),
  (7, (.istore_n 3, 8, 0, 0, 0)),
  (8, (.iload_n 3, 9, 0, 0, 0)),
  (9, (.aload_n 0, 10, 0, 0, 0)),
  (10, (.iload_n 1, 11, 0, 0, 0)),
  (11, (.invokevirtual 62, 14, 86, 1, 0)),
  (14, (.if_icmp .gt 23, 17, 37, 0, 0)),
  (17, (.iload_n 2, 18, 0, 0, 0)),
  (18, (.ifCond .eq 19, 21, 37, 0, 0)),
  (21, (.aload_n 0, 22, 0, 0, 0)),
  (22, (.iload_n 1, 23, 0, 0, 0)),
  (23, (.iload_n 3, 24, 0, 0, 0)),
  (24, (.iadd, 25, 0, 0, 0)),
  (25, (.bipush 41, 27, 0, 0, 41)),
  (27, (.invokevirtual 72, 30, 87, 2, 0)),
  (30, (.istore_n 2, 31, 0, 0, 0)),
  (31, (.iinc 3 1, 34, 0, 0, 1)),
  (34, (.goto (-26), 37, 8, 0, 0)),
  (37, (.iload_n 2, 38, 0, 0, 0)),
  (38, (.ireturn, 39, 0, 0, 0))]
def xB101 : List (Nat × xm_row) := [(0, (.aload_n 0, 1, 0, 0, 0)),
  (1, (.iconst 0, 2, 0, 0, 0)),
  (2, (.invokevirtual 68, 5, 85, 1, 0)),
  (5, (.istore_n 1, 6, 0, 0, 0)),
  (6, (.iconst 1, 7, 0, 0, 1)),
  (7, (.istore_n 2, 8, 0, 0, 0)),
  (8, (.iconst 0, 9, 0, 0, 0)),
  (9, (.istore_n 3, 10, 0, 0, 0)),
  (10, (.iload_n 3, 11, 0, 0, 0)),
  (11, (.aload_n 0, 12, 0, 0, 0)),
  (12, (.iconst 0, 13, 0, 0, 0)),
  (13, (.invokevirtual 62, 16, 86, 1, 0)),
  (16, (.if_icmp .ge 46, 19, 62, 0, 0)),
  (19, (.iload_n 1, 20, 0, 0, 0)),
  (20, (.ifCond .eq 42, 23, 62, 0, 0)),
  (23, (.aload_n 0, 24, 0, 0, 0)),
  (24, (.iload_n 2, 25, 0, 0, 0)),
  (25, (.iconst 2, 26, 0, 0, 2)),
  (26, (.invokevirtual 76, 29, 102, 2, 0)),
  (29, (.ifCond .eq 19, 32, 48, 0, 0)),
  (32, (.aload_n 0, 33, 0, 0, 0)),
  (33, (.iload_n 2, 34, 0, 0, 0)),
  (34, (.iconst 1, 35, 0, 0, 1)),
  (35, (.iadd, 36, 0, 0, 0)),
  (36, (.bipush 41, 38, 0, 0, 41)),
  (38, (.invokevirtual 72, 41, 87, 2, 0)),
  (41, (.ifCond .eq 7, 44, 48, 0, 0)),
  (44, (.iconst 1, 45, 0, 0, 1)),
  (45, (.goto 4, 48, 49, 0, 0)),
  (48, (.iconst 0, 49, 0, 0, 0)),
  (49, (.istore_n 1, 50, 0, 0, 0)),
  (50, (.aload_n 0, 51, 0, 0, 0)),
  (51, (.iload_n 2, 52, 0, 0, 0)),
  (52, (.invokevirtual 79, 55, 103, 1, 0)),
  (55, (.istore_n 2, 56, 0, 0, 0)),
  (56, (.iinc 3 1, 59, 0, 0, 1)),
  (59, (.goto (-49), 62, 10, 0, 0)),
  (62, (.iload_n 1, 63, 0, 0, 0)),
  (63, (.ireturn, 64, 0, 0, 0))]
def xB102 : List (Nat × xm_row) := [(0, (.aload_n 0, 1, 0, 0, 0)),
  (1, (.iload_n 1, 2, 0, 0, 0)),
  (2, (.invokevirtual 68, 5, 85, 1, 0)),
  (5, (.ifCond .eq 16, 8, 21, 0, 0)),
  (8, (.aload_n 0, 9, 0, 0, 0)),
  (9, (.iload_n 1, 10, 0, 0, 0)),
  (10, (.invokevirtual 62, 13, 86, 1, 0)),
  (13, (.iload_n 2, 14, 0, 0, 0)),
  (14, (.if_icmp .ne 7, 17, 21, 0, 0)),
  (17, (.iconst 1, 18, 0, 0, 1)),
  (18, (.goto 4, 21, 22, 0, 0)),
  (21, (.iconst 0, 22, 0, 0, 0)),
  (22, (.ireturn, 23, 0, 0, 0))]
def xB103 : List (Nat × xm_row) := [(0, (.iload_n 1, 1, 0, 0, 0)),
  (1, (.ifCond .lt 20, 4, 21, 0, 0)),
  (4, (.iload_n 1, 5, 0, 0, 0)),
  (5, (.aload_n 0, 6, 0, 0, 0)),
  (6, (.getfield 28, 9, 11, 5, 0)),
  (9, (.if_icmp .ge 12, 12, 21, 0, 0)),
  (12, (.aload_n 0, 13, 0, 0, 0)),
  (13, (.getfield 21, 16, 11, 3, 0)),
  (16, (.iload_n 1, 17, 0, 0, 0)),
  (17, (.iaload, 18, 0, 0, 0)),
  (18, (.goto 7, 21, 25, 0, 0)),
  (21, (.aload_n 0, 22, 0, 0, 0)),
  (22, (.getfield 28, 25, 11, 5, 0)),
  (25, (.ireturn, 26, 0, 0, 0))]
def xB104 : List (Nat × xm_row) := [(0, (.aload_n 0, 1, 0, 0, 0)),
  (1, (.iconst 0, 2, 0, 0, 0)),
  (2, (.iconst 2, 3, 0, 0, 2)),
  (3, (.invokevirtual 76, 6, 102, 2, 0)),
  (6, (.ifCond .eq 25, 9, 31, 0, 0)),
  (9, (.aload_n 0, 10, 0, 0, 0)),
  (10, (.iconst 1, 11, 0, 0, 1)),
  (11, (.bipush 41, 13, 0, 0, 41)),
  (13, (.invokevirtual 72, 16, 87, 2, 0)),
  (16, (.ifCond .eq 15, 19, 31, 0, 0)),
  (19, (.aload_n 0, 20, 0, 0, 0)),
  (20, (.iconst 2, 21, 0, 0, 2)),
  (21, (.invokevirtual 68, 24, 85, 1, 0)),
  (24, (.ifCond .eq 7, 27, 31, 0, 0)),
  (27, (.iconst 1, 28, 0, 0, 1)),
  (28, (.goto 4, 31, 32, 0, 0)),
  (31, (.iconst 0, 32, 0, 0, 0)),
  (32, (.istore_n 1, 33, 0, 0, 0)),
  (33, (.iconst 3, 34, 0, 0, 3)),
  (34, (.istore_n 2, 35, 0, 0, 0)),
  (35, (.iconst 0, 36, 0, 0, 0)),
  (36, (.istore_n 3, 37, 0, 0, 0)),
  (37, (.iload_n 3, 38, 0, 0, 0)),
  (38, (.aload_n 0, 39, 0, 0, 0)),
  (39, (.iconst 2, 40, 0, 0, 2)),
  (40, (.invokevirtual 62, 43, 86, 1, 0)),
  (43, (.if_icmp .ge 56, 46, 99, 0, 0)),
  (46, (.iload_n 1, 47, 0, 0, 0)),
  (47, (.ifCond .eq 52, 50, 99, 0, 0)),
  (50, (.aload_n 0, 51, 0, 0, 0)),
  (51, (.iload_n 2, 52, 0, 0, 0)),
  (52, (.iconst 2, 53, 0, 0, 2)),
  (53, (.invokevirtual 76, 56, 102, 2, 0)),
  (56, (.ifCond .eq 29, 59, 85, 0, 0)),
  (59, (.aload_n 0, 60, 0, 0, 0)),
  (60, (.iload_n 2, 61, 0, 0, 0)),
  (61, (.iconst 1, 62, 0, 0, 1)),
  (62, (.iadd, 63, 0, 0, 0)),
  (63, (.bipush 41, 65, 0, 0, 41)),
  (65, (.invokevirtual 72, 68, 87, 2, 0)),
  (68, (.ifCond .eq 17, 71, 85, 0, 0)),
  (71, (.aload_n 0, 72, 0, 0, 0)),
  (72, (.iload_n 2, 73, 0, 0, 0)),
  (73, (.iconst 2, 74, 0, 0, 2)),
  (74, (.iadd, 75, 0, 0, 0)),
  (75, (.invokevirtual 82, 78, 100, 1, 0)),
  (78, (.ifCond .eq 7, 81, 85, 0, 0)),
  (81, (.iconst 1, 82, 0, 0, 1)),
  (82, (.goto 4, 85, 86, 0, 0)),
  (85, (.iconst 0, 86, 0, 0, 0)),
  (86, (.istore_n 1, 87, 0, 0, 0)),
  (87, (.aload_n 0, 88, 0, 0, 0)),
  (88, (.iload_n 2, 89, 0, 0, 0)),
  (89, (.invokevirtual 79, 92, 103, 1, 0)),
  (92, (.istore_n 2, 93, 0, 0, 0)),
  (93, (.iinc 3 1, 96, 0, 0, 1)),
  (96, (.goto (-59), 99, 37, 0, 0)),
  (99, (.iload_n 1, 100, 0, 0, 0)),
  (100, (.ireturn, 101, 0, 0, 0))]
def xB105 : List (Nat × xm_row) := [(0, (.aload_n 0, 1, 0, 0, 0)),
  (1, (.iconst 0, 2, 0, 0, 0)),
  (2, (.iconst 2, 3, 0, 0, 2)),
  (3, (.invokevirtual 76, 6, 102, 2, 0)),
  (6, (.ifCond .eq 25, 9, 31, 0, 0)),
  (9, (.aload_n 0, 10, 0, 0, 0)),
  (10, (.iconst 1, 11, 0, 0, 1)),
  (11, (.bipush 9, 13, 0, 0, 9)),
  (13, (.invokevirtual 72, 16, 87, 2, 0)),
  (16, (.ifCond .eq 15, 19, 31, 0, 0)),
  (19, (.aload_n 0, 20, 0, 0, 0)),
  (20, (.iconst 2, 21, 0, 0, 2)),
  (21, (.invokevirtual 82, 24, 100, 1, 0)),
  (24, (.ifCond .eq 7, 27, 31, 0, 0)),
  (27, (.iconst 1, 28, 0, 0, 1)),
  (28, (.goto 4, 31, 32, 0, 0)),
  (31, (.iconst 0, 32, 0, 0, 0)),
  (32, (.ireturn, 33, 0, 0, 0))]
def xB106 : List (Nat × xm_row) := [(0, (.aload_n 0, 1, 0, 0, 0)),
  (1, (.iconst 0, 2, 0, 0, 0)),
  (2, (.iconst 2, 3, 0, 0, 2)),
  (3, (.invokevirtual 76, 6, 102, 2, 0)),
  (6, (.ifCond .eq 29, 9, 35, 0, 0)),
  (9, (.aload_n 0, 10, 0, 0, 0)),
  (10, (.iconst 1, 11, 0, 0, 1)),
  (11, (.invokevirtual 85, 14, 107, 1, 0)),
  (14, (.bipush 16, 16, 0, 0, 16)),
  (16, (.if_icmp .ne 19, 19, 35, 0, 0)),
  (19, (.aload_n 0, 20, 0, 0, 0)),
  (20, (.aload_n 0, 21, 0, 0, 0)),
  (21, (.iconst 1, 22, 0, 0, 1)),
  (22, (.invokevirtual 79, 25, 103, 1, 0)),
  (25, (.invokevirtual 68, 28, 85, 1, 0)),
  (28, (.ifCond .eq 7, 31, 35, 0, 0)),
  (31, (.iconst 1, 32, 0, 0, 1)),
  (32, (.goto 4, 35, 36, 0, 0)),
  (35, (.iconst 0, 36, 0, 0, 0)),
  (36, (.ireturn, 37, 0, 0, 0))]
def xB107 : List (Nat × xm_row) := [(0, (.iload_n 1, 1, 0, 0, 0)),
  (1, (.ifCond .lt 20, 4, 21, 0, 0)),
  (4, (.iload_n 1, 5, 0, 0, 0)),
  (5, (.aload_n 0, 6, 0, 0, 0)),
  (6, (.getfield 28, 9, 11, 5, 0)),
  (9, (.if_icmp .ge 12, 12, 21, 0, 0)),
  (12, (.aload_n 0, 13, 0, 0, 0)),
  (13, (.getfield 11, 16, 11, 0, 0)),
  (16, (.iload_n 1, 17, 0, 0, 0)),
  (17, (.iaload, 18, 0, 0, 0)),
  (18, (.goto 4, 21, 22, 0, 0)),
  (21, (.iconst (-1), 22, 0, 0, (-1))),
  (22, (.ireturn, 23, 0, 0, 0))]
def xB108 : List (Nat × xm_row) := [(0, (.aload_n 0, 1, 0, 0, 0)),
  (1, (.invokevirtual 67, 4, 92, 0, 0)),
  (4, (.lookupswitch 259 #[(257, 92), (259, 105), (269, 112), (271, 127), (273, 143), (527, 157), (545, 178), (547, 199), (549, 220), (553, 241)], 96, 0, 92, 0)),
  (96, (.aload_n 0, 97, 0, 0, 0)),
  (97, (.getfield 19, 100, 10, 2, 0)),
  (100, (.invokevirtual 144, 103, 18, 0, 0)),
  (103, (.invokevirtual 148, 106, 109, 0, 0)),
  (106, (.goto 158, 109, 264, 0, 0)),
  (109, (.aload_n 0, 110, 0, 0, 0)),
  (110, (.invokevirtual 153, 113, 111, 0, 0)),
  (113, (.goto 151, 116, 264, 0, 0)),
  (116, (.aload_n 0, 117, 0, 0, 0)),
  (117, (.getfield 15, 120, 10, 1, 0)),
  (120, (.invokevirtual 119, 123, 89, 0, 0)),
  (123, (.aload_n 0, 124, 0, 0, 0)),
  (124, (.iconst 0, 125, 0, 0, 0)),
  (125, (.invokevirtual 156, 128, 114, 1, 0)),
  (128, (.goto 136, 131, 264, 0, 0)),
  (131, (.aload_n 0, 132, 0, 0, 0)),
  (132, (.getfield 15, 135, 10, 1, 0)),
  (135, (.iconst 1, 136, 0, 0, 1)),
  (136, (.invokevirtual 159, 139, 116, 1, 0)),
  (139, (.aload_n 0, 140, 0, 0, 0)),
  (140, (.iconst 0, 141, 0, 0, 0)),
  (141, (.invokevirtual 162, 144, 120, 1, 0)),
  (144, (.goto 120, 147, 264, 0, 0)),
  (147, (.aload_n 0, 148, 0, 0, 0)),
  (148, (.aload_n 0, 149, 0, 0, 0)),
  (149, (.getfield 15, 152, 10, 1, 0)),
  (152, (.invokevirtual 165, 155, 121, 0, 0)),
  (155, (.invokevirtual 162, 158, 120, 1, 0)),
  (158, (.goto 106, 161, 264, 0, 0)),
  (161, (.aload_n 0, 162, 0, 0, 0)),
  (162, (.aload_n 0, 163, 0, 0, 0)),
  (163, (.getfield 15, 166, 10, 1, 0)),
  (166, (.invokevirtual 168, 169, 113, 0, 0)),
  (169, (.aload_n 0, 170, 0, 0, 0)),
  (170, (.getfield 32, 173, 10, 4, 0)),
  (173, (.invokevirtual 172, 176, 122, 1, 0)),
  (176, (.invokevirtual 162, 179, 120, 1, 0)),
  (179, (.goto 85, 182, 264, 0, 0)),
  (182, (.aload_n 0, 183, 0, 0, 0)),
  (183, (.aload_n 0, 184, 0, 0, 0)),
  (184, (.getfield 15, 187, 10, 1, 0)),
  (187, (.invokevirtual 178, 190, 125, 0, 0)),
  (190, (.aload_n 0, 191, 0, 0, 0)),
  (191, (.getfield 32, 194, 10, 4, 0)),
  (194, (.invokevirtual 182, 197, 126, 1, 0)),
  (197, (.invokevirtual 162, 200, 120, 1, 0)),
  (200, (.goto 64, 203, 264, 0, 0)),
  (203, (.aload_n 0, 204, 0, 0, 0)),
  (204, (.aload_n 0, 205, 0, 0, 0)),
  (205, (.getfield 15, 208, 10, 1, 0)),
  (208, (.invokevirtual 178, 211, 125, 0, 0)),
  (211, (.aload_n 0, 212, 0, 0, 0)),
  (212, (.getfield 32, 215, 10, 4, 0)),
  (215, (.invokevirtual 187, 218, 132, 1, 0)),
  (218, (.invokevirtual 162, 221, 120, 1, 0)),
  (221, (.goto 43, 224, 264, 0, 0)),
  (224, (.aload_n 0, 225, 0, 0, 0)),
  (225, (.aload_n 0, 226, 0, 0, 0)),
  (226, (.getfield 15, 229, 10, 1, 0)),
  (229, (.invokevirtual 178, 232, 125, 0, 0)),
  (232, (.aload_n 0, 233, 0, 0, 0)),
  (233, (.getfield 32, 236, 10, 4, 0)),
  (236, (.invokevirtual 190, 239, 135, 1, 0)),
  (239, (.invokevirtual 162, 242, 120, 1, 0)),
  (242, (.goto 22, 245, 264, 0, 0)),
  (245, (.aload_n 0, 246, 0, 0, 0)),
  (246, (.aload_n 0, 247, 0, 0, 0)),
  (247, (.getfield 15, 250, 10, 1, 0)),
  (250, (.aload_n 0, 251, 0, 0, 0)),
  (251, (.getfield 32, 254, 10, 4, 0)),
  (254, (.invokevirtual 193, 257, 138, 1, 0)),
  (257, (.invokevirtual 156, 260, 114, 1, 0)),
  (260, (.goto 4, 263, 264, 0, 0)),
  (263, (.return_, 264, 0, 0, 0)),
  (264, (.aload_n 0, 265, 0, 0, 0)),
  (265, (.getfield 9, 268, 10, 0, 0)),
  (268, (.invokevirtual 98, 271, 61, 0, 0)),
  (271, (.ifCond .eq 23, 274, 294, 0, 0)),
  (274, (.aload_n 0, 275, 0, 0, 0)),
  (275, (.getfield 19, 278, 10, 2, 0)),
  (278, (.aload_n 0, 279, 0, 0, 0)),
  (279, (.getfield 9, 282, 10, 0, 0)),
  (282, (.aload_n 0, 283, 0, 0, 0)),
  (283, (.getfield 9, 286, 10, 0, 0)),
  (286, (.invokevirtual 57, 289, 72, 0, 0)),
  (289, (.iconst 1, 290, 0, 0, 1)),
  (290, (.iadd, 291, 0, 0, 0)),
  (291, (.invokevirtual 196, 294, 144, 2, 0)),
  (294, (.return_, 295, 0, 0, 0))]
def xB109 : List (Nat × xm_row) := [(0, (.aload_n 0, 1, 0, 0, 0)),
  (1, (.iconst 2, 2, 0, 0, 2)),
  (2, (.invokevirtual 32, 5, 20, 1, 0)),
  (5, (.aload_n 0, 6, 0, 0, 0)),
  (6, (.ldc 35, 8, 2, 900, 0)),
  (8, (.invokevirtual 37, 11, 110, 1, 0)),
  (11, (.aload_n 0, 12, 0, 0, 0)),
  (12, (.ldc 41, 14, 3, 900, 0)),
  (14, (.invokevirtual 37, 17, 110, 1, 0)),
  (17, (.return_, 18, 0, 0, 0))]
def xB110 : List (Nat × xm_row) := [(0, (.aload_n 0, 1, 0, 0, 0)),
  (1, (.bipush 65, 3, 0, 0, 65)),
  (3, (.invokevirtual 19, 6, 21, 1, 0)),
  (6, (.aload_n 0, 7, 0, 0, 0)),
  (7, (.aload_n 1, 8, 0, 0, 0)),
  (8, (.invokevirtual 23, 11, 999, 0, 0)),
  (11, (.invokevirtual 19, 14, 21, 1, 0)),
  (14, (.iconst 0, 15, 0, 0, 0)),
  (15, (.istore_n 2, 16, 0, 0, 0)),
  (16, (.iload_n 2, 17, 0, 0, 0)),
  (17, (.aload_n 1, 18, 0, 0, 0)),
  (18, (.invokevirtual 23, 21, 999, 0, 0)),
  (21, (.if_icmp .ge 18, 24, 39, 0, 0)),
  (24, (.aload_n 0, 25, 0, 0, 0)),
  (25, (.aload_n 1, 26, 0, 0, 0)),
  (26, (.iload_n 2, 27, 0, 0, 0)),
  (27, (.invokevirtual 28, 30, 999, 0, 0)),
  (30, (.invokevirtual 19, 33, 21, 1, 0)),
  (33, (.iinc 2 1, 36, 0, 0, 1)),
  (36, (.goto (-20), 39, 16, 0, 0)),
  (39, (.return_, 40, 0, 0, 0))]
def xB111 : List (Nat × xm_row) := [(0, (.aload_n 0, 1, 0, 0, 0)),
  (1, (.getfield 32, 4, 10, 4, 0)),
  (4, (.iconst 0, 5, 0, 0, 0)),
  (5, (.invokevirtual 206, 8, 86, 1, 0)),
  (8, (.istore_n 1, 9, 0, 0, 0)),
  (9, (.aload_n 0, 10, 0, 0, 0)),
  (10, (.getfield 19, 13, 10, 2, 0)),
  (13, (.invokevirtual 144, 16, 18, 0, 0)),
  (16, (.astore_n 2, 17, 0, 0, 0)),
  (17, (.aload_n 2, 18, 0, 0, 0)),
  (18, (.iload_n 1, 19, 0, 0, 0)),
  (19, (.invokevirtual 203, 22, 20, 1, 0)),
  (22, (.iconst 1, 23, 0, 0, 1)),
  (23, (.istore_n 3, 24, 0, 0, 0)),
  (24, (.iload_n 3, 25, 0, 0, 0)),
  (25, (.iload_n 1, 26, 0, 0, 0)),
  (26, (.if_icmp .gt 48, 29, 74, 0, 0)),
  (29, (.aload_n 0, 30, 0, 0, 0)),
  (30, (.getfield 32, 33, 10, 4, 0)),
  (33, (.iload_n 3, 34, 0, 0, 0)),
  (34, (.invokevirtual 210, 37, 112, 1, 0)),
  (37, (.istore 4, 39, 0, 0, 0)),
  (39, (.iload 4, 41, 0, 0, 0)),
  (41, (.invokestatic 213, 44, 29, 1, 0)),
  (44, (.ifCond .eq 19, 47, 63, 0, 0)),
  (47, (.aload_n 0, 48, 0, 0, 0)),
  (48, (.getfield 15, 51, 10, 1, 0)),
  (51, (.invokevirtual 168, 54, 113, 0, 0)),
  (54, (.aload_n 2, 55, 0, 0, 0)),
  (55, (.iload 4, 57, 0, 0, 0)),
  (57, (.invokevirtual 216, 60, 28, 2, 0)),
  (60, (.goto 8, 63, 68, 0, 0)),
  (63, (.aload_n 2, 64, 0, 0, 0)),
  (64, (.iconst 0, 65, 0, 0, 0)),
  (65, (.invokevirtual 203, 68, 20, 1, 0)),
  (68, (.iinc 3 1, 71, 0, 0, 1)),
  (71, (.goto (-47), 74, 24, 0, 0)),
  (74, (.return_, 75, 0, 0, 0))]
def xB112 : List (Nat × xm_row) := [(0, (.aload_n 0, 1, 0, 0, 0)),
  (1, (.iload_n 1, 2, 0, 0, 0)),
  (2, (.iconst 0, 3, 0, 0, 0)),
  (3, (.invokevirtual 65, 6, 88, 2, 0)),
  (6, (.ireturn, 7, 0, 0, 0))]
def xB113 : List (Nat × xm_row) := [(0, (.aload_n 0, 1, 0, 0, 0)),
  (1, (.getfield 12, 4, 7, 1, 0)),
  (4, (.areturn, 5, 0, 0, 0))]
def xB114 : List (Nat × xm_row) := [(0, (.aload_n 0, 1, 0, 0, 0)),
  (1, (.getfield 19, 4, 10, 2, 0)),
  (4, (.invokevirtual 144, 7, 18, 0, 0)),
  (7, (.astore_n 2, 8, 0, 0, 0)),
  (8, (.aload_n 2, 9, 0, 0, 0)),
  (9, (.iconst 2, 10, 0, 0, 2)),
  (10, (.invokevirtual 203, 13, 20, 1, 0)),
  (13, (.aload_n 2, 14, 0, 0, 0)),
  (14, (.iload_n 1, 15, 0, 0, 0)),
  (15, (.invokevirtual 200, 18, 115, 1, 0)),
  (18, (.aload_n 2, 19, 0, 0, 0)),
  (19, (.iconst 0, 20, 0, 0, 0)),
  (20, (.invokevirtual 203, 23, 20, 1, 0)),
  (23, (.return_, 24, 0, 0, 0))]
def xB115 : List (Nat × xm_row) := [(0, (.aload_n 0, 1, 0, 0, 0)),
  (1, (.bipush 33, 3, 0, 0, 33)),
  (3, (.invokevirtual 19, 6, 21, 1, 0)),
  (6, (.aload_n 0, 7, 0, 0, 0)),
  (7, (.iconst 1, 8, 0, 0, 1)),
  (8, (.invokevirtual 19, 11, 21, 1, 0)),
  (11, (.aload_n 0, 12, 0, 0, 0)),
  (12, (.iload_n 1, 13, 0, 0, 0)),
  (13, (.invokevirtual 19, 16, 21, 1, 0)),
  (16, (.return_, 17, 0, 0, 0))]
def xB116 : List (Nat × xm_row) := [(0, (.iload_n 1, 1, 0, 0, 0)),
  (1, (.aload_n 0, 2, 0, 0, 0)),
  (2, (.invokevirtual 78, 5, 117, 0, 0)),
  (5, (.if_icmp .eq 17, 8, 22, 0, 0)),
  (8, (.aload_n 0, 9, 0, 0, 0)),
  (9, (.getfield 12, 12, 7, 1, 0)),
  (12, (.iload_n 1, 13, 0, 0, 0)),
  (13, (.invokevirtual 79, 16, 119, 1, 0)),
  (16, (.aload_n 0, 17, 0, 0, 0)),
  (17, (.iconst 1, 18, 0, 0, 1)),
  (18, (.invokevirtual 82, 21, 14, 1, 0)),
  (21, (.pop, 22, 0, 0, 0)),
  (22, (.return_, 23, 0, 0, 0))]
def xB117 : List (Nat × xm_row) := [(0, (.aload_n 0, 1, 0, 0, 0)),
  (1, (.getfield 12, 4, 7, 1, 0)),
  (4, (.invokevirtual 40, 7, 118, 0, 0)),
  (7, (.ireturn, 8, 0, 0, 0))]
def xB118 : List (Nat × xm_row) := [(0, (.aload_n 0, 1, 0, 0, 0)),
  (1, (.getfield 20, 4, 8, 2, 0)),
  (4, (.iconst 0, 5, 0, 0, 0)),
  (5, (.aaload, 6, 0, 0, 0)),
  (6, (.iconst 0, 7, 0, 0, 0)),
  (7, (.iaload, 8, 0, 0, 0)),
  (8, (.ireturn, 9, 0, 0, 0))]
def xB119 : List (Nat × xm_row) := [(0, (.aload_n 0, 1, 0, 0, 0)),
  (1, (.getfield 20, 4, 8, 2, 0)),
  (4, (.iconst 0, 5, 0, 0, 0)),
  (5, (.aaload, 6, 0, 0, 0)),
  (6, (.iconst 0, 7, 0, 0, 0)),
  (7, (.iload_n 1, 8, 0, 0, 0)),
  (8, (.iastore, 9, 0, 0, 0)),
  (9, (.return_, 10, 0, 0, 0))]
def xB120 : List (Nat × xm_row) := [(0, (.aload_n 0, 1, 0, 0, 0)),
  (1, (.getfield 19, 4, 10, 2, 0)),
  (4, (.invokevirtual 144, 7, 18, 0, 0)),
  (7, (.iload_n 1, 8, 0, 0, 0)),
  (8, (.invokevirtual 200, 11, 115, 1, 0)),
  (11, (.return_, 12, 0, 0, 0))]
def xB121 : List (Nat × xm_row) := [(0, (.aload_n 0, 1, 0, 0, 0)),
  (1, (.invokevirtual 78, 4, 117, 0, 0)),
  (4, (.ifCond .ne 5, 7, 9, 0, 0)),
  (7, (.iconst 1, 8, 0, 0, 1)),
  (8, (.ireturn, 9, 0, 0, 0)),
  (9, (.aload_n 0, 10, 0, 0, 0)),
  (10, (.getfield 12, 13, 7, 1, 0)),
  (13, (.invokevirtual 44, 16, 17, 0, 0)),
  (16, (.ifCond .eq 5, 19, 21, 0, 0)),
  (19, (.iconst 2, 20, 0, 0, 2)),
  (20, (.ireturn, 21, 0, 0, 0)),
  (21, (.aload_n 0, 22, 0, 0, 0)),
  (22, (.aload_n 0, 23, 0, 0, 0)),
  (23, (.getfield 25, 26, 7, 5, 0)),
  (26, (.invokevirtual 74, 29, 116, 1, 0)),
  (29, (.iconst 0, 30, 0, 0, 0)),
  (30, (.ireturn, 31, 0, 0, 0))]
def xB122 : List (Nat × xm_row) := [(0, (.aload_n 1, 1, 0, 0, 0)),
  (1, (.invokestatic 37, 4, 123, 1, 0)),
  (4, (.istore_n 2, 5, 0, 0, 0)),
  (5, (.iload_n 2, 6, 0, 0, 0)),
  (6, (.ifCond .eq 5, 9, 11, 0, 0)),
  (9, (.iload_n 2, 10, 0, 0, 0)),
  (10, (.ireturn, 11, 0, 0, 0)),
  (11, (.iconst 1, 12, 0, 0, 1)),
  (12, (.istore_n 3, 13, 0, 0, 0)),
  (13, (.iconst 0, 14, 0, 0, 0)),
  (14, (.istore 4, 16, 0, 0, 0)),
  (16, (.iload 4, 18, 0, 0, 0)),
  (18, (.aload_n 1, 19, 0, 0, 0)),
  (19, (.iconst 0, 20, 0, 0, 0)),
  (20, (.invokevirtual 41, 23, 86, 1, 0)),
  (23, (.if_icmp .ge 30, 26, 53, 0, 0)),
  (26, (.aload_n 0, 27, 0, 0, 0)),
  (27, (.aload_n 1, 28, 0, 0, 0)),
  (28, (.aload_n 1, 29, 0, 0, 0)),
  (29, (.iload_n 3, 30, 0, 0, 0)),
  (30, (.iconst 1, 31, 0, 0, 1)),
  (31, (.iadd, 32, 0, 0, 0)),
  (32, (.invokevirtual 47, 35, 112, 1, 0)),
  (35, (.iload_n 3, 36, 0, 0, 0)),
  (36, (.iconst 2, 37, 0, 0, 2)),
  (37, (.iadd, 38, 0, 0, 0)),
  (38, (.invokevirtual 50, 41, 124, 3, 0)),
  (41, (.aload_n 1, 42, 0, 0, 0)),
  (42, (.iload_n 3, 43, 0, 0, 0)),
  (43, (.invokevirtual 54, 46, 103, 1, 0)),
  (46, (.istore_n 3, 47, 0, 0, 0)),
  (47, (.iinc 4 1, 50, 0, 0, 1)),
  (50, (.goto (-34), 53, 16, 0, 0)),
  (53, (.iconst 0, 54, 0, 0, 0)),
  (54, (.ireturn, 55, 0, 0, 0))]
def xB123 : List (Nat × xm_row) := [(0, (.iconst 0, 1, 0, 0, 0)),
  (1, (.istore_n 1, 2, 0, 0, 0)),
  (2, (.iconst 1, 3, 0, 0, 1)),
  (3, (.istore_n 2, 4, 0, 0, 0)),
  (4, (.iconst 0, 5, 0, 0, 0)),
  (5, (.istore_n 3, 6, 0, 0, 0)),
  (6, (.iload_n 3, 7, 0, 0, 0)),
  (7, (.aload_n 0, 8, 0, 0, 0)),
  (8, (.iconst 0, 9, 0, 0, 0)),
  (9, (.invokevirtual 41, 12, 86, 1, 0)),
  (12, (.if_icmp .ge 72, 15, 84, 0, 0)),
  (15, (.aload_n 0, 16, 0, 0, 0)),
  (16, (.iload_n 2, 17, 0, 0, 0)),
  (17, (.iconst 1, 18, 0, 0, 1)),
  (18, (.iadd, 19, 0, 0, 0)),
  (19, (.invokevirtual 47, 22, 112, 1, 0)),
  (22, (.istore 4, 24, 0, 0, 0)),
  (24, (.iload 4, 26, 0, 0, 0)),
  (26, (.invokestatic 23, 29, 29, 1, 0)),
  (29, (.ifCond .eq 9, 32, 38, 0, 0)),
  (32, (.iload 4, 34, 0, 0, 0)),
  (34, (.iconst 2, 35, 0, 0, 2)),
  (35, (.if_icmp .ge 5, 38, 40, 0, 0)),
  (38, (.iconst 1, 39, 0, 0, 1)),
  (39, (.ireturn, 40, 0, 0, 0)),
  (40, (.iload_n 1, 41, 0, 0, 0)),
  (41, (.ifCond .ne 25, 44, 66, 0, 0)),
  (44, (.aload_n 0, 45, 0, 0, 0)),
  (45, (.iload_n 2, 46, 0, 0, 0)),
  (46, (.iconst 2, 47, 0, 0, 2)),
  (47, (.iadd, 48, 0, 0, 0)),
  (48, (.invokevirtual 57, 51, 85, 1, 0)),
  (51, (.ifCond .ne 15, 54, 66, 0, 0)),
  (54, (.aload_n 0, 55, 0, 0, 0)),
  (55, (.iload_n 2, 56, 0, 0, 0)),
  (56, (.iconst 2, 57, 0, 0, 2)),
  (57, (.iadd, 58, 0, 0, 0)),
  (58, (.invokevirtual 41, 61, 86, 1, 0)),
  (61, (.bipush 8, 63, 0, 0, 8)),
  (63, (.if_icmp .le 7, 66, 70, 0, 0)),
  (66, (.iconst 1, 67, 0, 0, 1)),
  (67, (.goto 4, 70, 71, 0, 0)),
  (70, (.iconst 0, 71, 0, 0, 0)),
  (71, (.istore_n 1, 72, 0, 0, 0)),
  (72, (.aload_n 0, 73, 0, 0, 0)),
  (73, (.iload_n 2, 74, 0, 0, 0)),
  (74, (.invokevirtual 54, 77, 103, 1, 0)),
  (77, (.istore_n 2, 78, 0, 0, 0)),
  (78, (.iinc 3 1, 81, 0, 0, 1)),
  (81, (.goto (-75), 84, 6, 0, 0)),
  (84, (.iload_n 1, 85, 0, 0, 0)),
  (85, (.ifCond .eq 7, 88, 92, 0, 0)),
  (88, (.iconst 3, 89, 0, 0, 3)),
  (89, (.goto 4, 92, 93, 0, 0)),
  (92, (.iconst 0, 93, 0, 0, 0)),
  (93, (.ireturn, 94, 0, 0, 0))]
def xB124 : List (Nat × xm_row) := [(0, (.iload_n 2, 1, 0, 0, 0)),
  (1, (.invokestatic 23, 4, 29, 1, 0)),
  (4, (.ifCond .ne 4, 7, 8, 0, 0)),
  (7, (.return_, 8, 0, 0, 0)),
  (8, (.aload_n 0, 9, 0, 0, 0)),
  (9, (.getfield 11, 12, 8, 0, 0)),
  (12, (.iload_n 2, 13, 0, 0, 0)),
  (13, (.aload_n 1, 14, 0, 0, 0)),
  (14, (.iload_n 3, 15, 0, 0, 0)),
  (15, (.invokevirtual 60, 18, 107, 1, 0)),
  (18, (.iastore, 19, 0, 0, 0)),
  (19, (.aload_n 0, 20, 0, 0, 0)),
  (20, (.getfield 15, 23, 8, 1, 0)),
  (23, (.iload_n 2, 24, 0, 0, 0)),
  (24, (.aload_n 1, 25, 0, 0, 0)),
  (25, (.iload_n 3, 26, 0, 0, 0)),
  (26, (.invokevirtual 41, 29, 86, 1, 0)),
  (29, (.bipush 8, 31, 0, 0, 8)),
  (31, (.invokestatic 63, 34, 80, 2, 0)),
  (34, (.iastore, 35, 0, 0, 0)),
  (35, (.iconst 0, 36, 0, 0, 0)),
  (36, (.istore 4, 38, 0, 0, 0)),
  (38, (.iload 4, 40, 0, 0, 0)),
  (40, (.aload_n 0, 41, 0, 0, 0)),
  (41, (.getfield 15, 44, 8, 1, 0)),
  (44, (.iload_n 2, 45, 0, 0, 0)),
  (45, (.iaload, 46, 0, 0, 0)),
  (46, (.if_icmp .ge 25, 49, 71, 0, 0)),
  (49, (.aload_n 0, 50, 0, 0, 0)),
  (50, (.getfield 20, 53, 8, 2, 0)),
  (53, (.iload_n 2, 54, 0, 0, 0)),
  (54, (.aaload, 55, 0, 0, 0)),
  (55, (.iload 4, 57, 0, 0, 0)),
  (57, (.aload_n 1, 58, 0, 0, 0)),
  (58, (.iload_n 3, 59, 0, 0, 0)),
  (59, (.iload 4, 61, 0, 0, 0)),
  (61, (.invokevirtual 69, 64, 88, 2, 0)),
  (64, (.iastore, 65, 0, 0, 0)),
  (65, (.iinc 4 1, 68, 0, 0, 1)),
  (68, (.goto (-30), 71, 38, 0, 0)),
  (71, (.return_, 72, 0, 0, 0))]
def xB125 : List (Nat × xm_row) := [(0, (.aload_n 0, 1, 0, 0, 0)),
  (1, (.getfield 21, 4, 7, 2, 0)),
  (4, (.areturn, 5, 0, 0, 0))]
def xB126 : List (Nat × xm_row) := [(0, (.iconst 3, 1, 0, 0, 3)),
  (1, (.istore_n 2, 2, 0, 0, 0)),
  (2, (.iconst 0, 3, 0, 0, 0)),
  (3, (.istore_n 3, 4, 0, 0, 0)),
  (4, (.iload_n 3, 5, 0, 0, 0)),
  (5, (.aload_n 1, 6, 0, 0, 0)),
  (6, (.iconst 2, 7, 0, 0, 2)),
  (7, (.invokevirtual 35, 10, 86, 1, 0)),
  (10, (.if_icmp .ge 31, 13, 41, 0, 0)),
  (13, (.aload_n 0, 14, 0, 0, 0)),
  (14, (.aload_n 1, 15, 0, 0, 0)),
  (15, (.iload_n 2, 16, 0, 0, 0)),
  (16, (.invokevirtual 41, 19, 127, 2, 0)),
  (19, (.istore 4, 21, 0, 0, 0)),
  (21, (.iload 4, 23, 0, 0, 0)),
  (23, (.ifCond .eq 6, 26, 29, 0, 0)),
  (26, (.iload 4, 28, 0, 0, 0)),
  (28, (.ireturn, 29, 0, 0, 0)),
  (29, (.aload_n 1, 30, 0, 0, 0)),
  (30, (.iload_n 2, 31, 0, 0, 0)),
  (31, (.invokevirtual 45, 34, 103, 1, 0)),
  (34, (.istore_n 2, 35, 0, 0, 0)),
  (35, (.iinc 3 1, 38, 0, 0, 1)),
  (38, (.goto (-34), 41, 4, 0, 0)),
  (41, (.aload_n 1, 42, 0, 0, 0)),
  (42, (.iconst 2, 43, 0, 0, 2)),
  (43, (.invokevirtual 35, 46, 86, 1, 0)),
  (46, (.ifCond .ne 7, 49, 53, 0, 0)),
  (49, (.aload_n 0, 50, 0, 0, 0)),
  (50, (.invokevirtual 48, 53, 128, 0, 0)),
  (53, (.iconst 3, 54, 0, 0, 3)),
  (54, (.istore_n 2, 55, 0, 0, 0)),
  (55, (.iconst 0, 56, 0, 0, 0)),
  (56, (.istore_n 3, 57, 0, 0, 0)),
  (57, (.iload_n 3, 58, 0, 0, 0)),
  (58, (.aload_n 1, 59, 0, 0, 0)),
  (59, (.iconst 2, 60, 0, 0, 2)),
  (60, (.invokevirtual 35, 63, 86, 1, 0)),
  (63, (.if_icmp .ge 30, 66, 93, 0, 0)),
  (66, (.aload_n 0, 67, 0, 0, 0)),
  (67, (.aload_n 1, 68, 0, 0, 0)),
  (68, (.aload_n 1, 69, 0, 0, 0)),
  (69, (.iload_n 2, 70, 0, 0, 0)),
  (70, (.iconst 1, 71, 0, 0, 1)),
  (71, (.iadd, 72, 0, 0, 0)),
  (72, (.invokevirtual 51, 75, 112, 1, 0)),
  (75, (.iload_n 2, 76, 0, 0, 0)),
  (76, (.iconst 2, 77, 0, 0, 2)),
  (77, (.iadd, 78, 0, 0, 0)),
  (78, (.invokevirtual 54, 81, 131, 3, 0)),
  (81, (.aload_n 1, 82, 0, 0, 0)),
  (82, (.iload_n 2, 83, 0, 0, 0)),
  (83, (.invokevirtual 45, 86, 103, 1, 0)),
  (86, (.istore_n 2, 87, 0, 0, 0)),
  (87, (.iinc 3 1, 90, 0, 0, 1)),
  (90, (.goto (-33), 93, 57, 0, 0)),
  (93, (.iconst 0, 94, 0, 0, 0)),
  (94, (.ireturn, 95, 0, 0, 0))]
def xB127 : List (Nat × xm_row) := [(0, (.aload_n 1, 1, 0, 0, 0)),
  (1, (.iload_n 2, 2, 0, 0, 0)),
  (2, (.iconst 1, 3, 0, 0, 1)),
  (3, (.iadd, 4, 0, 0, 0)),
  (4, (.invokevirtual 51, 7, 112, 1, 0)),
  (7, (.istore_n 3, 8, 0, 0, 0)),
  (8, (.aload_n 1, 9, 0, 0, 0)),
  (9, (.iload_n 2, 10, 0, 0, 0)),
  (10, (.iconst 2, 11, 0, 0, 2)),
  (11, (.iadd, 12, 0, 0, 0)),
  (12, (.invokevirtual 35, 15, 86, 1, 0)),
  (15, (.istore 4, 17, 0, 0, 0)),
  (17, (.iload_n 3, 18, 0, 0, 0)),
  (18, (.invokestatic 28, 21, 26, 1, 0)),
  (21, (.ifCond .eq 9, 24, 30, 0, 0)),
  (24, (.iload 4, 26, 0, 0, 0)),
  (26, (.iconst 3, 27, 0, 0, 3)),
  (27, (.if_icmp .le 5, 30, 32, 0, 0)),
  (30, (.iconst 1, 31, 0, 0, 1)),
  (31, (.ireturn, 32, 0, 0, 0)),
  (32, (.iload 4, 34, 0, 0, 0)),
  (34, (.ifCond .le 13, 37, 47, 0, 0)),
  (37, (.aload_n 0, 38, 0, 0, 0)),
  (38, (.iload_n 3, 39, 0, 0, 0)),
  (39, (.invokevirtual 58, 42, 25, 1, 0)),
  (42, (.ifCond .le 5, 45, 47, 0, 0)),
  (45, (.iconst 3, 46, 0, 0, 3)),
  (46, (.ireturn, 47, 0, 0, 0)),
  (47, (.iconst 0, 48, 0, 0, 0)),
  (48, (.istore 5, 50, 0, 0, 0)),
  (50, (.iload 5, 52, 0, 0, 0)),
  (52, (.iload 4, 54, 0, 0, 0)),
  (54, (.if_icmp .ge 27, 57, 81, 0, 0)),
  (57, (.aload_n 1, 58, 0, 0, 0)),
  (58, (.iload_n 2, 59, 0, 0, 0)),
  (59, (.iconst 3, 60, 0, 0, 3)),
  (60, (.iadd, 61, 0, 0, 0)),
  (61, (.iload 5, 63, 0, 0, 0)),
  (63, (.iadd, 64, 0, 0, 0)),
  (64, (.invokevirtual 51, 67, 112, 1, 0)),
  (67, (.invokestatic 61, 70, 29, 1, 0)),
  (70, (.ifCond .ne 5, 73, 75, 0, 0)),
  (73, (.iconst 4, 74, 0, 0, 4)),
  (74, (.ireturn, 75, 0, 0, 0)),
  (75, (.iinc 5 1, 78, 0, 0, 1)),
  (78, (.goto (-28), 81, 50, 0, 0)),
  (81, (.iconst 0, 82, 0, 0, 0)),
  (82, (.ireturn, 83, 0, 0, 0))]
def xB128 : List (Nat × xm_row) := [(0, (.iconst 1, 1, 0, 0, 1)),
  (1, (.istore_n 1, 2, 0, 0, 0)),
  (2, (.iload_n 1, 3, 0, 0, 0)),
  (3, (.iconst 4, 4, 0, 0, 4)),
  (4, (.if_icmp .gt 14, 7, 18, 0, 0)),
  (7, (.aload_n 0, 8, 0, 0, 0)),
  (8, (.iload_n 1, 9, 0, 0, 0)),
  (9, (.invokevirtual 66, 12, 129, 1, 0)),
  (12, (.iinc 1 1, 15, 0, 0, 1)),
  (15, (.goto (-13), 18, 2, 0, 0)),
  (18, (.return_, 19, 0, 0, 0))]
def xB129 : List (Nat × xm_row) := [(0, (.iload_n 1, 1, 0, 0, 0)),
  (1, (.invokestatic 28, 4, 26, 1, 0)),
  (4, (.ifCond .ne 4, 7, 8, 0, 0)),
  (7, (.return_, 8, 0, 0, 0)),
  (8, (.aload_n 0, 9, 0, 0, 0)),
  (9, (.getfield 9, 12, 9, 0, 0)),
  (12, (.iload_n 1, 13, 0, 0, 0)),
  (13, (.iconst 0, 14, 0, 0, 0)),
  (14, (.iastore, 15, 0, 0, 0)),
  (15, (.iconst 1, 16, 0, 0, 1)),
  (16, (.istore_n 2, 17, 0, 0, 0)),
  (17, (.iload_n 2, 18, 0, 0, 0)),
  (18, (.iconst 5, 19, 0, 0, 5)),
  (19, (.if_icmp .gt 15, 22, 34, 0, 0)),
  (22, (.aload_n 0, 23, 0, 0, 0)),
  (23, (.iload_n 2, 24, 0, 0, 0)),
  (24, (.iload_n 1, 25, 0, 0, 0)),
  (25, (.invokevirtual 76, 28, 130, 2, 0)),
  (28, (.iinc 2 1, 31, 0, 0, 1)),
  (31, (.goto (-14), 34, 17, 0, 0)),
  (34, (.return_, 35, 0, 0, 0))]
def xB130 : List (Nat × xm_row) := [(0, (.iconst 0, 1, 0, 0, 0)),
  (1, (.istore_n 3, 2, 0, 0, 0)),
  (2, (.iconst 0, 3, 0, 0, 0)),
  (3, (.istore 4, 5, 0, 0, 0)),
  (5, (.iload 4, 7, 0, 0, 0)),
  (7, (.aload_n 0, 8, 0, 0, 0)),
  (8, (.getfield 18, 11, 9, 2, 0)),
  (11, (.iload_n 1, 12, 0, 0, 0)),
  (12, (.iaload, 13, 0, 0, 0)),
  (13, (.if_icmp .ge 42, 16, 55, 0, 0)),
  (16, (.aload_n 0, 17, 0, 0, 0)),
  (17, (.getfield 21, 20, 9, 3, 0)),
  (20, (.iload_n 1, 21, 0, 0, 0)),
  (21, (.aaload, 22, 0, 0, 0)),
  (22, (.iload 4, 24, 0, 0, 0)),
  (24, (.iaload, 25, 0, 0, 0)),
  (25, (.iload_n 2, 26, 0, 0, 0)),
  (26, (.if_icmp .eq 23, 29, 49, 0, 0)),
  (29, (.aload_n 0, 30, 0, 0, 0)),
  (30, (.getfield 21, 33, 9, 3, 0)),
  (33, (.iload_n 1, 34, 0, 0, 0)),
  (34, (.aaload, 35, 0, 0, 0)),
  (35, (.iload_n 3, 36, 0, 0, 0)),
  (36, (.aload_n 0, 37, 0, 0, 0)),
  (37, (.getfield 21, 40, 9, 3, 0)),
  (40, (.iload_n 1, 41, 0, 0, 0)),
  (41, (.aaload, 42, 0, 0, 0)),
  (42, (.iload 4, 44, 0, 0, 0)),
  (44, (.iaload, 45, 0, 0, 0)),
  (45, (.iastore, 46, 0, 0, 0)),
  (46, (.iinc 3 1, 49, 0, 0, 1)),
  (49, (.iinc 4 1, 52, 0, 0, 1)),
  (52, (.goto (-47), 55, 5, 0, 0)),
  (55, (.aload_n 0, 56, 0, 0, 0)),
  (56, (.getfield 18, 59, 9, 2, 0)),
  (59, (.iload_n 1, 60, 0, 0, 0)),
  (60, (.iload_n 3, 61, 0, 0, 0)),
  (61, (.iastore, 62, 0, 0, 0)),
  (62, (.return_, 63, 0, 0, 0))]
def xB131 : List (Nat × xm_row) := [(0, (.aload_n 1, 1, 0, 0, 0)),
  (1, (.iload_n 3, 2, 0, 0, 0)),
  (2, (.invokevirtual 35, 5, 86, 1, 0)),
  (5, (.ifCond .ne 9, 8, 14, 0, 0)),
  (8, (.aload_n 0, 9, 0, 0, 0)),
  (9, (.iload_n 2, 10, 0, 0, 0)),
  (10, (.invokevirtual 66, 13, 129, 1, 0)),
  (13, (.return_, 14, 0, 0, 0)),
  (14, (.iload_n 2, 15, 0, 0, 0)),
  (15, (.invokestatic 28, 18, 26, 1, 0)),
  (18, (.ifCond .ne 4, 21, 22, 0, 0)),
  (21, (.return_, 22, 0, 0, 0)),
  (22, (.aload_n 0, 23, 0, 0, 0)),
  (23, (.getfield 9, 26, 9, 0, 0)),
  (26, (.iload_n 2, 27, 0, 0, 0)),
  (27, (.aload_n 1, 28, 0, 0, 0)),
  (28, (.iload_n 3, 29, 0, 0, 0)),
  (29, (.invokevirtual 35, 32, 86, 1, 0)),
  (32, (.iconst 3, 33, 0, 0, 3)),
  (33, (.invokestatic 70, 36, 80, 2, 0)),
  (36, (.iastore, 37, 0, 0, 0)),
  (37, (.iconst 0, 38, 0, 0, 0)),
  (38, (.istore 4, 40, 0, 0, 0)),
  (40, (.iload 4, 42, 0, 0, 0)),
  (42, (.aload_n 0, 43, 0, 0, 0)),
  (43, (.getfield 9, 46, 9, 0, 0)),
  (46, (.iload_n 2, 47, 0, 0, 0)),
  (47, (.iaload, 48, 0, 0, 0)),
  (48, (.if_icmp .ge 28, 51, 76, 0, 0)),
  (51, (.aload_n 0, 52, 0, 0, 0)),
  (52, (.getfield 15, 55, 9, 1, 0)),
  (55, (.iload_n 2, 56, 0, 0, 0)),
  (56, (.aaload, 57, 0, 0, 0)),
  (57, (.iload 4, 59, 0, 0, 0)),
  (59, (.aload_n 1, 60, 0, 0, 0)),
  (60, (.iload_n 3, 61, 0, 0, 0)),
  (61, (.iconst 1, 62, 0, 0, 1)),
  (62, (.iadd, 63, 0, 0, 0)),
  (63, (.iload 4, 65, 0, 0, 0)),
  (65, (.iadd, 66, 0, 0, 0)),
  (66, (.invokevirtual 51, 69, 112, 1, 0)),
  (69, (.iastore, 70, 0, 0, 0)),
  (70, (.iinc 4 1, 73, 0, 0, 1)),
  (73, (.goto (-33), 76, 40, 0, 0)),
  (76, (.return_, 77, 0, 0, 0))]
def xB132 : List (Nat × xm_row) := [(0, (.iconst 3, 1, 0, 0, 3)),
  (1, (.istore_n 2, 2, 0, 0, 0)),
  (2, (.iconst 0, 3, 0, 0, 0)),
  (3, (.istore_n 3, 4, 0, 0, 0)),
  (4, (.iload_n 3, 5, 0, 0, 0)),
  (5, (.aload_n 1, 6, 0, 0, 0)),
  (6, (.iconst 2, 7, 0, 0, 2)),
  (7, (.invokevirtual 35, 10, 86, 1, 0)),
  (10, (.if_icmp .ge 31, 13, 41, 0, 0)),
  (13, (.aload_n 0, 14, 0, 0, 0)),
  (14, (.aload_n 1, 15, 0, 0, 0)),
  (15, (.iload_n 2, 16, 0, 0, 0)),
  (16, (.invokevirtual 80, 19, 133, 2, 0)),
  (19, (.istore 4, 21, 0, 0, 0)),
  (21, (.iload 4, 23, 0, 0, 0)),
  (23, (.ifCond .eq 6, 26, 29, 0, 0)),
  (26, (.iload 4, 28, 0, 0, 0)),
  (28, (.ireturn, 29, 0, 0, 0)),
  (29, (.aload_n 1, 30, 0, 0, 0)),
  (30, (.iload_n 2, 31, 0, 0, 0)),
  (31, (.invokevirtual 45, 34, 103, 1, 0)),
  (34, (.istore_n 2, 35, 0, 0, 0)),
  (35, (.iinc 3 1, 38, 0, 0, 1)),
  (38, (.goto (-34), 41, 4, 0, 0)),
  (41, (.iconst 3, 42, 0, 0, 3)),
  (42, (.istore_n 2, 43, 0, 0, 0)),
  (43, (.iconst 0, 44, 0, 0, 0)),
  (44, (.istore_n 3, 45, 0, 0, 0)),
  (45, (.iload_n 3, 46, 0, 0, 0)),
  (46, (.aload_n 1, 47, 0, 0, 0)),
  (47, (.iconst 2, 48, 0, 0, 2)),
  (48, (.invokevirtual 35, 51, 86, 1, 0)),
  (51, (.if_icmp .ge 30, 54, 81, 0, 0)),
  (54, (.aload_n 0, 55, 0, 0, 0)),
  (55, (.aload_n 1, 56, 0, 0, 0)),
  (56, (.aload_n 1, 57, 0, 0, 0)),
  (57, (.iload_n 2, 58, 0, 0, 0)),
  (58, (.iconst 1, 59, 0, 0, 1)),
  (59, (.iadd, 60, 0, 0, 0)),
  (60, (.invokevirtual 51, 63, 112, 1, 0)),
  (63, (.iload_n 2, 64, 0, 0, 0)),
  (64, (.iconst 2, 65, 0, 0, 2)),
  (65, (.iadd, 66, 0, 0, 0)),
  (66, (.invokevirtual 83, 69, 134, 3, 0)),
  (69, (.aload_n 1, 70, 0, 0, 0)),
  (70, (.iload_n 2, 71, 0, 0, 0)),
  (71, (.invokevirtual 45, 74, 103, 1, 0)),
  (74, (.istore_n 2, 75, 0, 0, 0)),
  (75, (.iinc 3 1, 78, 0, 0, 1)),
  (78, (.goto (-33), 81, 45, 0, 0)),
  (81, (.iconst 0, 82, 0, 0, 0)),
  (82, (.ireturn, 83, 0, 0, 0))]
def xB133 : List (Nat × xm_row) := [(0, (.aload_n 1, 1, 0, 0, 0)),
  (1, (.iload_n 2, 2, 0, 0, 0)),
  (2, (.iconst 2, 3, 0, 0, 2)),
  (3, (.iadd, 4, 0, 0, 0)),
  (4, (.invokevirtual 35, 7, 86, 1, 0)),
  (7, (.istore_n 3, 8, 0, 0, 0)),
  (8, (.iload_n 3, 9, 0, 0, 0)),
  (9, (.iconst 2, 10, 0, 0, 2)),
  (10, (.if_icmp .le 5, 13, 15, 0, 0)),
  (13, (.iconst 1, 14, 0, 0, 1)),
  (14, (.ireturn, 15, 0, 0, 0)),
  (15, (.aload_n 1, 16, 0, 0, 0)),
  (16, (.iload_n 2, 17, 0, 0, 0)),
  (17, (.iconst 1, 18, 0, 0, 1)),
  (18, (.iadd, 19, 0, 0, 0)),
  (19, (.invokevirtual 51, 22, 112, 1, 0)),
  (22, (.invokestatic 32, 25, 16, 1, 0)),
  (25, (.ifCond .ne 5, 28, 30, 0, 0)),
  (28, (.iconst 4, 29, 0, 0, 4)),
  (29, (.ireturn, 30, 0, 0, 0)),
  (30, (.iconst 0, 31, 0, 0, 0)),
  (31, (.istore 4, 33, 0, 0, 0)),
  (33, (.iload 4, 35, 0, 0, 0)),
  (35, (.iload_n 3, 36, 0, 0, 0)),
  (36, (.if_icmp .ge 28, 39, 64, 0, 0)),
  (39, (.aload_n 0, 40, 0, 0, 0)),
  (40, (.aload_n 1, 41, 0, 0, 0)),
  (41, (.iload_n 2, 42, 0, 0, 0)),
  (42, (.iconst 3, 43, 0, 0, 3)),
  (43, (.iadd, 44, 0, 0, 0)),
  (44, (.iload 4, 46, 0, 0, 0)),
  (46, (.iadd, 47, 0, 0, 0)),
  (47, (.invokevirtual 51, 50, 112, 1, 0)),
  (50, (.invokevirtual 58, 53, 25, 1, 0)),
  (53, (.ifCond .ne 5, 56, 58, 0, 0)),
  (56, (.iconst 5, 57, 0, 0, 5)),
  (57, (.ireturn, 58, 0, 0, 0)),
  (58, (.iinc 4 1, 61, 0, 0, 1)),
  (61, (.goto (-28), 64, 33, 0, 0)),
  (64, (.iconst 0, 65, 0, 0, 0)),
  (65, (.ireturn, 66, 0, 0, 0))]
def xB134 : List (Nat × xm_row) := [(0, (.iload_n 2, 1, 0, 0, 0)),
  (1, (.invokestatic 32, 4, 16, 1, 0)),
  (4, (.ifCond .ne 4, 7, 8, 0, 0)),
  (7, (.return_, 8, 0, 0, 0)),
  (8, (.aload_n 0, 9, 0, 0, 0)),
  (9, (.getfield 18, 12, 9, 2, 0)),
  (12, (.iload_n 2, 13, 0, 0, 0)),
  (13, (.aload_n 1, 14, 0, 0, 0)),
  (14, (.iload_n 3, 15, 0, 0, 0)),
  (15, (.invokevirtual 35, 18, 86, 1, 0)),
  (18, (.iconst 2, 19, 0, 0, 2)),
  (19, (.invokestatic 70, 22, 80, 2, 0)),
  (22, (.iastore, 23, 0, 0, 0)),
  (23, (.iconst 0, 24, 0, 0, 0)),
  (24, (.istore 4, 26, 0, 0, 0)),
  (26, (.iload 4, 28, 0, 0, 0)),
  (28, (.aload_n 0, 29, 0, 0, 0)),
  (29, (.getfield 18, 32, 9, 2, 0)),
  (32, (.iload_n 2, 33, 0, 0, 0)),
  (33, (.iaload, 34, 0, 0, 0)),
  (34, (.if_icmp .ge 28, 37, 62, 0, 0)),
  (37, (.aload_n 0, 38, 0, 0, 0)),
  (38, (.getfield 21, 41, 9, 3, 0)),
  (41, (.iload_n 2, 42, 0, 0, 0)),
  (42, (.aaload, 43, 0, 0, 0)),
  (43, (.iload 4, 45, 0, 0, 0)),
  (45, (.aload_n 1, 46, 0, 0, 0)),
  (46, (.iload_n 3, 47, 0, 0, 0)),
  (47, (.iconst 1, 48, 0, 0, 1)),
  (48, (.iadd, 49, 0, 0, 0)),
  (49, (.iload 4, 51, 0, 0, 0)),
  (51, (.iadd, 52, 0, 0, 0)),
  (52, (.invokevirtual 51, 55, 112, 1, 0)),
  (55, (.iastore, 56, 0, 0, 0)),
  (56, (.iinc 4 1, 59, 0, 0, 1)),
  (59, (.goto (-33), 62, 26, 0, 0)),
  (62, (.return_, 63, 0, 0, 0))]
def xB135 : List (Nat × xm_row) := [(0, (.aload_n 1, 1, 0, 0, 0)),
  (1, (.iconst 2, 2, 0, 0, 2)),
  (2, (.invokevirtual 35, 5, 86, 1, 0)),
  (5, (.istore_n 2, 6, 0, 0, 0)),
  (6, (.iconst 0, 7, 0, 0, 0)),
  (7, (.istore_n 3, 8, 0, 0, 0)),
  (8, (.iload_n 3, 9, 0, 0, 0)),
  (9, (.iload_n 2, 10, 0, 0, 0)),
  (10, (.if_icmp .ge 24, 13, 34, 0, 0)),
  (13, (.aload_n 1, 14, 0, 0, 0)),
  (14, (.iconst 3, 15, 0, 0, 3)),
  (15, (.iload_n 3, 16, 0, 0, 0)),
  (16, (.iadd, 17, 0, 0, 0)),
  (17, (.invokevirtual 51, 20, 112, 1, 0)),
  (20, (.invokestatic 32, 23, 16, 1, 0)),
  (23, (.ifCond .ne 5, 26, 28, 0, 0)),
  (26, (.iconst 1, 27, 0, 0, 1)),
  (27, (.ireturn, 28, 0, 0, 0)),
  (28, (.iinc 3 1, 31, 0, 0, 1)),
  (31, (.goto (-23), 34, 8, 0, 0)),
  (34, (.aload_n 1, 35, 0, 0, 0)),
  (35, (.iconst 1, 36, 0, 0, 1)),
  (36, (.iconst 0, 37, 0, 0, 0)),
  (37, (.invokevirtual 86, 40, 88, 2, 0)),
  (40, (.ifCond .eq 7, 43, 47, 0, 0)),
  (43, (.iconst 1, 44, 0, 0, 1)),
  (44, (.goto 4, 47, 48, 0, 0)),
  (47, (.iconst 0, 48, 0, 0, 0)),
  (48, (.istore_n 3, 49, 0, 0, 0)),
  (49, (.iconst 0, 50, 0, 0, 0)),
  (50, (.istore 4, 52, 0, 0, 0)),
  (52, (.iload 4, 54, 0, 0, 0)),
  (54, (.iload_n 2, 55, 0, 0, 0)),
  (55, (.if_icmp .ge 22, 58, 77, 0, 0)),
  (58, (.aload_n 0, 59, 0, 0, 0)),
  (59, (.aload_n 1, 60, 0, 0, 0)),
  (60, (.iconst 3, 61, 0, 0, 3)),
  (61, (.iload 4, 63, 0, 0, 0)),
  (63, (.iadd, 64, 0, 0, 0)),
  (64, (.invokevirtual 51, 67, 112, 1, 0)),
  (67, (.iload_n 3, 68, 0, 0, 0)),
  (68, (.invokevirtual 89, 71, 136, 2, 0)),
  (71, (.iinc 4 1, 74, 0, 0, 1)),
  (74, (.goto (-22), 77, 52, 0, 0)),
  (77, (.iload_n 2, 78, 0, 0, 0)),
  (78, (.ifCond .ne 8, 81, 86, 0, 0)),
  (81, (.aload_n 0, 82, 0, 0, 0)),
  (82, (.iload_n 3, 83, 0, 0, 0)),
  (83, (.invokevirtual 93, 86, 137, 1, 0)),
  (86, (.iconst 0, 87, 0, 0, 0)),
  (87, (.ireturn, 88, 0, 0, 0))]
def xB136 : List (Nat × xm_row) := [(0, (.iload_n 1, 1, 0, 0, 0)),
  (1, (.invokestatic 32, 4, 16, 1, 0)),
  (4, (.ifCond .eq 10, 7, 14, 0, 0)),
  (7, (.aload_n 0, 8, 0, 0, 0)),
  (8, (.getfield 24, 11, 9, 4, 0)),
  (11, (.iload_n 1, 12, 0, 0, 0)),
  (12, (.iload_n 2, 13, 0, 0, 0)),
  (13, (.bastore, 14, 0, 0, 0)),
  (14, (.return_, 15, 0, 0, 0))]
def xB137 : List (Nat × xm_row) := [(0, (.iconst 1, 1, 0, 0, 1)),
  (1, (.istore_n 2, 2, 0, 0, 0)),
  (2, (.iload_n 2, 3, 0, 0, 0)),
  (3, (.iconst 5, 4, 0, 0, 5)),
  (4, (.if_icmp .gt 16, 7, 20, 0, 0)),
  (7, (.aload_n 0, 8, 0, 0, 0)),
  (8, (.getfield 24, 11, 9, 4, 0)),
  (11, (.iload_n 2, 12, 0, 0, 0)),
  (12, (.iload_n 1, 13, 0, 0, 0)),
  (13, (.bastore, 14, 0, 0, 0)),
  (14, (.iinc 2 1, 17, 0, 0, 1)),
  (17, (.goto (-15), 20, 2, 0, 0)),
  (20, (.return_, 21, 0, 0, 0))]
def xB138 : List (Nat × xm_row) := [(0, (.aload_n 0, 1, 0, 0, 0)),
  (1, (.invokevirtual 86, 4, 139, 0, 0)),
  (4, (.istore_n 2, 5, 0, 0, 0)),
  (5, (.aload_n 1, 6, 0, 0, 0)),
  (6, (.iconst 1, 7, 0, 0, 1)),
  (7, (.ldc 87, 9, 4, 900, 0)),
  (9, (.invokevirtual 89, 12, 141, 2, 0)),
  (12, (.ifCond .eq 19, 15, 31, 0, 0)),
  (15, (.aload_n 0, 16, 0, 0, 0)),
  (16, (.iload_n 2, 17, 0, 0, 0)),
  (17, (.ifCond .ne 7, 20, 24, 0, 0)),
  (20, (.iconst 1, 21, 0, 0, 1)),
  (21, (.goto 4, 24, 25, 0, 0)),
  (24, (.iconst 0, 25, 0, 0, 0)),
  (25, (.iconst 1, 26, 0, 0, 1)),
  (26, (.iconst 2, 27, 0, 0, 2)),
  (27, (.invokevirtual 95, 30, 142, 3, 0)),
  (30, (.ireturn, 31, 0, 0, 0)),
  (31, (.aload_n 1, 32, 0, 0, 0)),
  (32, (.iconst 1, 33, 0, 0, 1)),
  (33, (.ldc 99, 35, 5, 900, 0)),
  (35, (.invokevirtual 89, 38, 141, 2, 0)),
  (38, (.ifCond .eq 19, 41, 57, 0, 0)),
  (41, (.aload_n 0, 42, 0, 0, 0)),
  (42, (.iload_n 2, 43, 0, 0, 0)),
  (43, (.ifCond .eq 7, 46, 50, 0, 0)),
  (46, (.iconst 1, 47, 0, 0, 1)),
  (47, (.goto 4, 50, 51, 0, 0)),
  (50, (.iconst 0, 51, 0, 0, 0)),
  (51, (.iconst 0, 52, 0, 0, 0)),
  (52, (.iconst 3, 53, 0, 0, 3)),
  (53, (.invokevirtual 95, 56, 142, 3, 0)),
  (56, (.ireturn, 57, 0, 0, 0)),
  (57, (.aload_n 1, 58, 0, 0, 0)),
  (58, (.iconst 1, 59, 0, 0, 1)),
  (59, (.ldc 101, 61, 6, 900, 0)),
  (61, (.invokevirtual 89, 64, 141, 2, 0)),
  (64, (.ifCond .eq 20, 67, 84, 0, 0)),
  (67, (.aload_n 0, 68, 0, 0, 0)),
  (68, (.iload_n 2, 69, 0, 0, 0)),
  (69, (.iconst 1, 70, 0, 0, 1)),
  (70, (.if_icmp .ne 7, 73, 77, 0, 0)),
  (73, (.iconst 1, 74, 0, 0, 1)),
  (74, (.goto 4, 77, 78, 0, 0)),
  (77, (.iconst 0, 78, 0, 0, 0)),
  (78, (.iconst 2, 79, 0, 0, 2)),
  (79, (.iconst 4, 80, 0, 0, 4)),
  (80, (.invokevirtual 95, 83, 142, 3, 0)),
  (83, (.ireturn, 84, 0, 0, 0)),
  (84, (.aload_n 1, 85, 0, 0, 0)),
  (85, (.iconst 1, 86, 0, 0, 1)),
  (86, (.ldc 103, 88, 7, 900, 0)),
  (88, (.invokevirtual 89, 91, 141, 2, 0)),
  (91, (.ifCond .eq 20, 94, 111, 0, 0)),
  (94, (.aload_n 0, 95, 0, 0, 0)),
  (95, (.iload_n 2, 96, 0, 0, 0)),
  (96, (.iconst 2, 97, 0, 0, 2)),
  (97, (.if_icmp .ne 7, 100, 104, 0, 0)),
  (100, (.iconst 1, 101, 0, 0, 1)),
  (101, (.goto 4, 104, 105, 0, 0)),
  (104, (.iconst 0, 105, 0, 0, 0)),
  (105, (.iconst 1, 106, 0, 0, 1)),
  (106, (.iconst 0, 107, 0, 0, 0)),
  (107, (.invokevirtual 95, 110, 142, 3, 0)),
  (110, (.ireturn, 111, 0, 0, 0)),
  (111, (.iconst 1, 112, 0, 0, 1)),
  (112, (.ireturn, 113, 0, 0, 0))]
def xB139 : List (Nat × xm_row) := [(0, (.aload_n 0, 1, 0, 0, 0)),
  (1, (.getfield 12, 4, 7, 1, 0)),
  (4, (.invokevirtual 48, 7, 140, 0, 0)),
  (7, (.ireturn, 8, 0, 0, 0))]
def xB140 : List (Nat × xm_row) := [(0, (.aload_n 0, 1, 0, 0, 0)),
  (1, (.getfield 20, 4, 8, 2, 0)),
  (4, (.iconst 1, 5, 0, 0, 1)),
  (5, (.aaload, 6, 0, 0, 0)),
  (6, (.iconst 0, 7, 0, 0, 0)),
  (7, (.iaload, 8, 0, 0, 0)),
  (8, (.ireturn, 9, 0, 0, 0))]
def xB141 : List (Nat × xm_row) := [(0, (.aload_n 0, 1, 0, 0, 0)),
  (1, (.iload_n 1, 2, 0, 0, 0)),
  (2, (.invokevirtual 85, 5, 107, 1, 0)),
  (5, (.bipush 16, 7, 0, 0, 16)),
  (7, (.if_icmp .ne 19, 10, 26, 0, 0)),
  (10, (.aload_n 0, 11, 0, 0, 0)),
  (11, (.iload_n 1, 12, 0, 0, 0)),
  (12, (.invokevirtual 62, 15, 86, 1, 0)),
  (15, (.aload_n 2, 16, 0, 0, 0)),
  (16, (.invokevirtual 88, 19, 999, 0, 0)),
  (19, (.if_icmp .ne 7, 22, 26, 0, 0)),
  (22, (.iconst 1, 23, 0, 0, 1)),
  (23, (.goto 4, 26, 27, 0, 0)),
  (26, (.iconst 0, 27, 0, 0, 0)),
  (27, (.istore_n 3, 28, 0, 0, 0)),
  (28, (.iconst 0, 29, 0, 0, 0)),
  (29, (.istore 4, 31, 0, 0, 0)),
  (31, (.iload 4, 33, 0, 0, 0)),
  (33, (.aload_n 2, 34, 0, 0, 0)),
  (34, (.invokevirtual 88, 37, 999, 0, 0)),
  (37, (.if_icmp .ge 35, 40, 72, 0, 0)),
  (40, (.iload_n 3, 41, 0, 0, 0)),
  (41, (.ifCond .eq 31, 44, 72, 0, 0)),
  (44, (.aload_n 0, 45, 0, 0, 0)),
  (45, (.iload_n 1, 46, 0, 0, 0)),
  (46, (.iload 4, 48, 0, 0, 0)),
  (48, (.invokevirtual 65, 51, 88, 2, 0)),
  (51, (.aload_n 2, 52, 0, 0, 0)),
  (52, (.iload 4, 54, 0, 0, 0)),
  (54, (.invokevirtual 91, 57, 999, 0, 0)),
  (57, (.if_icmp .ne 7, 60, 64, 0, 0)),
  (60, (.iconst 1, 61, 0, 0, 1)),
  (61, (.goto 4, 64, 65, 0, 0)),
  (64, (.iconst 0, 65, 0, 0, 0)),
  (65, (.istore_n 3, 66, 0, 0, 0)),
  (66, (.iinc 4 1, 69, 0, 0, 1)),
  (69, (.goto (-38), 72, 31, 0, 0)),
  (72, (.iload_n 3, 73, 0, 0, 0)),
  (73, (.ireturn, 74, 0, 0, 0))]
def xB142 : List (Nat × xm_row) := [(0, (.iload_n 1, 1, 0, 0, 0)),
  (1, (.ifCond .eq 11, 4, 12, 0, 0)),
  (4, (.aload_n 0, 5, 0, 0, 0)),
  (5, (.invokevirtual 78, 8, 117, 0, 0)),
  (8, (.iconst 3, 9, 0, 0, 3)),
  (9, (.if_icmp .eq 5, 12, 14, 0, 0)),
  (12, (.iconst 2, 13, 0, 0, 2)),
  (13, (.ireturn, 14, 0, 0, 0)),
  (14, (.iload_n 3, 15, 0, 0, 0)),
  (15, (.iconst 2, 16, 0, 0, 2)),
  (16, (.if_icmp .ne 8, 19, 24, 0, 0)),
  (19, (.aload_n 0, 20, 0, 0, 0)),
  (20, (.iconst 0, 21, 0, 0, 0)),
  (21, (.putfield 51, 24, 7, 6, 0)),
  (24, (.aload_n 0, 25, 0, 0, 0)),
  (25, (.getfield 12, 28, 7, 1, 0)),
  (28, (.iload_n 2, 29, 0, 0, 0)),
  (29, (.invokevirtual 105, 32, 143, 1, 0)),
  (32, (.iload_n 3, 33, 0, 0, 0)),
  (33, (.ifCond .eq 9, 36, 42, 0, 0)),
  (36, (.aload_n 0, 37, 0, 0, 0)),
  (37, (.iload_n 3, 38, 0, 0, 0)),
  (38, (.invokevirtual 82, 41, 14, 1, 0)),
  (41, (.pop, 42, 0, 0, 0)),
  (42, (.iconst 0, 43, 0, 0, 0)),
  (43, (.ireturn, 44, 0, 0, 0))]
def xB143 : List (Nat × xm_row) := [(0, (.aload_n 0, 1, 0, 0, 0)),
  (1, (.getfield 20, 4, 8, 2, 0)),
  (4, (.iconst 1, 5, 0, 0, 1)),
  (5, (.aaload, 6, 0, 0, 0)),
  (6, (.iconst 0, 7, 0, 0, 0)),
  (7, (.iload_n 1, 8, 0, 0, 0)),
  (8, (.iastore, 9, 0, 0, 0)),
  (9, (.return_, 10, 0, 0, 0))]
def xB144 : List (Nat × xm_row) := [(0, (.aload_n 0, 1, 0, 0, 0)),
  (1, (.getfield 20, 4, 2, 1, 0)),
  (4, (.invokevirtual 64, 7, 32, 0, 0)),
  (7, (.ifCond .eq 19, 10, 26, 0, 0)),
  (10, (.aload_n 0, 11, 0, 0, 0)),
  (11, (.aload_n 1, 12, 0, 0, 0)),
  (12, (.invokevirtual 68, 15, 76, 0, 0)),
  (15, (.iload_n 2, 16, 0, 0, 0)),
  (16, (.aload_n 1, 17, 0, 0, 0)),
  (17, (.invokevirtual 71, 20, 98, 0, 0)),
  (20, (.invokevirtual 60, 23, 31, 3, 0)),
  (23, (.goto 8, 26, 31, 0, 0)),
  (26, (.aload_n 0, 27, 0, 0, 0)),
  (27, (.aload_n 1, 28, 0, 0, 0)),
  (28, (.invokevirtual 74, 31, 97, 1, 0)),
  (31, (.return_, 32, 0, 0, 0))]
def xB145 : List (Nat × xm_row) := [(0, (.iload_n 1, 1, 0, 0, 0)),
  (1, (.iconst 1, 2, 0, 0, 1)),
  (2, (.if_icmp .lt 9, 5, 11, 0, 0)),
  (5, (.iload_n 1, 6, 0, 0, 0)),
  (6, (.bipush 60, 8, 0, 0, 60)),
  (8, (.if_icmp .le 13, 11, 21, 0, 0)),
  (11, (.new 61, 14, 999, 0, 0)),
  (14, (.dup, 15, 0, 0, 0)),
  (15, (.ldc 86, 17, 8, 900, 0)),
  (17, (.invokespecial 65, 20, 999, 0, 0)),
  (20, (.athrow, 21, 0, 0, 0)),
  (21, (.aload_n 0, 22, 0, 0, 0)),
  (22, (.getfield 10, 25, 0, 0, 0)),
  (25, (.invokevirtual 68, 28, 44, 0, 0)),
  (28, (.istore_n 2, 29, 0, 0, 0)),
  (29, (.iconst 0, 30, 0, 0, 0)),
  (30, (.istore_n 3, 31, 0, 0, 0)),
  (31, (.iload_n 3, 32, 0, 0, 0)),
  (32, (.iload_n 1, 33, 0, 0, 0)),
  (33, (.if_icmp .ge 41, 36, 74, 0, 0)),
  (36, (.aload_n 0, 37, 0, 0, 0)),
  (37, (.getfield 26, 40, 0, 2, 0)),
  (40, (.aload_n 0, 41, 0, 0, 0)),
  (41, (.getfield 19, 44, 0, 1, 0)),
  (44, (.invokevirtual 88, 47, 146, 1, 0)),
  (47, (.aload_n 0, 48, 0, 0, 0)),
  (48, (.getfield 44, 51, 0, 4, 0)),
  (51, (.invokevirtual 91, 54, 147, 0, 0)),
  (54, (.aload_n 0, 55, 0, 0, 0)),
  (55, (.getfield 35, 58, 0, 3, 0)),
  (58, (.invokevirtual 93, 61, 148, 0, 0)),
  (61, (.aload_n 0, 62, 0, 0, 0)),
  (62, (.getfield 35, 65, 0, 3, 0)),
  (65, (.invokevirtual 83, 68, 38, 0, 0)),
  (68, (.iinc 3 1, 71, 0, 0, 1)),
  (71, (.goto (-40), 74, 31, 0, 0)),
  (74, (.aload_n 0, 75, 0, 0, 0)),
  (75, (.getfield 10, 78, 0, 0, 0)),
  (78, (.invokevirtual 68, 81, 44, 0, 0)),
  (81, (.iload_n 2, 82, 0, 0, 0)),
  (82, (.isub, 83, 0, 0, 0)),
  (83, (.ireturn, 84, 0, 0, 0))]
def xB146 : List (Nat × xm_row) := [(0, (.iconst 0, 1, 0, 0, 0)),
  (1, (.istore_n 2, 2, 0, 0, 0)),
  (2, (.iload_n 2, 3, 0, 0, 0)),
  (3, (.aload_n 0, 4, 0, 0, 0)),
  (4, (.getfield 20, 7, 5, 2, 0)),
  (7, (.if_icmp .ge 19, 10, 26, 0, 0)),
  (10, (.aload_n 0, 11, 0, 0, 0)),
  (11, (.getfield 16, 14, 5, 1, 0)),
  (14, (.iload_n 2, 15, 0, 0, 0)),
  (15, (.dup2, 16, 0, 0, 0)),
  (16, (.iaload, 17, 0, 0, 0)),
  (17, (.iconst 1, 18, 0, 0, 1)),
  (18, (.iadd, 19, 0, 0, 0)),
  (19, (.iastore, 20, 0, 0, 0)),
  (20, (.iinc 2 1, 23, 0, 0, 1)),
  (23, (.goto (-21), 26, 2, 0, 0)),
  (26, (.aload_n 0, 27, 0, 0, 0)),
  (27, (.getfield 20, 30, 5, 2, 0)),
  (30, (.istore_n 2, 31, 0, 0, 0)),
  (31, (.iload_n 2, 32, 0, 0, 0)),
  (32, (.ifCond .le 37, 35, 69, 0, 0)),
  (35, (.aload_n 0, 36, 0, 0, 0)),
  (36, (.getfield 16, 39, 5, 1, 0)),
  (39, (.iconst 0, 40, 0, 0, 0)),
  (40, (.iaload, 41, 0, 0, 0)),
  (41, (.bipush 45, 43, 0, 0, 45)),
  (43, (.if_icmp .lt 26, 46, 69, 0, 0)),
  (46, (.aload_n 1, 47, 0, 0, 0)),
  (47, (.bipush 9, 49, 0, 0, 9)),
  (49, (.aload_n 0, 50, 0, 0, 0)),
  (50, (.getfield 13, 53, 5, 0, 0)),
  (53, (.iconst 0, 54, 0, 0, 0)),
  (54, (.aaload, 55, 0, 0, 0)),
  (55, (.invokevirtual 41, 58, 69, 2, 0)),
  (58, (.aload_n 0, 59, 0, 0, 0)),
  (59, (.iconst 0, 60, 0, 0, 0)),
  (60, (.invokevirtual 47, 63, 90, 1, 0)),
  (63, (.iinc 2 (-1), 66, 0, 0, (-1))),
  (66, (.goto (-35), 69, 31, 0, 0)),
  (69, (.return_, 70, 0, 0, 0))]
def xB147 : List (Nat × xm_row) := [(0, (.aload_n 0, 1, 0, 0, 0)),
  (1, (.invokevirtual 86, 4, 139, 0, 0)),
  (4, (.iconst 1, 5, 0, 0, 1)),
  (5, (.if_icmp .eq 4, 8, 9, 0, 0)),
  (8, (.return_, 9, 0, 0, 0)),
  (9, (.aload_n 0, 10, 0, 0, 0)),
  (10, (.dup, 11, 0, 0, 0)),
  (11, (.getfield 51, 14, 7, 6, 0)),
  (14, (.iconst 1, 15, 0, 0, 1)),
  (15, (.iadd, 16, 0, 0, 0)),
  (16, (.putfield 51, 19, 7, 6, 0)),
  (19, (.aload_n 0, 20, 0, 0, 0)),
  (20, (.getfield 51, 23, 7, 6, 0)),
  (23, (.bipush 30, 25, 0, 0, 30)),
  (25, (.if_icmp .lt 17, 28, 42, 0, 0)),
  (28, (.aload_n 0, 29, 0, 0, 0)),
  (29, (.getfield 12, 32, 7, 1, 0)),
  (32, (.iconst 0, 33, 0, 0, 0)),
  (33, (.invokevirtual 105, 36, 143, 1, 0)),
  (36, (.aload_n 0, 37, 0, 0, 0)),
  (37, (.iconst 3, 38, 0, 0, 3)),
  (38, (.invokevirtual 82, 41, 14, 1, 0)),
  (41, (.pop, 42, 0, 0, 0)),
  (42, (.return_, 43, 0, 0, 0))]
def xB148 : List (Nat × xm_row) := [(0, (.aload_n 0, 1, 0, 0, 0)),
  (1, (.getfield 28, 4, 6, 4, 0)),
  (4, (.ifCond .ne 4, 7, 8, 0, 0)),
  (7, (.return_, 8, 0, 0, 0)),
  (8, (.aload_n 0, 9, 0, 0, 0)),
  (9, (.dup, 10, 0, 0, 0)),
  (10, (.getfield 64, 13, 6, 5, 0)),
  (13, (.iconst 1, 14, 0, 0, 1)),
  (14, (.iadd, 15, 0, 0, 0)),
  (15, (.putfield 64, 18, 6, 5, 0)),
  (18, (.aload_n 0, 19, 0, 0, 0)),
  (19, (.getfield 28, 22, 6, 4, 0)),
  (22, (.iconst 1, 23, 0, 0, 1)),
  (23, (.if_icmp .ne 14, 26, 37, 0, 0)),
  (26, (.aload_n 0, 27, 0, 0, 0)),
  (27, (.getfield 54, 30, 6, 6, 0)),
  (30, (.ifCond .eq 7, 33, 37, 0, 0)),
  (33, (.iconst 1, 34, 0, 0, 1)),
  (34, (.goto 4, 37, 38, 0, 0)),
  (37, (.iconst 0, 38, 0, 0, 0)),
  (38, (.istore_n 1, 39, 0, 0, 0)),
  (39, (.aload_n 0, 40, 0, 0, 0)),
  (40, (.getfield 64, 43, 6, 5, 0)),
  (43, (.iload_n 1, 44, 0, 0, 0)),
  (44, (.ifCond .eq 7, 47, 51, 0, 0)),
  (47, (.iconst 2, 48, 0, 0, 2)),
  (48, (.goto 4, 51, 52, 0, 0)),
  (51, (.iconst 5, 52, 0, 0, 5)),
  (52, (.if_icmp .ge 4, 55, 56, 0, 0)),
  (55, (.return_, 56, 0, 0, 0)),
  (56, (.aload_n 0, 57, 0, 0, 0)),
  (57, (.getfield 28, 60, 6, 4, 0)),
  (60, (.iconst 1, 61, 0, 0, 1)),
  (61, (.if_icmp .ne 12, 64, 73, 0, 0)),
  (64, (.aload_n 0, 65, 0, 0, 0)),
  (65, (.bipush 21, 67, 0, 0, 21)),
  (67, (.invokevirtual 81, 70, 50, 1, 0)),
  (70, (.goto 7, 73, 77, 0, 0)),
  (73, (.aload_n 0, 74, 0, 0, 0)),
  (74, (.invokevirtual 100, 77, 57, 0, 0)),
  (77, (.return_, 78, 0, 0, 0))]
def xB149 : List (Nat × xm_row) := [(0, (.iload_n 1, 1, 0, 0, 0)),
  (1, (.aload_n 0, 2, 0, 0, 0)),
  (2, (.getfield 44, 5, 0, 4, 0)),
  (5, (.invokevirtual 94, 8, 65, 0, 0)),
  (8, (.if_icmp .ne 13, 11, 21, 0, 0)),
  (11, (.new 97, 14, 999, 0, 0)),
  (14, (.dup, 15, 0, 0, 0)),
  (15, (.ldc 99, 17, 9, 900, 0)),
  (17, (.invokespecial 101, 20, 999, 0, 0)),
  (20, (.athrow, 21, 0, 0, 0)),
  (21, (.aload_n 0, 22, 0, 0, 0)),
  (22, (.getfield 44, 25, 0, 4, 0)),
  (25, (.iload_n 1, 26, 0, 0, 0)),
  (26, (.invokevirtual 102, 29, 150, 1, 0)),
  (29, (.aload_n 0, 30, 0, 0, 0)),
  (30, (.getfield 35, 33, 0, 3, 0)),
  (33, (.invokevirtual 83, 36, 38, 0, 0)),
  (36, (.return_, 37, 0, 0, 0))]
def xB150 : List (Nat × xm_row) := [(0, (.aload_n 0, 1, 0, 0, 0)),
  (1, (.iload_n 1, 2, 0, 0, 0)),
  (2, (.putfield 33, 5, 7, 3, 0)),
  (5, (.aload_n 0, 6, 0, 0, 0)),
  (6, (.iconst 0, 7, 0, 0, 0)),
  (7, (.putfield 37, 10, 7, 4, 0)),
  (10, (.iload_n 1, 11, 0, 0, 0)),
  (11, (.ifCond .eq 32, 14, 43, 0, 0)),
  (14, (.aload_n 0, 15, 0, 0, 0)),
  (15, (.getfield 29, 18, 7, 0, 0)),
  (18, (.invokevirtual 54, 21, 18, 0, 0)),
  (21, (.invokevirtual 60, 24, 109, 0, 0)),
  (24, (.aload_n 0, 25, 0, 0, 0)),
  (25, (.getfield 29, 28, 7, 0, 0)),
  (28, (.sipush 129, 31, 0, 0, 129)),
  (31, (.bipush 13, 33, 0, 0, 13)),
  (33, (.aload_n 0, 34, 0, 0, 0)),
  (34, (.getfield 29, 37, 7, 0, 0)),
  (37, (.invokevirtual 67, 40, 30, 0, 0)),
  (40, (.invokevirtual 70, 43, 31, 3, 0)),
  (43, (.return_, 44, 0, 0, 0))]
def xB151 : List (Nat × xm_row) := [(0, (.iload_n 1, 1, 0, 0, 0)),
  (1, (.ifCond .eq 23, 4, 24, 0, 0)),
  (4, (.iload_n 1, 5, 0, 0, 0)),
  (5, (.iconst 2, 6, 0, 0, 2)),
  (6, (.if_icmp .eq 18, 9, 24, 0, 0)),
  (9, (.iload_n 1, 10, 0, 0, 0)),
  (10, (.iconst 3, 11, 0, 0, 3)),
  (11, (.if_icmp .eq 13, 14, 24, 0, 0)),
  (14, (.new 61, 17, 999, 0, 0)),
  (17, (.dup, 18, 0, 0, 0)),
  (18, (.ldc 106, 20, 10, 900, 0)),
  (20, (.invokespecial 65, 23, 999, 0, 0)),
  (23, (.athrow, 24, 0, 0, 0)),
  (24, (.aload_n 0, 25, 0, 0, 0)),
  (25, (.getfield 44, 28, 0, 4, 0)),
  (28, (.iload_n 1, 29, 0, 0, 0)),
  (29, (.invokevirtual 108, 32, 152, 1, 0)),
  (32, (.aload_n 0, 33, 0, 0, 0)),
  (33, (.getfield 35, 36, 0, 3, 0)),
  (36, (.invokevirtual 83, 39, 38, 0, 0)),
  (39, (.return_, 40, 0, 0, 0))]
def xB152 : List (Nat × xm_row) := [(0, (.iload_n 1, 1, 0, 0, 0)),
  (1, (.ifCond .eq 8, 4, 9, 0, 0)),
  (4, (.aload_n 0, 5, 0, 0, 0)),
  (5, (.iload_n 1, 6, 0, 0, 0)),
  (6, (.putfield 25, 9, 7, 5, 0)),
  (9, (.aload_n 0, 10, 0, 0, 0)),
  (10, (.iload_n 1, 11, 0, 0, 0)),
  (11, (.invokevirtual 74, 14, 116, 1, 0)),
  (14, (.return_, 15, 0, 0, 0))]
def xB153 : List (Nat × xm_row) := [(0, (.aload_n 0, 1, 0, 0, 0)),
  (1, (.getfield 10, 4, 0, 0, 0)),
  (4, (.iload_n 1, 5, 0, 0, 0)),
  (5, (.invokevirtual 115, 8, 154, 1, 0)),
  (8, (.ifCond .ne 13, 11, 21, 0, 0)),
  (11, (.new 118, 14, 999, 0, 0)),
  (14, (.dup, 15, 0, 0, 0)),
  (15, (.ldc 120, 17, 11, 900, 0)),
  (17, (.invokespecial 122, 20, 999, 0, 0)),
  (20, (.athrow, 21, 0, 0, 0)),
  (21, (.aload_n 0, 22, 0, 0, 0)),
  (22, (.getfield 10, 25, 0, 0, 0)),
  (25, (.iload_n 1, 26, 0, 0, 0)),
  (26, (.invokevirtual 123, 29, 155, 1, 0)),
  (29, (.ireturn, 30, 0, 0, 0))]
def xB154 : List (Nat × xm_row) := [(0, (.iload_n 1, 1, 0, 0, 0)),
  (1, (.ifCond .lt 27, 4, 28, 0, 0)),
  (4, (.iload_n 1, 5, 0, 0, 0)),
  (5, (.aload_n 0, 6, 0, 0, 0)),
  (6, (.getfield 13, 9, 1, 1, 0)),
  (9, (.if_icmp .ge 19, 12, 28, 0, 0)),
  (12, (.aload_n 0, 13, 0, 0, 0)),
  (13, (.getfield 13, 16, 1, 1, 0)),
  (16, (.iload_n 1, 17, 0, 0, 0)),
  (17, (.isub, 18, 0, 0, 0)),
  (18, (.sipush 501, 21, 0, 0, 501)),
  (21, (.if_icmp .gt 7, 24, 28, 0, 0)),
  (24, (.iconst 1, 25, 0, 0, 1)),
  (25, (.goto 4, 28, 29, 0, 0)),
  (28, (.iconst 0, 29, 0, 0, 0)),
  (29, (.ireturn, 30, 0, 0, 0))]
def xB155 : List (Nat × xm_row) := [(0, (.aload_n 0, 1, 0, 0, 0)),
  (1, (.iload_n 1, 2, 0, 0, 0)),
  (2, (.invokevirtual 23, 5, 154, 1, 0)),
  (5, (.ifCond .eq 16, 8, 21, 0, 0)),
  (8, (.aload_n 0, 9, 0, 0, 0)),
  (9, (.getfield 9, 12, 1, 0, 0)),
  (12, (.iload_n 1, 13, 0, 0, 0)),
  (13, (.sipush 501, 16, 0, 0, 501)),
  (16, (.irem, 17, 0, 0, 0)),
  (17, (.iaload, 18, 0, 0, 0)),
  (18, (.goto 4, 21, 22, 0, 0)),
  (21, (.iconst 0, 22, 0, 0, 0)),
  (22, (.ireturn, 23, 0, 0, 0))]
def xB156 : List (Nat × xm_row) := [(0, (.iload_n 1, 1, 0, 0, 0)),
  (1, (.tableswitch 111 0 7 #[47, 55, 63, 71, 79, 87, 95, 103], 48, 0, 47, 0)),
  (48, (.aload_n 0, 49, 0, 0, 0)),
  (49, (.getfield 35, 52, 0, 3, 0)),
  (52, (.invokevirtual 127, 55, 157, 0, 0)),
  (55, (.ireturn, 56, 0, 0, 0)),
  (56, (.aload_n 0, 57, 0, 0, 0)),
  (57, (.getfield 44, 60, 0, 4, 0)),
  (60, (.invokevirtual 130, 63, 158, 0, 0)),
  (63, (.ireturn, 64, 0, 0, 0)),
  (64, (.aload_n 0, 65, 0, 0, 0)),
  (65, (.getfield 44, 68, 0, 4, 0)),
  (68, (.invokevirtual 133, 71, 117, 0, 0)),
  (71, (.ireturn, 72, 0, 0, 0)),
  (72, (.aload_n 0, 73, 0, 0, 0)),
  (73, (.getfield 44, 76, 0, 4, 0)),
  (76, (.invokevirtual 136, 79, 139, 0, 0)),
  (79, (.ireturn, 80, 0, 0, 0)),
  (80, (.aload_n 0, 81, 0, 0, 0)),
  (81, (.getfield 44, 84, 0, 4, 0)),
  (84, (.invokevirtual 139, 87, 159, 0, 0)),
  (87, (.ireturn, 88, 0, 0, 0)),
  (88, (.aload_n 0, 89, 0, 0, 0)),
  (89, (.getfield 19, 92, 0, 1, 0)),
  (92, (.invokevirtual 142, 95, 39, 0, 0)),
  (95, (.ireturn, 96, 0, 0, 0)),
  (96, (.aload_n 0, 97, 0, 0, 0)),
  (97, (.getfield 26, 100, 0, 2, 0)),
  (100, (.invokevirtual 143, 103, 160, 0, 0)),
  (103, (.ireturn, 104, 0, 0, 0)),
  (104, (.aload_n 0, 105, 0, 0, 0)),
  (105, (.getfield 19, 108, 0, 1, 0)),
  (108, (.invokevirtual 144, 111, 161, 0, 0)),
  (111, (.ireturn, 112, 0, 0, 0)),
  (112, (.new 61, 115, 999, 0, 0)),
  (115, (.dup, 116, 0, 0, 0)),
  (116, (.ldc 147, 118, 12, 900, 0)),
  (118, (.invokespecial 65, 121, 999, 0, 0)),
  (121, (.athrow, 122, 0, 0, 0))]
def xB157 : List (Nat × xm_row) := [(0, (.aload_n 0, 1, 0, 0, 0)),
  (1, (.getfield 28, 4, 6, 4, 0)),
  (4, (.ireturn, 5, 0, 0, 0))]
def xB158 : List (Nat × xm_row) := [(0, (.aload_n 0, 1, 0, 0, 0)),
  (1, (.getfield 33, 4, 7, 3, 0)),
  (4, (.ifCond .ne 5, 7, 9, 0, 0)),
  (7, (.iconst 0, 8, 0, 0, 0)),
  (8, (.ireturn, 9, 0, 0, 0)),
  (9, (.aload_n 0, 10, 0, 0, 0)),
  (10, (.getfield 37, 13, 7, 4, 0)),
  (13, (.ifCond .eq 7, 16, 20, 0, 0)),
  (16, (.iconst 2, 17, 0, 0, 2)),
  (17, (.goto 4, 20, 21, 0, 0)),
  (20, (.iconst 1, 21, 0, 0, 1)),
  (21, (.ireturn, 22, 0, 0, 0))]
def xB159 : List (Nat × xm_row) := [(0, (.aload_n 0, 1, 0, 0, 0)),
  (1, (.getfield 51, 4, 7, 6, 0)),
  (4, (.ireturn, 5, 0, 0, 0))]
def xB160 : List (Nat × xm_row) := [(0, (.aload_n 0, 1, 0, 0, 0)),
  (1, (.getfield 20, 4, 5, 2, 0)),
  (4, (.ireturn, 5, 0, 0, 0))]
def xB161 : List (Nat × xm_row) := [(0, (.aload_n 0, 1, 0, 0, 0)),
  (1, (.getfield 29, 4, 2, 4, 0)),
  (4, (.ireturn, 5, 0, 0, 0))]
def xB162 : List (Nat × xm_row) := [(0, (.iload_n 1, 1, 0, 0, 0)),
  (1, (.invokestatic 149, 4, 26, 1, 0)),
  (4, (.ifCond .ne 13, 7, 17, 0, 0)),
  (7, (.new 118, 10, 999, 0, 0)),
  (10, (.dup, 11, 0, 0, 0)),
  (11, (.ldc 154, 13, 13, 900, 0)),
  (13, (.invokespecial 122, 16, 999, 0, 0)),
  (16, (.athrow, 17, 0, 0, 0)),
  (17, (.aload_n 0, 18, 0, 0, 0)),
  (18, (.getfield 44, 21, 0, 4, 0)),
  (21, (.invokevirtual 156, 24, 125, 0, 0)),
  (24, (.iload_n 1, 25, 0, 0, 0)),
  (25, (.invokevirtual 160, 28, 25, 1, 0)),
  (28, (.ireturn, 29, 0, 0, 0))]
def xB163 : List (Nat × xm_row) := [(0, (.iload_n 1, 1, 0, 0, 0)),
  (1, (.invokestatic 163, 4, 16, 1, 0)),
  (4, (.ifCond .ne 13, 7, 17, 0, 0)),
  (7, (.new 118, 10, 999, 0, 0)),
  (10, (.dup, 11, 0, 0, 0)),
  (11, (.ldc 166, 13, 14, 900, 0)),
  (13, (.invokespecial 122, 16, 999, 0, 0)),
  (16, (.athrow, 17, 0, 0, 0)),
  (17, (.aload_n 0, 18, 0, 0, 0)),
  (18, (.getfield 44, 21, 0, 4, 0)),
  (21, (.invokevirtual 156, 24, 125, 0, 0)),
  (24, (.astore_n 2, 25, 0, 0, 0)),
  (25, (.aload_n 2, 26, 0, 0, 0)),
  (26, (.iload_n 1, 27, 0, 0, 0)),
  (27, (.invokevirtual 168, 30, 23, 1, 0)),
  (30, (.aload_n 2, 31, 0, 0, 0)),
  (31, (.iload_n 1, 32, 0, 0, 0)),
  (32, (.invokevirtual 171, 35, 164, 1, 0)),
  (35, (.ifCond .eq 8, 38, 43, 0, 0)),
  (38, (.bipush 10, 40, 0, 0, 10)),
  (40, (.goto 4, 43, 44, 0, 0)),
  (43, (.iconst 0, 44, 0, 0, 0)),
  (44, (.iadd, 45, 0, 0, 0)),
  (45, (.ireturn, 46, 0, 0, 0))]
def xB164 : List (Nat × xm_row) := [(0, (.iload_n 1, 1, 0, 0, 0)),
  (1, (.invokestatic 32, 4, 16, 1, 0)),
  (4, (.ifCond .eq 16, 7, 20, 0, 0)),
  (7, (.aload_n 0, 8, 0, 0, 0)),
  (8, (.getfield 24, 11, 9, 4, 0)),
  (11, (.iload_n 1, 12, 0, 0, 0)),
  (12, (.baload, 13, 0, 0, 0)),
  (13, (.ifCond .eq 7, 16, 20, 0, 0)),
  (16, (.iconst 1, 17, 0, 0, 1)),
  (17, (.goto 4, 20, 21, 0, 0)),
  (20, (.iconst 0, 21, 0, 0, 0)),
  (21, (.ireturn, 22, 0, 0, 0))]
def xB165 : List (Nat × xm_row) := [(0, (.iload_n 1, 1, 0, 0, 0)),
  (1, (.invokestatic 173, 4, 29, 1, 0)),
  (4, (.ifCond .ne 13, 7, 17, 0, 0)),
  (7, (.new 118, 10, 999, 0, 0)),
  (10, (.dup, 11, 0, 0, 0)),
  (11, (.ldc 178, 13, 15, 900, 0)),
  (13, (.invokespecial 122, 16, 999, 0, 0)),
  (16, (.athrow, 17, 0, 0, 0)),
  (17, (.aload_n 0, 18, 0, 0, 0)),
  (18, (.getfield 44, 21, 0, 4, 0)),
  (21, (.invokevirtual 180, 24, 113, 0, 0)),
  (24, (.iload_n 1, 25, 0, 0, 0)),
  (25, (.invokevirtual 184, 28, 166, 1, 0)),
  (28, (.ireturn, 29, 0, 0, 0))]
def xB166 : List (Nat × xm_row) := [(0, (.iload_n 1, 1, 0, 0, 0)),
  (1, (.invokestatic 23, 4, 29, 1, 0)),
  (4, (.ifCond .eq 12, 7, 16, 0, 0)),
  (7, (.aload_n 0, 8, 0, 0, 0)),
  (8, (.getfield 11, 11, 8, 0, 0)),
  (11, (.iload_n 1, 12, 0, 0, 0)),
  (12, (.iaload, 13, 0, 0, 0)),
  (13, (.goto 4, 16, 17, 0, 0)),
  (16, (.iconst 0, 17, 0, 0, 0)),
  (17, (.ireturn, 18, 0, 0, 0))]
def xB167 : List (Nat × xm_row) := [(0, (.iload_n 1, 1, 0, 0, 0)),
  (1, (.invokestatic 173, 4, 29, 1, 0)),
  (4, (.ifCond .eq 18, 7, 22, 0, 0)),
  (7, (.aload_n 0, 8, 0, 0, 0)),
  (8, (.getfield 44, 11, 0, 4, 0)),
  (11, (.invokevirtual 180, 14, 113, 0, 0)),
  (14, (.iload_n 1, 15, 0, 0, 0)),
  (15, (.iload_n 2, 16, 0, 0, 0)),
  (16, (.invokevirtual 187, 19, 168, 2, 0)),
  (19, (.ifCond .ne 13, 22, 32, 0, 0)),
  (22, (.new 118, 25, 999, 0, 0)),
  (25, (.dup, 26, 0, 0, 0)),
  (26, (.ldc 191, 28, 16, 900, 0)),
  (28, (.invokespecial 122, 31, 999, 0, 0)),
  (31, (.athrow, 32, 0, 0, 0)),
  (32, (.aload_n 0, 33, 0, 0, 0)),
  (33, (.getfield 44, 36, 0, 4, 0)),
  (36, (.invokevirtual 180, 39, 113, 0, 0)),
  (39, (.iload_n 1, 40, 0, 0, 0)),
  (40, (.iload_n 2, 41, 0, 0, 0)),
  (41, (.invokevirtual 193, 44, 169, 2, 0)),
  (44, (.ireturn, 45, 0, 0, 0))]
def xB168 : List (Nat × xm_row) := [(0, (.iload_n 1, 1, 0, 0, 0)),
  (1, (.invokestatic 23, 4, 29, 1, 0)),
  (4, (.ifCond .eq 21, 7, 25, 0, 0)),
  (7, (.iload_n 2, 8, 0, 0, 0)),
  (8, (.ifCond .lt 17, 11, 25, 0, 0)),
  (11, (.iload_n 2, 12, 0, 0, 0)),
  (12, (.aload_n 0, 13, 0, 0, 0)),
  (13, (.getfield 15, 16, 8, 1, 0)),
  (16, (.iload_n 1, 17, 0, 0, 0)),
  (17, (.iaload, 18, 0, 0, 0)),
  (18, (.if_icmp .ge 7, 21, 25, 0, 0)),
  (21, (.iconst 1, 22, 0, 0, 1)),
  (22, (.goto 4, 25, 26, 0, 0)),
  (25, (.iconst 0, 26, 0, 0, 0)),
  (26, (.ireturn, 27, 0, 0, 0))]
def xB169 : List (Nat × xm_row) := [(0, (.aload_n 0, 1, 0, 0, 0)),
  (1, (.iload_n 1, 2, 0, 0, 0)),
  (2, (.iload_n 2, 3, 0, 0, 0)),
  (3, (.invokevirtual 27, 6, 168, 2, 0)),
  (6, (.ifCond .eq 14, 9, 20, 0, 0)),
  (9, (.aload_n 0, 10, 0, 0, 0)),
  (10, (.getfield 20, 13, 8, 2, 0)),
  (13, (.iload_n 1, 14, 0, 0, 0)),
  (14, (.aaload, 15, 0, 0, 0)),
  (15, (.iload_n 2, 16, 0, 0, 0)),
  (16, (.iaload, 17, 0, 0, 0)),
  (17, (.goto 4, 20, 21, 0, 0)),
  (20, (.iconst 0, 21, 0, 0, 0)),
  (21, (.ireturn, 22, 0, 0, 0))]
def xB170 : List (Nat × xm_row) := [(0, (.aload_n 0, 1, 0, 0, 0)),
  (1, (.invokespecial 1, 4, 900, 0, 0)),
  (4, (.aload_n 0, 5, 0, 0, 0)),
  (5, (.sipush 140, 8, 0, 0, 140)),
  (8, (.newarray .int, 10, 0, 0, 0)),
  (10, (.putfield 7, 13, 12, 4, 0)),
  (13, (.aload_n 0, 14, 0, 0, 0)),
  (14, (.sipush 512, 17, 0, 0, 512)),
  (17, (.newarray .int, 19, 0, 0, 0)),
  (19, (.putfield 13, 22, 12, 6, 0)),
  (22, (.aload_n 0, 23, 0, 0, 0)),
  (23, (.sipush 1040, 26, 0, 0, 1040)),
  (26, (.newarray .int, 28, 0, 0, 0)),
  (28, (.putfield 16, 31, 12, 8, 0)),
  (31, (.aload_n 0, 32, 0, 0, 0)),
  (32, (.bipush 8, 34, 0, 0, 8)),
  (34, (.newarray .int, 36, 0, 0, 0)),
  (36, (.putfield 19, 39, 12, 9, 0)),
  (39, (.aload_n 0, 40, 0, 0, 0)),
  (40, (.bipush 8, 42, 0, 0, 8)),
  (42, (.newarray .int, 44, 0, 0, 0)),
  (44, (.putfield 22, 47, 12, 10, 0)),
  (47, (.aload_n 0, 48, 0, 0, 0)),
  (48, (.bipush 80, 50, 0, 0, 80)),
  (50, (.newarray .int, 52, 0, 0, 0)),
  (52, (.putfield 25, 55, 12, 14, 0)),
  (55, (.aload_n 0, 56, 0, 0, 0)),
  (56, (.bipush 8, 58, 0, 0, 8)),
  (58, (.newarray .int, 60, 0, 0, 0)),
  (60, (.putfield 28, 63, 12, 15, 0)),
  (63, (.aload_n 0, 64, 0, 0, 0)),
  (64, (.sipush 500, 67, 0, 0, 500)),
  (67, (.newarray .int, 69, 0, 0, 0)),
  (69, (.putfield 31, 72, 12, 17, 0)),
  (72, (.aload_n 0, 73, 0, 0, 0)),
  (73, (.iconst 3, 74, 0, 0, 3)),
  (74, (.putfield 34, 77, 12, 21, 0)),
  (77, (.aload_n 0, 78, 0, 0, 0)),
  (78, (.bipush 6, 80, 0, 0, 6)),
  (80, (.newarray .int, 82, 0, 0, 0)),
  (82, (.putfield 38, 85, 12, 24, 0)),
  (85, (.aload_n 0, 86, 0, 0, 0)),
  (86, (.bipush 6, 88, 0, 0, 6)),
  (88, (.newarray .int, 90, 0, 0, 0)),
  (90, (.putfield 41, 93, 12, 25, 0)),
  (93, (.aload_n 0, 94, 0, 0, 0)),
  (94, (.bipush 48, 96, 0, 0, 48)),
  (96, (.newarray .int, 98, 0, 0, 0)),
  (98, (.putfield 44, 101, 12, 26, 0)),
  (101, (.aload_n 0, 102, 0, 0, 0)),
  (102, (.iconst 5, 103, 0, 0, 5)),
  (103, (.newarray .int, 105, 0, 0, 0)),
  (105, (.putfield 47, 108, 12, 27, 0)),
  (108, (.aload_n 0, 109, 0, 0, 0)),
  (109, (.bipush 15, 111, 0, 0, 15)),
  (111, (.newarray .int, 113, 0, 0, 0)),
  (113, (.putfield 50, 116, 12, 28, 0)),
  (116, (.aload_n 0, 117, 0, 0, 0)),
  (117, (.bipush 6, 119, 0, 0, 6)),
  (119, (.newarray .int, 121, 0, 0, 0)),
  (121, (.putfield 53, 124, 12, 29, 0)),
  (124, (.aload_n 0, 125, 0, 0, 0)),
  (125, (.bipush 12, 127, 0, 0, 12)),
  (127, (.newarray .int, 129, 0, 0, 0)),
  (129, (.putfield 56, 132, 12, 30, 0)),
  (132, (.aload_n 0, 133, 0, 0, 0)),
  (133, (.bipush 6, 135, 0, 0, 6)),
  (135, (.newarray .boolean, 137, 2, 0, 0)),
  (137, (.putfield 59, 140, 12, 31, 0)),
  (140, (.aload_n 0, 141, 0, 0, 0)),
  (141, (.bipush 8, 143, 0, 0, 8)),
  (143, (.newarray .int, 145, 0, 0, 0)),
  (145, (.putfield 63, 148, 12, 33, 0)),
  (148, (.iconst 0, 149, 0, 0, 0)),
  (149, (.istore_n 1, 150, 0, 0, 0)),
  (150, (.iload_n 1, 151, 0, 0, 0)),
  (151, (.bipush 6, 153, 0, 0, 6)),
  (153, (.if_icmp .ge 24, 156, 177, 0, 0)),
  (156, (.aload_n 0, 157, 0, 0, 0)),
  (157, (.getfield 38, 160, 12, 24, 0)),
  (160, (.iload_n 1, 161, 0, 0, 0)),
  (161, (.bipush 41, 163, 0, 0, 41)),
  (163, (.iastore, 164, 0, 0, 0)),
  (164, (.aload_n 0, 165, 0, 0, 0)),
  (165, (.getfield 41, 168, 12, 25, 0)),
  (168, (.iload_n 1, 169, 0, 0, 0)),
  (169, (.iconst 1, 170, 0, 0, 1)),
  (170, (.iastore, 171, 0, 0, 0)),
  (171, (.iinc 1 1, 174, 0, 0, 1)),
  (174, (.goto (-24), 177, 150, 0, 0)),
  (177, (.return_, 178, 0, 0, 0))]
def xB171 : List (Nat × xm_row) := [(0, (.aload_n 0, 1, 0, 0, 0)),
  (1, (.getfield 66, 4, 12, 0, 0)),
  (4, (.ireturn, 5, 0, 0, 0))]
def xB172 : List (Nat × xm_row) := [(0, (.aload_n 0, 1, 0, 0, 0)),
  (1, (.iload_n 1, 2, 0, 0, 0)),
  (2, (.ifCond .lt 10, 5, 12, 0, 0)),
  (5, (.iload_n 1, 6, 0, 0, 0)),
  (6, (.sipush 255, 9, 0, 0, 255)),
  (9, (.if_icmp .le 7, 12, 16, 0, 0)),
  (12, (.iconst 1, 13, 0, 0, 1)),
  (13, (.goto 4, 16, 17, 0, 0)),
  (16, (.iconst 0, 17, 0, 0, 0)),
  (17, (.putfield 66, 20, 12, 0, 0)),
  (20, (.aload_n 0, 21, 0, 0, 0)),
  (21, (.getfield 66, 24, 12, 0, 0)),
  (24, (.ifCond .eq 5, 27, 29, 0, 0)),
  (27, (.iconst 0, 28, 0, 0, 0)),
  (28, (.ireturn, 29, 0, 0, 0)),
  (29, (.aload_n 0, 30, 0, 0, 0)),
  (30, (.getfield 69, 33, 12, 5, 0)),
  (33, (.istore_n 2, 34, 0, 0, 0)),
  (34, (.aload_n 0, 35, 0, 0, 0)),
  (35, (.getfield 72, 38, 12, 1, 0)),
  (38, (.ifCond .ne 26, 41, 64, 0, 0)),
  (41, (.iload_n 1, 42, 0, 0, 0)),
  (42, (.iconst 5, 43, 0, 0, 5)),
  (43, (.if_icmp .ne 74, 46, 117, 0, 0)),
  (46, (.aload_n 0, 47, 0, 0, 0)),
  (47, (.iconst 4, 48, 0, 0, 4)),
  (48, (.invokevirtual 81, 51, 173, 1, 0)),
  (51, (.aload_n 0, 52, 0, 0, 0)),
  (52, (.iconst 0, 53, 0, 0, 0)),
  (53, (.putfield 272, 56, 12, 3, 0)),
  (56, (.aload_n 0, 57, 0, 0, 0)),
  (57, (.iconst 1, 58, 0, 0, 1)),
  (58, (.invokevirtual 85, 61, 174, 1, 0)),
  (61, (.goto 56, 64, 117, 0, 0)),
  (64, (.aload_n 0, 65, 0, 0, 0)),
  (65, (.getfield 72, 68, 12, 1, 0)),
  (68, (.iconst 1, 69, 0, 0, 1)),
  (69, (.if_icmp .ne 11, 72, 80, 0, 0)),
  (72, (.aload_n 0, 73, 0, 0, 0)),
  (73, (.iload_n 1, 74, 0, 0, 0)),
  (74, (.invokevirtual 278, 77, 175, 1, 0)),
  (77, (.goto 40, 80, 117, 0, 0)),
  (80, (.aload_n 0, 81, 0, 0, 0)),
  (81, (.getfield 72, 84, 12, 1, 0)),
  (84, (.iconst 2, 85, 0, 0, 2)),
  (85, (.if_icmp .ne 15, 88, 100, 0, 0)),
  (88, (.iload_n 1, 89, 0, 0, 0)),
  (89, (.iconst 4, 90, 0, 0, 4)),
  (90, (.if_icmp .ne 27, 93, 117, 0, 0)),
  (93, (.aload_n 0, 94, 0, 0, 0)),
  (94, (.invokevirtual 281, 97, 224, 0, 0)),
  (97, (.goto 20, 100, 117, 0, 0)),
  (100, (.iload_n 1, 101, 0, 0, 0)),
  (101, (.bipush 6, 103, 0, 0, 6)),
  (103, (.if_icmp .ne 10, 106, 113, 0, 0)),
  (106, (.aload_n 0, 107, 0, 0, 0)),
  (107, (.invokevirtual 284, 110, 225, 0, 0)),
  (110, (.goto 7, 113, 117, 0, 0)),
  (113, (.aload_n 0, 114, 0, 0, 0)),
  (114, (.invokevirtual 287, 117, 227, 0, 0)),
  (117, (.aload_n 0, 118, 0, 0, 0)),
  (118, (.invokevirtual 290, 121, 228, 0, 0)),
  (121, (.aload_n 0, 122, 0, 0, 0)),
  (122, (.getfield 69, 125, 12, 5, 0)),
  (125, (.iload_n 2, 126, 0, 0, 0)),
  (126, (.isub, 127, 0, 0, 0)),
  (127, (.ireturn, 128, 0, 0, 0))]
def xB173 : List (Nat × xm_row) := [(0, (.aload_n 0, 1, 0, 0, 0)),
  (1, (.getfield 13, 4, 12, 6, 0)),
  (4, (.aload_n 0, 5, 0, 0, 0)),
  (5, (.getfield 69, 8, 12, 5, 0)),
  (8, (.sipush 512, 11, 0, 0, 512)),
  (11, (.irem, 12, 0, 0, 0)),
  (12, (.iload_n 1, 13, 0, 0, 0)),
  (13, (.sipush 255, 16, 0, 0, 255)),
  (16, (.iand, 17, 0, 0, 0)),
  (17, (.iastore, 18, 0, 0, 0)),
  (18, (.aload_n 0, 19, 0, 0, 0)),
  (19, (.dup, 20, 0, 0, 0)),
  (20, (.getfield 69, 23, 12, 5, 0)),
  (23, (.iconst 1, 24, 0, 0, 1)),
  (24, (.iadd, 25, 0, 0, 0)),
  (25, (.putfield 69, 28, 12, 5, 0)),
  (28, (.return_, 29, 0, 0, 0))]
def xB174 : List (Nat × xm_row) := [(0, (.aload_n 0, 1, 0, 0, 0)),
  (1, (.iload_n 1, 2, 0, 0, 0)),
  (2, (.putfield 72, 5, 12, 1, 0)),
  (5, (.aload_n 0, 6, 0, 0, 0)),
  (6, (.iconst 0, 7, 0, 0, 0)),
  (7, (.putfield 75, 10, 12, 2, 0)),
  (10, (.return_, 11, 0, 0, 0))]
def xB175 : List (Nat × xm_row) := [(0, (.aload_n 0, 1, 0, 0, 0)),
  (1, (.getfield 7, 4, 12, 4, 0)),
  (4, (.aload_n 0, 5, 0, 0, 0)),
  (5, (.getfield 272, 8, 12, 3, 0)),
  (8, (.iload_n 1, 9, 0, 0, 0)),
  (9, (.iastore, 10, 0, 0, 0)),
  (10, (.aload_n 0, 11, 0, 0, 0)),
  (11, (.dup, 12, 0, 0, 0)),
  (12, (.getfield 272, 15, 12, 3, 0)),
  (15, (.iconst 1, 16, 0, 0, 1)),
  (16, (.iadd, 17, 0, 0, 0)),
  (17, (.putfield 272, 20, 12, 3, 0)),
  (20, (.aload_n 0, 21, 0, 0, 0)),
  (21, (.iconst 0, 22, 0, 0, 0)),
  (22, (.putfield 75, 25, 12, 2, 0)),
  (25, (.aload_n 0, 26, 0, 0, 0)),
  (26, (.getfield 272, 29, 12, 3, 0)),
  (29, (.iconst 1, 30, 0, 0, 1)),
  (30, (.if_icmp .ne 30, 33, 60, 0, 0)),
  (33, (.iload_n 1, 34, 0, 0, 0)),
  (34, (.bipush 10, 36, 0, 0, 10)),
  (36, (.if_icmp .lt 10, 39, 46, 0, 0)),
  (39, (.iload_n 1, 40, 0, 0, 0)),
  (40, (.sipush 130, 43, 0, 0, 130)),
  (43, (.if_icmp .le 17, 46, 60, 0, 0)),
  (46, (.aload_n 0, 47, 0, 0, 0)),
  (47, (.bipush 21, 49, 0, 0, 21)),
  (49, (.invokevirtual 81, 52, 173, 1, 0)),
  (52, (.aload_n 0, 53, 0, 0, 0)),
  (53, (.iconst 0, 54, 0, 0, 0)),
  (54, (.invokevirtual 85, 57, 174, 1, 0)),
  (57, (.goto 122, 60, 179, 0, 0)),
  (60, (.aload_n 0, 61, 0, 0, 0)),
  (61, (.getfield 272, 64, 12, 3, 0)),
  (64, (.aload_n 0, 65, 0, 0, 0)),
  (65, (.getfield 7, 68, 12, 4, 0)),
  (68, (.iconst 0, 69, 0, 0, 0)),
  (69, (.iaload, 70, 0, 0, 0)),
  (70, (.iconst 3, 71, 0, 0, 3)),
  (71, (.iadd, 72, 0, 0, 0)),
  (72, (.if_icmp .ne 107, 75, 179, 0, 0)),
  (75, (.aload_n 0, 76, 0, 0, 0)),
  (76, (.getfield 7, 79, 12, 4, 0)),
  (79, (.iconst 0, 80, 0, 0, 0)),
  (80, (.iaload, 81, 0, 0, 0)),
  (81, (.istore_n 2, 82, 0, 0, 0)),
  (82, (.iconst 0, 83, 0, 0, 0)),
  (83, (.istore_n 3, 84, 0, 0, 0)),
  (84, (.iconst 1, 85, 0, 0, 1)),
  (85, (.istore 4, 87, 0, 0, 0)),
  (87, (.iload 4, 89, 0, 0, 0)),
  (89, (.iload_n 2, 90, 0, 0, 0)),
  (90, (.if_icmp .gt 19, 93, 109, 0, 0)),
  (93, (.iload_n 3, 94, 0, 0, 0)),
  (94, (.aload_n 0, 95, 0, 0, 0)),
  (95, (.getfield 7, 98, 12, 4, 0)),
  (98, (.iload 4, 100, 0, 0, 0)),
  (100, (.iaload, 101, 0, 0, 0)),
  (101, (.iadd, 102, 0, 0, 0)),
  (102, (.istore_n 3, 103, 0, 0, 0)),
  (103, (.iinc 4 1, 106, 0, 0, 1)),
  (106, (.goto (-19), 109, 87, 0, 0)),
  (109, (.iload_n 3, 110, 0, 0, 0)),
  (110, (.ldc 103, 112, 0, 0, 65536)),
  (112, (.irem, 113, 0, 0, 0)),
  (113, (.sipush 256, 116, 0, 0, 256)),
  (116, (.aload_n 0, 117, 0, 0, 0)),
  (117, (.getfield 7, 120, 12, 4, 0)),
  (120, (.iload_n 2, 121, 0, 0, 0)),
  (121, (.iconst 1, 122, 0, 0, 1)),
  (122, (.iadd, 123, 0, 0, 0)),
  (123, (.iaload, 124, 0, 0, 0)),
  (124, (.imul, 125, 0, 0, 0)),
  (125, (.aload_n 0, 126, 0, 0, 0)),
  (126, (.getfield 7, 129, 12, 4, 0)),
  (129, (.iload_n 2, 130, 0, 0, 0)),
  (130, (.iconst 2, 131, 0, 0, 2)),
  (131, (.iadd, 132, 0, 0, 0)),
  (132, (.iaload, 133, 0, 0, 0)),
  (133, (.iadd, 134, 0, 0, 0)),
  (134, (.if_icmp .ne 7, 137, 141, 0, 0)),
  (137, (.iconst 1, 138, 0, 0, 1)),
  (138, (.goto 4, 141, 142, 0, 0)),
  (141, (.iconst 0, 142, 0, 0, 0)),
  (142, (.istore 4, 144, 0, 0, 0)),
  (144, (.aload_n 0, 145, 0, 0, 0)),
  (145, (.iload 4, 147, 0, 0, 0)),
  (147, (.ifCond .eq 8, 150, 155, 0, 0)),
  (150, (.bipush 6, 152, 0, 0, 6)),
  (152, (.goto 5, 155, 157, 0, 0)),
  (155, (.bipush 21, 157, 0, 0, 21)),
  (157, (.invokevirtual 81, 160, 173, 1, 0)),
  (160, (.aload_n 0, 161, 0, 0, 0)),
  (161, (.iconst 0, 162, 0, 0, 0)),
  (162, (.invokevirtual 85, 165, 174, 1, 0)),
  (165, (.aload_n 0, 166, 0, 0, 0)),
  (166, (.iload_n 2, 167, 0, 0, 0)),
  (167, (.putfield 144, 170, 12, 32, 0)),
  (170, (.iload 4, 172, 0, 0, 0)),
  (172, (.ifCond .eq 7, 175, 179, 0, 0)),
  (175, (.aload_n 0, 176, 0, 0, 0)),
  (176, (.invokevirtual 275, 179, 176, 0, 0)),
  (179, (.return_, 180, 0, 0, 0))]
def xB176 : List (Nat × xm_row) := [(0, (.aload_n 0, 1, 0, 0, 0)),
  (1, (.getfield 7, 4, 12, 4, 0)),
  (4, (.iconst 3, 5, 0, 0, 3)),
  (5, (.iaload, 6, 0, 0, 0)),
  (6, (.bipush 127, 8, 0, 0, 127)),
  (8, (.iand, 9, 0, 0, 0)),
  (9, (.istore_n 1, 10, 0, 0, 0)),
  (10, (.aload_n 0, 11, 0, 0, 0)),
  (11, (.getfield 7, 14, 12, 4, 0)),
  (14, (.iconst 4, 15, 0, 0, 4)),
  (15, (.iaload, 16, 0, 0, 0)),
  (16, (.istore_n 2, 17, 0, 0, 0)),
  (17, (.aload_n 0, 18, 0, 0, 0)),
  (18, (.getfield 263, 21, 12, 18, 0)),
  (21, (.ifCond .eq 15, 24, 36, 0, 0)),
  (24, (.aload_n 0, 25, 0, 0, 0)),
  (25, (.getfield 7, 28, 12, 4, 0)),
  (28, (.iconst 1, 29, 0, 0, 1)),
  (29, (.iaload, 30, 0, 0, 0)),
  (30, (.sipush 128, 33, 0, 0, 128)),
  (33, (.if_icmp .lt 4, 36, 37, 0, 0)),
  (36, (.return_, 37, 0, 0, 0)),
  (37, (.aload_n 0, 38, 0, 0, 0)),
  (38, (.getfield 7, 41, 12, 4, 0)),
  (41, (.iconst 1, 42, 0, 0, 1)),
  (42, (.iaload, 43, 0, 0, 0)),
  (43, (.ifCond .ne 13, 46, 56, 0, 0)),
  (46, (.aload_n 0, 47, 0, 0, 0)),
  (47, (.getfield 7, 50, 12, 4, 0)),
  (50, (.iconst 2, 51, 0, 0, 2)),
  (51, (.iaload, 52, 0, 0, 0)),
  (52, (.iconst 1, 53, 0, 0, 1)),
  (53, (.if_icmp .eq 12, 56, 65, 0, 0)),
  (56, (.aload_n 0, 57, 0, 0, 0)),
  (57, (.iconst 1, 58, 0, 0, 1)),
  (58, (.iconst (-1), 59, 0, 0, (-1))),
  (59, (.invokevirtual 245, 62, 177, 2, 0)),
  (62, (.goto 57, 65, 119, 0, 0)),
  (65, (.aload_n 0, 66, 0, 0, 0)),
  (66, (.getfield 7, 69, 12, 4, 0)),
  (69, (.iconst 5, 70, 0, 0, 5)),
  (70, (.iaload, 71, 0, 0, 0)),
  (71, (.sipush 128, 74, 0, 0, 128)),
  (74, (.if_icmp .ne 14, 77, 88, 0, 0)),
  (77, (.aload_n 0, 78, 0, 0, 0)),
  (78, (.getfield 7, 81, 12, 4, 0)),
  (81, (.bipush 6, 83, 0, 0, 6)),
  (83, (.iaload, 84, 0, 0, 0)),
  (84, (.iconst 1, 85, 0, 0, 1)),
  (85, (.if_icmp .eq 13, 88, 98, 0, 0)),
  (88, (.aload_n 0, 89, 0, 0, 0)),
  (89, (.bipush 11, 91, 0, 0, 11)),
  (91, (.iconst (-1), 92, 0, 0, (-1))),
  (92, (.invokevirtual 245, 95, 177, 2, 0)),
  (95, (.goto 24, 98, 119, 0, 0)),
  (98, (.iload_n 2, 99, 0, 0, 0)),
  (99, (.iconst 2, 100, 0, 0, 2)),
  (100, (.irem, 101, 0, 0, 0)),
  (101, (.ifCond .ne 12, 104, 113, 0, 0)),
  (104, (.aload_n 0, 105, 0, 0, 0)),
  (105, (.iload_n 1, 106, 0, 0, 0)),
  (106, (.iload_n 2, 107, 0, 0, 0)),
  (107, (.invokevirtual 266, 110, 182, 2, 0)),
  (110, (.goto 9, 113, 119, 0, 0)),
  (113, (.aload_n 0, 114, 0, 0, 0)),
  (114, (.iload_n 1, 115, 0, 0, 0)),
  (115, (.iload_n 2, 116, 0, 0, 0)),
  (116, (.invokevirtual 269, 119, 193, 2, 0)),
  (119, (.return_, 120, 0, 0, 0))]
def xB177 : List (Nat × xm_row) := [(0, (.aload_n 0, 1, 0, 0, 0)),
  (1, (.iconst 0, 2, 0, 0, 0)),
  (2, (.putfield 97, 5, 12, 16, 0)),
  (5, (.aload_n 0, 6, 0, 0, 0)),
  (6, (.bipush 8, 8, 0, 0, 8)),
  (8, (.bipush 10, 10, 0, 0, 10)),
  (10, (.invokevirtual 111, 13, 178, 2, 0)),
  (13, (.iconst 0, 14, 0, 0, 0)),
  (14, (.istore_n 3, 15, 0, 0, 0)),
  (15, (.iload_n 3, 16, 0, 0, 0)),
  (16, (.bipush 10, 18, 0, 0, 10)),
  (18, (.if_icmp .ge 36, 21, 54, 0, 0)),
  (21, (.aload_n 0, 22, 0, 0, 0)),
  (22, (.iload_n 2, 23, 0, 0, 0)),
  (23, (.ifCond .ge 14, 26, 37, 0, 0)),
  (26, (.aload_n 0, 27, 0, 0, 0)),
  (27, (.getfield 7, 30, 12, 4, 0)),
  (30, (.iconst 1, 31, 0, 0, 1)),
  (31, (.iload_n 3, 32, 0, 0, 0)),
  (32, (.iadd, 33, 0, 0, 0)),
  (33, (.iaload, 34, 0, 0, 0)),
  (34, (.goto 11, 37, 45, 0, 0)),
  (37, (.aload_n 0, 38, 0, 0, 0)),
  (38, (.getfield 25, 41, 12, 14, 0)),
  (41, (.iload_n 2, 42, 0, 0, 0)),
  (42, (.iload_n 3, 43, 0, 0, 0)),
  (43, (.iadd, 44, 0, 0, 0)),
  (44, (.iaload, 45, 0, 0, 0)),
  (45, (.invokevirtual 108, 48, 179, 1, 0)),
  (48, (.iinc 3 1, 51, 0, 0, 1)),
  (51, (.goto (-36), 54, 15, 0, 0)),
  (54, (.aload_n 0, 55, 0, 0, 0)),
  (55, (.bipush 9, 57, 0, 0, 9)),
  (57, (.iload_n 1, 58, 0, 0, 0)),
  (58, (.invokevirtual 124, 61, 180, 2, 0)),
  (61, (.return_, 62, 0, 0, 0))]
def xB178 : List (Nat × xm_row) := [(0, (.aload_n 0, 1, 0, 0, 0)),
  (1, (.iconst 4, 2, 0, 0, 4)),
  (2, (.iload_n 1, 3, 0, 0, 0)),
  (3, (.imul, 4, 0, 0, 0)),
  (4, (.iconst 1, 5, 0, 0, 1)),
  (5, (.iadd, 6, 0, 0, 0)),
  (6, (.invokevirtual 108, 9, 179, 1, 0)),
  (9, (.aload_n 0, 10, 0, 0, 0)),
  (10, (.iload_n 2, 11, 0, 0, 0)),
  (11, (.invokevirtual 108, 14, 179, 1, 0)),
  (14, (.return_, 15, 0, 0, 0))]
def xB179 : List (Nat × xm_row) := [(0, (.aload_n 0, 1, 0, 0, 0)),
  (1, (.getfield 97, 4, 12, 16, 0)),
  (4, (.sipush 500, 7, 0, 0, 500)),
  (7, (.if_icmp .ge 13, 10, 20, 0, 0)),
  (10, (.aload_n 0, 11, 0, 0, 0)),
  (11, (.getfield 31, 14, 12, 17, 0)),
  (14, (.aload_n 0, 15, 0, 0, 0)),
  (15, (.getfield 97, 18, 12, 16, 0)),
  (18, (.iload_n 1, 19, 0, 0, 0)),
  (19, (.iastore, 20, 0, 0, 0)),
  (20, (.aload_n 0, 21, 0, 0, 0)),
  (21, (.dup, 22, 0, 0, 0)),
  (22, (.getfield 97, 25, 12, 16, 0)),
  (25, (.iconst 1, 26, 0, 0, 1)),
  (26, (.iadd, 27, 0, 0, 0)),
  (27, (.putfield 97, 30, 12, 16, 0)),
  (30, (.return_, 31, 0, 0, 0))]
def xB180 : List (Nat × xm_row) := [(0, (.aload_n 0, 1, 0, 0, 0)),
  (1, (.aload_n 0, 2, 0, 0, 0)),
  (2, (.getfield 100, 5, 12, 12, 0)),
  (5, (.iconst 1, 6, 0, 0, 1)),
  (6, (.iadd, 7, 0, 0, 0)),
  (7, (.ldc 103, 9, 0, 0, 65536)),
  (9, (.irem, 10, 0, 0, 0)),
  (10, (.putfield 100, 13, 12, 12, 0)),
  (13, (.aload_n 0, 14, 0, 0, 0)),
  (14, (.getfield 97, 17, 12, 16, 0)),
  (17, (.bipush 120, 19, 0, 0, 120)),
  (19, (.if_icmp .le 16, 22, 35, 0, 0)),
  (22, (.aload_n 0, 23, 0, 0, 0)),
  (23, (.dup, 24, 0, 0, 0)),
  (24, (.getfield 88, 27, 12, 11, 0)),
  (27, (.iconst 1, 28, 0, 0, 1)),
  (28, (.iadd, 29, 0, 0, 0)),
  (29, (.putfield 88, 32, 12, 11, 0)),
  (32, (.goto 27, 35, 59, 0, 0)),
  (35, (.aload_n 0, 36, 0, 0, 0)),
  (36, (.iload_n 1, 37, 0, 0, 0)),
  (37, (.iload_n 2, 38, 0, 0, 0)),
  (38, (.iconst 0, 39, 0, 0, 0)),
  (39, (.iconst 0, 40, 0, 0, 0)),
  (40, (.aload_n 0, 41, 0, 0, 0)),
  (41, (.getfield 100, 44, 12, 12, 0)),
  (44, (.sipush 256, 47, 0, 0, 256)),
  (47, (.idiv, 48, 0, 0, 0)),
  (48, (.aload_n 0, 49, 0, 0, 0)),
  (49, (.getfield 100, 52, 12, 12, 0)),
  (52, (.sipush 256, 55, 0, 0, 256)),
  (55, (.irem, 56, 0, 0, 0)),
  (56, (.invokevirtual 104, 59, 181, 6, 0)),
  (59, (.return_, 60, 0, 0, 0))]
def xB181 : List (Nat × xm_row) := [(0, (.aload_n 0, 1, 0, 0, 0)),
  (1, (.getfield 78, 4, 12, 7, 0)),
  (4, (.bipush 8, 6, 0, 0, 8)),
  (6, (.if_icmp .ne 14, 9, 20, 0, 0)),
  (9, (.aload_n 0, 10, 0, 0, 0)),
  (10, (.dup, 11, 0, 0, 0)),
  (11, (.getfield 88, 14, 12, 11, 0)),
  (14, (.iconst 1, 15, 0, 0, 1)),
  (15, (.iadd, 16, 0, 0, 0)),
  (16, (.putfield 88, 19, 12, 11, 0)),
  (19, (.return_, 20, 0, 0, 0)),
  (20, (.sipush 130, 23, 0, 0, 130)),
  (23, (.aload_n 0, 24, 0, 0, 0)),
  (24, (.getfield 78, 27, 12, 7, 0)),
  (27, (.imul, 28, 0, 0, 0)),
  (28, (.istore 7, 30, 0, 0, 0)),
  (30, (.aload_n 0, 31, 0, 0, 0)),
  (31, (.getfield 16, 34, 12, 8, 0)),
  (34, (.iload 7, 36, 0, 0, 0)),
  (36, (.sipush 128, 39, 0, 0, 128)),
  (39, (.iastore, 40, 0, 0, 0)),
  (40, (.aload_n 0, 41, 0, 0, 0)),
  (41, (.getfield 16, 44, 12, 8, 0)),
  (44, (.iload 7, 46, 0, 0, 0)),
  (46, (.iconst 1, 47, 0, 0, 1)),
  (47, (.iadd, 48, 0, 0, 0)),
  (48, (.iconst 1, 49, 0, 0, 1)),
  (49, (.iastore, 50, 0, 0, 0)),
  (50, (.aload_n 0, 51, 0, 0, 0)),
  (51, (.getfield 16, 54, 12, 8, 0)),
  (54, (.iload 7, 56, 0, 0, 0)),
  (56, (.iconst 2, 57, 0, 0, 2)),
  (57, (.iadd, 58, 0, 0, 0)),
  (58, (.iload_n 1, 59, 0, 0, 0)),
  (59, (.iastore, 60, 0, 0, 0)),
  (60, (.aload_n 0, 61, 0, 0, 0)),
  (61, (.getfield 16, 64, 12, 8, 0)),
  (64, (.iload 7, 66, 0, 0, 0)),
  (66, (.iconst 3, 67, 0, 0, 3)),
  (67, (.iadd, 68, 0, 0, 0)),
  (68, (.iload_n 2, 69, 0, 0, 0)),
  (69, (.iastore, 70, 0, 0, 0)),
  (70, (.aload_n 0, 71, 0, 0, 0)),
  (71, (.getfield 16, 74, 12, 8, 0)),
  (74, (.iload 7, 76, 0, 0, 0)),
  (76, (.iconst 4, 77, 0, 0, 4)),
  (77, (.iadd, 78, 0, 0, 0)),
  (78, (.sipush 128, 81, 0, 0, 128)),
  (81, (.iastore, 82, 0, 0, 0)),
  (82, (.aload_n 0, 83, 0, 0, 0)),
  (83, (.getfield 16, 86, 12, 8, 0)),
  (86, (.iload 7, 88, 0, 0, 0)),
  (88, (.iconst 5, 89, 0, 0, 5)),
  (89, (.iadd, 90, 0, 0, 0)),
  (90, (.iconst 1, 91, 0, 0, 1)),
  (91, (.iastore, 92, 0, 0, 0)),
  (92, (.aload_n 0, 93, 0, 0, 0)),
  (93, (.getfield 16, 96, 12, 8, 0)),
  (96, (.iload 7, 98, 0, 0, 0)),
  (98, (.bipush 6, 100, 0, 0, 6)),
  (100, (.iadd, 101, 0, 0, 0)),
  (101, (.iload_n 3, 102, 0, 0, 0)),
  (102, (.iastore, 103, 0, 0, 0)),
  (103, (.aload_n 0, 104, 0, 0, 0)),
  (104, (.getfield 16, 107, 12, 8, 0)),
  (107, (.iload 7, 109, 0, 0, 0)),
  (109, (.bipush 7, 111, 0, 0, 7)),
  (111, (.iadd, 112, 0, 0, 0)),
  (112, (.iload 4, 114, 0, 0, 0)),
  (114, (.iastore, 115, 0, 0, 0)),
  (115, (.aload_n 0, 116, 0, 0, 0)),
  (116, (.getfield 16, 119, 12, 8, 0)),
  (119, (.iload 7, 121, 0, 0, 0)),
  (121, (.bipush 8, 123, 0, 0, 8)),
  (123, (.iadd, 124, 0, 0, 0)),
  (124, (.iload 5, 126, 0, 0, 0)),
  (126, (.iastore, 127, 0, 0, 0)),
  (127, (.aload_n 0, 128, 0, 0, 0)),
  (128, (.getfield 16, 131, 12, 8, 0)),
  (131, (.iload 7, 133, 0, 0, 0)),
  (133, (.bipush 9, 135, 0, 0, 9)),
  (135, (.iadd, 136, 0, 0, 0)),
  (136, (.iload 6, 138, 0, 0, 0)),
  (138, (.iastore, 139, 0, 0, 0)),
  (139, (.iconst 0, 140, 0, 0, 0)),
  (140, (.istore 8, 142, 0, 0, 0)),
  (142, (.iload 8, 144, 0, 0, 0)),
  (144, (.aload_n 0, 145, 0, 0, 0)),
  (145, (.getfield 97, 148, 12, 16, 0)),
  (148, (.if_icmp .ge 29, 151, 177, 0, 0)),
  (151, (.aload_n 0, 152, 0, 0, 0)),
  (152, (.getfield 16, 155, 12, 8, 0)),
  (155, (.iload 7, 157, 0, 0, 0)),
  (157, (.bipush 10, 159, 0, 0, 10)),
  (159, (.iadd, 160, 0, 0, 0)),
  (160, (.iload 8, 162, 0, 0, 0)),
  (162, (.iadd, 163, 0, 0, 0)),
  (163, (.aload_n 0, 164, 0, 0, 0)),
  (164, (.getfield 31, 167, 12, 17, 0)),
  (167, (.iload 8, 169, 0, 0, 0)),
  (169, (.iaload, 170, 0, 0, 0)),
  (170, (.iastore, 171, 0, 0, 0)),
  (171, (.iinc 8 1, 174, 0, 0, 1)),
  (174, (.goto (-32), 177, 142, 0, 0)),
  (177, (.aload_n 0, 178, 0, 0, 0)),
  (178, (.getfield 19, 181, 12, 9, 0)),
  (181, (.aload_n 0, 182, 0, 0, 0)),
  (182, (.getfield 78, 185, 12, 7, 0)),
  (185, (.bipush 10, 187, 0, 0, 10)),
  (187, (.aload_n 0, 188, 0, 0, 0)),
  (188, (.getfield 97, 191, 12, 16, 0)),
  (191, (.iadd, 192, 0, 0, 0)),
  (192, (.iastore, 193, 0, 0, 0)),
  (193, (.aload_n 0, 194, 0, 0, 0)),
  (194, (.getfield 22, 197, 12, 10, 0)),
  (197, (.aload_n 0, 198, 0, 0, 0)),
  (198, (.getfield 78, 201, 12, 7, 0)),
  (201, (.iconst 0, 202, 0, 0, 0)),
  (202, (.iastore, 203, 0, 0, 0)),
  (203, (.aload_n 0, 204, 0, 0, 0)),
  (204, (.dup, 205, 0, 0, 0)),
  (205, (.getfield 78, 208, 12, 7, 0)),
  (208, (.iconst 1, 209, 0, 0, 1)),
  (209, (.iadd, 210, 0, 0, 0)),
  (210, (.putfield 78, 213, 12, 7, 0)),
  (213, (.return_, 214, 0, 0, 0))]
def xB182 : List (Nat × xm_row) := [(0, (.iconst (-1), 1, 0, 0, (-1))),
  (1, (.istore_n 3, 2, 0, 0, 0)),
  (2, (.aload_n 0, 3, 0, 0, 0)),
  (3, (.getfield 94, 6, 12, 13, 0)),
  (6, (.iconst 1, 7, 0, 0, 1)),
  (7, (.isub, 8, 0, 0, 0)),
  (8, (.istore 4, 10, 0, 0, 0)),
  (10, (.iload 4, 12, 0, 0, 0)),
  (12, (.ifCond .lt 121, 15, 133, 0, 0)),
  (15, (.bipush 10, 17, 0, 0, 10)),
  (17, (.iload 4, 19, 0, 0, 0)),
  (19, (.imul, 20, 0, 0, 0)),
  (20, (.istore 5, 22, 0, 0, 0)),
  (22, (.aload_n 0, 23, 0, 0, 0)),
  (23, (.getfield 25, 26, 12, 14, 0)),
  (26, (.iload 5, 28, 0, 0, 0)),
  (28, (.iconst 2, 29, 0, 0, 2)),
  (29, (.iadd, 30, 0, 0, 0)),
  (30, (.iaload, 31, 0, 0, 0)),
  (31, (.bipush 127, 33, 0, 0, 127)),
  (33, (.iand, 34, 0, 0, 0)),
  (34, (.iload_n 1, 35, 0, 0, 0)),
  (35, (.if_icmp .ne 26, 38, 61, 0, 0)),
  (38, (.iload_n 2, 39, 0, 0, 0)),
  (39, (.ifCond .eq 18, 42, 57, 0, 0)),
  (42, (.aload_n 0, 43, 0, 0, 0)),
  (43, (.getfield 25, 46, 12, 14, 0)),
  (46, (.iload 5, 48, 0, 0, 0)),
  (48, (.iconst 3, 49, 0, 0, 3)),
  (49, (.iadd, 50, 0, 0, 0)),
  (50, (.iaload, 51, 0, 0, 0)),
  (51, (.iload_n 2, 52, 0, 0, 0)),
  (52, (.iconst 1, 53, 0, 0, 1)),
  (53, (.isub, 54, 0, 0, 0)),
  (54, (.if_icmp .ne 7, 57, 61, 0, 0)),
  (57, (.iconst 1, 58, 0, 0, 1)),
  (58, (.goto 4, 61, 62, 0, 0)),
  (61, (.iconst 0, 62, 0, 0, 0)),
  (62, (.istore 6, 64, 0, 0, 0)),
  (64, (.bipush 6, 66, 0, 0, 6)),
  (66, (.istore 7, 68, 0, 0, 0)),
  (68, (.iload 7, 70, 0, 0, 0)),
  (70, (.bipush 10, 72, 0, 0, 10)),
  (72, (.if_icmp .ge 43, 75, 115, 0, 0)),
  (75, (.iload 6, 77, 0, 0, 0)),
  (77, (.ifCond .eq 29, 80, 106, 0, 0)),
  (80, (.aload_n 0, 81, 0, 0, 0)),
  (81, (.getfield 25, 84, 12, 14, 0)),
  (84, (.iload 5, 86, 0, 0, 0)),
  (86, (.iload 7, 88, 0, 0, 0)),
  (88, (.iadd, 89, 0, 0, 0)),
  (89, (.iaload, 90, 0, 0, 0)),
  (90, (.aload_n 0, 91, 0, 0, 0)),
  (91, (.getfield 7, 94, 12, 4, 0)),
  (94, (.iconst 1, 95, 0, 0, 1)),
  (95, (.iload 7, 97, 0, 0, 0)),
  (97, (.iadd, 98, 0, 0, 0)),
  (98, (.iaload, 99, 0, 0, 0)),
  (99, (.if_icmp .ne 7, 102, 106, 0, 0)),
  (102, (.iconst 1, 103, 0, 0, 1)),
  (103, (.goto 4, 106, 107, 0, 0)),
  (106, (.iconst 0, 107, 0, 0, 0)),
  (107, (.istore 6, 109, 0, 0, 0)),
  (109, (.iinc 7 1, 112, 0, 0, 1)),
  (112, (.goto (-44), 115, 68, 0, 0)),
  (115, (.iload 6, 117, 0, 0, 0)),
  (117, (.ifCond .eq 8, 120, 125, 0, 0)),
  (120, (.iload 4, 122, 0, 0, 0)),
  (122, (.goto 4, 125, 126, 0, 0)),
  (125, (.iload_n 3, 126, 0, 0, 0)),
  (126, (.istore_n 3, 127, 0, 0, 0)),
  (127, (.iinc 4 (-1), 130, 0, 0, (-1))),
  (130, (.goto (-120), 133, 10, 0, 0)),
  (133, (.iload_n 3, 134, 0, 0, 0)),
  (134, (.ifCond .ge 4, 137, 138, 0, 0)),
  (137, (.return_, 138, 0, 0, 0)),
  (138, (.iload_n 1, 139, 0, 0, 0)),
  (139, (.iconst 1, 140, 0, 0, 1)),
  (140, (.if_icmp .ne 13, 143, 153, 0, 0)),
  (143, (.iload_n 2, 144, 0, 0, 0)),
  (144, (.bipush 14, 146, 0, 0, 14)),
  (146, (.if_icmp .ne 7, 149, 153, 0, 0)),
  (149, (.iconst 1, 150, 0, 0, 1)),
  (150, (.goto 4, 153, 154, 0, 0)),
  (153, (.iconst 0, 154, 0, 0, 0)),
  (154, (.istore 4, 156, 0, 0, 0)),
  (156, (.aload_n 0, 157, 0, 0, 0)),
  (157, (.iload_n 3, 158, 0, 0, 0)),
  (158, (.invokevirtual 257, 161, 183, 1, 0)),
  (161, (.iload 4, 163, 0, 0, 0)),
  (163, (.ifCond .eq 15, 166, 178, 0, 0)),
  (166, (.aload_n 0, 167, 0, 0, 0)),
  (167, (.invokevirtual 260, 170, 184, 0, 0)),
  (170, (.ifCond .eq 8, 173, 178, 0, 0)),
  (173, (.aload_n 0, 174, 0, 0, 0)),
  (174, (.iconst 1, 175, 0, 0, 1)),
  (175, (.putfield 133, 178, 12, 19, 0)),
  (178, (.return_, 179, 0, 0, 0))]
def xB183 : List (Nat × xm_row) := [(0, (.aload_n 0, 1, 0, 0, 0)),
  (1, (.dup, 2, 0, 0, 0)),
  (2, (.getfield 94, 5, 12, 13, 0)),
  (5, (.iconst 1, 6, 0, 0, 1)),
  (6, (.isub, 7, 0, 0, 0)),
  (7, (.putfield 94, 10, 12, 13, 0)),
  (10, (.bipush 10, 12, 0, 0, 10)),
  (12, (.iload_n 1, 13, 0, 0, 0)),
  (13, (.imul, 14, 0, 0, 0)),
  (14, (.istore_n 2, 15, 0, 0, 0)),
  (15, (.iload_n 2, 16, 0, 0, 0)),
  (16, (.bipush 10, 18, 0, 0, 10)),
  (18, (.aload_n 0, 19, 0, 0, 0)),
  (19, (.getfield 94, 22, 12, 13, 0)),
  (22, (.imul, 23, 0, 0, 0)),
  (23, (.if_icmp .ge 24, 26, 47, 0, 0)),
  (26, (.aload_n 0, 27, 0, 0, 0)),
  (27, (.getfield 25, 30, 12, 14, 0)),
  (30, (.iload_n 2, 31, 0, 0, 0)),
  (31, (.aload_n 0, 32, 0, 0, 0)),
  (32, (.getfield 25, 35, 12, 14, 0)),
  (35, (.iload_n 2, 36, 0, 0, 0)),
  (36, (.bipush 10, 38, 0, 0, 10)),
  (38, (.iadd, 39, 0, 0, 0)),
  (39, (.iaload, 40, 0, 0, 0)),
  (40, (.iastore, 41, 0, 0, 0)),
  (41, (.iinc 2 1, 44, 0, 0, 1)),
  (44, (.goto (-29), 47, 15, 0, 0)),
  (47, (.iload_n 1, 48, 0, 0, 0)),
  (48, (.istore_n 2, 49, 0, 0, 0)),
  (49, (.iload_n 2, 50, 0, 0, 0)),
  (50, (.aload_n 0, 51, 0, 0, 0)),
  (51, (.getfield 94, 54, 12, 13, 0)),
  (54, (.if_icmp .ge 23, 57, 77, 0, 0)),
  (57, (.aload_n 0, 58, 0, 0, 0)),
  (58, (.getfield 28, 61, 12, 15, 0)),
  (61, (.iload_n 2, 62, 0, 0, 0)),
  (62, (.aload_n 0, 63, 0, 0, 0)),
  (63, (.getfield 28, 66, 12, 15, 0)),
  (66, (.iload_n 2, 67, 0, 0, 0)),
  (67, (.iconst 1, 68, 0, 0, 1)),
  (68, (.iadd, 69, 0, 0, 0)),
  (69, (.iaload, 70, 0, 0, 0)),
  (70, (.iastore, 71, 0, 0, 0)),
  (71, (.iinc 2 1, 74, 0, 0, 1)),
  (74, (.goto (-25), 77, 49, 0, 0)),
  (77, (.return_, 78, 0, 0, 0))]
def xB184 : List (Nat × xm_row) := [(0, (.aload_n 0, 1, 0, 0, 0)),
  (1, (.getfield 144, 4, 12, 32, 0)),
  (4, (.bipush 10, 6, 0, 0, 10)),
  (6, (.if_icmp .eq 29, 9, 35, 0, 0)),
  (9, (.aload_n 0, 10, 0, 0, 0)),
  (10, (.invokevirtual 181, 13, 185, 0, 0)),
  (13, (.ifCond .eq 22, 16, 35, 0, 0)),
  (16, (.aload_n 0, 17, 0, 0, 0)),
  (17, (.bipush 11, 19, 0, 0, 11)),
  (19, (.iconst (-1), 20, 0, 0, (-1))),
  (20, (.invokevirtual 167, 23, 191, 2, 0)),
  (23, (.ifCond .eq 12, 26, 35, 0, 0)),
  (26, (.aload_n 0, 27, 0, 0, 0)),
  (27, (.bipush 11, 29, 0, 0, 11)),
  (29, (.invokevirtual 155, 32, 188, 1, 0)),
  (32, (.ifCond .ne 5, 35, 37, 0, 0)),
  (35, (.iconst 0, 36, 0, 0, 0)),
  (36, (.ireturn, 37, 0, 0, 0)),
  (37, (.aload_n 0, 38, 0, 0, 0)),
  (38, (.bipush 11, 40, 0, 0, 11)),
  (40, (.invokevirtual 158, 43, 189, 1, 0)),
  (43, (.istore_n 1, 44, 0, 0, 0)),
  (44, (.aload_n 0, 45, 0, 0, 0)),
  (45, (.iload_n 1, 46, 0, 0, 0)),
  (46, (.invokevirtual 151, 49, 187, 1, 0)),
  (49, (.bipush 8, 51, 0, 0, 8)),
  (51, (.if_icmp .ne 24, 54, 75, 0, 0)),
  (54, (.aload_n 0, 55, 0, 0, 0)),
  (55, (.iload_n 1, 56, 0, 0, 0)),
  (56, (.invokevirtual 155, 59, 188, 1, 0)),
  (59, (.iconst 1, 60, 0, 0, 1)),
  (60, (.if_icmp .ne 15, 63, 75, 0, 0)),
  (63, (.aload_n 0, 64, 0, 0, 0)),
  (64, (.iload_n 1, 65, 0, 0, 0)),
  (65, (.invokevirtual 197, 68, 192, 1, 0)),
  (68, (.ifCond .ne 7, 71, 75, 0, 0)),
  (71, (.iconst 1, 72, 0, 0, 1)),
  (72, (.goto 4, 75, 76, 0, 0)),
  (75, (.iconst 0, 76, 0, 0, 0)),
  (76, (.ireturn, 77, 0, 0, 0))]
def xB185 : List (Nat × xm_row) := [(0, (.bipush 11, 2, 0, 0, 11)),
  (2, (.istore_n 1, 3, 0, 0, 0)),
  (3, (.iconst 0, 4, 0, 0, 0)),
  (4, (.istore_n 2, 5, 0, 0, 0)),
  (5, (.iconst 1, 6, 0, 0, 1)),
  (6, (.istore_n 3, 7, 0, 0, 0)),
  (7, (.iload_n 3, 8, 0, 0, 0)),
  (8, (.ifCond .eq 197, 11, 205, 0, 0)),
  (11, (.iload_n 1, 12, 0, 0, 0)),
  (12, (.aload_n 0, 13, 0, 0, 0)),
  (13, (.invokevirtual 147, 16, 186, 0, 0)),
  (16, (.if_icmp .ge 14, 19, 30, 0, 0)),
  (19, (.aload_n 0, 20, 0, 0, 0)),
  (20, (.getfield 7, 23, 12, 4, 0)),
  (23, (.iload_n 1, 24, 0, 0, 0)),
  (24, (.iaload, 25, 0, 0, 0)),
  (25, (.iconst 3, 26, 0, 0, 3)),
  (26, (.iand, 27, 0, 0, 0)),
  (27, (.goto 4, 30, 31, 0, 0)),
  (30, (.iconst 0, 31, 0, 0, 0)),
  (31, (.istore 4, 33, 0, 0, 0)),
  (33, (.iload 4, 35, 0, 0, 0)),
  (35, (.ifCond .eq 16, 38, 51, 0, 0)),
  (38, (.iload_n 1, 39, 0, 0, 0)),
  (39, (.iconst 1, 40, 0, 0, 1)),
  (40, (.iadd, 41, 0, 0, 0)),
  (41, (.iload 4, 43, 0, 0, 0)),
  (43, (.iadd, 44, 0, 0, 0)),
  (44, (.aload_n 0, 45, 0, 0, 0)),
  (45, (.invokevirtual 147, 48, 186, 0, 0)),
  (48, (.if_icmp .le 5, 51, 53, 0, 0)),
  (51, (.iconst 0, 52, 0, 0, 0)),
  (52, (.ireturn, 53, 0, 0, 0)),
  (53, (.aload_n 0, 54, 0, 0, 0)),
  (54, (.iload_n 1, 55, 0, 0, 0)),
  (55, (.invokevirtual 151, 58, 187, 1, 0)),
  (58, (.istore 5, 60, 0, 0, 0)),
  (60, (.aload_n 0, 61, 0, 0, 0)),
  (61, (.iload_n 1, 62, 0, 0, 0)),
  (62, (.invokevirtual 155, 65, 188, 1, 0)),
  (65, (.istore 6, 67, 0, 0, 0)),
  (67, (.aload_n 0, 68, 0, 0, 0)),
  (68, (.iload_n 1, 69, 0, 0, 0)),
  (69, (.invokevirtual 158, 72, 189, 1, 0)),
  (72, (.istore_n 1, 73, 0, 0, 0)),
  (73, (.iload 5, 75, 0, 0, 0)),
  (75, (.ifCond .ne 25, 78, 100, 0, 0)),
  (78, (.iload_n 2, 79, 0, 0, 0)),
  (79, (.bipush 6, 81, 0, 0, 6)),
  (81, (.if_icmp .ne 5, 84, 86, 0, 0)),
  (84, (.iconst 0, 85, 0, 0, 0)),
  (85, (.ireturn, 86, 0, 0, 0)),
  (86, (.aload_n 0, 87, 0, 0, 0)),
  (87, (.getfield 63, 90, 12, 33, 0)),
  (90, (.iload_n 2, 91, 0, 0, 0)),
  (91, (.iload 6, 93, 0, 0, 0)),
  (93, (.iastore, 94, 0, 0, 0)),
  (94, (.iinc 2 1, 97, 0, 0, 1)),
  (97, (.goto 58, 100, 155, 0, 0)),
  (100, (.aload_n 0, 101, 0, 0, 0)),
  (101, (.iload 5, 103, 0, 0, 0)),
  (103, (.invokevirtual 161, 106, 190, 1, 0)),
  (106, (.ifCond .eq 26, 109, 132, 0, 0)),
  (109, (.iload 6, 111, 0, 0, 0)),
  (111, (.aload_n 0, 112, 0, 0, 0)),
  (112, (.iload 5, 114, 0, 0, 0)),
  (114, (.invokevirtual 161, 117, 190, 1, 0)),
  (117, (.irem, 118, 0, 0, 0)),
  (118, (.ifCond .ne 14, 121, 132, 0, 0)),
  (121, (.iload 6, 123, 0, 0, 0)),
  (123, (.aload_n 0, 124, 0, 0, 0)),
  (124, (.invokevirtual 147, 127, 186, 0, 0)),
  (127, (.iload_n 1, 128, 0, 0, 0)),
  (128, (.isub, 129, 0, 0, 0)),
  (129, (.if_icmp .le 5, 132, 134, 0, 0)),
  (132, (.iconst 0, 133, 0, 0, 0)),
  (133, (.ireturn, 134, 0, 0, 0)),
  (134, (.iload_n 1, 135, 0, 0, 0)),
  (135, (.iload 6, 137, 0, 0, 0)),
  (137, (.iadd, 138, 0, 0, 0)),
  (138, (.istore_n 1, 139, 0, 0, 0)),
  (139, (.iload_n 2, 140, 0, 0, 0)),
  (140, (.ifCond .le 15, 143, 155, 0, 0)),
  (143, (.aload_n 0, 144, 0, 0, 0)),
  (144, (.getfield 63, 147, 12, 33, 0)),
  (147, (.iload_n 2, 148, 0, 0, 0)),
  (148, (.iconst 1, 149, 0, 0, 1)),
  (149, (.isub, 150, 0, 0, 0)),
  (150, (.dup2, 151, 0, 0, 0)),
  (151, (.iaload, 152, 0, 0, 0)),
  (152, (.iconst 1, 153, 0, 0, 1)),
  (153, (.isub, 154, 0, 0, 0)),
  (154, (.iastore, 155, 0, 0, 0)),
  (155, (.iload_n 2, 156, 0, 0, 0)),
  (156, (.ifCond .le 36, 159, 192, 0, 0)),
  (159, (.aload_n 0, 160, 0, 0, 0)),
  (160, (.getfield 63, 163, 12, 33, 0)),
  (163, (.iload_n 2, 164, 0, 0, 0)),
  (164, (.iconst 1, 165, 0, 0, 1)),
  (165, (.isub, 166, 0, 0, 0)),
  (166, (.iaload, 167, 0, 0, 0)),
  (167, (.ifCond .ne 25, 170, 192, 0, 0)),
  (170, (.iinc 2 (-1), 173, 0, 0, (-1))),
  (173, (.iload_n 2, 174, 0, 0, 0)),
  (174, (.ifCond .le (-19), 177, 155, 0, 0)),
  (177, (.aload_n 0, 178, 0, 0, 0)),
  (178, (.getfield 63, 181, 12, 33, 0)),
  (181, (.iload_n 2, 182, 0, 0, 0)),
  (182, (.iconst 1, 183, 0, 0, 1)),
  (183, (.isub, 184, 0, 0, 0)),
  (184, (.dup2, 185, 0, 0, 0)),
  (185, (.iaload, 186, 0, 0, 0)),
  (186, (.iconst 1, 187, 0, 0, 1)),
  (187, (.isub, 188, 0, 0, 0)),
  (188, (.iastore, 189, 0, 0, 0)),
  (189, (.goto (-34), 192, 155, 0, 0)),
  (192, (.iload_n 2, 193, 0, 0, 0)),
  (193, (.ifCond .le 7, 196, 200, 0, 0)),
  (196, (.iconst 1, 197, 0, 0, 1)),
  (197, (.goto 4, 200, 201, 0, 0)),
  (200, (.iconst 0, 201, 0, 0, 0)),
  (201, (.istore_n 3, 202, 0, 0, 0)),
  (202, (.goto (-195), 205, 7, 0, 0)),
  (205, (.iload_n 1, 206, 0, 0, 0)),
  (206, (.aload_n 0, 207, 0, 0, 0)),
  (207, (.invokevirtual 147, 210, 186, 0, 0)),
  (210, (.if_icmp .ne 7, 213, 217, 0, 0)),
  (213, (.iconst 1, 214, 0, 0, 1)),
  (214, (.goto 4, 217, 218, 0, 0)),
  (217, (.iconst 0, 218, 0, 0, 0)),
  (218, (.ireturn, 219, 0, 0, 0))]
def xB186 : List (Nat × xm_row) := [(0, (.iconst 1, 1, 0, 0, 1)),
  (1, (.aload_n 0, 2, 0, 0, 0)),
  (2, (.getfield 144, 5, 12, 32, 0)),
  (5, (.iadd, 6, 0, 0, 0)),
  (6, (.ireturn, 7, 0, 0, 0))]
def xB187 : List (Nat × xm_row) := [(0, (.aload_n 0, 1, 0, 0, 0)),
  (1, (.getfield 7, 4, 12, 4, 0)),
  (4, (.iload_n 1, 5, 0, 0, 0)),
  (5, (.iaload, 6, 0, 0, 0)),
  (6, (.iconst 2, 7, 0, 0, 2)),
  (7, (.ishr, 8, 0, 0, 0)),
  (8, (.ireturn, 9, 0, 0, 0))]
def xB188 : List (Nat × xm_row) := [(0, (.aload_n 0, 1, 0, 0, 0)),
  (1, (.getfield 7, 4, 12, 4, 0)),
  (4, (.iload_n 1, 5, 0, 0, 0)),
  (5, (.iaload, 6, 0, 0, 0)),
  (6, (.iconst 3, 7, 0, 0, 3)),
  (7, (.iand, 8, 0, 0, 0)),
  (8, (.istore_n 2, 9, 0, 0, 0)),
  (9, (.iconst 0, 10, 0, 0, 0)),
  (10, (.istore_n 3, 11, 0, 0, 0)),
  (11, (.iconst 1, 12, 0, 0, 1)),
  (12, (.istore 4, 14, 0, 0, 0)),
  (14, (.iload 4, 16, 0, 0, 0)),
  (16, (.iload_n 2, 17, 0, 0, 0)),
  (17, (.if_icmp .gt 25, 20, 42, 0, 0)),
  (20, (.sipush 256, 23, 0, 0, 256)),
  (23, (.iload_n 3, 24, 0, 0, 0)),
  (24, (.imul, 25, 0, 0, 0)),
  (25, (.aload_n 0, 26, 0, 0, 0)),
  (26, (.getfield 7, 29, 12, 4, 0)),
  (29, (.iload_n 1, 30, 0, 0, 0)),
  (30, (.iload 4, 32, 0, 0, 0)),
  (32, (.iadd, 33, 0, 0, 0)),
  (33, (.iaload, 34, 0, 0, 0)),
  (34, (.iadd, 35, 0, 0, 0)),
  (35, (.istore_n 3, 36, 0, 0, 0)),
  (36, (.iinc 4 1, 39, 0, 0, 1)),
  (39, (.goto (-25), 42, 14, 0, 0)),
  (42, (.iload_n 3, 43, 0, 0, 0)),
  (43, (.ireturn, 44, 0, 0, 0))]
def xB189 : List (Nat × xm_row) := [(0, (.iload_n 1, 1, 0, 0, 0)),
  (1, (.iconst 1, 2, 0, 0, 1)),
  (2, (.iadd, 3, 0, 0, 0)),
  (3, (.aload_n 0, 4, 0, 0, 0)),
  (4, (.getfield 7, 7, 12, 4, 0)),
  (7, (.iload_n 1, 8, 0, 0, 0)),
  (8, (.iaload, 9, 0, 0, 0)),
  (9, (.iconst 3, 10, 0, 0, 3)),
  (10, (.iand, 11, 0, 0, 0)),
  (11, (.iadd, 12, 0, 0, 0)),
  (12, (.ireturn, 13, 0, 0, 0))]
def xB190 : List (Nat × xm_row) := [(0, (.iload_n 1, 1, 0, 0, 0)),
  (1, (.tableswitch 172 8 44 #[163, 163, 172, 172, 172, 172, 172, 172, 163, 172, 172, 172, 172, 172, 172, 172, 172, 163, 165, 172, 167, 172, 172, 172, 169, 172, 172, 172, 167, 172, 172, 172, 172, 163, 165, 172, 167], 164, 0, 163, 0)),
  (164, (.iconst 1, 165, 0, 0, 1)),
  (165, (.ireturn, 166, 0, 0, 0)),
  (166, (.iconst 2, 167, 0, 0, 2)),
  (167, (.ireturn, 168, 0, 0, 0)),
  (168, (.iconst 4, 169, 0, 0, 4)),
  (169, (.ireturn, 170, 0, 0, 0)),
  (170, (.bipush 8, 172, 0, 0, 8)),
  (172, (.ireturn, 173, 0, 0, 0)),
  (173, (.iconst 0, 174, 0, 0, 0)),
  (174, (.ireturn, 175, 0, 0, 0))]
def xB191 : List (Nat × xm_row) := [(0, (.aload_n 0, 1, 0, 0, 0)),
  (1, (.iload_n 1, 2, 0, 0, 0)),
  (2, (.invokevirtual 151, 5, 187, 1, 0)),
  (5, (.ifCond .ne 20, 8, 25, 0, 0)),
  (8, (.iload_n 2, 9, 0, 0, 0)),
  (9, (.ifCond .lt 12, 12, 21, 0, 0)),
  (12, (.aload_n 0, 13, 0, 0, 0)),
  (13, (.iload_n 1, 14, 0, 0, 0)),
  (14, (.invokevirtual 155, 17, 188, 1, 0)),
  (17, (.iload_n 2, 18, 0, 0, 0)),
  (18, (.if_icmp .ne 7, 21, 25, 0, 0)),
  (21, (.iconst 1, 22, 0, 0, 1)),
  (22, (.goto 4, 25, 26, 0, 0)),
  (25, (.iconst 0, 26, 0, 0, 0)),
  (26, (.ireturn, 27, 0, 0, 0))]
def xB192 : List (Nat × xm_row) := [(0, (.aload_n 0, 1, 0, 0, 0)),
  (1, (.getfield 7, 4, 12, 4, 0)),
  (4, (.aload_n 0, 5, 0, 0, 0)),
  (5, (.iload_n 1, 6, 0, 0, 0)),
  (6, (.invokevirtual 158, 9, 189, 1, 0)),
  (9, (.iaload, 10, 0, 0, 0)),
  (10, (.ireturn, 11, 0, 0, 0))]
def xB193 : List (Nat × xm_row) := [(0, (.iload_n 1, 1, 0, 0, 0)),
  (1, (.iconst 1, 2, 0, 0, 1)),
  (2, (.if_icmp .ne 13, 5, 15, 0, 0)),
  (5, (.iload_n 2, 6, 0, 0, 0)),
  (6, (.bipush 13, 8, 0, 0, 13)),
  (8, (.if_icmp .ne 7, 11, 15, 0, 0)),
  (11, (.iconst 1, 12, 0, 0, 1)),
  (12, (.goto 4, 15, 16, 0, 0)),
  (15, (.iconst 0, 16, 0, 0, 0)),
  (16, (.istore_n 3, 17, 0, 0, 0)),
  (17, (.aload_n 0, 18, 0, 0, 0)),
  (18, (.getfield 133, 21, 12, 19, 0)),
  (21, (.ifCond .ne 8, 24, 29, 0, 0)),
  (24, (.iload_n 3, 25, 0, 0, 0)),
  (25, (.ifCond .ne 4, 28, 29, 0, 0)),
  (28, (.return_, 29, 0, 0, 0)),
  (29, (.iload_n 1, 30, 0, 0, 0)),
  (30, (.iconst 1, 31, 0, 0, 1)),
  (31, (.if_icmp .eq 17, 34, 48, 0, 0)),
  (34, (.iload_n 1, 35, 0, 0, 0)),
  (35, (.iconst 2, 36, 0, 0, 2)),
  (36, (.if_icmp .eq 12, 39, 48, 0, 0)),
  (39, (.aload_n 0, 40, 0, 0, 0)),
  (40, (.iconst 3, 41, 0, 0, 3)),
  (41, (.iconst (-1), 42, 0, 0, (-1))),
  (42, (.invokevirtual 245, 45, 177, 2, 0)),
  (45, (.goto 82, 48, 127, 0, 0)),
  (48, (.aload_n 0, 49, 0, 0, 0)),
  (49, (.iload_n 1, 50, 0, 0, 0)),
  (50, (.iload_n 2, 51, 0, 0, 0)),
  (51, (.invokevirtual 248, 54, 194, 2, 0)),
  (54, (.ifCond .ne 12, 57, 66, 0, 0)),
  (57, (.aload_n 0, 58, 0, 0, 0)),
  (58, (.iconst 5, 59, 0, 0, 5)),
  (59, (.iconst (-1), 60, 0, 0, (-1))),
  (60, (.invokevirtual 245, 63, 177, 2, 0)),
  (63, (.goto 64, 66, 127, 0, 0)),
  (66, (.aload_n 0, 67, 0, 0, 0)),
  (67, (.getfield 115, 70, 12, 20, 0)),
  (70, (.iconst 2, 71, 0, 0, 2)),
  (71, (.if_icmp .ge 31, 74, 102, 0, 0)),
  (74, (.iload_n 3, 75, 0, 0, 0)),
  (75, (.ifCond .ne 27, 78, 102, 0, 0)),
  (78, (.iload_n 1, 79, 0, 0, 0)),
  (79, (.iconst 1, 80, 0, 0, 1)),
  (80, (.if_icmp .ne 9, 83, 89, 0, 0)),
  (83, (.iload_n 2, 84, 0, 0, 0)),
  (84, (.bipush 17, 86, 0, 0, 17)),
  (86, (.if_icmp .eq 16, 89, 102, 0, 0)),
  (89, (.aload_n 0, 90, 0, 0, 0)),
  (90, (.iconst 0, 91, 0, 0, 0)),
  (91, (.putfield 97, 94, 12, 16, 0)),
  (94, (.aload_n 0, 95, 0, 0, 0)),
  (95, (.iconst 0, 96, 0, 0, 0)),
  (96, (.invokevirtual 130, 99, 195, 1, 0)),
  (99, (.goto 28, 102, 127, 0, 0)),
  (102, (.aload_n 0, 103, 0, 0, 0)),
  (103, (.iload_n 1, 104, 0, 0, 0)),
  (104, (.iload_n 2, 105, 0, 0, 0)),
  (105, (.invokevirtual 251, 108, 196, 2, 0)),
  (108, (.ifCond .ne 13, 111, 121, 0, 0)),
  (111, (.aload_n 0, 112, 0, 0, 0)),
  (112, (.bipush 7, 114, 0, 0, 7)),
  (114, (.iconst (-1), 115, 0, 0, (-1))),
  (115, (.invokevirtual 245, 118, 177, 2, 0)),
  (118, (.goto 9, 121, 127, 0, 0)),
  (121, (.aload_n 0, 122, 0, 0, 0)),
  (122, (.iload_n 1, 123, 0, 0, 0)),
  (123, (.iload_n 2, 124, 0, 0, 0)),
  (124, (.invokevirtual 254, 127, 205, 2, 0)),
  (127, (.return_, 128, 0, 0, 0))]
def xB194 : List (Nat × xm_row) := [(0, (.iload_n 1, 1, 0, 0, 0)),
  (1, (.iconst 1, 2, 0, 0, 1)),
  (2, (.if_icmp .ne 39, 5, 41, 0, 0)),
  (5, (.iload_n 2, 6, 0, 0, 0)),
  (6, (.iconst 1, 7, 0, 0, 1)),
  (7, (.if_icmp .eq 26, 10, 33, 0, 0)),
  (10, (.iload_n 2, 11, 0, 0, 0)),
  (11, (.iconst 3, 12, 0, 0, 3)),
  (12, (.if_icmp .eq 21, 15, 33, 0, 0)),
  (15, (.iload_n 2, 16, 0, 0, 0)),
  (16, (.bipush 13, 18, 0, 0, 13)),
  (18, (.if_icmp .eq 15, 21, 33, 0, 0)),
  (21, (.iload_n 2, 22, 0, 0, 0)),
  (22, (.bipush 15, 24, 0, 0, 15)),
  (24, (.if_icmp .eq 9, 27, 33, 0, 0)),
  (27, (.iload_n 2, 28, 0, 0, 0)),
  (28, (.bipush 17, 30, 0, 0, 17)),
  (30, (.if_icmp .ne 7, 33, 37, 0, 0)),
  (33, (.iconst 1, 34, 0, 0, 1)),
  (34, (.goto 42, 37, 76, 0, 0)),
  (37, (.iconst 0, 38, 0, 0, 0)),
  (38, (.goto 38, 41, 76, 0, 0)),
  (41, (.iload_n 2, 42, 0, 0, 0)),
  (42, (.bipush 15, 44, 0, 0, 15)),
  (44, (.if_icmp .eq 27, 47, 71, 0, 0)),
  (47, (.iload_n 2, 48, 0, 0, 0)),
  (48, (.bipush 33, 50, 0, 0, 33)),
  (50, (.if_icmp .eq 21, 53, 71, 0, 0)),
  (53, (.iload_n 2, 54, 0, 0, 0)),
  (54, (.bipush 35, 56, 0, 0, 35)),
  (56, (.if_icmp .eq 15, 59, 71, 0, 0)),
  (59, (.iload_n 2, 60, 0, 0, 0)),
  (60, (.bipush 37, 62, 0, 0, 37)),
  (62, (.if_icmp .eq 9, 65, 71, 0, 0)),
  (65, (.iload_n 2, 66, 0, 0, 0)),
  (66, (.bipush 41, 68, 0, 0, 41)),
  (68, (.if_icmp .ne 7, 71, 75, 0, 0)),
  (71, (.iconst 1, 72, 0, 0, 1)),
  (72, (.goto 4, 75, 76, 0, 0)),
  (75, (.iconst 0, 76, 0, 0, 0)),
  (76, (.ireturn, 77, 0, 0, 0))]
def xB195 : List (Nat × xm_row) := [(0, (.aload_n 0, 1, 0, 0, 0)),
  (1, (.getfield 7, 4, 12, 4, 0)),
  (4, (.iconst 3, 5, 0, 0, 3)),
  (5, (.iaload, 6, 0, 0, 0)),
  (6, (.sipush 128, 9, 0, 0, 128)),
  (9, (.if_icmp .ge 4, 12, 13, 0, 0)),
  (12, (.return_, 13, 0, 0, 0)),
  (13, (.aload_n 0, 14, 0, 0, 0)),
  (14, (.getfield 97, 17, 12, 16, 0)),
  (17, (.bipush 120, 19, 0, 0, 120)),
  (19, (.if_icmp .gt 7, 22, 26, 0, 0)),
  (22, (.iconst 1, 23, 0, 0, 1)),
  (23, (.goto 4, 26, 27, 0, 0)),
  (26, (.iconst 0, 27, 0, 0, 0)),
  (27, (.istore_n 2, 28, 0, 0, 0)),
  (28, (.aload_n 0, 29, 0, 0, 0)),
  (29, (.iload_n 2, 30, 0, 0, 0)),
  (30, (.ifCond .eq 10, 33, 40, 0, 0)),
  (33, (.aload_n 0, 34, 0, 0, 0)),
  (34, (.getfield 97, 37, 12, 16, 0)),
  (37, (.goto 4, 40, 41, 0, 0)),
  (40, (.iconst 0, 41, 0, 0, 0)),
  (41, (.putfield 97, 44, 12, 16, 0)),
  (44, (.aload_n 0, 45, 0, 0, 0)),
  (45, (.aload_n 0, 46, 0, 0, 0)),
  (46, (.getfield 7, 49, 12, 4, 0)),
  (49, (.iconst 3, 50, 0, 0, 3)),
  (50, (.iaload, 51, 0, 0, 0)),
  (51, (.bipush 127, 53, 0, 0, 127)),
  (53, (.iand, 54, 0, 0, 0)),
  (54, (.iload_n 2, 55, 0, 0, 0)),
  (55, (.ifCond .eq 7, 58, 62, 0, 0)),
  (58, (.iload_n 1, 59, 0, 0, 0)),
  (59, (.goto 4, 62, 63, 0, 0)),
  (62, (.iconst 0, 63, 0, 0, 0)),
  (63, (.aload_n 0, 64, 0, 0, 0)),
  (64, (.getfield 7, 67, 12, 4, 0)),
  (67, (.bipush 7, 69, 0, 0, 7)),
  (69, (.iaload, 70, 0, 0, 0)),
  (70, (.aload_n 0, 71, 0, 0, 0)),
  (71, (.getfield 7, 74, 12, 4, 0)),
  (74, (.bipush 8, 76, 0, 0, 8)),
  (76, (.iaload, 77, 0, 0, 0)),
  (77, (.aload_n 0, 78, 0, 0, 0)),
  (78, (.getfield 7, 81, 12, 4, 0)),
  (81, (.bipush 9, 83, 0, 0, 9)),
  (83, (.iaload, 84, 0, 0, 0)),
  (84, (.aload_n 0, 85, 0, 0, 0)),
  (85, (.getfield 7, 88, 12, 4, 0)),
  (88, (.bipush 10, 90, 0, 0, 10)),
  (90, (.iaload, 91, 0, 0, 0)),
  (91, (.invokevirtual 104, 94, 181, 6, 0)),
  (94, (.return_, 95, 0, 0, 0))]
def xB196 : List (Nat × xm_row) := [(0, (.iload_n 1, 1, 0, 0, 0)),
  (1, (.iconst 1, 2, 0, 0, 1)),
  (2, (.if_icmp .ne 11, 5, 13, 0, 0)),
  (5, (.iload_n 2, 6, 0, 0, 0)),
  (6, (.bipush 13, 8, 0, 0, 13)),
  (8, (.if_icmp .ne 5, 11, 13, 0, 0)),
  (11, (.iconst 1, 12, 0, 0, 1)),
  (12, (.ireturn, 13, 0, 0, 0)),
  (13, (.iload_n 1, 14, 0, 0, 0)),
  (14, (.iconst 1, 15, 0, 0, 1)),
  (15, (.if_icmp .ne 23, 18, 38, 0, 0)),
  (18, (.iload_n 2, 19, 0, 0, 0)),
  (19, (.iconst 3, 20, 0, 0, 3)),
  (20, (.if_icmp .eq 18, 23, 38, 0, 0)),
  (23, (.aload_n 0, 24, 0, 0, 0)),
  (24, (.getfield 144, 27, 12, 32, 0)),
  (27, (.bipush 10, 29, 0, 0, 10)),
  (29, (.if_icmp .ne 7, 32, 36, 0, 0)),
  (32, (.iconst 1, 33, 0, 0, 1)),
  (33, (.goto 4, 36, 37, 0, 0)),
  (36, (.iconst 0, 37, 0, 0, 0)),
  (37, (.ireturn, 38, 0, 0, 0)),
  (38, (.aload_n 0, 39, 0, 0, 0)),
  (39, (.getfield 144, 42, 12, 32, 0)),
  (42, (.bipush 10, 44, 0, 0, 10)),
  (44, (.if_icmp .eq 10, 47, 54, 0, 0)),
  (47, (.aload_n 0, 48, 0, 0, 0)),
  (48, (.invokevirtual 181, 51, 185, 0, 0)),
  (51, (.ifCond .ne 5, 54, 56, 0, 0)),
  (54, (.iconst 0, 55, 0, 0, 0)),
  (55, (.ireturn, 56, 0, 0, 0)),
  (56, (.iload_n 1, 57, 0, 0, 0)),
  (57, (.iconst 1, 58, 0, 0, 1)),
  (58, (.if_icmp .ne 12, 61, 70, 0, 0)),
  (61, (.aload_n 0, 62, 0, 0, 0)),
  (62, (.bipush 11, 64, 0, 0, 11)),
  (64, (.invokevirtual 178, 67, 197, 1, 0)),
  (67, (.goto 46, 70, 113, 0, 0)),
  (70, (.iload_n 2, 71, 0, 0, 0)),
  (71, (.bipush 15, 73, 0, 0, 15)),
  (73, (.if_icmp .ne 10, 76, 83, 0, 0)),
  (76, (.aload_n 0, 77, 0, 0, 0)),
  (77, (.invokevirtual 185, 80, 201, 0, 0)),
  (80, (.goto 33, 83, 113, 0, 0)),
  (83, (.iload_n 2, 84, 0, 0, 0)),
  (84, (.bipush 37, 86, 0, 0, 37)),
  (86, (.if_icmp .ne 10, 89, 96, 0, 0)),
  (89, (.aload_n 0, 90, 0, 0, 0)),
  (90, (.invokevirtual 188, 93, 202, 0, 0)),
  (93, (.goto 20, 96, 113, 0, 0)),
  (96, (.iload_n 2, 97, 0, 0, 0)),
  (97, (.bipush 41, 99, 0, 0, 41)),
  (99, (.if_icmp .ne 10, 102, 109, 0, 0)),
  (102, (.aload_n 0, 103, 0, 0, 0)),
  (103, (.invokevirtual 191, 106, 203, 0, 0)),
  (106, (.goto 7, 109, 113, 0, 0)),
  (109, (.aload_n 0, 110, 0, 0, 0)),
  (110, (.invokevirtual 194, 113, 204, 0, 0)),
  (113, (.ireturn, 114, 0, 0, 0))]
def xB197 : List (Nat × xm_row) := [(0, (.aload_n 0, 1, 0, 0, 0)),
  (1, (.iload_n 1, 2, 0, 0, 0)),
  (2, (.iconst (-1), 3, 0, 0, (-1))),
  (3, (.invokevirtual 167, 6, 191, 2, 0)),
  (6, (.istore_n 2, 7, 0, 0, 0)),
  (7, (.iconst 0, 8, 0, 0, 0)),
  (8, (.istore_n 3, 9, 0, 0, 0)),
  (9, (.iload_n 2, 10, 0, 0, 0)),
  (10, (.ifCond .eq 29, 13, 39, 0, 0)),
  (13, (.iload_n 3, 14, 0, 0, 0)),
  (14, (.aload_n 0, 15, 0, 0, 0)),
  (15, (.iload_n 1, 16, 0, 0, 0)),
  (16, (.invokevirtual 155, 19, 188, 1, 0)),
  (19, (.if_icmp .ge 20, 22, 39, 0, 0)),
  (22, (.aload_n 0, 23, 0, 0, 0)),
  (23, (.aload_n 0, 24, 0, 0, 0)),
  (24, (.iload_n 1, 25, 0, 0, 0)),
  (25, (.iload_n 3, 26, 0, 0, 0)),
  (26, (.invokevirtual 171, 29, 198, 2, 0)),
  (29, (.invokevirtual 175, 32, 200, 1, 0)),
  (32, (.istore_n 2, 33, 0, 0, 0)),
  (33, (.iinc 3 1, 36, 0, 0, 1)),
  (36, (.goto (-27), 39, 9, 0, 0)),
  (39, (.iload_n 2, 40, 0, 0, 0)),
  (40, (.ireturn, 41, 0, 0, 0))]
def xB198 : List (Nat × xm_row) := [(0, (.aload_n 0, 1, 0, 0, 0)),
  (1, (.iload_n 1, 2, 0, 0, 0)),
  (2, (.invokevirtual 158, 5, 189, 1, 0)),
  (5, (.istore_n 3, 6, 0, 0, 0)),
  (6, (.iconst 0, 7, 0, 0, 0)),
  (7, (.istore 4, 9, 0, 0, 0)),
  (9, (.iload 4, 11, 0, 0, 0)),
  (11, (.iload_n 2, 12, 0, 0, 0)),
  (12, (.if_icmp .ge 15, 15, 27, 0, 0)),
  (15, (.aload_n 0, 16, 0, 0, 0)),
  (16, (.iload_n 3, 17, 0, 0, 0)),
  (17, (.invokevirtual 164, 20, 199, 1, 0)),
  (20, (.istore_n 3, 21, 0, 0, 0)),
  (21, (.iinc 4 1, 24, 0, 0, 1)),
  (24, (.goto (-15), 27, 9, 0, 0)),
  (27, (.iload_n 3, 28, 0, 0, 0)),
  (28, (.ireturn, 29, 0, 0, 0))]
def xB199 : List (Nat × xm_row) := [(0, (.iload_n 1, 1, 0, 0, 0)),
  (1, (.istore_n 2, 2, 0, 0, 0)),
  (2, (.iconst 1, 3, 0, 0, 1)),
  (3, (.istore_n 3, 4, 0, 0, 0)),
  (4, (.iload_n 3, 5, 0, 0, 0)),
  (5, (.ifCond .le 64, 8, 69, 0, 0)),
  (8, (.aload_n 0, 9, 0, 0, 0)),
  (9, (.iload_n 2, 10, 0, 0, 0)),
  (10, (.invokevirtual 155, 13, 188, 1, 0)),
  (13, (.istore 4, 15, 0, 0, 0)),
  (15, (.aload_n 0, 16, 0, 0, 0)),
  (16, (.iload_n 2, 17, 0, 0, 0)),
  (17, (.invokevirtual 151, 20, 187, 1, 0)),
  (20, (.ifCond .ne 7, 23, 27, 0, 0)),
  (23, (.iconst 1, 24, 0, 0, 1)),
  (24, (.goto 4, 27, 28, 0, 0)),
  (27, (.iconst 0, 28, 0, 0, 0)),
  (28, (.istore 5, 30, 0, 0, 0)),
  (30, (.aload_n 0, 31, 0, 0, 0)),
  (31, (.iload_n 2, 32, 0, 0, 0)),
  (32, (.invokevirtual 158, 35, 189, 1, 0)),
  (35, (.istore_n 2, 36, 0, 0, 0)),
  (36, (.iload_n 3, 37, 0, 0, 0)),
  (37, (.iconst 1, 38, 0, 0, 1)),
  (38, (.isub, 39, 0, 0, 0)),
  (39, (.iload 5, 41, 0, 0, 0)),
  (41, (.ifCond .eq 8, 44, 49, 0, 0)),
  (44, (.iload 4, 46, 0, 0, 0)),
  (46, (.goto 4, 49, 50, 0, 0)),
  (49, (.iconst 0, 50, 0, 0, 0)),
  (50, (.iadd, 51, 0, 0, 0)),
  (51, (.istore_n 3, 52, 0, 0, 0)),
  (52, (.iload 5, 54, 0, 0, 0)),
  (54, (.ifCond .eq 7, 57, 61, 0, 0)),
  (57, (.iload_n 2, 58, 0, 0, 0)),
  (58, (.goto 7, 61, 65, 0, 0)),
  (61, (.iload_n 2, 62, 0, 0, 0)),
  (62, (.iload 4, 64, 0, 0, 0)),
  (64, (.iadd, 65, 0, 0, 0)),
  (65, (.istore_n 2, 66, 0, 0, 0)),
  (66, (.goto (-62), 69, 4, 0, 0)),
  (69, (.iload_n 2, 70, 0, 0, 0)),
  (70, (.ireturn, 71, 0, 0, 0))]
def xB200 : List (Nat × xm_row) := [(0, (.aload_n 0, 1, 0, 0, 0)),
  (1, (.iload_n 1, 2, 0, 0, 0)),
  (2, (.invokevirtual 151, 5, 187, 1, 0)),
  (5, (.bipush 41, 7, 0, 0, 41)),
  (7, (.if_icmp .ne 16, 10, 23, 0, 0)),
  (10, (.aload_n 0, 11, 0, 0, 0)),
  (11, (.iload_n 1, 12, 0, 0, 0)),
  (12, (.invokevirtual 155, 15, 188, 1, 0)),
  (15, (.iconst 1, 16, 0, 0, 1)),
  (16, (.if_icmp .ne 7, 19, 23, 0, 0)),
  (19, (.iconst 1, 20, 0, 0, 1)),
  (20, (.goto 4, 23, 24, 0, 0)),
  (23, (.iconst 0, 24, 0, 0, 0)),
  (24, (.ireturn, 25, 0, 0, 0))]
def xB201 : List (Nat × xm_row) := [(0, (.aload_n 0, 1, 0, 0, 0)),
  (1, (.bipush 11, 3, 0, 0, 11)),
  (3, (.iconst (-1), 4, 0, 0, (-1))),
  (4, (.invokevirtual 167, 7, 191, 2, 0)),
  (7, (.istore_n 1, 8, 0, 0, 0)),
  (8, (.iconst 0, 9, 0, 0, 0)),
  (9, (.istore_n 2, 10, 0, 0, 0)),
  (10, (.iload_n 1, 11, 0, 0, 0)),
  (11, (.ifCond .eq 55, 14, 66, 0, 0)),
  (14, (.iload_n 2, 15, 0, 0, 0)),
  (15, (.aload_n 0, 16, 0, 0, 0)),
  (16, (.bipush 11, 18, 0, 0, 11)),
  (18, (.invokevirtual 155, 21, 188, 1, 0)),
  (21, (.if_icmp .ge 45, 24, 66, 0, 0)),
  (24, (.aload_n 0, 25, 0, 0, 0)),
  (25, (.bipush 11, 27, 0, 0, 11)),
  (27, (.iload_n 2, 28, 0, 0, 0)),
  (28, (.invokevirtual 171, 31, 198, 2, 0)),
  (31, (.istore_n 3, 32, 0, 0, 0)),
  (32, (.aload_n 0, 33, 0, 0, 0)),
  (33, (.iload_n 3, 34, 0, 0, 0)),
  (34, (.iconst 2, 35, 0, 0, 2)),
  (35, (.invokevirtual 167, 38, 191, 2, 0)),
  (38, (.ifCond .eq 20, 41, 58, 0, 0)),
  (41, (.aload_n 0, 42, 0, 0, 0)),
  (42, (.aload_n 0, 43, 0, 0, 0)),
  (43, (.iload_n 3, 44, 0, 0, 0)),
  (44, (.iconst 0, 45, 0, 0, 0)),
  (45, (.invokevirtual 171, 48, 198, 2, 0)),
  (48, (.invokevirtual 175, 51, 200, 1, 0)),
  (51, (.ifCond .eq 7, 54, 58, 0, 0)),
  (54, (.iconst 1, 55, 0, 0, 1)),
  (55, (.goto 4, 58, 59, 0, 0)),
  (58, (.iconst 0, 59, 0, 0, 0)),
  (59, (.istore_n 1, 60, 0, 0, 0)),
  (60, (.iinc 2 1, 63, 0, 0, 1)),
  (63, (.goto (-53), 66, 10, 0, 0)),
  (66, (.iload_n 1, 67, 0, 0, 0)),
  (67, (.ireturn, 68, 0, 0, 0))]
def xB202 : List (Nat × xm_row) := [(0, (.aload_n 0, 1, 0, 0, 0)),
  (1, (.bipush 11, 3, 0, 0, 11)),
  (3, (.iconst 2, 4, 0, 0, 2)),
  (4, (.invokevirtual 167, 7, 191, 2, 0)),
  (7, (.ifCond .eq 52, 10, 59, 0, 0)),
  (10, (.aload_n 0, 11, 0, 0, 0)),
  (11, (.aload_n 0, 12, 0, 0, 0)),
  (12, (.bipush 11, 14, 0, 0, 11)),
  (14, (.iconst 0, 15, 0, 0, 0)),
  (15, (.invokevirtual 171, 18, 198, 2, 0)),
  (18, (.invokevirtual 151, 21, 187, 1, 0)),
  (21, (.bipush 9, 23, 0, 0, 9)),
  (23, (.if_icmp .ne 36, 26, 59, 0, 0)),
  (26, (.aload_n 0, 27, 0, 0, 0)),
  (27, (.aload_n 0, 28, 0, 0, 0)),
  (28, (.bipush 11, 30, 0, 0, 11)),
  (30, (.iconst 0, 31, 0, 0, 0)),
  (31, (.invokevirtual 171, 34, 198, 2, 0)),
  (34, (.invokevirtual 155, 37, 188, 1, 0)),
  (37, (.iconst 1, 38, 0, 0, 1)),
  (38, (.if_icmp .ne 21, 41, 59, 0, 0)),
  (41, (.aload_n 0, 42, 0, 0, 0)),
  (42, (.aload_n 0, 43, 0, 0, 0)),
  (43, (.bipush 11, 45, 0, 0, 11)),
  (45, (.iconst 1, 46, 0, 0, 1)),
  (46, (.invokevirtual 171, 49, 198, 2, 0)),
  (49, (.invokevirtual 178, 52, 197, 1, 0)),
  (52, (.ifCond .eq 7, 55, 59, 0, 0)),
  (55, (.iconst 1, 56, 0, 0, 1)),
  (56, (.goto 4, 59, 60, 0, 0)),
  (59, (.iconst 0, 60, 0, 0, 0)),
  (60, (.ireturn, 61, 0, 0, 0))]
def xB203 : List (Nat × xm_row) := [(0, (.aload_n 0, 1, 0, 0, 0)),
  (1, (.bipush 11, 3, 0, 0, 11)),
  (3, (.iconst 2, 4, 0, 0, 2)),
  (4, (.invokevirtual 167, 7, 191, 2, 0)),
  (7, (.ifCond .eq 38, 10, 45, 0, 0)),
  (10, (.aload_n 0, 11, 0, 0, 0)),
  (11, (.aload_n 0, 12, 0, 0, 0)),
  (12, (.bipush 11, 14, 0, 0, 11)),
  (14, (.iconst 0, 15, 0, 0, 0)),
  (15, (.invokevirtual 171, 18, 198, 2, 0)),
  (18, (.invokevirtual 151, 21, 187, 1, 0)),
  (21, (.bipush 16, 23, 0, 0, 16)),
  (23, (.if_icmp .ne 22, 26, 45, 0, 0)),
  (26, (.aload_n 0, 27, 0, 0, 0)),
  (27, (.aload_n 0, 28, 0, 0, 0)),
  (28, (.bipush 11, 30, 0, 0, 11)),
  (30, (.iconst 1, 31, 0, 0, 1)),
  (31, (.invokevirtual 171, 34, 198, 2, 0)),
  (34, (.iconst (-1), 35, 0, 0, (-1))),
  (35, (.invokevirtual 167, 38, 191, 2, 0)),
  (38, (.ifCond .eq 7, 41, 45, 0, 0)),
  (41, (.iconst 1, 42, 0, 0, 1)),
  (42, (.goto 4, 45, 46, 0, 0)),
  (45, (.iconst 0, 46, 0, 0, 0)),
  (46, (.ireturn, 47, 0, 0, 0))]
def xB204 : List (Nat × xm_row) := [(0, (.aload_n 0, 1, 0, 0, 0)),
  (1, (.bipush 11, 3, 0, 0, 11)),
  (3, (.iconst 2, 4, 0, 0, 2)),
  (4, (.invokevirtual 167, 7, 191, 2, 0)),
  (7, (.ifCond .eq 36, 10, 43, 0, 0)),
  (10, (.aload_n 0, 11, 0, 0, 0)),
  (11, (.aload_n 0, 12, 0, 0, 0)),
  (12, (.bipush 11, 14, 0, 0, 11)),
  (14, (.iconst 0, 15, 0, 0, 0)),
  (15, (.invokevirtual 171, 18, 198, 2, 0)),
  (18, (.invokevirtual 175, 21, 200, 1, 0)),
  (21, (.ifCond .eq 22, 24, 43, 0, 0)),
  (24, (.aload_n 0, 25, 0, 0, 0)),
  (25, (.aload_n 0, 26, 0, 0, 0)),
  (26, (.bipush 11, 28, 0, 0, 11)),
  (28, (.iconst 1, 29, 0, 0, 1)),
  (29, (.invokevirtual 171, 32, 198, 2, 0)),
  (32, (.iconst (-1), 33, 0, 0, (-1))),
  (33, (.invokevirtual 167, 36, 191, 2, 0)),
  (36, (.ifCond .eq 7, 39, 43, 0, 0)),
  (39, (.iconst 1, 40, 0, 0, 1)),
  (40, (.goto 4, 43, 44, 0, 0)),
  (43, (.iconst 0, 44, 0, 0, 0)),
  (44, (.istore_n 1, 45, 0, 0, 0)),
  (45, (.iload_n 1, 46, 0, 0, 0)),
  (46, (.ifCond .eq 13, 49, 59, 0, 0)),
  (49, (.aload_n 0, 50, 0, 0, 0)),
  (50, (.bipush 11, 52, 0, 0, 11)),
  (52, (.iconst 1, 53, 0, 0, 1)),
  (53, (.invokevirtual 171, 56, 198, 2, 0)),
  (56, (.goto 4, 59, 60, 0, 0)),
  (59, (.iconst 0, 60, 0, 0, 0)),
  (60, (.istore_n 2, 61, 0, 0, 0)),
  (61, (.iconst 0, 62, 0, 0, 0)),
  (62, (.istore_n 3, 63, 0, 0, 0)),
  (63, (.iload_n 1, 64, 0, 0, 0)),
  (64, (.ifCond .eq 70, 67, 134, 0, 0)),
  (67, (.iload_n 3, 68, 0, 0, 0)),
  (68, (.aload_n 0, 69, 0, 0, 0)),
  (69, (.iload_n 2, 70, 0, 0, 0)),
  (70, (.invokevirtual 155, 73, 188, 1, 0)),
  (73, (.if_icmp .ge 61, 76, 134, 0, 0)),
  (76, (.aload_n 0, 77, 0, 0, 0)),
  (77, (.iload_n 2, 78, 0, 0, 0)),
  (78, (.iload_n 3, 79, 0, 0, 0)),
  (79, (.invokevirtual 171, 82, 198, 2, 0)),
  (82, (.istore 4, 84, 0, 0, 0)),
  (84, (.aload_n 0, 85, 0, 0, 0)),
  (85, (.iload 4, 87, 0, 0, 0)),
  (87, (.iconst 2, 88, 0, 0, 2)),
  (88, (.invokevirtual 167, 91, 191, 2, 0)),
  (91, (.ifCond .eq 35, 94, 126, 0, 0)),
  (94, (.aload_n 0, 95, 0, 0, 0)),
  (95, (.aload_n 0, 96, 0, 0, 0)),
  (96, (.iload 4, 98, 0, 0, 0)),
  (98, (.iconst 0, 99, 0, 0, 0)),
  (99, (.invokevirtual 171, 102, 198, 2, 0)),
  (102, (.invokevirtual 175, 105, 200, 1, 0)),
  (105, (.ifCond .eq 21, 108, 126, 0, 0)),
  (108, (.aload_n 0, 109, 0, 0, 0)),
  (109, (.aload_n 0, 110, 0, 0, 0)),
  (110, (.iload 4, 112, 0, 0, 0)),
  (112, (.iconst 1, 113, 0, 0, 1)),
  (113, (.invokevirtual 171, 116, 198, 2, 0)),
  (116, (.invokevirtual 178, 119, 197, 1, 0)),
  (119, (.ifCond .eq 7, 122, 126, 0, 0)),
  (122, (.iconst 1, 123, 0, 0, 1)),
  (123, (.goto 4, 126, 127, 0, 0)),
  (126, (.iconst 0, 127, 0, 0, 0)),
  (127, (.istore_n 1, 128, 0, 0, 0)),
  (128, (.iinc 3 1, 131, 0, 0, 1)),
  (131, (.goto (-68), 134, 63, 0, 0)),
  (134, (.iload_n 1, 135, 0, 0, 0)),
  (135, (.ireturn, 136, 0, 0, 0))]
def xB205 : List (Nat × xm_row) := [(0, (.iload_n 1, 1, 0, 0, 0)),
  (1, (.iconst 1, 2, 0, 0, 1)),
  (2, (.if_icmp .ne 25, 5, 27, 0, 0)),
  (5, (.iload_n 2, 6, 0, 0, 0)),
  (6, (.iconst 1, 7, 0, 0, 1)),
  (7, (.if_icmp .ne 20, 10, 27, 0, 0)),
  (10, (.aload_n 0, 11, 0, 0, 0)),
  (11, (.iconst 0, 12, 0, 0, 0)),
  (12, (.putfield 97, 15, 12, 16, 0)),
  (15, (.aload_n 0, 16, 0, 0, 0)),
  (16, (.invokevirtual 221, 19, 206, 0, 0)),
  (19, (.aload_n 0, 20, 0, 0, 0)),
  (20, (.iconst 2, 21, 0, 0, 2)),
  (21, (.invokevirtual 130, 24, 195, 1, 0)),
  (24, (.goto 159, 27, 183, 0, 0)),
  (27, (.iload_n 1, 28, 0, 0, 0)),
  (28, (.iconst 1, 29, 0, 0, 1)),
  (29, (.if_icmp .ne 15, 32, 44, 0, 0)),
  (32, (.iload_n 2, 33, 0, 0, 0)),
  (33, (.iconst 3, 34, 0, 0, 3)),
  (34, (.if_icmp .ne 10, 37, 44, 0, 0)),
  (37, (.aload_n 0, 38, 0, 0, 0)),
  (38, (.invokevirtual 224, 41, 207, 0, 0)),
  (41, (.goto 142, 44, 183, 0, 0)),
  (44, (.iload_n 1, 45, 0, 0, 0)),
  (45, (.iconst 1, 46, 0, 0, 1)),
  (46, (.if_icmp .ne 45, 49, 91, 0, 0)),
  (49, (.iload_n 2, 50, 0, 0, 0)),
  (50, (.bipush 13, 52, 0, 0, 13)),
  (52, (.if_icmp .ne 39, 55, 91, 0, 0)),
  (55, (.aload_n 0, 56, 0, 0, 0)),
  (56, (.iconst 1, 57, 0, 0, 1)),
  (57, (.putfield 133, 60, 12, 19, 0)),
  (60, (.aload_n 0, 61, 0, 0, 0)),
  (61, (.iconst 0, 62, 0, 0, 0)),
  (62, (.putfield 97, 65, 12, 16, 0)),
  (65, (.aload_n 0, 66, 0, 0, 0)),
  (66, (.iconst 0, 67, 0, 0, 0)),
  (67, (.iconst 2, 68, 0, 0, 2)),
  (68, (.invokevirtual 111, 71, 178, 2, 0)),
  (71, (.aload_n 0, 72, 0, 0, 0)),
  (72, (.iconst 0, 73, 0, 0, 0)),
  (73, (.invokevirtual 127, 76, 210, 1, 0)),
  (76, (.aload_n 0, 77, 0, 0, 0)),
  (77, (.iconst 0, 78, 0, 0, 0)),
  (78, (.iconst 0, 79, 0, 0, 0)),
  (79, (.invokevirtual 111, 82, 178, 2, 0)),
  (82, (.aload_n 0, 83, 0, 0, 0)),
  (83, (.bipush 14, 85, 0, 0, 14)),
  (85, (.invokevirtual 130, 88, 195, 1, 0)),
  (88, (.goto 95, 91, 183, 0, 0)),
  (91, (.iload_n 1, 92, 0, 0, 0)),
  (92, (.iconst 1, 93, 0, 0, 1)),
  (93, (.if_icmp .ne 22, 96, 115, 0, 0)),
  (96, (.iload_n 2, 97, 0, 0, 0)),
  (97, (.bipush 15, 99, 0, 0, 15)),
  (99, (.if_icmp .ne 16, 102, 115, 0, 0)),
  (102, (.aload_n 0, 103, 0, 0, 0)),
  (103, (.iconst 1, 104, 0, 0, 1)),
  (104, (.invokevirtual 218, 107, 211, 1, 0)),
  (107, (.aload_n 0, 108, 0, 0, 0)),
  (108, (.iconst 0, 109, 0, 0, 0)),
  (109, (.invokevirtual 200, 112, 213, 1, 0)),
  (112, (.goto 71, 115, 183, 0, 0)),
  (115, (.iload_n 1, 116, 0, 0, 0)),
  (116, (.iconst 1, 117, 0, 0, 1)),
  (117, (.if_icmp .ne 10, 120, 127, 0, 0)),
  (120, (.aload_n 0, 121, 0, 0, 0)),
  (121, (.invokevirtual 227, 124, 214, 0, 0)),
  (124, (.goto 59, 127, 183, 0, 0)),
  (127, (.iload_n 2, 128, 0, 0, 0)),
  (128, (.bipush 15, 130, 0, 0, 15)),
  (130, (.if_icmp .ne 10, 133, 140, 0, 0)),
  (133, (.aload_n 0, 134, 0, 0, 0)),
  (134, (.invokevirtual 230, 137, 215, 0, 0)),
  (137, (.goto 46, 140, 183, 0, 0)),
  (140, (.iload_n 2, 141, 0, 0, 0)),
  (141, (.bipush 33, 143, 0, 0, 33)),
  (143, (.if_icmp .ne 10, 146, 153, 0, 0)),
  (146, (.aload_n 0, 147, 0, 0, 0)),
  (147, (.invokevirtual 233, 150, 216, 0, 0)),
  (150, (.goto 33, 153, 183, 0, 0)),
  (153, (.iload_n 2, 154, 0, 0, 0)),
  (154, (.bipush 35, 156, 0, 0, 35)),
  (156, (.if_icmp .ne 10, 159, 166, 0, 0)),
  (159, (.aload_n 0, 160, 0, 0, 0)),
  (160, (.invokevirtual 236, 163, 218, 0, 0)),
  (163, (.goto 20, 166, 183, 0, 0)),
  (166, (.iload_n 2, 167, 0, 0, 0)),
  (167, (.bipush 37, 169, 0, 0, 37)),
  (169, (.if_icmp .ne 10, 172, 179, 0, 0)),
  (172, (.aload_n 0, 173, 0, 0, 0)),
  (173, (.invokevirtual 239, 176, 221, 0, 0)),
  (176, (.goto 7, 179, 183, 0, 0)),
  (179, (.aload_n 0, 180, 0, 0, 0)),
  (180, (.invokevirtual 242, 183, 222, 0, 0)),
  (183, (.return_, 184, 0, 0, 0))]
def xB206 : List (Nat × xm_row) := [(0, (.aload_n 0, 1, 0, 0, 0)),
  (1, (.iconst 0, 2, 0, 0, 0)),
  (2, (.iconst 2, 3, 0, 0, 2)),
  (3, (.invokevirtual 111, 6, 178, 2, 0)),
  (6, (.aload_n 0, 7, 0, 0, 0)),
  (7, (.bipush 16, 9, 0, 0, 16)),
  (9, (.iconst 2, 10, 0, 0, 2)),
  (10, (.invokevirtual 111, 13, 178, 2, 0)),
  (13, (.aload_n 0, 14, 0, 0, 0)),
  (14, (.bipush 70, 16, 0, 0, 70)),
  (16, (.invokevirtual 108, 19, 179, 1, 0)),
  (19, (.aload_n 0, 20, 0, 0, 0)),
  (20, (.bipush 76, 22, 0, 0, 76)),
  (22, (.invokevirtual 108, 25, 179, 1, 0)),
  (25, (.aload_n 0, 26, 0, 0, 0)),
  (26, (.bipush 16, 28, 0, 0, 16)),
  (28, (.iconst 1, 29, 0, 0, 1)),
  (29, (.invokevirtual 111, 32, 178, 2, 0)),
  (32, (.aload_n 0, 33, 0, 0, 0)),
  (33, (.bipush 49, 35, 0, 0, 49)),
  (35, (.invokevirtual 108, 38, 179, 1, 0)),
  (38, (.return_, 39, 0, 0, 0))]
def xB207 : List (Nat × xm_row) := [(0, (.aload_n 0, 1, 0, 0, 0)),
  (1, (.iconst 0, 2, 0, 0, 0)),
  (2, (.putfield 97, 5, 12, 16, 0)),
  (5, (.aload_n 0, 6, 0, 0, 0)),
  (6, (.bipush 11, 8, 0, 0, 11)),
  (8, (.invokevirtual 155, 11, 188, 1, 0)),
  (11, (.istore_n 1, 12, 0, 0, 0)),
  (12, (.aload_n 0, 13, 0, 0, 0)),
  (13, (.iconst 0, 14, 0, 0, 0)),
  (14, (.iload_n 1, 15, 0, 0, 0)),
  (15, (.invokevirtual 111, 18, 178, 2, 0)),
  (18, (.iconst 0, 19, 0, 0, 0)),
  (19, (.istore_n 2, 20, 0, 0, 0)),
  (20, (.iload_n 2, 21, 0, 0, 0)),
  (21, (.iload_n 1, 22, 0, 0, 0)),
  (22, (.if_icmp .ge 24, 25, 46, 0, 0)),
  (25, (.aload_n 0, 26, 0, 0, 0)),
  (26, (.aload_n 0, 27, 0, 0, 0)),
  (27, (.aload_n 0, 28, 0, 0, 0)),
  (28, (.bipush 11, 30, 0, 0, 11)),
  (30, (.iload_n 2, 31, 0, 0, 0)),
  (31, (.invokevirtual 171, 34, 198, 2, 0)),
  (34, (.invokevirtual 197, 37, 192, 1, 0)),
  (37, (.invokevirtual 137, 40, 208, 1, 0)),
  (40, (.iinc 2 1, 43, 0, 0, 1)),
  (43, (.goto (-23), 46, 20, 0, 0)),
  (46, (.aload_n 0, 47, 0, 0, 0)),
  (47, (.iconst 4, 48, 0, 0, 4)),
  (48, (.invokevirtual 130, 51, 195, 1, 0)),
  (51, (.return_, 52, 0, 0, 0))]
def xB208 : List (Nat × xm_row) := [(0, (.iload_n 1, 1, 0, 0, 0)),
  (1, (.ifCond .lt 8, 4, 9, 0, 0)),
  (4, (.iload_n 1, 5, 0, 0, 0)),
  (5, (.iconst 5, 6, 0, 0, 5)),
  (6, (.if_icmp .le 12, 9, 18, 0, 0)),
  (9, (.aload_n 0, 10, 0, 0, 0)),
  (10, (.iconst 0, 11, 0, 0, 0)),
  (11, (.iconst 0, 12, 0, 0, 0)),
  (12, (.invokevirtual 111, 15, 178, 2, 0)),
  (15, (.goto 79, 18, 94, 0, 0)),
  (18, (.iload_n 1, 19, 0, 0, 0)),
  (19, (.iconst 2, 20, 0, 0, 2)),
  (20, (.if_icmp .ge 25, 23, 45, 0, 0)),
  (23, (.aload_n 0, 24, 0, 0, 0)),
  (24, (.iload_n 1, 25, 0, 0, 0)),
  (25, (.ifCond .ne 10, 28, 35, 0, 0)),
  (28, (.aload_n 0, 29, 0, 0, 0)),
  (29, (.getfield 115, 32, 12, 20, 0)),
  (32, (.goto 7, 35, 39, 0, 0)),
  (35, (.aload_n 0, 36, 0, 0, 0)),
  (36, (.getfield 118, 39, 12, 22, 0)),
  (39, (.invokevirtual 121, 42, 209, 1, 0)),
  (42, (.goto 52, 45, 94, 0, 0)),
  (45, (.aload_n 0, 46, 0, 0, 0)),
  (46, (.aload_n 0, 47, 0, 0, 0)),
  (47, (.getfield 38, 50, 12, 24, 0)),
  (50, (.iload_n 1, 51, 0, 0, 0)),
  (51, (.iaload, 52, 0, 0, 0)),
  (52, (.aload_n 0, 53, 0, 0, 0)),
  (53, (.getfield 41, 56, 12, 25, 0)),
  (56, (.iload_n 1, 57, 0, 0, 0)),
  (57, (.iaload, 58, 0, 0, 0)),
  (58, (.invokevirtual 111, 61, 178, 2, 0)),
  (61, (.iconst 0, 62, 0, 0, 0)),
  (62, (.istore_n 2, 63, 0, 0, 0)),
  (63, (.iload_n 2, 64, 0, 0, 0)),
  (64, (.aload_n 0, 65, 0, 0, 0)),
  (65, (.getfield 41, 68, 12, 25, 0)),
  (68, (.iload_n 1, 69, 0, 0, 0)),
  (69, (.iaload, 70, 0, 0, 0)),
  (70, (.if_icmp .ge 24, 73, 94, 0, 0)),
  (73, (.aload_n 0, 74, 0, 0, 0)),
  (74, (.aload_n 0, 75, 0, 0, 0)),
  (75, (.getfield 44, 78, 12, 26, 0)),
  (78, (.bipush 8, 80, 0, 0, 8)),
  (80, (.iload_n 1, 81, 0, 0, 0)),
  (81, (.imul, 82, 0, 0, 0)),
  (82, (.iload_n 2, 83, 0, 0, 0)),
  (83, (.iadd, 84, 0, 0, 0)),
  (84, (.iaload, 85, 0, 0, 0)),
  (85, (.invokevirtual 108, 88, 179, 1, 0)),
  (88, (.iinc 2 1, 91, 0, 0, 1)),
  (91, (.goto (-28), 94, 63, 0, 0)),
  (94, (.return_, 95, 0, 0, 0))]
def xB209 : List (Nat × xm_row) := [(0, (.aload_n 0, 1, 0, 0, 0)),
  (1, (.bipush 41, 3, 0, 0, 41)),
  (3, (.iconst 1, 4, 0, 0, 1)),
  (4, (.invokevirtual 111, 7, 178, 2, 0)),
  (7, (.aload_n 0, 8, 0, 0, 0)),
  (8, (.iload_n 1, 9, 0, 0, 0)),
  (9, (.invokevirtual 108, 12, 179, 1, 0)),
  (12, (.return_, 13, 0, 0, 0))]
def xB210 : List (Nat × xm_row) := [(0, (.aload_n 0, 1, 0, 0, 0)),
  (1, (.bipush 8, 3, 0, 0, 8)),
  (3, (.iconst 1, 4, 0, 0, 1)),
  (4, (.invokevirtual 111, 7, 178, 2, 0)),
  (7, (.aload_n 0, 8, 0, 0, 0)),
  (8, (.iload_n 1, 9, 0, 0, 0)),
  (9, (.invokevirtual 108, 12, 179, 1, 0)),
  (12, (.return_, 13, 0, 0, 0))]
def xB211 : List (Nat × xm_row) := [(0, (.iload_n 1, 1, 0, 0, 0)),
  (1, (.aload_n 0, 2, 0, 0, 0)),
  (2, (.getfield 115, 5, 12, 20, 0)),
  (5, (.if_icmp .eq 7, 8, 12, 0, 0)),
  (8, (.iconst 1, 9, 0, 0, 1)),
  (9, (.goto 4, 12, 13, 0, 0)),
  (12, (.iconst 0, 13, 0, 0, 0)),
  (13, (.istore_n 2, 14, 0, 0, 0)),
  (14, (.aload_n 0, 15, 0, 0, 0)),
  (15, (.iload_n 1, 16, 0, 0, 0)),
  (16, (.putfield 115, 19, 12, 20, 0)),
  (19, (.iload_n 2, 20, 0, 0, 0)),
  (20, (.ifCond .eq 9, 23, 29, 0, 0)),
  (23, (.aload_n 0, 24, 0, 0, 0)),
  (24, (.iconst 1, 25, 0, 0, 1)),
  (25, (.invokevirtual 140, 28, 212, 1, 0)),
  (28, (.istore_n 3, 29, 0, 0, 0)),
  (29, (.return_, 30, 0, 0, 0))]
def xB212 : List (Nat × xm_row) := [(0, (.aload_n 0, 1, 0, 0, 0)),
  (1, (.getfield 59, 4, 12, 31, 0)),
  (4, (.iload_n 1, 5, 0, 0, 0)),
  (5, (.baload, 6, 0, 0, 0)),
  (6, (.ifCond .eq 27, 9, 33, 0, 0)),
  (9, (.aload_n 0, 10, 0, 0, 0)),
  (10, (.getfield 53, 13, 12, 29, 0)),
  (13, (.iload_n 1, 14, 0, 0, 0)),
  (14, (.iaload, 15, 0, 0, 0)),
  (15, (.ifCond .eq 18, 18, 33, 0, 0)),
  (18, (.aload_n 0, 19, 0, 0, 0)),
  (19, (.getfield 133, 22, 12, 19, 0)),
  (22, (.ifCond .eq 11, 25, 33, 0, 0)),
  (25, (.aload_n 0, 26, 0, 0, 0)),
  (26, (.getfield 115, 29, 12, 20, 0)),
  (29, (.iconst 2, 30, 0, 0, 2)),
  (30, (.if_icmp .ge 5, 33, 35, 0, 0)),
  (33, (.iconst 0, 34, 0, 0, 0)),
  (34, (.ireturn, 35, 0, 0, 0)),
  (35, (.aload_n 0, 36, 0, 0, 0)),
  (36, (.iconst 0, 37, 0, 0, 0)),
  (37, (.putfield 97, 40, 12, 16, 0)),
  (40, (.aload_n 0, 41, 0, 0, 0)),
  (41, (.iconst 0, 42, 0, 0, 0)),
  (42, (.iconst 3, 43, 0, 0, 3)),
  (43, (.invokevirtual 111, 46, 178, 2, 0)),
  (46, (.aload_n 0, 47, 0, 0, 0)),
  (47, (.iconst 0, 48, 0, 0, 0)),
  (48, (.invokevirtual 121, 51, 209, 1, 0)),
  (51, (.aload_n 0, 52, 0, 0, 0)),
  (52, (.iload_n 1, 53, 0, 0, 0)),
  (53, (.invokevirtual 121, 56, 209, 1, 0)),
  (56, (.aload_n 0, 57, 0, 0, 0)),
  (57, (.iconst 0, 58, 0, 0, 0)),
  (58, (.aload_n 0, 59, 0, 0, 0)),
  (59, (.getfield 53, 62, 12, 29, 0)),
  (62, (.iload_n 1, 63, 0, 0, 0)),
  (63, (.iaload, 64, 0, 0, 0)),
  (64, (.invokevirtual 111, 67, 178, 2, 0)),
  (67, (.iconst 0, 68, 0, 0, 0)),
  (68, (.istore_n 2, 69, 0, 0, 0)),
  (69, (.iload_n 2, 70, 0, 0, 0)),
  (70, (.aload_n 0, 71, 0, 0, 0)),
  (71, (.getfield 53, 74, 12, 29, 0)),
  (74, (.iload_n 1, 75, 0, 0, 0)),
  (75, (.iaload, 76, 0, 0, 0)),
  (76, (.if_icmp .ge 77, 79, 153, 0, 0)),
  (79, (.aload_n 0, 80, 0, 0, 0)),
  (80, (.getfield 56, 83, 12, 30, 0)),
  (83, (.iconst 2, 84, 0, 0, 2)),
  (84, (.iload_n 1, 85, 0, 0, 0)),
  (85, (.imul, 86, 0, 0, 0)),
  (86, (.iload_n 2, 87, 0, 0, 0)),
  (87, (.iadd, 88, 0, 0, 0)),
  (88, (.iaload, 89, 0, 0, 0)),
  (89, (.istore_n 3, 90, 0, 0, 0)),
  (90, (.aload_n 0, 91, 0, 0, 0)),
  (91, (.iconst 0, 92, 0, 0, 0)),
  (92, (.iconst 2, 93, 0, 0, 2)),
  (93, (.invokevirtual 111, 96, 178, 2, 0)),
  (96, (.aload_n 0, 97, 0, 0, 0)),
  (97, (.iload_n 3, 98, 0, 0, 0)),
  (98, (.invokevirtual 121, 101, 209, 1, 0)),
  (101, (.aload_n 0, 102, 0, 0, 0)),
  (102, (.iconst 0, 103, 0, 0, 0)),
  (103, (.aload_n 0, 104, 0, 0, 0)),
  (104, (.getfield 47, 107, 12, 27, 0)),
  (107, (.iload_n 3, 108, 0, 0, 0)),
  (108, (.iaload, 109, 0, 0, 0)),
  (109, (.invokevirtual 111, 112, 178, 2, 0)),
  (112, (.iconst 0, 113, 0, 0, 0)),
  (113, (.istore 4, 115, 0, 0, 0)),
  (115, (.iload 4, 117, 0, 0, 0)),
  (117, (.aload_n 0, 118, 0, 0, 0)),
  (118, (.getfield 47, 121, 12, 27, 0)),
  (121, (.iload_n 3, 122, 0, 0, 0)),
  (122, (.iaload, 123, 0, 0, 0)),
  (123, (.if_icmp .ge 24, 126, 147, 0, 0)),
  (126, (.aload_n 0, 127, 0, 0, 0)),
  (127, (.aload_n 0, 128, 0, 0, 0)),
  (128, (.getfield 50, 131, 12, 28, 0)),
  (131, (.iconst 3, 132, 0, 0, 3)),
  (132, (.iload_n 3, 133, 0, 0, 0)),
  (133, (.imul, 134, 0, 0, 0)),
  (134, (.iload 4, 136, 0, 0, 0)),
  (136, (.iadd, 137, 0, 0, 0)),
  (137, (.iaload, 138, 0, 0, 0)),
  (138, (.invokevirtual 137, 141, 208, 1, 0)),
  (141, (.iinc 4 1, 144, 0, 0, 1)),
  (144, (.goto (-29), 147, 115, 0, 0)),
  (147, (.iinc 2 1, 150, 0, 0, 1)),
  (150, (.goto (-81), 153, 69, 0, 0)),
  (153, (.aload_n 0, 154, 0, 0, 0)),
  (154, (.sipush 134, 157, 0, 0, 134)),
  (157, (.bipush 11, 159, 0, 0, 11)),
  (159, (.invokevirtual 124, 162, 180, 2, 0)),
  (162, (.iconst 1, 163, 0, 0, 1)),
  (163, (.ireturn, 164, 0, 0, 0))]
def xB213 : List (Nat × xm_row) := [(0, (.aload_n 0, 1, 0, 0, 0)),
  (1, (.iconst 0, 2, 0, 0, 0)),
  (2, (.putfield 97, 5, 12, 16, 0)),
  (5, (.aload_n 0, 6, 0, 0, 0)),
  (6, (.iload_n 1, 7, 0, 0, 0)),
  (7, (.invokevirtual 127, 10, 210, 1, 0)),
  (10, (.aload_n 0, 11, 0, 0, 0)),
  (11, (.aload_n 0, 12, 0, 0, 0)),
  (12, (.getfield 7, 15, 12, 4, 0)),
  (15, (.iconst 4, 16, 0, 0, 4)),
  (16, (.iaload, 17, 0, 0, 0)),
  (17, (.iconst 1, 18, 0, 0, 1)),
  (18, (.iadd, 19, 0, 0, 0)),
  (19, (.invokevirtual 130, 22, 195, 1, 0)),
  (22, (.return_, 23, 0, 0, 0))]
def xB214 : List (Nat × xm_row) := [(0, (.aload_n 0, 1, 0, 0, 0)),
  (1, (.getfield 115, 4, 12, 20, 0)),
  (4, (.ifCond .ne 7, 7, 11, 0, 0)),
  (7, (.iconst 1, 8, 0, 0, 1)),
  (8, (.goto 16, 11, 24, 0, 0)),
  (11, (.aload_n 0, 12, 0, 0, 0)),
  (12, (.getfield 115, 15, 12, 20, 0)),
  (15, (.iconst 1, 16, 0, 0, 1)),
  (16, (.if_icmp .le 7, 19, 23, 0, 0)),
  (19, (.iconst 2, 20, 0, 0, 2)),
  (20, (.goto 4, 23, 24, 0, 0)),
  (23, (.iconst 0, 24, 0, 0, 0)),
  (24, (.istore_n 1, 25, 0, 0, 0)),
  (25, (.iload_n 1, 26, 0, 0, 0)),
  (26, (.ifCond .ne 11, 29, 37, 0, 0)),
  (29, (.aload_n 0, 30, 0, 0, 0)),
  (30, (.aload_n 0, 31, 0, 0, 0)),
  (31, (.getfield 34, 34, 12, 21, 0)),
  (34, (.invokevirtual 218, 37, 211, 1, 0)),
  (37, (.aload_n 0, 38, 0, 0, 0)),
  (38, (.iload_n 1, 39, 0, 0, 0)),
  (39, (.invokevirtual 200, 42, 213, 1, 0)),
  (42, (.return_, 43, 0, 0, 0))]
def xB215 : List (Nat × xm_row) := [(0, (.aload_n 0, 1, 0, 0, 0)),
  (1, (.bipush 11, 3, 0, 0, 11)),
  (3, (.invokevirtual 155, 6, 188, 1, 0)),
  (6, (.istore_n 1, 7, 0, 0, 0)),
  (7, (.iconst 0, 8, 0, 0, 0)),
  (8, (.istore_n 2, 9, 0, 0, 0)),
  (9, (.iconst 0, 10, 0, 0, 0)),
  (10, (.istore_n 3, 11, 0, 0, 0)),
  (11, (.iload_n 3, 12, 0, 0, 0)),
  (12, (.iload_n 1, 13, 0, 0, 0)),
  (13, (.if_icmp .ge 45, 16, 58, 0, 0)),
  (16, (.aload_n 0, 17, 0, 0, 0)),
  (17, (.aload_n 0, 18, 0, 0, 0)),
  (18, (.aload_n 0, 19, 0, 0, 0)),
  (19, (.bipush 11, 21, 0, 0, 11)),
  (21, (.iload_n 3, 22, 0, 0, 0)),
  (22, (.invokevirtual 171, 25, 198, 2, 0)),
  (25, (.iconst 0, 26, 0, 0, 0)),
  (26, (.invokevirtual 171, 29, 198, 2, 0)),
  (29, (.invokevirtual 197, 32, 192, 1, 0)),
  (32, (.istore 4, 34, 0, 0, 0)),
  (34, (.iload 4, 36, 0, 0, 0)),
  (36, (.iconst 2, 37, 0, 0, 2)),
  (37, (.if_icmp .lt 9, 40, 46, 0, 0)),
  (40, (.iload 4, 42, 0, 0, 0)),
  (42, (.iconst 5, 43, 0, 0, 5)),
  (43, (.if_icmp .le 7, 46, 50, 0, 0)),
  (46, (.iconst 1, 47, 0, 0, 1)),
  (47, (.goto 4, 50, 51, 0, 0)),
  (50, (.iload_n 2, 51, 0, 0, 0)),
  (51, (.istore_n 2, 52, 0, 0, 0)),
  (52, (.iinc 3 1, 55, 0, 0, 1)),
  (55, (.goto (-44), 58, 11, 0, 0)),
  (58, (.iconst 0, 59, 0, 0, 0)),
  (59, (.istore_n 3, 60, 0, 0, 0)),
  (60, (.iload_n 3, 61, 0, 0, 0)),
  (61, (.iload_n 1, 62, 0, 0, 0)),
  (62, (.if_icmp .ge 53, 65, 115, 0, 0)),
  (65, (.iload_n 2, 66, 0, 0, 0)),
  (66, (.ifCond .ne 49, 69, 115, 0, 0)),
  (69, (.aload_n 0, 70, 0, 0, 0)),
  (70, (.aload_n 0, 71, 0, 0, 0)),
  (71, (.bipush 11, 73, 0, 0, 11)),
  (73, (.iload_n 3, 74, 0, 0, 0)),
  (74, (.invokevirtual 171, 77, 198, 2, 0)),
  (77, (.iconst 1, 78, 0, 0, 1)),
  (78, (.invokevirtual 171, 81, 198, 2, 0)),
  (81, (.istore 4, 83, 0, 0, 0)),
  (83, (.aload_n 0, 84, 0, 0, 0)),
  (84, (.iload 4, 86, 0, 0, 0)),
  (86, (.invokevirtual 151, 89, 187, 1, 0)),
  (89, (.ifCond .eq 14, 92, 103, 0, 0)),
  (92, (.aload_n 0, 93, 0, 0, 0)),
  (93, (.iload 4, 95, 0, 0, 0)),
  (95, (.invokevirtual 155, 98, 188, 1, 0)),
  (98, (.bipush 8, 100, 0, 0, 8)),
  (100, (.if_icmp .le 7, 103, 107, 0, 0)),
  (103, (.iconst 3, 104, 0, 0, 3)),
  (104, (.goto 4, 107, 108, 0, 0)),
  (107, (.iconst 0, 108, 0, 0, 0)),
  (108, (.istore_n 2, 109, 0, 0, 0)),
  (109, (.iinc 3 1, 112, 0, 0, 1)),
  (112, (.goto (-52), 115, 60, 0, 0)),
  (115, (.iconst 0, 116, 0, 0, 0)),
  (116, (.istore_n 3, 117, 0, 0, 0)),
  (117, (.iload_n 3, 118, 0, 0, 0)),
  (118, (.iload_n 1, 119, 0, 0, 0)),
  (119, (.if_icmp .ge 119, 122, 238, 0, 0)),
  (122, (.iload_n 2, 123, 0, 0, 0)),
  (123, (.ifCond .ne 115, 126, 238, 0, 0)),
  (126, (.aload_n 0, 127, 0, 0, 0)),
  (127, (.aload_n 0, 128, 0, 0, 0)),
  (128, (.aload_n 0, 129, 0, 0, 0)),
  (129, (.bipush 11, 131, 0, 0, 11)),
  (131, (.iload_n 3, 132, 0, 0, 0)),
  (132, (.invokevirtual 171, 135, 198, 2, 0)),
  (135, (.iconst 0, 136, 0, 0, 0)),
  (136, (.invokevirtual 171, 139, 198, 2, 0)),
  (139, (.invokevirtual 197, 142, 192, 1, 0)),
  (142, (.istore 4, 144, 0, 0, 0)),
  (144, (.aload_n 0, 145, 0, 0, 0)),
  (145, (.aload_n 0, 146, 0, 0, 0)),
  (146, (.bipush 11, 148, 0, 0, 11)),
  (148, (.iload_n 3, 149, 0, 0, 0)),
  (149, (.invokevirtual 171, 152, 198, 2, 0)),
  (152, (.iconst 1, 153, 0, 0, 1)),
  (153, (.invokevirtual 171, 156, 198, 2, 0)),
  (156, (.istore 5, 158, 0, 0, 0)),
  (158, (.aload_n 0, 159, 0, 0, 0)),
  (159, (.getfield 38, 162, 12, 24, 0)),
  (162, (.iload 4, 164, 0, 0, 0)),
  (164, (.aload_n 0, 165, 0, 0, 0)),
  (165, (.iload 5, 167, 0, 0, 0)),
  (167, (.invokevirtual 151, 170, 187, 1, 0)),
  (170, (.iastore, 171, 0, 0, 0)),
  (171, (.aload_n 0, 172, 0, 0, 0)),
  (172, (.getfield 41, 175, 12, 25, 0)),
  (175, (.iload 4, 177, 0, 0, 0)),
  (177, (.aload_n 0, 178, 0, 0, 0)),
  (178, (.iload 5, 180, 0, 0, 0)),
  (180, (.invokevirtual 155, 183, 188, 1, 0)),
  (183, (.iastore, 184, 0, 0, 0)),
  (184, (.iconst 0, 185, 0, 0, 0)),
  (185, (.istore 6, 187, 0, 0, 0)),
  (187, (.iload 6, 189, 0, 0, 0)),
  (189, (.aload_n 0, 190, 0, 0, 0)),
  (190, (.getfield 41, 193, 12, 25, 0)),
  (193, (.iload 4, 195, 0, 0, 0)),
  (195, (.iaload, 196, 0, 0, 0)),
  (196, (.if_icmp .ge 36, 199, 232, 0, 0)),
  (199, (.aload_n 0, 200, 0, 0, 0)),
  (200, (.getfield 44, 203, 12, 26, 0)),
  (203, (.bipush 8, 205, 0, 0, 8)),
  (205, (.iload 4, 207, 0, 0, 0)),
  (207, (.imul, 208, 0, 0, 0)),
  (208, (.iload 6, 210, 0, 0, 0)),
  (210, (.iadd, 211, 0, 0, 0)),
  (211, (.aload_n 0, 212, 0, 0, 0)),
  (212, (.getfield 7, 215, 12, 4, 0)),
  (215, (.aload_n 0, 216, 0, 0, 0)),
  (216, (.iload 5, 218, 0, 0, 0)),
  (218, (.invokevirtual 158, 221, 189, 1, 0)),
  (221, (.iload 6, 223, 0, 0, 0)),
  (223, (.iadd, 224, 0, 0, 0)),
  (224, (.iaload, 225, 0, 0, 0)),
  (225, (.iastore, 226, 0, 0, 0)),
  (226, (.iinc 6 1, 229, 0, 0, 1)),
  (229, (.goto (-42), 232, 187, 0, 0)),
  (232, (.iinc 3 1, 235, 0, 0, 1)),
  (235, (.goto (-118), 238, 117, 0, 0)),
  (238, (.aload_n 0, 239, 0, 0, 0)),
  (239, (.iload_n 2, 240, 0, 0, 0)),
  (240, (.invokevirtual 200, 243, 213, 1, 0)),
  (243, (.return_, 244, 0, 0, 0))]
def xB216 : List (Nat × xm_row) := [(0, (.aload_n 0, 1, 0, 0, 0)),
  (1, (.bipush 11, 3, 0, 0, 11)),
  (3, (.iconst 1, 4, 0, 0, 1)),
  (4, (.invokevirtual 171, 7, 198, 2, 0)),
  (7, (.istore_n 1, 8, 0, 0, 0)),
  (8, (.aload_n 0, 9, 0, 0, 0)),
  (9, (.iload_n 1, 10, 0, 0, 0)),
  (10, (.invokevirtual 155, 13, 188, 1, 0)),
  (13, (.istore_n 2, 14, 0, 0, 0)),
  (14, (.iconst 0, 15, 0, 0, 0)),
  (15, (.istore_n 3, 16, 0, 0, 0)),
  (16, (.iconst 0, 17, 0, 0, 0)),
  (17, (.istore 4, 19, 0, 0, 0)),
  (19, (.iload 4, 21, 0, 0, 0)),
  (21, (.iload_n 2, 22, 0, 0, 0)),
  (22, (.if_icmp .ge 134, 25, 156, 0, 0)),
  (25, (.iload_n 3, 26, 0, 0, 0)),
  (26, (.ifCond .ne 130, 29, 156, 0, 0)),
  (29, (.aload_n 0, 30, 0, 0, 0)),
  (30, (.iload_n 1, 31, 0, 0, 0)),
  (31, (.iload 4, 33, 0, 0, 0)),
  (33, (.invokevirtual 171, 36, 198, 2, 0)),
  (36, (.istore 5, 38, 0, 0, 0)),
  (38, (.aload_n 0, 39, 0, 0, 0)),
  (39, (.aload_n 0, 40, 0, 0, 0)),
  (40, (.iload 5, 42, 0, 0, 0)),
  (42, (.iconst 0, 43, 0, 0, 0)),
  (43, (.invokevirtual 171, 46, 198, 2, 0)),
  (46, (.invokevirtual 197, 49, 192, 1, 0)),
  (49, (.istore 6, 51, 0, 0, 0)),
  (51, (.aload_n 0, 52, 0, 0, 0)),
  (52, (.iload 5, 54, 0, 0, 0)),
  (54, (.iconst 1, 55, 0, 0, 1)),
  (55, (.invokevirtual 171, 58, 198, 2, 0)),
  (58, (.istore 7, 60, 0, 0, 0)),
  (60, (.aload_n 0, 61, 0, 0, 0)),
  (61, (.iload 7, 63, 0, 0, 0)),
  (63, (.invokevirtual 155, 66, 188, 1, 0)),
  (66, (.istore 8, 68, 0, 0, 0)),
  (68, (.iload 6, 70, 0, 0, 0)),
  (70, (.iconst 1, 71, 0, 0, 1)),
  (71, (.if_icmp .lt 15, 74, 86, 0, 0)),
  (74, (.iload 6, 76, 0, 0, 0)),
  (76, (.iconst 4, 77, 0, 0, 4)),
  (77, (.if_icmp .gt 9, 80, 86, 0, 0)),
  (80, (.iload 8, 82, 0, 0, 0)),
  (82, (.iconst 3, 83, 0, 0, 3)),
  (83, (.if_icmp .le 8, 86, 91, 0, 0)),
  (86, (.iconst 1, 87, 0, 0, 1)),
  (87, (.istore_n 3, 88, 0, 0, 0)),
  (88, (.goto 20, 91, 108, 0, 0)),
  (91, (.aload_n 0, 92, 0, 0, 0)),
  (92, (.getfield 47, 95, 12, 27, 0)),
  (95, (.iload 6, 97, 0, 0, 0)),
  (97, (.iaload, 98, 0, 0, 0)),
  (98, (.ifCond .le 10, 101, 108, 0, 0)),
  (101, (.iload 8, 103, 0, 0, 0)),
  (103, (.ifCond .le 5, 106, 108, 0, 0)),
  (106, (.iconst 3, 107, 0, 0, 3)),
  (107, (.istore_n 3, 108, 0, 0, 0)),
  (108, (.iconst 0, 109, 0, 0, 0)),
  (109, (.istore 9, 111, 0, 0, 0)),
  (111, (.iload 9, 113, 0, 0, 0)),
  (113, (.iload 8, 115, 0, 0, 0)),
  (115, (.if_icmp .ge 35, 118, 150, 0, 0)),
  (118, (.iload_n 3, 119, 0, 0, 0)),
  (119, (.ifCond .ne 31, 122, 150, 0, 0)),
  (122, (.aload_n 0, 123, 0, 0, 0)),
  (123, (.aload_n 0, 124, 0, 0, 0)),
  (124, (.iload 7, 126, 0, 0, 0)),
  (126, (.iload 9, 128, 0, 0, 0)),
  (128, (.invokevirtual 171, 131, 198, 2, 0)),
  (131, (.invokevirtual 197, 134, 192, 1, 0)),
  (134, (.iconst 5, 135, 0, 0, 5)),
  (135, (.if_icmp .le 7, 138, 142, 0, 0)),
  (138, (.iconst 4, 139, 0, 0, 4)),
  (139, (.goto 4, 142, 143, 0, 0)),
  (142, (.iconst 0, 143, 0, 0, 0)),
  (143, (.istore_n 3, 144, 0, 0, 0)),
  (144, (.iinc 9 1, 147, 0, 0, 1)),
  (147, (.goto (-36), 150, 111, 0, 0)),
  (150, (.iinc 4 1, 153, 0, 0, 1)),
  (153, (.goto (-134), 156, 19, 0, 0)),
  (156, (.iconst 1, 157, 0, 0, 1)),
  (157, (.istore 4, 159, 0, 0, 0)),
  (159, (.iload 4, 161, 0, 0, 0)),
  (161, (.iconst 4, 162, 0, 0, 4)),
  (162, (.if_icmp .gt 27, 165, 189, 0, 0)),
  (165, (.iload_n 2, 166, 0, 0, 0)),
  (166, (.ifCond .ne 23, 169, 189, 0, 0)),
  (169, (.aload_n 0, 170, 0, 0, 0)),
  (170, (.getfield 47, 173, 12, 27, 0)),
  (173, (.iload 4, 175, 0, 0, 0)),
  (175, (.iconst 0, 176, 0, 0, 0)),
  (176, (.iastore, 177, 0, 0, 0)),
  (177, (.aload_n 0, 178, 0, 0, 0)),
  (178, (.iload 4, 180, 0, 0, 0)),
  (180, (.invokevirtual 203, 183, 217, 1, 0)),
  (183, (.iinc 4 1, 186, 0, 0, 1)),
  (186, (.goto (-27), 189, 159, 0, 0)),
  (189, (.iconst 0, 190, 0, 0, 0)),
  (190, (.istore 4, 192, 0, 0, 0)),
  (192, (.iload 4, 194, 0, 0, 0)),
  (194, (.iload_n 2, 195, 0, 0, 0)),
  (195, (.if_icmp .ge 118, 198, 313, 0, 0)),
  (198, (.iload_n 3, 199, 0, 0, 0)),
  (199, (.ifCond .ne 114, 202, 313, 0, 0)),
  (202, (.aload_n 0, 203, 0, 0, 0)),
  (203, (.iload_n 1, 204, 0, 0, 0)),
  (204, (.iload 4, 206, 0, 0, 0)),
  (206, (.invokevirtual 171, 209, 198, 2, 0)),
  (209, (.istore 5, 211, 0, 0, 0)),
  (211, (.aload_n 0, 212, 0, 0, 0)),
  (212, (.aload_n 0, 213, 0, 0, 0)),
  (213, (.iload 5, 215, 0, 0, 0)),
  (215, (.iconst 0, 216, 0, 0, 0)),
  (216, (.invokevirtual 171, 219, 198, 2, 0)),
  (219, (.invokevirtual 197, 222, 192, 1, 0)),
  (222, (.istore 6, 224, 0, 0, 0)),
  (224, (.aload_n 0, 225, 0, 0, 0)),
  (225, (.iload 5, 227, 0, 0, 0)),
  (227, (.iconst 1, 228, 0, 0, 1)),
  (228, (.invokevirtual 171, 231, 198, 2, 0)),
  (231, (.istore 7, 233, 0, 0, 0)),
  (233, (.aload_n 0, 234, 0, 0, 0)),
  (234, (.getfield 47, 237, 12, 27, 0)),
  (237, (.iload 6, 239, 0, 0, 0)),
  (239, (.aload_n 0, 240, 0, 0, 0)),
  (240, (.iload 7, 242, 0, 0, 0)),
  (242, (.invokevirtual 155, 245, 188, 1, 0)),
  (245, (.iastore, 246, 0, 0, 0)),
  (246, (.iconst 0, 247, 0, 0, 0)),
  (247, (.istore 8, 249, 0, 0, 0)),
  (249, (.iload 8, 251, 0, 0, 0)),
  (251, (.aload_n 0, 252, 0, 0, 0)),
  (252, (.getfield 47, 255, 12, 27, 0)),
  (255, (.iload 6, 257, 0, 0, 0)),
  (257, (.iaload, 258, 0, 0, 0)),
  (258, (.if_icmp .ge 33, 261, 291, 0, 0)),
  (261, (.aload_n 0, 262, 0, 0, 0)),
  (262, (.getfield 50, 265, 12, 28, 0)),
  (265, (.iconst 3, 266, 0, 0, 3)),
  (266, (.iload 6, 268, 0, 0, 0)),
  (268, (.imul, 269, 0, 0, 0)),
  (269, (.iload 8, 271, 0, 0, 0)),
  (271, (.iadd, 272, 0, 0, 0)),
  (272, (.aload_n 0, 273, 0, 0, 0)),
  (273, (.aload_n 0, 274, 0, 0, 0)),
  (274, (.iload 7, 276, 0, 0, 0)),
  (276, (.iload 8, 278, 0, 0, 0)),
  (278, (.invokevirtual 171, 281, 198, 2, 0)),
  (281, (.invokevirtual 197, 284, 192, 1, 0)),
  (284, (.iastore, 285, 0, 0, 0)),
  (285, (.iinc 8 1, 288, 0, 0, 1)),
  (288, (.goto (-39), 291, 249, 0, 0)),
  (291, (.aload_n 0, 292, 0, 0, 0)),
  (292, (.getfield 47, 295, 12, 27, 0)),
  (295, (.iload 6, 297, 0, 0, 0)),
  (297, (.iaload, 298, 0, 0, 0)),
  (298, (.ifCond .ne 9, 301, 307, 0, 0)),
  (301, (.aload_n 0, 302, 0, 0, 0)),
  (302, (.iload 6, 304, 0, 0, 0)),
  (304, (.invokevirtual 203, 307, 217, 1, 0)),
  (307, (.iinc 4 1, 310, 0, 0, 1)),
  (310, (.goto (-118), 313, 192, 0, 0)),
  (313, (.aload_n 0, 314, 0, 0, 0)),
  (314, (.iload_n 3, 315, 0, 0, 0)),
  (315, (.invokevirtual 200, 318, 213, 1, 0)),
  (318, (.return_, 319, 0, 0, 0))]
def xB217 : List (Nat × xm_row) := [(0, (.iconst 1, 1, 0, 0, 1)),
  (1, (.istore_n 2, 2, 0, 0, 0)),
  (2, (.iload_n 2, 3, 0, 0, 0)),
  (3, (.iconst 5, 4, 0, 0, 5)),
  (4, (.if_icmp .gt 72, 7, 76, 0, 0)),
  (7, (.iconst 0, 8, 0, 0, 0)),
  (8, (.istore_n 3, 9, 0, 0, 0)),
  (9, (.iconst 0, 10, 0, 0, 0)),
  (10, (.istore 4, 12, 0, 0, 0)),
  (12, (.iload 4, 14, 0, 0, 0)),
  (14, (.aload_n 0, 15, 0, 0, 0)),
  (15, (.getfield 53, 18, 12, 29, 0)),
  (18, (.iload_n 2, 19, 0, 0, 0)),
  (19, (.iaload, 20, 0, 0, 0)),
  (20, (.if_icmp .ge 43, 23, 63, 0, 0)),
  (23, (.aload_n 0, 24, 0, 0, 0)),
  (24, (.getfield 56, 27, 12, 30, 0)),
  (27, (.iconst 2, 28, 0, 0, 2)),
  (28, (.iload_n 2, 29, 0, 0, 0)),
  (29, (.imul, 30, 0, 0, 0)),
  (30, (.iload 4, 32, 0, 0, 0)),
  (32, (.iadd, 33, 0, 0, 0)),
  (33, (.iaload, 34, 0, 0, 0)),
  (34, (.istore 5, 36, 0, 0, 0)),
  (36, (.iload 5, 38, 0, 0, 0)),
  (38, (.iload_n 1, 39, 0, 0, 0)),
  (39, (.if_icmp .eq 18, 42, 57, 0, 0)),
  (42, (.aload_n 0, 43, 0, 0, 0)),
  (43, (.getfield 56, 46, 12, 30, 0)),
  (46, (.iconst 2, 47, 0, 0, 2)),
  (47, (.iload_n 2, 48, 0, 0, 0)),
  (48, (.imul, 49, 0, 0, 0)),
  (49, (.iload_n 3, 50, 0, 0, 0)),
  (50, (.iadd, 51, 0, 0, 0)),
  (51, (.iload 5, 53, 0, 0, 0)),
  (53, (.iastore, 54, 0, 0, 0)),
  (54, (.iinc 3 1, 57, 0, 0, 1)),
  (57, (.iinc 4 1, 60, 0, 0, 1)),
  (60, (.goto (-48), 63, 12, 0, 0)),
  (63, (.aload_n 0, 64, 0, 0, 0)),
  (64, (.getfield 53, 67, 12, 29, 0)),
  (67, (.iload_n 2, 68, 0, 0, 0)),
  (68, (.iload_n 3, 69, 0, 0, 0)),
  (69, (.iastore, 70, 0, 0, 0)),
  (70, (.iinc 2 1, 73, 0, 0, 1)),
  (73, (.goto (-71), 76, 2, 0, 0)),
  (76, (.return_, 77, 0, 0, 0))]
def xB218 : List (Nat × xm_row) := [(0, (.aload_n 0, 1, 0, 0, 0)),
  (1, (.bipush 11, 3, 0, 0, 11)),
  (3, (.iconst 1, 4, 0, 0, 1)),
  (4, (.invokevirtual 171, 7, 198, 2, 0)),
  (7, (.istore_n 1, 8, 0, 0, 0)),
  (8, (.aload_n 0, 9, 0, 0, 0)),
  (9, (.iload_n 1, 10, 0, 0, 0)),
  (10, (.invokevirtual 155, 13, 188, 1, 0)),
  (13, (.istore_n 2, 14, 0, 0, 0)),
  (14, (.iconst 0, 15, 0, 0, 0)),
  (15, (.istore_n 3, 16, 0, 0, 0)),
  (16, (.iconst 0, 17, 0, 0, 0)),
  (17, (.istore 4, 19, 0, 0, 0)),
  (19, (.iload 4, 21, 0, 0, 0)),
  (21, (.iload_n 2, 22, 0, 0, 0)),
  (22, (.if_icmp .ge 118, 25, 140, 0, 0)),
  (25, (.iload_n 3, 26, 0, 0, 0)),
  (26, (.ifCond .ne 114, 29, 140, 0, 0)),
  (29, (.aload_n 0, 30, 0, 0, 0)),
  (30, (.iload_n 1, 31, 0, 0, 0)),
  (31, (.iload 4, 33, 0, 0, 0)),
  (33, (.invokevirtual 171, 36, 198, 2, 0)),
  (36, (.istore 5, 38, 0, 0, 0)),
  (38, (.aload_n 0, 39, 0, 0, 0)),
  (39, (.iload 5, 41, 0, 0, 0)),
  (41, (.iconst 1, 42, 0, 0, 1)),
  (42, (.invokevirtual 171, 45, 198, 2, 0)),
  (45, (.istore 6, 47, 0, 0, 0)),
  (47, (.aload_n 0, 48, 0, 0, 0)),
  (48, (.iload 6, 50, 0, 0, 0)),
  (50, (.invokevirtual 155, 53, 188, 1, 0)),
  (53, (.istore 7, 55, 0, 0, 0)),
  (55, (.iload 7, 57, 0, 0, 0)),
  (57, (.iconst 2, 58, 0, 0, 2)),
  (58, (.if_icmp .le 7, 61, 65, 0, 0)),
  (61, (.iconst 1, 62, 0, 0, 1)),
  (62, (.goto 26, 65, 88, 0, 0)),
  (65, (.aload_n 0, 66, 0, 0, 0)),
  (66, (.aload_n 0, 67, 0, 0, 0)),
  (67, (.aload_n 0, 68, 0, 0, 0)),
  (68, (.iload 5, 70, 0, 0, 0)),
  (70, (.iconst 0, 71, 0, 0, 0)),
  (71, (.invokevirtual 171, 74, 198, 2, 0)),
  (74, (.invokevirtual 197, 77, 192, 1, 0)),
  (77, (.invokevirtual 206, 80, 219, 1, 0)),
  (80, (.ifCond .eq 7, 83, 87, 0, 0)),
  (83, (.iconst 4, 84, 0, 0, 4)),
  (84, (.goto 4, 87, 88, 0, 0)),
  (87, (.iconst 0, 88, 0, 0, 0)),
  (88, (.istore_n 3, 89, 0, 0, 0)),
  (89, (.iconst 0, 90, 0, 0, 0)),
  (90, (.istore 8, 92, 0, 0, 0)),
  (92, (.iload 8, 94, 0, 0, 0)),
  (94, (.iload 7, 96, 0, 0, 0)),
  (96, (.if_icmp .ge 38, 99, 134, 0, 0)),
  (99, (.iload_n 3, 100, 0, 0, 0)),
  (100, (.ifCond .ne 34, 103, 134, 0, 0)),
  (103, (.aload_n 0, 104, 0, 0, 0)),
  (104, (.aload_n 0, 105, 0, 0, 0)),
  (105, (.aload_n 0, 106, 0, 0, 0)),
  (106, (.iload 6, 108, 0, 0, 0)),
  (108, (.iload 8, 110, 0, 0, 0)),
  (110, (.invokevirtual 171, 113, 198, 2, 0)),
  (113, (.invokevirtual 197, 116, 192, 1, 0)),
  (116, (.invokevirtual 209, 119, 220, 1, 0)),
  (119, (.ifCond .eq 7, 122, 126, 0, 0)),
  (122, (.iconst 5, 123, 0, 0, 5)),
  (123, (.goto 4, 126, 127, 0, 0)),
  (126, (.iconst 0, 127, 0, 0, 0)),
  (127, (.istore_n 3, 128, 0, 0, 0)),
  (128, (.iinc 8 1, 131, 0, 0, 1)),
  (131, (.goto (-39), 134, 92, 0, 0)),
  (134, (.iinc 4 1, 137, 0, 0, 1)),
  (137, (.goto (-118), 140, 19, 0, 0)),
  (140, (.iconst 0, 141, 0, 0, 0)),
  (141, (.istore 4, 143, 0, 0, 0)),
  (143, (.iload 4, 145, 0, 0, 0)),
  (145, (.iload_n 2, 146, 0, 0, 0)),
  (146, (.if_icmp .ge 102, 149, 248, 0, 0)),
  (149, (.iload_n 3, 150, 0, 0, 0)),
  (150, (.ifCond .ne 98, 153, 248, 0, 0)),
  (153, (.aload_n 0, 154, 0, 0, 0)),
  (154, (.iload_n 1, 155, 0, 0, 0)),
  (155, (.iload 4, 157, 0, 0, 0)),
  (157, (.invokevirtual 171, 160, 198, 2, 0)),
  (160, (.istore 5, 162, 0, 0, 0)),
  (162, (.aload_n 0, 163, 0, 0, 0)),
  (163, (.aload_n 0, 164, 0, 0, 0)),
  (164, (.iload 5, 166, 0, 0, 0)),
  (166, (.iconst 0, 167, 0, 0, 0)),
  (167, (.invokevirtual 171, 170, 198, 2, 0)),
  (170, (.invokevirtual 197, 173, 192, 1, 0)),
  (173, (.istore 6, 175, 0, 0, 0)),
  (175, (.aload_n 0, 176, 0, 0, 0)),
  (176, (.iload 5, 178, 0, 0, 0)),
  (178, (.iconst 1, 179, 0, 0, 1)),
  (179, (.invokevirtual 171, 182, 198, 2, 0)),
  (182, (.istore 7, 184, 0, 0, 0)),
  (184, (.aload_n 0, 185, 0, 0, 0)),
  (185, (.getfield 53, 188, 12, 29, 0)),
  (188, (.iload 6, 190, 0, 0, 0)),
  (190, (.aload_n 0, 191, 0, 0, 0)),
  (191, (.iload 7, 193, 0, 0, 0)),
  (193, (.invokevirtual 155, 196, 188, 1, 0)),
  (196, (.iastore, 197, 0, 0, 0)),
  (197, (.iconst 0, 198, 0, 0, 0)),
  (198, (.istore 8, 200, 0, 0, 0)),
  (200, (.iload 8, 202, 0, 0, 0)),
  (202, (.aload_n 0, 203, 0, 0, 0)),
  (203, (.getfield 53, 206, 12, 29, 0)),
  (206, (.iload 6, 208, 0, 0, 0)),
  (208, (.iaload, 209, 0, 0, 0)),
  (209, (.if_icmp .ge 33, 212, 242, 0, 0)),
  (212, (.aload_n 0, 213, 0, 0, 0)),
  (213, (.getfield 56, 216, 12, 30, 0)),
  (216, (.iconst 2, 217, 0, 0, 2)),
  (217, (.iload 6, 219, 0, 0, 0)),
  (219, (.imul, 220, 0, 0, 0)),
  (220, (.iload 8, 222, 0, 0, 0)),
  (222, (.iadd, 223, 0, 0, 0)),
  (223, (.aload_n 0, 224, 0, 0, 0)),
  (224, (.aload_n 0, 225, 0, 0, 0)),
  (225, (.iload 7, 227, 0, 0, 0)),
  (227, (.iload 8, 229, 0, 0, 0)),
  (229, (.invokevirtual 171, 232, 198, 2, 0)),
  (232, (.invokevirtual 197, 235, 192, 1, 0)),
  (235, (.iastore, 236, 0, 0, 0)),
  (236, (.iinc 8 1, 239, 0, 0, 1)),
  (239, (.goto (-39), 242, 200, 0, 0)),
  (242, (.iinc 4 1, 245, 0, 0, 1)),
  (245, (.goto (-102), 248, 143, 0, 0)),
  (248, (.aload_n 0, 249, 0, 0, 0)),
  (249, (.iload_n 3, 250, 0, 0, 0)),
  (250, (.invokevirtual 200, 253, 213, 1, 0)),
  (253, (.return_, 254, 0, 0, 0))]
def xB219 : List (Nat × xm_row) := [(0, (.iload_n 1, 1, 0, 0, 0)),
  (1, (.iconst 1, 2, 0, 0, 1)),
  (2, (.if_icmp .lt 8, 5, 10, 0, 0)),
  (5, (.iload_n 1, 6, 0, 0, 0)),
  (6, (.iconst 5, 7, 0, 0, 5)),
  (7, (.if_icmp .le 7, 10, 14, 0, 0)),
  (10, (.iconst 1, 11, 0, 0, 1)),
  (11, (.goto 4, 14, 15, 0, 0)),
  (14, (.iconst 0, 15, 0, 0, 0)),
  (15, (.ireturn, 16, 0, 0, 0))]
def xB220 : List (Nat × xm_row) := [(0, (.iload_n 1, 1, 0, 0, 0)),
  (1, (.iconst 1, 2, 0, 0, 1)),
  (2, (.if_icmp .lt 17, 5, 19, 0, 0)),
  (5, (.iload_n 1, 6, 0, 0, 0)),
  (6, (.iconst 4, 7, 0, 0, 4)),
  (7, (.if_icmp .gt 12, 10, 19, 0, 0)),
  (10, (.aload_n 0, 11, 0, 0, 0)),
  (11, (.getfield 47, 14, 12, 27, 0)),
  (14, (.iload_n 1, 15, 0, 0, 0)),
  (15, (.iaload, 16, 0, 0, 0)),
  (16, (.ifCond .ne 7, 19, 23, 0, 0)),
  (19, (.iconst 1, 20, 0, 0, 1)),
  (20, (.goto 4, 23, 24, 0, 0)),
  (23, (.iconst 0, 24, 0, 0, 0)),
  (24, (.ireturn, 25, 0, 0, 0))]
def xB221 : List (Nat × xm_row) := [(0, (.aload_n 0, 1, 0, 0, 0)),
  (1, (.aload_n 0, 2, 0, 0, 0)),
  (2, (.bipush 11, 4, 0, 0, 11)),
  (4, (.iconst 0, 5, 0, 0, 0)),
  (5, (.invokevirtual 171, 8, 198, 2, 0)),
  (8, (.invokevirtual 197, 11, 192, 1, 0)),
  (11, (.ifCond .eq 7, 14, 18, 0, 0)),
  (14, (.iconst 1, 15, 0, 0, 1)),
  (15, (.goto 4, 18, 19, 0, 0)),
  (18, (.iconst 0, 19, 0, 0, 0)),
  (19, (.istore_n 1, 20, 0, 0, 0)),
  (20, (.aload_n 0, 21, 0, 0, 0)),
  (21, (.bipush 11, 23, 0, 0, 11)),
  (23, (.iconst 1, 24, 0, 0, 1)),
  (24, (.invokevirtual 171, 27, 198, 2, 0)),
  (27, (.istore_n 2, 28, 0, 0, 0)),
  (28, (.aload_n 0, 29, 0, 0, 0)),
  (29, (.iload_n 2, 30, 0, 0, 0)),
  (30, (.invokevirtual 155, 33, 188, 1, 0)),
  (33, (.istore_n 3, 34, 0, 0, 0)),
  (34, (.iconst 0, 35, 0, 0, 0)),
  (35, (.istore 4, 37, 0, 0, 0)),
  (37, (.iconst 0, 38, 0, 0, 0)),
  (38, (.istore 5, 40, 0, 0, 0)),
  (40, (.iload 5, 42, 0, 0, 0)),
  (42, (.iload_n 3, 43, 0, 0, 0)),
  (43, (.if_icmp .ge 35, 46, 78, 0, 0)),
  (46, (.aload_n 0, 47, 0, 0, 0)),
  (47, (.aload_n 0, 48, 0, 0, 0)),
  (48, (.aload_n 0, 49, 0, 0, 0)),
  (49, (.iload_n 2, 50, 0, 0, 0)),
  (50, (.iload 5, 52, 0, 0, 0)),
  (52, (.invokevirtual 171, 55, 198, 2, 0)),
  (55, (.invokevirtual 197, 58, 192, 1, 0)),
  (58, (.invokevirtual 206, 61, 219, 1, 0)),
  (61, (.ifCond .eq 7, 64, 68, 0, 0)),
  (64, (.iconst 1, 65, 0, 0, 1)),
  (65, (.goto 5, 68, 70, 0, 0)),
  (68, (.iload 4, 70, 0, 0, 0)),
  (70, (.istore 4, 72, 0, 0, 0)),
  (72, (.iinc 5 1, 75, 0, 0, 1)),
  (75, (.goto (-35), 78, 40, 0, 0)),
  (78, (.iconst 0, 79, 0, 0, 0)),
  (79, (.istore 5, 81, 0, 0, 0)),
  (81, (.iload 5, 83, 0, 0, 0)),
  (83, (.iload_n 3, 84, 0, 0, 0)),
  (84, (.if_icmp .ge 31, 87, 115, 0, 0)),
  (87, (.iload 4, 89, 0, 0, 0)),
  (89, (.ifCond .ne 26, 92, 115, 0, 0)),
  (92, (.aload_n 0, 93, 0, 0, 0)),
  (93, (.getfield 59, 96, 12, 31, 0)),
  (96, (.aload_n 0, 97, 0, 0, 0)),
  (97, (.aload_n 0, 98, 0, 0, 0)),
  (98, (.iload_n 2, 99, 0, 0, 0)),
  (99, (.iload 5, 101, 0, 0, 0)),
  (101, (.invokevirtual 171, 104, 198, 2, 0)),
  (104, (.invokevirtual 197, 107, 192, 1, 0)),
  (107, (.iload_n 1, 108, 0, 0, 0)),
  (108, (.bastore, 109, 0, 0, 0)),
  (109, (.iinc 5 1, 112, 0, 0, 1)),
  (112, (.goto (-31), 115, 81, 0, 0)),
  (115, (.iconst 1, 116, 0, 0, 1)),
  (116, (.istore 5, 118, 0, 0, 0)),
  (118, (.iload 5, 120, 0, 0, 0)),
  (120, (.iconst 5, 121, 0, 0, 5)),
  (121, (.if_icmp .gt 21, 124, 142, 0, 0)),
  (124, (.iload_n 3, 125, 0, 0, 0)),
  (125, (.ifCond .ne 17, 128, 142, 0, 0)),
  (128, (.aload_n 0, 129, 0, 0, 0)),
  (129, (.getfield 59, 132, 12, 31, 0)),
  (132, (.iload 5, 134, 0, 0, 0)),
  (134, (.iload_n 1, 135, 0, 0, 0)),
  (135, (.bastore, 136, 0, 0, 0)),
  (136, (.iinc 5 1, 139, 0, 0, 1)),
  (139, (.goto (-21), 142, 118, 0, 0)),
  (142, (.aload_n 0, 143, 0, 0, 0)),
  (143, (.iload 4, 145, 0, 0, 0)),
  (145, (.invokevirtual 200, 148, 213, 1, 0)),
  (148, (.return_, 149, 0, 0, 0))]
def xB222 : List (Nat × xm_row) := [(0, (.aload_n 0, 1, 0, 0, 0)),
  (1, (.aload_n 0, 2, 0, 0, 0)),
  (2, (.bipush 11, 4, 0, 0, 11)),
  (4, (.iconst 0, 5, 0, 0, 0)),
  (5, (.invokevirtual 171, 8, 198, 2, 0)),
  (8, (.invokevirtual 212, 11, 223, 1, 0)),
  (11, (.istore_n 1, 12, 0, 0, 0)),
  (12, (.iload_n 1, 13, 0, 0, 0)),
  (13, (.iconst 1, 14, 0, 0, 1)),
  (14, (.if_icmp .ne 18, 17, 32, 0, 0)),
  (17, (.aload_n 0, 18, 0, 0, 0)),
  (18, (.getfield 118, 21, 12, 22, 0)),
  (21, (.ifCond .ne 7, 24, 28, 0, 0)),
  (24, (.iconst 1, 25, 0, 0, 1)),
  (25, (.goto 61, 28, 86, 0, 0)),
  (28, (.iconst 0, 29, 0, 0, 0)),
  (29, (.goto 57, 32, 86, 0, 0)),
  (32, (.iload_n 1, 33, 0, 0, 0)),
  (33, (.iconst 2, 34, 0, 0, 2)),
  (34, (.if_icmp .ne 18, 37, 52, 0, 0)),
  (37, (.aload_n 0, 38, 0, 0, 0)),
  (38, (.getfield 118, 41, 12, 22, 0)),
  (41, (.ifCond .le 7, 44, 48, 0, 0)),
  (44, (.iconst 1, 45, 0, 0, 1)),
  (45, (.goto 41, 48, 86, 0, 0)),
  (48, (.iconst 0, 49, 0, 0, 0)),
  (49, (.goto 37, 52, 86, 0, 0)),
  (52, (.iload_n 1, 53, 0, 0, 0)),
  (53, (.iconst 3, 54, 0, 0, 3)),
  (54, (.if_icmp .ne 19, 57, 73, 0, 0)),
  (57, (.aload_n 0, 58, 0, 0, 0)),
  (58, (.getfield 118, 61, 12, 22, 0)),
  (61, (.iconst 1, 62, 0, 0, 1)),
  (62, (.if_icmp .ne 7, 65, 69, 0, 0)),
  (65, (.iconst 1, 66, 0, 0, 1)),
  (66, (.goto 20, 69, 86, 0, 0)),
  (69, (.iconst 0, 70, 0, 0, 0)),
  (70, (.goto 16, 73, 86, 0, 0)),
  (73, (.aload_n 0, 74, 0, 0, 0)),
  (74, (.getfield 118, 77, 12, 22, 0)),
  (77, (.iconst 2, 78, 0, 0, 2)),
  (78, (.if_icmp .ne 7, 81, 85, 0, 0)),
  (81, (.iconst 1, 82, 0, 0, 1)),
  (82, (.goto 4, 85, 86, 0, 0)),
  (85, (.iconst 0, 86, 0, 0, 0)),
  (86, (.istore_n 2, 87, 0, 0, 0)),
  (87, (.iload_n 1, 88, 0, 0, 0)),
  (88, (.ifCond .ne 7, 91, 95, 0, 0)),
  (91, (.iconst 1, 92, 0, 0, 1)),
  (92, (.goto 20, 95, 112, 0, 0)),
  (95, (.aload_n 0, 96, 0, 0, 0)),
  (96, (.getfield 115, 99, 12, 20, 0)),
  (99, (.iconst 3, 100, 0, 0, 3)),
  (100, (.if_icmp .ne 7, 103, 107, 0, 0)),
  (103, (.iload_n 2, 104, 0, 0, 0)),
  (104, (.ifCond .ne 7, 107, 111, 0, 0)),
  (107, (.iconst 2, 108, 0, 0, 2)),
  (108, (.goto 4, 111, 112, 0, 0)),
  (111, (.iconst 0, 112, 0, 0, 0)),
  (112, (.istore_n 3, 113, 0, 0, 0)),
  (113, (.iload_n 3, 114, 0, 0, 0)),
  (114, (.ifCond .ne 70, 117, 184, 0, 0)),
  (117, (.aload_n 0, 118, 0, 0, 0)),
  (118, (.iload_n 1, 119, 0, 0, 0)),
  (119, (.iconst 1, 120, 0, 0, 1)),
  (120, (.if_icmp .eq 8, 123, 128, 0, 0)),
  (123, (.iload_n 1, 124, 0, 0, 0)),
  (124, (.iconst 4, 125, 0, 0, 4)),
  (125, (.if_icmp .ne 7, 128, 132, 0, 0)),
  (128, (.iconst 1, 129, 0, 0, 1)),
  (129, (.goto 13, 132, 142, 0, 0)),
  (132, (.iload_n 1, 133, 0, 0, 0)),
  (133, (.iconst 2, 134, 0, 0, 2)),
  (134, (.if_icmp .ne 7, 137, 141, 0, 0)),
  (137, (.iconst 0, 138, 0, 0, 0)),
  (138, (.goto 4, 141, 142, 0, 0)),
  (141, (.iconst 2, 142, 0, 0, 2)),
  (142, (.putfield 118, 145, 12, 22, 0)),
  (145, (.aload_n 0, 146, 0, 0, 0)),
  (146, (.iload_n 1, 147, 0, 0, 0)),
  (147, (.iconst 1, 148, 0, 0, 1)),
  (148, (.if_icmp .ne 7, 151, 155, 0, 0)),
  (151, (.iconst 0, 152, 0, 0, 0)),
  (152, (.goto 7, 155, 159, 0, 0)),
  (155, (.aload_n 0, 156, 0, 0, 0)),
  (156, (.getfield 215, 159, 12, 23, 0)),
  (159, (.putfield 215, 162, 12, 23, 0)),
  (162, (.iload_n 1, 163, 0, 0, 0)),
  (163, (.iconst 4, 164, 0, 0, 4)),
  (164, (.if_icmp .ge 17, 167, 181, 0, 0)),
  (167, (.aload_n 0, 168, 0, 0, 0)),
  (168, (.iconst 1, 169, 0, 0, 1)),
  (169, (.iload_n 1, 170, 0, 0, 0)),
  (170, (.iadd, 171, 0, 0, 0)),
  (171, (.invokevirtual 140, 174, 212, 1, 0)),
  (174, (.ifCond .eq 7, 177, 181, 0, 0)),
  (177, (.iconst 1, 178, 0, 0, 1)),
  (178, (.goto 4, 181, 182, 0, 0)),
  (181, (.iconst 0, 182, 0, 0, 0)),
  (182, (.istore 4, 184, 0, 0, 0)),
  (184, (.aload_n 0, 185, 0, 0, 0)),
  (185, (.iconst 0, 186, 0, 0, 0)),
  (186, (.putfield 97, 189, 12, 16, 0)),
  (189, (.aload_n 0, 190, 0, 0, 0)),
  (190, (.iconst 0, 191, 0, 0, 0)),
  (191, (.iconst 2, 192, 0, 0, 2)),
  (192, (.invokevirtual 111, 195, 178, 2, 0)),
  (195, (.aload_n 0, 196, 0, 0, 0)),
  (196, (.iload_n 3, 197, 0, 0, 0)),
  (197, (.invokevirtual 127, 200, 210, 1, 0)),
  (200, (.aload_n 0, 201, 0, 0, 0)),
  (201, (.iconst 0, 202, 0, 0, 0)),
  (202, (.iconst 0, 203, 0, 0, 0)),
  (203, (.invokevirtual 111, 206, 178, 2, 0)),
  (206, (.aload_n 0, 207, 0, 0, 0)),
  (207, (.bipush 42, 209, 0, 0, 42)),
  (209, (.invokevirtual 130, 212, 195, 1, 0)),
  (212, (.return_, 213, 0, 0, 0))]
def xB223 : List (Nat × xm_row) := [(0, (.aload_n 0, 1, 0, 0, 0)),
  (1, (.iload_n 1, 2, 0, 0, 0)),
  (2, (.invokevirtual 155, 5, 188, 1, 0)),
  (5, (.istore_n 2, 6, 0, 0, 0)),
  (6, (.aload_n 0, 7, 0, 0, 0)),
  (7, (.iload_n 1, 8, 0, 0, 0)),
  (8, (.invokevirtual 158, 11, 189, 1, 0)),
  (11, (.istore_n 3, 12, 0, 0, 0)),
  (12, (.iload_n 2, 13, 0, 0, 0)),
  (13, (.ifCond .le 12, 16, 25, 0, 0)),
  (16, (.aload_n 0, 17, 0, 0, 0)),
  (17, (.getfield 7, 20, 12, 4, 0)),
  (20, (.iload_n 3, 21, 0, 0, 0)),
  (21, (.iaload, 22, 0, 0, 0)),
  (22, (.goto 4, 25, 26, 0, 0)),
  (25, (.iconst 0, 26, 0, 0, 0)),
  (26, (.istore 4, 28, 0, 0, 0)),
  (28, (.iload_n 2, 29, 0, 0, 0)),
  (29, (.iconst 1, 30, 0, 0, 1)),
  (30, (.if_icmp .le 14, 33, 44, 0, 0)),
  (33, (.aload_n 0, 34, 0, 0, 0)),
  (34, (.getfield 7, 37, 12, 4, 0)),
  (37, (.iload_n 3, 38, 0, 0, 0)),
  (38, (.iconst 1, 39, 0, 0, 1)),
  (39, (.iadd, 40, 0, 0, 0)),
  (40, (.iaload, 41, 0, 0, 0)),
  (41, (.goto 4, 44, 45, 0, 0)),
  (44, (.iconst 0, 45, 0, 0, 0)),
  (45, (.istore 5, 47, 0, 0, 0)),
  (47, (.iload_n 2, 48, 0, 0, 0)),
  (48, (.iconst 2, 49, 0, 0, 2)),
  (49, (.if_icmp .le 14, 52, 63, 0, 0)),
  (52, (.aload_n 0, 53, 0, 0, 0)),
  (53, (.getfield 7, 56, 12, 4, 0)),
  (56, (.iload_n 3, 57, 0, 0, 0)),
  (57, (.iconst 2, 58, 0, 0, 2)),
  (58, (.iadd, 59, 0, 0, 0)),
  (59, (.iaload, 60, 0, 0, 0)),
  (60, (.goto 4, 63, 64, 0, 0)),
  (63, (.iconst 0, 64, 0, 0, 0)),
  (64, (.istore 6, 66, 0, 0, 0)),
  (66, (.iload_n 2, 67, 0, 0, 0)),
  (67, (.iconst 3, 68, 0, 0, 3)),
  (68, (.if_icmp .le 14, 71, 82, 0, 0)),
  (71, (.aload_n 0, 72, 0, 0, 0)),
  (72, (.getfield 7, 75, 12, 4, 0)),
  (75, (.iload_n 3, 76, 0, 0, 0)),
  (76, (.iconst 3, 77, 0, 0, 3)),
  (77, (.iadd, 78, 0, 0, 0)),
  (78, (.iaload, 79, 0, 0, 0)),
  (79, (.goto 4, 82, 83, 0, 0)),
  (82, (.iconst 0, 83, 0, 0, 0)),
  (83, (.istore 7, 85, 0, 0, 0)),
  (85, (.iload_n 2, 86, 0, 0, 0)),
  (86, (.iconst 4, 87, 0, 0, 4)),
  (87, (.if_icmp .le 14, 90, 101, 0, 0)),
  (90, (.aload_n 0, 91, 0, 0, 0)),
  (91, (.getfield 7, 94, 12, 4, 0)),
  (94, (.iload_n 3, 95, 0, 0, 0)),
  (95, (.iconst 4, 96, 0, 0, 4)),
  (96, (.iadd, 97, 0, 0, 0)),
  (97, (.iaload, 98, 0, 0, 0)),
  (98, (.goto 4, 101, 102, 0, 0)),
  (101, (.iconst 0, 102, 0, 0, 0)),
  (102, (.istore 8, 104, 0, 0, 0)),
  (104, (.iload_n 2, 105, 0, 0, 0)),
  (105, (.iconst 5, 106, 0, 0, 5)),
  (106, (.if_icmp .ne 95, 109, 201, 0, 0)),
  (109, (.iload 4, 111, 0, 0, 0)),
  (111, (.bipush 83, 113, 0, 0, 83)),
  (113, (.if_icmp .ne 35, 116, 148, 0, 0)),
  (116, (.iload 5, 118, 0, 0, 0)),
  (118, (.bipush 84, 120, 0, 0, 84)),
  (120, (.if_icmp .ne 28, 123, 148, 0, 0)),
  (123, (.iload 6, 125, 0, 0, 0)),
  (125, (.bipush 65, 127, 0, 0, 65)),
  (127, (.if_icmp .ne 21, 130, 148, 0, 0)),
  (130, (.iload 7, 132, 0, 0, 0)),
  (132, (.bipush 82, 134, 0, 0, 82)),
  (134, (.if_icmp .ne 14, 137, 148, 0, 0)),
  (137, (.iload 8, 139, 0, 0, 0)),
  (139, (.bipush 84, 141, 0, 0, 84)),
  (141, (.if_icmp .ne 7, 144, 148, 0, 0)),
  (144, (.iconst 1, 145, 0, 0, 1)),
  (145, (.goto 4, 148, 149, 0, 0)),
  (148, (.iconst 0, 149, 0, 0, 0)),
  (149, (.istore 9, 151, 0, 0, 0)),
  (151, (.iload 9, 153, 0, 0, 0)),
  (153, (.ifCond .eq 7, 156, 160, 0, 0)),
  (156, (.iconst 1, 157, 0, 0, 1)),
  (157, (.goto 43, 160, 200, 0, 0)),
  (160, (.iload 4, 162, 0, 0, 0)),
  (162, (.bipush 80, 164, 0, 0, 80)),
  (164, (.if_icmp .ne 35, 167, 199, 0, 0)),
  (167, (.iload 5, 169, 0, 0, 0)),
  (169, (.bipush 65, 171, 0, 0, 65)),
  (171, (.if_icmp .ne 28, 174, 199, 0, 0)),
  (174, (.iload 6, 176, 0, 0, 0)),
  (176, (.bipush 85, 178, 0, 0, 85)),
  (178, (.if_icmp .ne 21, 181, 199, 0, 0)),
  (181, (.iload 7, 183, 0, 0, 0)),
  (183, (.bipush 83, 185, 0, 0, 83)),
  (185, (.if_icmp .ne 14, 188, 199, 0, 0)),
  (188, (.iload 8, 190, 0, 0, 0)),
  (190, (.bipush 69, 192, 0, 0, 69)),
  (192, (.if_icmp .ne 7, 195, 199, 0, 0)),
  (195, (.iconst 3, 196, 0, 0, 3)),
  (196, (.goto 4, 199, 200, 0, 0)),
  (199, (.iconst 0, 200, 0, 0, 0)),
  (200, (.ireturn, 201, 0, 0, 0)),
  (201, (.iload_n 2, 202, 0, 0, 0)),
  (202, (.iconst 4, 203, 0, 0, 4)),
  (203, (.if_icmp .ne 35, 206, 238, 0, 0)),
  (206, (.iload 4, 208, 0, 0, 0)),
  (208, (.bipush 83, 210, 0, 0, 83)),
  (210, (.if_icmp .ne 28, 213, 238, 0, 0)),
  (213, (.iload 5, 215, 0, 0, 0)),
  (215, (.bipush 84, 217, 0, 0, 84)),
  (217, (.if_icmp .ne 21, 220, 238, 0, 0)),
  (220, (.iload 6, 222, 0, 0, 0)),
  (222, (.bipush 79, 224, 0, 0, 79)),
  (224, (.if_icmp .ne 14, 227, 238, 0, 0)),
  (227, (.iload 7, 229, 0, 0, 0)),
  (229, (.bipush 80, 231, 0, 0, 80)),
  (231, (.if_icmp .ne 7, 234, 238, 0, 0)),
  (234, (.iconst 2, 235, 0, 0, 2)),
  (235, (.goto 27, 238, 262, 0, 0)),
  (238, (.iload_n 2, 239, 0, 0, 0)),
  (239, (.iconst 2, 240, 0, 0, 2)),
  (240, (.if_icmp .ne 21, 243, 261, 0, 0)),
  (243, (.iload 4, 245, 0, 0, 0)),
  (245, (.bipush 71, 247, 0, 0, 71)),
  (247, (.if_icmp .ne 14, 250, 261, 0, 0)),
  (250, (.iload 5, 252, 0, 0, 0)),
  (252, (.bipush 79, 254, 0, 0, 79)),
  (254, (.if_icmp .ne 7, 257, 261, 0, 0)),
  (257, (.iconst 4, 258, 0, 0, 4)),
  (258, (.goto 4, 261, 262, 0, 0)),
  (261, (.iconst 0, 262, 0, 0, 0)),
  (262, (.ireturn, 263, 0, 0, 0))]
def xB224 : List (Nat × xm_row) := [(0, (.aload_n 0, 1, 0, 0, 0)),
  (1, (.getfield 19, 4, 12, 9, 0)),
  (4, (.iconst 0, 5, 0, 0, 0)),
  (5, (.iaload, 6, 0, 0, 0)),
  (6, (.istore_n 1, 7, 0, 0, 0)),
  (7, (.iconst 0, 8, 0, 0, 0)),
  (8, (.istore_n 2, 9, 0, 0, 0)),
  (9, (.aload_n 0, 10, 0, 0, 0)),
  (10, (.iload_n 1, 11, 0, 0, 0)),
  (11, (.invokevirtual 81, 14, 173, 1, 0)),
  (14, (.iconst 0, 15, 0, 0, 0)),
  (15, (.istore_n 3, 16, 0, 0, 0)),
  (16, (.iload_n 3, 17, 0, 0, 0)),
  (17, (.iload_n 1, 18, 0, 0, 0)),
  (18, (.if_icmp .ge 28, 21, 46, 0, 0)),
  (21, (.aload_n 0, 22, 0, 0, 0)),
  (22, (.aload_n 0, 23, 0, 0, 0)),
  (23, (.getfield 16, 26, 12, 8, 0)),
  (26, (.iload_n 3, 27, 0, 0, 0)),
  (27, (.iaload, 28, 0, 0, 0)),
  (28, (.invokevirtual 81, 31, 173, 1, 0)),
  (31, (.iload_n 2, 32, 0, 0, 0)),
  (32, (.aload_n 0, 33, 0, 0, 0)),
  (33, (.getfield 16, 36, 12, 8, 0)),
  (36, (.iload_n 3, 37, 0, 0, 0)),
  (37, (.iaload, 38, 0, 0, 0)),
  (38, (.iadd, 39, 0, 0, 0)),
  (39, (.istore_n 2, 40, 0, 0, 0)),
  (40, (.iinc 3 1, 43, 0, 0, 1)),
  (43, (.goto (-27), 46, 16, 0, 0)),
  (46, (.aload_n 0, 47, 0, 0, 0)),
  (47, (.iload_n 2, 48, 0, 0, 0)),
  (48, (.bipush 8, 50, 0, 0, 8)),
  (50, (.ishr, 51, 0, 0, 0)),
  (51, (.invokevirtual 81, 54, 173, 1, 0)),
  (54, (.aload_n 0, 55, 0, 0, 0)),
  (55, (.iload_n 2, 56, 0, 0, 0)),
  (56, (.invokevirtual 81, 59, 173, 1, 0)),
  (59, (.aload_n 0, 60, 0, 0, 0)),
  (60, (.iconst 3, 61, 0, 0, 3)),
  (61, (.invokevirtual 85, 64, 174, 1, 0)),
  (64, (.return_, 65, 0, 0, 0))]
def xB225 : List (Nat × xm_row) := [(0, (.aload_n 0, 1, 0, 0, 0)),
  (1, (.getfield 16, 4, 12, 8, 0)),
  (4, (.iconst 2, 5, 0, 0, 2)),
  (5, (.iaload, 6, 0, 0, 0)),
  (6, (.sipush 128, 9, 0, 0, 128)),
  (9, (.if_icmp .lt 66, 12, 75, 0, 0)),
  (12, (.aload_n 0, 13, 0, 0, 0)),
  (13, (.getfield 94, 16, 12, 13, 0)),
  (16, (.bipush 8, 18, 0, 0, 8)),
  (18, (.if_icmp .ge 57, 21, 75, 0, 0)),
  (21, (.iconst 0, 22, 0, 0, 0)),
  (22, (.istore_n 1, 23, 0, 0, 0)),
  (23, (.iload_n 1, 24, 0, 0, 0)),
  (24, (.bipush 10, 26, 0, 0, 10)),
  (26, (.if_icmp .ge 29, 29, 55, 0, 0)),
  (29, (.aload_n 0, 30, 0, 0, 0)),
  (30, (.getfield 25, 33, 12, 14, 0)),
  (33, (.bipush 10, 35, 0, 0, 10)),
  (35, (.aload_n 0, 36, 0, 0, 0)),
  (36, (.getfield 94, 39, 12, 13, 0)),
  (39, (.imul, 40, 0, 0, 0)),
  (40, (.iload_n 1, 41, 0, 0, 0)),
  (41, (.iadd, 42, 0, 0, 0)),
  (42, (.aload_n 0, 43, 0, 0, 0)),
  (43, (.getfield 16, 46, 12, 8, 0)),
  (46, (.iload_n 1, 47, 0, 0, 0)),
  (47, (.iaload, 48, 0, 0, 0)),
  (48, (.iastore, 49, 0, 0, 0)),
  (49, (.iinc 1 1, 52, 0, 0, 1)),
  (52, (.goto (-29), 55, 23, 0, 0)),
  (55, (.aload_n 0, 56, 0, 0, 0)),
  (56, (.getfield 28, 59, 12, 15, 0)),
  (59, (.aload_n 0, 60, 0, 0, 0)),
  (60, (.getfield 94, 63, 12, 13, 0)),
  (63, (.iconst 0, 64, 0, 0, 0)),
  (64, (.iastore, 65, 0, 0, 0)),
  (65, (.aload_n 0, 66, 0, 0, 0)),
  (66, (.dup, 67, 0, 0, 0)),
  (67, (.getfield 94, 70, 12, 13, 0)),
  (70, (.iconst 1, 71, 0, 0, 1)),
  (71, (.iadd, 72, 0, 0, 0)),
  (72, (.putfield 94, 75, 12, 13, 0)),
  (75, (.aload_n 0, 76, 0, 0, 0)),
  (76, (.invokevirtual 91, 79, 226, 0, 0)),
  (79, (.aload_n 0, 80, 0, 0, 0)),
  (80, (.iconst 0, 81, 0, 0, 0)),
  (81, (.invokevirtual 85, 84, 174, 1, 0)),
  (84, (.return_, 85, 0, 0, 0))]
def xB226 : List (Nat × xm_row) := [(0, (.aload_n 0, 1, 0, 0, 0)),
  (1, (.dup, 2, 0, 0, 0)),
  (2, (.getfield 78, 5, 12, 7, 0)),
  (5, (.iconst 1, 6, 0, 0, 1)),
  (6, (.isub, 7, 0, 0, 0)),
  (7, (.putfield 78, 10, 12, 7, 0)),
  (10, (.iconst 0, 11, 0, 0, 0)),
  (11, (.istore_n 1, 12, 0, 0, 0)),
  (12, (.iload_n 1, 13, 0, 0, 0)),
  (13, (.sipush 130, 16, 0, 0, 130)),
  (16, (.aload_n 0, 17, 0, 0, 0)),
  (17, (.getfield 78, 20, 12, 7, 0)),
  (20, (.imul, 21, 0, 0, 0)),
  (21, (.if_icmp .ge 25, 24, 46, 0, 0)),
  (24, (.aload_n 0, 25, 0, 0, 0)),
  (25, (.getfield 16, 28, 12, 8, 0)),
  (28, (.iload_n 1, 29, 0, 0, 0)),
  (29, (.aload_n 0, 30, 0, 0, 0)),
  (30, (.getfield 16, 33, 12, 8, 0)),
  (33, (.iload_n 1, 34, 0, 0, 0)),
  (34, (.sipush 130, 37, 0, 0, 130)),
  (37, (.iadd, 38, 0, 0, 0)),
  (38, (.iaload, 39, 0, 0, 0)),
  (39, (.iastore, 40, 0, 0, 0)),
  (40, (.iinc 1 1, 43, 0, 0, 1)),
  (43, (.goto (-31), 46, 12, 0, 0)),
  (46, (.iconst 0, 47, 0, 0, 0)),
  (47, (.istore_n 1, 48, 0, 0, 0)),
  (48, (.iload_n 1, 49, 0, 0, 0)),
  (49, (.aload_n 0, 50, 0, 0, 0)),
  (50, (.getfield 78, 53, 12, 7, 0)),
  (53, (.if_icmp .ge 37, 56, 90, 0, 0)),
  (56, (.aload_n 0, 57, 0, 0, 0)),
  (57, (.getfield 19, 60, 12, 9, 0)),
  (60, (.iload_n 1, 61, 0, 0, 0)),
  (61, (.aload_n 0, 62, 0, 0, 0)),
  (62, (.getfield 19, 65, 12, 9, 0)),
  (65, (.iload_n 1, 66, 0, 0, 0)),
  (66, (.iconst 1, 67, 0, 0, 1)),
  (67, (.iadd, 68, 0, 0, 0)),
  (68, (.iaload, 69, 0, 0, 0)),
  (69, (.iastore, 70, 0, 0, 0)),
  (70, (.aload_n 0, 71, 0, 0, 0)),
  (71, (.getfield 22, 74, 12, 10, 0)),
  (74, (.iload_n 1, 75, 0, 0, 0)),
  (75, (.aload_n 0, 76, 0, 0, 0)),
  (76, (.getfield 22, 79, 12, 10, 0)),
  (79, (.iload_n 1, 80, 0, 0, 0)),
  (80, (.iconst 1, 81, 0, 0, 1)),
  (81, (.iadd, 82, 0, 0, 0)),
  (82, (.iaload, 83, 0, 0, 0)),
  (83, (.iastore, 84, 0, 0, 0)),
  (84, (.iinc 1 1, 87, 0, 0, 1)),
  (87, (.goto (-39), 90, 48, 0, 0)),
  (90, (.return_, 91, 0, 0, 0))]
def xB227 : List (Nat × xm_row) := [(0, (.aload_n 0, 1, 0, 0, 0)),
  (1, (.iconst 0, 2, 0, 0, 0)),
  (2, (.invokevirtual 85, 5, 174, 1, 0)),
  (5, (.aload_n 0, 6, 0, 0, 0)),
  (6, (.getfield 22, 9, 12, 10, 0)),
  (9, (.iconst 0, 10, 0, 0, 0)),
  (10, (.dup2, 11, 0, 0, 0)),
  (11, (.iaload, 12, 0, 0, 0)),
  (12, (.iconst 1, 13, 0, 0, 1)),
  (13, (.iadd, 14, 0, 0, 0)),
  (14, (.iastore, 15, 0, 0, 0)),
  (15, (.aload_n 0, 16, 0, 0, 0)),
  (16, (.getfield 22, 19, 12, 10, 0)),
  (19, (.iconst 0, 20, 0, 0, 0)),
  (20, (.iaload, 21, 0, 0, 0)),
  (21, (.iconst 4, 22, 0, 0, 4)),
  (22, (.if_icmp .ne 17, 25, 39, 0, 0)),
  (25, (.aload_n 0, 26, 0, 0, 0)),
  (26, (.dup, 27, 0, 0, 0)),
  (27, (.getfield 88, 30, 12, 11, 0)),
  (30, (.iconst 1, 31, 0, 0, 1)),
  (31, (.iadd, 32, 0, 0, 0)),
  (32, (.putfield 88, 35, 12, 11, 0)),
  (35, (.aload_n 0, 36, 0, 0, 0)),
  (36, (.invokevirtual 91, 39, 226, 0, 0)),
  (39, (.return_, 40, 0, 0, 0))]
def xB228 : List (Nat × xm_row) := [(0, (.aload_n 0, 1, 0, 0, 0)),
  (1, (.getfield 72, 4, 12, 1, 0)),
  (4, (.ifCond .ne 20, 7, 24, 0, 0)),
  (7, (.aload_n 0, 8, 0, 0, 0)),
  (8, (.getfield 78, 11, 12, 7, 0)),
  (11, (.ifCond .le 13, 14, 24, 0, 0)),
  (14, (.aload_n 0, 15, 0, 0, 0)),
  (15, (.iconst 5, 16, 0, 0, 5)),
  (16, (.invokevirtual 81, 19, 173, 1, 0)),
  (19, (.aload_n 0, 20, 0, 0, 0)),
  (20, (.iconst 2, 21, 0, 0, 2)),
  (21, (.invokevirtual 85, 24, 174, 1, 0)),
  (24, (.return_, 25, 0, 0, 0))]
def xB229 : List (Nat × xm_row) := [(0, (.aload_n 0, 1, 0, 0, 0)),
  (1, (.iload_n 1, 2, 0, 0, 0)),
  (2, (.iconst 1, 3, 0, 0, 1)),
  (3, (.if_icmp .lt 9, 6, 12, 0, 0)),
  (6, (.iload_n 1, 7, 0, 0, 0)),
  (7, (.bipush 60, 9, 0, 0, 60)),
  (9, (.if_icmp .le 7, 12, 16, 0, 0)),
  (12, (.iconst 1, 13, 0, 0, 1)),
  (13, (.goto 4, 16, 17, 0, 0)),
  (16, (.iconst 0, 17, 0, 0, 0)),
  (17, (.putfield 66, 20, 12, 0, 0)),
  (20, (.aload_n 0, 21, 0, 0, 0)),
  (21, (.getfield 69, 24, 12, 5, 0)),
  (24, (.istore_n 2, 25, 0, 0, 0)),
  (25, (.iconst 0, 26, 0, 0, 0)),
  (26, (.istore_n 3, 27, 0, 0, 0)),
  (27, (.iload_n 3, 28, 0, 0, 0)),
  (28, (.iload_n 1, 29, 0, 0, 0)),
  (29, (.if_icmp .ge 20, 32, 49, 0, 0)),
  (32, (.aload_n 0, 33, 0, 0, 0)),
  (33, (.getfield 66, 36, 12, 0, 0)),
  (36, (.ifCond .ne 13, 39, 49, 0, 0)),
  (39, (.aload_n 0, 40, 0, 0, 0)),
  (40, (.invokevirtual 293, 43, 230, 0, 0)),
  (43, (.iinc 3 1, 46, 0, 0, 1)),
  (46, (.goto (-19), 49, 27, 0, 0)),
  (49, (.aload_n 0, 50, 0, 0, 0)),
  (50, (.getfield 69, 53, 12, 5, 0)),
  (53, (.iload_n 2, 54, 0, 0, 0)),
  (54, (.isub, 55, 0, 0, 0)),
  (55, (.ireturn, 56, 0, 0, 0))]
def xB230 : List (Nat × xm_row) := [(0, (.iconst 0, 1, 0, 0, 0)),
  (1, (.istore_n 1, 2, 0, 0, 0)),
  (2, (.iload_n 1, 3, 0, 0, 0)),
  (3, (.aload_n 0, 4, 0, 0, 0)),
  (4, (.getfield 94, 7, 12, 13, 0)),
  (7, (.if_icmp .ge 19, 10, 26, 0, 0)),
  (10, (.aload_n 0, 11, 0, 0, 0)),
  (11, (.getfield 28, 14, 12, 15, 0)),
  (14, (.iload_n 1, 15, 0, 0, 0)),
  (15, (.dup2, 16, 0, 0, 0)),
  (16, (.iaload, 17, 0, 0, 0)),
  (17, (.iconst 1, 18, 0, 0, 1)),
  (18, (.iadd, 19, 0, 0, 0)),
  (19, (.iastore, 20, 0, 0, 0)),
  (20, (.iinc 1 1, 23, 0, 0, 1)),
  (23, (.goto (-21), 26, 2, 0, 0)),
  (26, (.aload_n 0, 27, 0, 0, 0)),
  (27, (.getfield 94, 30, 12, 13, 0)),
  (30, (.ifCond .le 29, 33, 59, 0, 0)),
  (33, (.aload_n 0, 34, 0, 0, 0)),
  (34, (.getfield 28, 37, 12, 15, 0)),
  (37, (.iconst 0, 38, 0, 0, 0)),
  (38, (.iaload, 39, 0, 0, 0)),
  (39, (.bipush 45, 41, 0, 0, 45)),
  (41, (.if_icmp .ne 18, 44, 59, 0, 0)),
  (44, (.aload_n 0, 45, 0, 0, 0)),
  (45, (.bipush 9, 47, 0, 0, 9)),
  (47, (.iconst 0, 48, 0, 0, 0)),
  (48, (.invokevirtual 245, 51, 177, 2, 0)),
  (51, (.aload_n 0, 52, 0, 0, 0)),
  (52, (.iconst 0, 53, 0, 0, 0)),
  (53, (.invokevirtual 257, 56, 183, 1, 0)),
  (56, (.goto (-30), 59, 26, 0, 0)),
  (59, (.aload_n 0, 60, 0, 0, 0)),
  (60, (.getfield 118, 63, 12, 22, 0)),
  (63, (.iconst 1, 64, 0, 0, 1)),
  (64, (.if_icmp .ne 33, 67, 97, 0, 0)),
  (67, (.aload_n 0, 68, 0, 0, 0)),
  (68, (.dup, 69, 0, 0, 0)),
  (69, (.getfield 215, 72, 12, 23, 0)),
  (72, (.iconst 1, 73, 0, 0, 1)),
  (73, (.iadd, 74, 0, 0, 0)),
  (74, (.putfield 215, 77, 12, 23, 0)),
  (77, (.aload_n 0, 78, 0, 0, 0)),
  (78, (.getfield 215, 81, 12, 23, 0)),
  (81, (.bipush 30, 83, 0, 0, 30)),
  (83, (.if_icmp .ne 14, 86, 97, 0, 0)),
  (86, (.aload_n 0, 87, 0, 0, 0)),
  (87, (.iconst 0, 88, 0, 0, 0)),
  (88, (.putfield 118, 91, 12, 22, 0)),
  (91, (.aload_n 0, 92, 0, 0, 0)),
  (92, (.iconst 3, 93, 0, 0, 3)),
  (93, (.invokevirtual 140, 96, 212, 1, 0)),
  (96, (.istore_n 1, 97, 0, 0, 0)),
  (97, (.aload_n 0, 98, 0, 0, 0)),
  (98, (.getfield 72, 101, 12, 1, 0)),
  (101, (.ifCond .eq 76, 104, 177, 0, 0)),
  (104, (.aload_n 0, 105, 0, 0, 0)),
  (105, (.dup, 106, 0, 0, 0)),
  (106, (.getfield 75, 109, 12, 2, 0)),
  (109, (.iconst 1, 110, 0, 0, 1)),
  (110, (.iadd, 111, 0, 0, 0)),
  (111, (.putfield 75, 114, 12, 2, 0)),
  (114, (.aload_n 0, 115, 0, 0, 0)),
  (115, (.getfield 72, 118, 12, 1, 0)),
  (118, (.iconst 1, 119, 0, 0, 1)),
  (119, (.if_icmp .ne 14, 122, 133, 0, 0)),
  (122, (.aload_n 0, 123, 0, 0, 0)),
  (123, (.getfield 272, 126, 12, 3, 0)),
  (126, (.ifCond .le 7, 129, 133, 0, 0)),
  (129, (.iconst 2, 130, 0, 0, 2)),
  (130, (.goto 4, 133, 134, 0, 0)),
  (133, (.iconst 5, 134, 0, 0, 5)),
  (134, (.istore_n 1, 135, 0, 0, 0)),
  (135, (.aload_n 0, 136, 0, 0, 0)),
  (136, (.getfield 75, 139, 12, 2, 0)),
  (139, (.iload_n 1, 140, 0, 0, 0)),
  (140, (.if_icmp .ne 25, 143, 165, 0, 0)),
  (143, (.aload_n 0, 144, 0, 0, 0)),
  (144, (.getfield 72, 147, 12, 1, 0)),
  (147, (.iconst 1, 148, 0, 0, 1)),
  (148, (.if_icmp .ne 17, 151, 165, 0, 0)),
  (151, (.aload_n 0, 152, 0, 0, 0)),
  (152, (.bipush 21, 154, 0, 0, 21)),
  (154, (.invokevirtual 81, 157, 173, 1, 0)),
  (157, (.aload_n 0, 158, 0, 0, 0)),
  (158, (.iconst 0, 159, 0, 0, 0)),
  (159, (.invokevirtual 85, 162, 174, 1, 0)),
  (162, (.goto 15, 165, 177, 0, 0)),
  (165, (.aload_n 0, 166, 0, 0, 0)),
  (166, (.getfield 75, 169, 12, 2, 0)),
  (169, (.iload_n 1, 170, 0, 0, 0)),
  (170, (.if_icmp .ne 7, 173, 177, 0, 0)),
  (173, (.aload_n 0, 174, 0, 0, 0)),
  (174, (.invokevirtual 287, 177, 227, 0, 0)),
  (177, (.aload_n 0, 178, 0, 0, 0)),
  (178, (.invokevirtual 290, 181, 228, 0, 0)),
  (181, (.return_, 182, 0, 0, 0))]
def xB231 : List (Nat × xm_row) := [(0, (.aload_n 0, 1, 0, 0, 0)),
  (1, (.iload_n 1, 2, 0, 0, 0)),
  (2, (.aload_n 0, 3, 0, 0, 0)),
  (3, (.getfield 263, 6, 12, 18, 0)),
  (6, (.if_icmp .ne 7, 9, 13, 0, 0)),
  (9, (.iconst 1, 10, 0, 0, 1)),
  (10, (.goto 4, 13, 14, 0, 0)),
  (13, (.iconst 0, 14, 0, 0, 0)),
  (14, (.putfield 66, 17, 12, 0, 0)),
  (17, (.aload_n 0, 18, 0, 0, 0)),
  (18, (.getfield 66, 21, 12, 0, 0)),
  (21, (.ifCond .eq 4, 24, 25, 0, 0)),
  (24, (.return_, 25, 0, 0, 0)),
  (25, (.aload_n 0, 26, 0, 0, 0)),
  (26, (.iload_n 1, 27, 0, 0, 0)),
  (27, (.putfield 263, 30, 12, 18, 0)),
  (30, (.aload_n 0, 31, 0, 0, 0)),
  (31, (.iconst 0, 32, 0, 0, 0)),
  (32, (.putfield 133, 35, 12, 19, 0)),
  (35, (.iload_n 1, 36, 0, 0, 0)),
  (36, (.ifCond .eq 21, 39, 57, 0, 0)),
  (39, (.aload_n 0, 40, 0, 0, 0)),
  (40, (.iconst 0, 41, 0, 0, 0)),
  (41, (.putfield 97, 44, 12, 16, 0)),
  (44, (.aload_n 0, 45, 0, 0, 0)),
  (45, (.invokevirtual 221, 48, 206, 0, 0)),
  (48, (.aload_n 0, 49, 0, 0, 0)),
  (49, (.sipush 129, 52, 0, 0, 129)),
  (52, (.bipush 13, 54, 0, 0, 13)),
  (54, (.invokevirtual 124, 57, 180, 2, 0)),
  (57, (.aload_n 0, 58, 0, 0, 0)),
  (58, (.invokevirtual 290, 61, 228, 0, 0)),
  (61, (.return_, 62, 0, 0, 0))]
def xB232 : List (Nat × xm_row) := [(0, (.aload_n 0, 1, 0, 0, 0)),
  (1, (.iload_n 1, 2, 0, 0, 0)),
  (2, (.ifCond .eq 17, 5, 19, 0, 0)),
  (5, (.iload_n 1, 6, 0, 0, 0)),
  (6, (.iconst 2, 7, 0, 0, 2)),
  (7, (.if_icmp .eq 12, 10, 19, 0, 0)),
  (10, (.iload_n 1, 11, 0, 0, 0)),
  (11, (.iconst 3, 12, 0, 0, 3)),
  (12, (.if_icmp .eq 7, 15, 19, 0, 0)),
  (15, (.iconst 1, 16, 0, 0, 1)),
  (16, (.goto 4, 19, 20, 0, 0)),
  (19, (.iconst 0, 20, 0, 0, 0)),
  (20, (.putfield 66, 23, 12, 0, 0)),
  (23, (.aload_n 0, 24, 0, 0, 0)),
  (24, (.getfield 66, 27, 12, 0, 0)),
  (27, (.ifCond .eq 4, 30, 31, 0, 0)),
  (30, (.return_, 31, 0, 0, 0)),
  (31, (.aload_n 0, 32, 0, 0, 0)),
  (32, (.iload_n 1, 33, 0, 0, 0)),
  (33, (.ifCond .le 7, 36, 40, 0, 0)),
  (36, (.iload_n 1, 37, 0, 0, 0)),
  (37, (.goto 7, 40, 44, 0, 0)),
  (40, (.aload_n 0, 41, 0, 0, 0)),
  (41, (.getfield 34, 44, 12, 21, 0)),
  (44, (.putfield 34, 47, 12, 21, 0)),
  (47, (.aload_n 0, 48, 0, 0, 0)),
  (48, (.iload_n 1, 49, 0, 0, 0)),
  (49, (.invokevirtual 218, 52, 211, 1, 0)),
  (52, (.aload_n 0, 53, 0, 0, 0)),
  (53, (.invokevirtual 290, 56, 228, 0, 0)),
  (56, (.return_, 57, 0, 0, 0))]
def xB233 : List (Nat × xm_row) := [(0, (.aload_n 0, 1, 0, 0, 0)),
  (1, (.iconst 0, 2, 0, 0, 0)),
  (2, (.putfield 66, 5, 12, 0, 0)),
  (5, (.aload_n 0, 6, 0, 0, 0)),
  (6, (.iconst 5, 7, 0, 0, 5)),
  (7, (.invokevirtual 140, 10, 212, 1, 0)),
  (10, (.istore_n 1, 11, 0, 0, 0)),
  (11, (.aload_n 0, 12, 0, 0, 0)),
  (12, (.invokevirtual 290, 15, 228, 0, 0)),
  (15, (.iload_n 1, 16, 0, 0, 0)),
  (16, (.ireturn, 17, 0, 0, 0))]
def xB234 : List (Nat × xm_row) := [(0, (.aload_n 0, 1, 0, 0, 0)),
  (1, (.iconst 0, 2, 0, 0, 0)),
  (2, (.putfield 66, 5, 12, 0, 0)),
  (5, (.aload_n 0, 6, 0, 0, 0)),
  (6, (.getfield 69, 9, 12, 5, 0)),
  (9, (.ireturn, 10, 0, 0, 0))]
def xB235 : List (Nat × xm_row) := [(0, (.aload_n 0, 1, 0, 0, 0)),
  (1, (.iload_n 1, 2, 0, 0, 0)),
  (2, (.ifCond .lt 25, 5, 27, 0, 0)),
  (5, (.iload_n 1, 6, 0, 0, 0)),
  (6, (.aload_n 0, 7, 0, 0, 0)),
  (7, (.getfield 69, 10, 12, 5, 0)),
  (10, (.if_icmp .ge 17, 13, 27, 0, 0)),
  (13, (.aload_n 0, 14, 0, 0, 0)),
  (14, (.getfield 69, 17, 12, 5, 0)),
  (17, (.iconst 1, 18, 0, 0, 1)),
  (18, (.isub, 19, 0, 0, 0)),
  (19, (.iload_n 1, 20, 0, 0, 0)),
  (20, (.isub, 21, 0, 0, 0)),
  (21, (.sipush 500, 24, 0, 0, 500)),
  (24, (.if_icmp .le 7, 27, 31, 0, 0)),
  (27, (.iconst 1, 28, 0, 0, 1)),
  (28, (.goto 4, 31, 32, 0, 0)),
  (31, (.iconst 0, 32, 0, 0, 0)),
  (32, (.putfield 66, 35, 12, 0, 0)),
  (35, (.aload_n 0, 36, 0, 0, 0)),
  (36, (.getfield 66, 39, 12, 0, 0)),
  (39, (.ifCond .ne 16, 42, 55, 0, 0)),
  (42, (.aload_n 0, 43, 0, 0, 0)),
  (43, (.getfield 13, 46, 12, 6, 0)),
  (46, (.iload_n 1, 47, 0, 0, 0)),
  (47, (.sipush 512, 50, 0, 0, 512)),
  (50, (.irem, 51, 0, 0, 0)),
  (51, (.iaload, 52, 0, 0, 0)),
  (52, (.goto 4, 55, 56, 0, 0)),
  (55, (.iconst 0, 56, 0, 0, 0)),
  (56, (.ireturn, 57, 0, 0, 0))]
def xB236 : List (Nat × xm_row) := [(0, (.aload_n 0, 1, 0, 0, 0)),
  (1, (.iload_n 1, 2, 0, 0, 0)),
  (2, (.ifCond .lt 9, 5, 11, 0, 0)),
  (5, (.iload_n 1, 6, 0, 0, 0)),
  (6, (.bipush 7, 8, 0, 0, 7)),
  (8, (.if_icmp .le 7, 11, 15, 0, 0)),
  (11, (.iconst 1, 12, 0, 0, 1)),
  (12, (.goto 4, 15, 16, 0, 0)),
  (15, (.iconst 0, 16, 0, 0, 0)),
  (16, (.putfield 66, 19, 12, 0, 0)),
  (19, (.iload_n 1, 20, 0, 0, 0)),
  (20, (.tableswitch 107 0 7 #[48, 53, 77, 82, 87, 92, 97, 102], 68, 0, 48, 0)),
  (68, (.aload_n 0, 69, 0, 0, 0)),
  (69, (.getfield 72, 72, 12, 1, 0)),
  (72, (.ireturn, 73, 0, 0, 0)),
  (73, (.aload_n 0, 74, 0, 0, 0)),
  (74, (.getfield 133, 77, 12, 19, 0)),
  (77, (.ifCond .eq 7, 80, 84, 0, 0)),
  (80, (.iconst 2, 81, 0, 0, 2)),
  (81, (.goto 15, 84, 96, 0, 0)),
  (84, (.aload_n 0, 85, 0, 0, 0)),
  (85, (.getfield 263, 88, 12, 18, 0)),
  (88, (.ifCond .eq 7, 91, 95, 0, 0)),
  (91, (.iconst 1, 92, 0, 0, 1)),
  (92, (.goto 4, 95, 96, 0, 0)),
  (95, (.iconst 0, 96, 0, 0, 0)),
  (96, (.ireturn, 97, 0, 0, 0)),
  (97, (.aload_n 0, 98, 0, 0, 0)),
  (98, (.getfield 115, 101, 12, 20, 0)),
  (101, (.ireturn, 102, 0, 0, 0)),
  (102, (.aload_n 0, 103, 0, 0, 0)),
  (103, (.getfield 118, 106, 12, 22, 0)),
  (106, (.ireturn, 107, 0, 0, 0)),
  (107, (.aload_n 0, 108, 0, 0, 0)),
  (108, (.getfield 215, 111, 12, 23, 0)),
  (111, (.ireturn, 112, 0, 0, 0)),
  (112, (.aload_n 0, 113, 0, 0, 0)),
  (113, (.getfield 78, 116, 12, 7, 0)),
  (116, (.ireturn, 117, 0, 0, 0)),
  (117, (.aload_n 0, 118, 0, 0, 0)),
  (118, (.getfield 94, 121, 12, 13, 0)),
  (121, (.ireturn, 122, 0, 0, 0)),
  (122, (.aload_n 0, 123, 0, 0, 0)),
  (123, (.getfield 88, 126, 12, 11, 0)),
  (126, (.ireturn, 127, 0, 0, 0)),
  (127, (.iconst 0, 128, 0, 0, 0)),
  (128, (.ireturn, 129, 0, 0, 0))]
def xB237 : List (Nat × xm_row) := [(0, (.aload_n 0, 1, 0, 0, 0)),
  (1, (.iload_n 1, 2, 0, 0, 0)),
  (2, (.iconst 1, 3, 0, 0, 1)),
  (3, (.if_icmp .lt 8, 6, 11, 0, 0)),
  (6, (.iload_n 1, 7, 0, 0, 0)),
  (7, (.iconst 4, 8, 0, 0, 4)),
  (8, (.if_icmp .le 7, 11, 15, 0, 0)),
  (11, (.iconst 1, 12, 0, 0, 1)),
  (12, (.goto 4, 15, 16, 0, 0)),
  (15, (.iconst 0, 16, 0, 0, 0)),
  (16, (.putfield 66, 19, 12, 0, 0)),
  (19, (.aload_n 0, 20, 0, 0, 0)),
  (20, (.getfield 66, 23, 12, 0, 0)),
  (23, (.ifCond .ne 12, 26, 35, 0, 0)),
  (26, (.aload_n 0, 27, 0, 0, 0)),
  (27, (.getfield 47, 30, 12, 27, 0)),
  (30, (.iload_n 1, 31, 0, 0, 0)),
  (31, (.iaload, 32, 0, 0, 0)),
  (32, (.goto 4, 35, 36, 0, 0)),
  (35, (.iconst 0, 36, 0, 0, 0)),
  (36, (.ireturn, 37, 0, 0, 0))]
def xB238 : List (Nat × xm_row) := [(0, (.aload_n 0, 1, 0, 0, 0)),
  (1, (.aload_n 0, 2, 0, 0, 0)),
  (2, (.iload_n 1, 3, 0, 0, 0)),
  (3, (.invokevirtual 206, 6, 219, 1, 0)),
  (6, (.ifCond .eq 7, 9, 13, 0, 0)),
  (9, (.iconst 1, 10, 0, 0, 1)),
  (10, (.goto 4, 13, 14, 0, 0)),
  (13, (.iconst 0, 14, 0, 0, 0)),
  (14, (.putfield 66, 17, 12, 0, 0)),
  (17, (.aload_n 0, 18, 0, 0, 0)),
  (18, (.getfield 66, 21, 12, 0, 0)),
  (21, (.ifCond .ne 28, 24, 49, 0, 0)),
  (24, (.aload_n 0, 25, 0, 0, 0)),
  (25, (.getfield 53, 28, 12, 29, 0)),
  (28, (.iload_n 1, 29, 0, 0, 0)),
  (29, (.iaload, 30, 0, 0, 0)),
  (30, (.aload_n 0, 31, 0, 0, 0)),
  (31, (.getfield 59, 34, 12, 31, 0)),
  (34, (.iload_n 1, 35, 0, 0, 0)),
  (35, (.baload, 36, 0, 0, 0)),
  (36, (.ifCond .eq 8, 39, 44, 0, 0)),
  (39, (.bipush 10, 41, 0, 0, 10)),
  (41, (.goto 4, 44, 45, 0, 0)),
  (44, (.iconst 0, 45, 0, 0, 0)),
  (45, (.iadd, 46, 0, 0, 0)),
  (46, (.goto 4, 49, 50, 0, 0)),
  (49, (.iconst 0, 50, 0, 0, 0)),
  (50, (.ireturn, 51, 0, 0, 0))]
def xB239 : List (Nat × xm_row) := [(0, (.aload_n 0, 1, 0, 0, 0)),
  (1, (.iload_n 1, 2, 0, 0, 0)),
  (2, (.ifCond .lt 8, 5, 10, 0, 0)),
  (5, (.iload_n 1, 6, 0, 0, 0)),
  (6, (.iconst 5, 7, 0, 0, 5)),
  (7, (.if_icmp .le 7, 10, 14, 0, 0)),
  (10, (.iconst 1, 11, 0, 0, 1)),
  (11, (.goto 4, 14, 15, 0, 0)),
  (14, (.iconst 0, 15, 0, 0, 0)),
  (15, (.putfield 66, 18, 12, 0, 0)),
  (18, (.aload_n 0, 19, 0, 0, 0)),
  (19, (.getfield 66, 22, 12, 0, 0)),
  (22, (.ifCond .ne 12, 25, 34, 0, 0)),
  (25, (.aload_n 0, 26, 0, 0, 0)),
  (26, (.getfield 38, 29, 12, 24, 0)),
  (29, (.iload_n 1, 30, 0, 0, 0)),
  (30, (.iaload, 31, 0, 0, 0)),
  (31, (.goto 4, 34, 35, 0, 0)),
  (34, (.iconst 0, 35, 0, 0, 0)),
  (35, (.ireturn, 36, 0, 0, 0))]
def xB240 : List (Nat × xm_row) := [(0, (.aload_n 0, 1, 0, 0, 0)),
  (1, (.iload_n 1, 2, 0, 0, 0)),
  (2, (.ifCond .lt 35, 5, 37, 0, 0)),
  (5, (.iload_n 1, 6, 0, 0, 0)),
  (6, (.iconst 5, 7, 0, 0, 5)),
  (7, (.if_icmp .gt 30, 10, 37, 0, 0)),
  (10, (.iload_n 2, 11, 0, 0, 0)),
  (11, (.ifCond .lt 26, 14, 37, 0, 0)),
  (14, (.iload_n 2, 15, 0, 0, 0)),
  (15, (.aload_n 0, 16, 0, 0, 0)),
  (16, (.getfield 41, 19, 12, 25, 0)),
  (19, (.iload_n 1, 20, 0, 0, 0)),
  (20, (.ifCond .lt 8, 23, 28, 0, 0)),
  (23, (.iload_n 1, 24, 0, 0, 0)),
  (24, (.iconst 5, 25, 0, 0, 5)),
  (25, (.if_icmp .le 7, 28, 32, 0, 0)),
  (28, (.iconst 0, 29, 0, 0, 0)),
  (29, (.goto 4, 32, 33, 0, 0)),
  (32, (.iload_n 1, 33, 0, 0, 0)),
  (33, (.iaload, 34, 0, 0, 0)),
  (34, (.if_icmp .lt 7, 37, 41, 0, 0)),
  (37, (.iconst 1, 38, 0, 0, 1)),
  (38, (.goto 4, 41, 42, 0, 0)),
  (41, (.iconst 0, 42, 0, 0, 0)),
  (42, (.putfield 66, 45, 12, 0, 0)),
  (45, (.aload_n 0, 46, 0, 0, 0)),
  (46, (.getfield 66, 49, 12, 0, 0)),
  (49, (.ifCond .eq 5, 52, 54, 0, 0)),
  (52, (.iconst 0, 53, 0, 0, 0)),
  (53, (.ireturn, 54, 0, 0, 0)),
  (54, (.iload_n 1, 55, 0, 0, 0)),
  (55, (.ifCond .ne 10, 58, 65, 0, 0)),
  (58, (.aload_n 0, 59, 0, 0, 0)),
  (59, (.getfield 115, 62, 12, 20, 0)),
  (62, (.goto 26, 65, 88, 0, 0)),
  (65, (.iload_n 1, 66, 0, 0, 0)),
  (66, (.iconst 1, 67, 0, 0, 1)),
  (67, (.if_icmp .ne 10, 70, 77, 0, 0)),
  (70, (.aload_n 0, 71, 0, 0, 0)),
  (71, (.getfield 118, 74, 12, 22, 0)),
  (74, (.goto 14, 77, 88, 0, 0)),
  (77, (.aload_n 0, 78, 0, 0, 0)),
  (78, (.getfield 44, 81, 12, 26, 0)),
  (81, (.bipush 8, 83, 0, 0, 8)),
  (83, (.iload_n 1, 84, 0, 0, 0)),
  (84, (.imul, 85, 0, 0, 0)),
  (85, (.iload_n 2, 86, 0, 0, 0)),
  (86, (.iadd, 87, 0, 0, 0)),
  (87, (.iaload, 88, 0, 0, 0)),
  (88, (.ireturn, 89, 0, 0, 0))]
def xB241 : List (Nat × xm_row) := [(0, (.aload_n 2, 1, 0, 0, 0)),
  (1, (.iconst 0, 2, 0, 0, 0)),
  (2, (.aload_n 0, 3, 0, 0, 0)),
  (3, (.iload_n 1, 4, 0, 0, 0)),
  (4, (.invokevirtual 7, 7, 45, 1, 0)),
  (7, (.i2l, 8, 0, 0, 0)),
  (8, (.lastore, 9, 0, 0, 0)),
  (9, (.goto 6, 12, 15, 0, 0)),
  (12, (.astore_n 3, 13, 0, 0, 0)),
  (13, (.iconst 1, 14, 0, 0, 1)),
  (14, (.ireturn, 15, 0, 0, 0)),
  (15, (.iconst 0, 16, 0, 0, 0)),
  (16, (.ireturn, 17, 0, 0, 0))]
def xB242 : List (Nat × xm_row) := [(0, (.aload_n 2, 1, 0, 0, 0)),
  (1, (.iconst 0, 2, 0, 0, 0)),
  (2, (.aload_n 0, 3, 0, 0, 0)),
  (3, (.iload_n 1, 4, 0, 0, 0)),
  (4, (.invokevirtual 15, 7, 145, 1, 0)),
  (7, (.i2l, 8, 0, 0, 0)),
  (8, (.lastore, 9, 0, 0, 0)),
  (9, (.goto 6, 12, 15, 0, 0)),
  (12, (.astore_n 3, 13, 0, 0, 0)),
  (13, (.iconst 1, 14, 0, 0, 1)),
  (14, (.ireturn, 15, 0, 0, 0)),
  (15, (.iconst 0, 16, 0, 0, 0)),
  (16, (.ireturn, 17, 0, 0, 0))]
def xB243 : List (Nat × xm_row) := [(0, (.aload_n 0, 1, 0, 0, 0)),
  (1, (.iload_n 1, 2, 0, 0, 0)),
  (2, (.invokevirtual 18, 5, 149, 1, 0)),
  (5, (.goto 6, 8, 11, 0, 0)),
  (8, (.astore_n 2, 9, 0, 0, 0)),
  (9, (.iconst 1, 10, 0, 0, 1)),
  (10, (.ireturn, 11, 0, 0, 0)),
  (11, (.iconst 0, 12, 0, 0, 0)),
  (12, (.ireturn, 13, 0, 0, 0))]
def xB244 : List (Nat × xm_row) := [(0, (.aload_n 0, 1, 0, 0, 0)),
  (1, (.iload_n 1, 2, 0, 0, 0)),
  (2, (.invokevirtual 24, 5, 151, 1, 0)),
  (5, (.goto 6, 8, 11, 0, 0)),
  (8, (.astore_n 2, 9, 0, 0, 0)),
  (9, (.iconst 1, 10, 0, 0, 1)),
  (10, (.ireturn, 11, 0, 0, 0)),
  (11, (.iconst 0, 12, 0, 0, 0)),
  (12, (.ireturn, 13, 0, 0, 0))]
def xB245 : List (Nat × xm_row) := [(0, (.aload_n 2, 1, 0, 0, 0)),
  (1, (.iconst 0, 2, 0, 0, 0)),
  (2, (.aload_n 0, 3, 0, 0, 0)),
  (3, (.iload_n 1, 4, 0, 0, 0)),
  (4, (.invokevirtual 28, 7, 153, 1, 0)),
  (7, (.i2l, 8, 0, 0, 0)),
  (8, (.lastore, 9, 0, 0, 0)),
  (9, (.goto 6, 12, 15, 0, 0)),
  (12, (.astore_n 3, 13, 0, 0, 0)),
  (13, (.iconst 1, 14, 0, 0, 1)),
  (14, (.ireturn, 15, 0, 0, 0)),
  (15, (.iconst 0, 16, 0, 0, 0)),
  (16, (.ireturn, 17, 0, 0, 0))]
def xB246 : List (Nat × xm_row) := [(0, (.aload_n 2, 1, 0, 0, 0)),
  (1, (.iconst 0, 2, 0, 0, 0)),
  (2, (.aload_n 0, 3, 0, 0, 0)),
  (3, (.iload_n 1, 4, 0, 0, 0)),
  (4, (.invokevirtual 33, 7, 156, 1, 0)),
  (7, (.i2l, 8, 0, 0, 0)),
  (8, (.lastore, 9, 0, 0, 0)),
  (9, (.goto 6, 12, 15, 0, 0)),
  (12, (.astore_n 3, 13, 0, 0, 0)),
  (13, (.iconst 1, 14, 0, 0, 1)),
  (14, (.ireturn, 15, 0, 0, 0)),
  (15, (.iconst 0, 16, 0, 0, 0)),
  (16, (.ireturn, 17, 0, 0, 0))]
def xB247 : List (Nat × xm_row) := [(0, (.aload_n 2, 1, 0, 0, 0)),
  (1, (.iconst 0, 2, 0, 0, 0)),
  (2, (.aload_n 0, 3, 0, 0, 0)),
  (3, (.iload_n 1, 4, 0, 0, 0)),
  (4, (.invokevirtual 36, 7, 162, 1, 0)),
  (7, (.i2l, 8, 0, 0, 0)),
  (8, (.lastore, 9, 0, 0, 0)),
  (9, (.goto 6, 12, 15, 0, 0)),
  (12, (.astore_n 3, 13, 0, 0, 0)),
  (13, (.iconst 1, 14, 0, 0, 1)),
  (14, (.ireturn, 15, 0, 0, 0)),
  (15, (.iconst 0, 16, 0, 0, 0)),
  (16, (.ireturn, 17, 0, 0, 0))]
def xB248 : List (Nat × xm_row) := [(0, (.aload_n 2, 1, 0, 0, 0)),
  (1, (.iconst 0, 2, 0, 0, 0)),
  (2, (.aload_n 0, 3, 0, 0, 0)),
  (3, (.iload_n 1, 4, 0, 0, 0)),
  (4, (.invokevirtual 39, 7, 163, 1, 0)),
  (7, (.i2l, 8, 0, 0, 0)),
  (8, (.lastore, 9, 0, 0, 0)),
  (9, (.goto 6, 12, 15, 0, 0)),
  (12, (.astore_n 3, 13, 0, 0, 0)),
  (13, (.iconst 1, 14, 0, 0, 1)),
  (14, (.ireturn, 15, 0, 0, 0)),
  (15, (.iconst 0, 16, 0, 0, 0)),
  (16, (.ireturn, 17, 0, 0, 0))]
def xB249 : List (Nat × xm_row) := [(0, (.aload_n 2, 1, 0, 0, 0)),
  (1, (.iconst 0, 2, 0, 0, 0)),
  (2, (.aload_n 0, 3, 0, 0, 0)),
  (3, (.iload_n 1, 4, 0, 0, 0)),
  (4, (.invokevirtual 42, 7, 165, 1, 0)),
  (7, (.i2l, 8, 0, 0, 0)),
  (8, (.lastore, 9, 0, 0, 0)),
  (9, (.goto 6, 12, 15, 0, 0)),
  (12, (.astore_n 3, 13, 0, 0, 0)),
  (13, (.iconst 1, 14, 0, 0, 1)),
  (14, (.ireturn, 15, 0, 0, 0)),
  (15, (.iconst 0, 16, 0, 0, 0)),
  (16, (.ireturn, 17, 0, 0, 0))]
def xB250 : List (Nat × xm_row) := [(0, (.aload_n 3, 1, 0, 0, 0)),
  (1, (.iconst 0, 2, 0, 0, 0)),
  (2, (.aload_n 0, 3, 0, 0, 0)),
  (3, (.iload_n 1, 4, 0, 0, 0)),
  (4, (.iload_n 2, 5, 0, 0, 0)),
  (5, (.invokevirtual 45, 8, 167, 2, 0)),
  (8, (.i2l, 9, 0, 0, 0)),
  (9, (.lastore, 10, 0, 0, 0)),
  (10, (.goto 7, 13, 17, 0, 0)),
  (13, (.astore 4, 15, 0, 0, 0)),
  (15, (.iconst 1, 16, 0, 0, 1)),
  (16, (.ireturn, 17, 0, 0, 0)),
  (17, (.iconst 0, 18, 0, 0, 0)),
  (18, (.ireturn, 19, 0, 0, 0))]
def xB251 : List (Nat × xm_row) := [(0, (.new 8, 3, 0, 0, 0)),
  (3, (.dup, 4, 0, 0, 0)),
  (4, (.invokespecial 49, 7, 0, 0, 0)),
  (7, (.astore_n 1, 8, 0, 0, 0)),
  (8, (.new 50, 11, 12, 0, 0)),
  (11, (.dup, 12, 0, 0, 0)),
  (12, (.invokespecial 52, 15, 170, 0, 0)),
  (15, (.astore_n 2, 16, 0, 0, 0)),
  (16, (.iconst 1, 17, 0, 0, 1)),
  (17, (.newarray .long, 19, 1, 0, 0)),
  (19, (.astore_n 3, 20, 0, 0, 0)),
  (20, (.iconst 0, 21, 0, 0, 0)),
  (21, (.istore 4, 23, 0, 0, 0)),
  (23, (.iload 4, 25, 0, 0, 0)),
  (25, (.aload_n 0, 26, 0, 0, 0)),
  (26, (.arraylength, 27, 0, 0, 0)),
  (27, (.iconst 3, 28, 0, 0, 3)),
  (28, (.isub, 29, 0, 0, 0)),
  (29, (.if_icmp .gt 651, 32, 680, 0, 0)),
  (32, (.aload_n 0, 33, 0, 0, 0)),
  (33, (.iload 4, 35, 0, 0, 0)),
  (35, (.iaload, 36, 0, 0, 0)),
  (36, (.bipush 15, 38, 0, 0, 15)),
  (38, (.iand, 39, 0, 0, 0)),
  (39, (.tableswitch 635 0 11 #[61, 117, 173, 225, 261, 274, 287, 343, 399, 455, 511, 567], 100, 0, 61, 0)),
  (100, (.aload_n 1, 101, 0, 0, 0)),
  (101, (.aload_n 0, 102, 0, 0, 0)),
  (102, (.iload 4, 104, 0, 0, 0)),
  (104, (.iconst 1, 105, 0, 0, 1)),
  (105, (.iadd, 106, 0, 0, 0)),
  (106, (.iaload, 107, 0, 0, 0)),
  (107, (.aload_n 3, 108, 0, 0, 0)),
  (108, (.invokestatic 53, 111, 960, 3, 0)),
  (111, (.istore 5, 113, 0, 0, 0)),
  (113, (.aload_n 2, 114, 0, 0, 0)),
  (114, (.aload_n 0, 115, 0, 0, 0)),
  (115, (.iload 4, 117, 0, 0, 0)),
  (117, (.iconst 1, 118, 0, 0, 1)),
  (118, (.iadd, 119, 0, 0, 0)),
  (119, (.iaload, 120, 0, 0, 0)),
  (120, (.invokevirtual 58, 123, 172, 1, 0)),
  (123, (.istore 6, 125, 0, 0, 0)),
  (125, (.aload_n 2, 126, 0, 0, 0)),
  (126, (.invokevirtual 59, 129, 171, 0, 0)),
  (129, (.iload 5, 131, 0, 0, 0)),
  (131, (.if_icmp .eq 5, 134, 136, 0, 0)),
  (134, (.iconst 0, 135, 0, 0, 0)),
  (135, (.ireturn, 136, 0, 0, 0)),
  (136, (.iload 5, 138, 0, 0, 0)),
  (138, (.ifCond .ne 15, 141, 153, 0, 0)),
  (141, (.aload_n 3, 142, 0, 0, 0)),
  (142, (.iconst 0, 143, 0, 0, 0)),
  (143, (.laload, 144, 0, 0, 0)),
  (144, (.iload 6, 146, 0, 0, 0)),
  (146, (.i2l, 147, 0, 0, 0)),
  (147, (.lcmp, 148, 0, 0, 0)),
  (148, (.ifCond .eq 5, 151, 153, 0, 0)),
  (151, (.iconst 0, 152, 0, 0, 0)),
  (152, (.ireturn, 153, 0, 0, 0)),
  (153, (.goto 521, 156, 674, 0, 0)),
  (156, (.aload_n 1, 157, 0, 0, 0)),
  (157, (.aload_n 0, 158, 0, 0, 0)),
  (158, (.iload 4, 160, 0, 0, 0)),
  (160, (.iconst 1, 161, 0, 0, 1)),
  (161, (.iadd, 162, 0, 0, 0)),
  (162, (.iaload, 163, 0, 0, 0)),
  (163, (.aload_n 3, 164, 0, 0, 0)),
  (164, (.invokestatic 63, 167, 960, 3, 0)),
  (167, (.istore 5, 169, 0, 0, 0)),
  (169, (.aload_n 2, 170, 0, 0, 0)),
  (170, (.aload_n 0, 171, 0, 0, 0)),
  (171, (.iload 4, 173, 0, 0, 0)),
  (173, (.iconst 1, 174, 0, 0, 1)),
  (174, (.iadd, 175, 0, 0, 0)),
  (175, (.iaload, 176, 0, 0, 0)),
  (176, (.invokevirtual 65, 179, 229, 1, 0)),
  (179, (.istore 6, 181, 0, 0, 0)),
  (181, (.aload_n 2, 182, 0, 0, 0)),
  (182, (.invokevirtual 59, 185, 171, 0, 0)),
  (185, (.iload 5, 187, 0, 0, 0)),
  (187, (.if_icmp .eq 5, 190, 192, 0, 0)),
  (190, (.iconst 0, 191, 0, 0, 0)),
  (191, (.ireturn, 192, 0, 0, 0)),
  (192, (.iload 5, 194, 0, 0, 0)),
  (194, (.ifCond .ne 15, 197, 209, 0, 0)),
  (197, (.aload_n 3, 198, 0, 0, 0)),
  (198, (.iconst 0, 199, 0, 0, 0)),
  (199, (.laload, 200, 0, 0, 0)),
  (200, (.iload 6, 202, 0, 0, 0)),
  (202, (.i2l, 203, 0, 0, 0)),
  (203, (.lcmp, 204, 0, 0, 0)),
  (204, (.ifCond .eq 5, 207, 209, 0, 0)),
  (207, (.iconst 0, 208, 0, 0, 0)),
  (208, (.ireturn, 209, 0, 0, 0)),
  (209, (.goto 465, 212, 674, 0, 0)),
  (212, (.aload_n 1, 213, 0, 0, 0)),
  (213, (.aload_n 0, 214, 0, 0, 0)),
  (214, (.iload 4, 216, 0, 0, 0)),
  (216, (.iconst 1, 217, 0, 0, 1)),
  (217, (.iadd, 218, 0, 0, 0)),
  (218, (.iaload, 219, 0, 0, 0)),
  (219, (.ifCond .eq 7, 222, 226, 0, 0)),
  (222, (.iconst 1, 223, 0, 0, 1)),
  (223, (.goto 4, 226, 227, 0, 0)),
  (226, (.iconst 0, 227, 0, 0, 0)),
  (227, (.invokestatic 66, 230, 960, 2, 0)),
  (230, (.istore 5, 232, 0, 0, 0)),
  (232, (.aload_n 2, 233, 0, 0, 0)),
  (233, (.aload_n 0, 234, 0, 0, 0)),
  (234, (.iload 4, 236, 0, 0, 0)),
  (236, (.iconst 1, 237, 0, 0, 1)),
  (237, (.iadd, 238, 0, 0, 0)),
  (238, (.iaload, 239, 0, 0, 0)),
  (239, (.ifCond .eq 7, 242, 246, 0, 0)),
  (242, (.iconst 1, 243, 0, 0, 1)),
  (243, (.goto 4, 246, 247, 0, 0)),
  (246, (.iconst 0, 247, 0, 0, 0)),
  (247, (.invokevirtual 69, 250, 231, 1, 0)),
  (250, (.aload_n 2, 251, 0, 0, 0)),
  (251, (.invokevirtual 59, 254, 171, 0, 0)),
  (254, (.iload 5, 256, 0, 0, 0)),
  (256, (.if_icmp .eq 5, 259, 261, 0, 0)),
  (259, (.iconst 0, 260, 0, 0, 0)),
  (260, (.ireturn, 261, 0, 0, 0)),
  (261, (.goto 413, 264, 674, 0, 0)),
  (264, (.aload_n 1, 265, 0, 0, 0)),
  (265, (.aload_n 0, 266, 0, 0, 0)),
  (266, (.iload 4, 268, 0, 0, 0)),
  (268, (.iconst 1, 269, 0, 0, 1)),
  (269, (.iadd, 270, 0, 0, 0)),
  (270, (.iaload, 271, 0, 0, 0)),
  (271, (.invokestatic 70, 274, 960, 2, 0)),
  (274, (.istore 5, 276, 0, 0, 0)),
  (276, (.aload_n 2, 277, 0, 0, 0)),
  (277, (.aload_n 0, 278, 0, 0, 0)),
  (278, (.iload 4, 280, 0, 0, 0)),
  (280, (.iconst 1, 281, 0, 0, 1)),
  (281, (.iadd, 282, 0, 0, 0)),
  (282, (.iaload, 283, 0, 0, 0)),
  (283, (.invokevirtual 73, 286, 232, 1, 0)),
  (286, (.aload_n 2, 287, 0, 0, 0)),
  (287, (.invokevirtual 59, 290, 171, 0, 0)),
  (290, (.iload 5, 292, 0, 0, 0)),
  (292, (.if_icmp .eq 5, 295, 297, 0, 0)),
  (295, (.iconst 0, 296, 0, 0, 0)),
  (296, (.ireturn, 297, 0, 0, 0)),
  (297, (.goto 377, 300, 674, 0, 0)),
  (300, (.aload_n 1, 301, 0, 0, 0)),
  (301, (.invokevirtual 74, 304, 13, 0, 0)),
  (304, (.aload_n 2, 305, 0, 0, 0)),
  (305, (.invokevirtual 78, 308, 233, 0, 0)),
  (308, (.if_icmp .eq 366, 311, 674, 0, 0)),
  (311, (.iconst 0, 312, 0, 0, 0)),
  (312, (.ireturn, 313, 0, 0, 0)),
  (313, (.aload_n 1, 314, 0, 0, 0)),
  (314, (.invokevirtual 79, 317, 43, 0, 0)),
  (317, (.aload_n 2, 318, 0, 0, 0)),
  (318, (.invokevirtual 82, 321, 234, 0, 0)),
  (321, (.if_icmp .eq 353, 324, 674, 0, 0)),
  (324, (.iconst 0, 325, 0, 0, 0)),
  (325, (.ireturn, 326, 0, 0, 0)),
  (326, (.aload_n 1, 327, 0, 0, 0)),
  (327, (.aload_n 0, 328, 0, 0, 0)),
  (328, (.iload 4, 330, 0, 0, 0)),
  (330, (.iconst 1, 331, 0, 0, 1)),
  (331, (.iadd, 332, 0, 0, 0)),
  (332, (.iaload, 333, 0, 0, 0)),
  (333, (.aload_n 3, 334, 0, 0, 0)),
  (334, (.invokestatic 83, 337, 960, 3, 0)),
  (337, (.istore 5, 339, 0, 0, 0)),
  (339, (.aload_n 2, 340, 0, 0, 0)),
  (340, (.aload_n 0, 341, 0, 0, 0)),
  (341, (.iload 4, 343, 0, 0, 0)),
  (343, (.iconst 1, 344, 0, 0, 1)),
  (344, (.iadd, 345, 0, 0, 0)),
  (345, (.iaload, 346, 0, 0, 0)),
  (346, (.invokevirtual 85, 349, 235, 1, 0)),
  (349, (.istore 6, 351, 0, 0, 0)),
  (351, (.aload_n 2, 352, 0, 0, 0)),
  (352, (.invokevirtual 59, 355, 171, 0, 0)),
  (355, (.iload 5, 357, 0, 0, 0)),
  (357, (.if_icmp .eq 5, 360, 362, 0, 0)),
  (360, (.iconst 0, 361, 0, 0, 0)),
  (361, (.ireturn, 362, 0, 0, 0)),
  (362, (.iload 5, 364, 0, 0, 0)),
  (364, (.ifCond .ne 15, 367, 379, 0, 0)),
  (367, (.aload_n 3, 368, 0, 0, 0)),
  (368, (.iconst 0, 369, 0, 0, 0)),
  (369, (.laload, 370, 0, 0, 0)),
  (370, (.iload 6, 372, 0, 0, 0)),
  (372, (.i2l, 373, 0, 0, 0)),
  (373, (.lcmp, 374, 0, 0, 0)),
  (374, (.ifCond .eq 5, 377, 379, 0, 0)),
  (377, (.iconst 0, 378, 0, 0, 0)),
  (378, (.ireturn, 379, 0, 0, 0)),
  (379, (.goto 295, 382, 674, 0, 0)),
  (382, (.aload_n 1, 383, 0, 0, 0)),
  (383, (.aload_n 0, 384, 0, 0, 0)),
  (384, (.iload 4, 386, 0, 0, 0)),
  (386, (.iconst 1, 387, 0, 0, 1)),
  (387, (.iadd, 388, 0, 0, 0)),
  (388, (.iaload, 389, 0, 0, 0)),
  (389, (.aload_n 3, 390, 0, 0, 0)),
  (390, (.invokestatic 86, 393, 960, 3, 0)),
  (393, (.istore 5, 395, 0, 0, 0)),
  (395, (.aload_n 2, 396, 0, 0, 0)),
  (396, (.aload_n 0, 397, 0, 0, 0)),
  (397, (.iload 4, 399, 0, 0, 0)),
  (399, (.iconst 1, 400, 0, 0, 1)),
  (400, (.iadd, 401, 0, 0, 0)),
  (401, (.iaload, 402, 0, 0, 0)),
  (402, (.invokevirtual 88, 405, 236, 1, 0)),
  (405, (.istore 6, 407, 0, 0, 0)),
  (407, (.aload_n 2, 408, 0, 0, 0)),
  (408, (.invokevirtual 59, 411, 171, 0, 0)),
  (411, (.iload 5, 413, 0, 0, 0)),
  (413, (.if_icmp .eq 5, 416, 418, 0, 0)),
  (416, (.iconst 0, 417, 0, 0, 0)),
  (417, (.ireturn, 418, 0, 0, 0)),
  (418, (.iload 5, 420, 0, 0, 0)),
  (420, (.ifCond .ne 15, 423, 435, 0, 0)),
  (423, (.aload_n 3, 424, 0, 0, 0)),
  (424, (.iconst 0, 425, 0, 0, 0)),
  (425, (.laload, 426, 0, 0, 0)),
  (426, (.iload 6, 428, 0, 0, 0)),
  (428, (.i2l, 429, 0, 0, 0)),
  (429, (.lcmp, 430, 0, 0, 0)),
  (430, (.ifCond .eq 5, 433, 435, 0, 0)),
  (433, (.iconst 0, 434, 0, 0, 0)),
  (434, (.ireturn, 435, 0, 0, 0)),
  (435, (.goto 239, 438, 674, 0, 0)),
  (438, (.aload_n 1, 439, 0, 0, 0)),
  (439, (.aload_n 0, 440, 0, 0, 0)),
  (440, (.iload 4, 442, 0, 0, 0)),
  (442, (.iconst 1, 443, 0, 0, 1)),
  (443, (.iadd, 444, 0, 0, 0)),
  (444, (.iaload, 445, 0, 0, 0)),
  (445, (.aload_n 3, 446, 0, 0, 0)),
  (446, (.invokestatic 89, 449, 960, 3, 0)),
  (449, (.istore 5, 451, 0, 0, 0)),
  (451, (.aload_n 2, 452, 0, 0, 0)),
  (452, (.aload_n 0, 453, 0, 0, 0)),
  (453, (.iload 4, 455, 0, 0, 0)),
  (455, (.iconst 1, 456, 0, 0, 1)),
  (456, (.iadd, 457, 0, 0, 0)),
  (457, (.iaload, 458, 0, 0, 0)),
  (458, (.invokevirtual 91, 461, 237, 1, 0)),
  (461, (.istore 6, 463, 0, 0, 0)),
  (463, (.aload_n 2, 464, 0, 0, 0)),
  (464, (.invokevirtual 59, 467, 171, 0, 0)),
  (467, (.iload 5, 469, 0, 0, 0)),
  (469, (.if_icmp .eq 5, 472, 474, 0, 0)),
  (472, (.iconst 0, 473, 0, 0, 0)),
  (473, (.ireturn, 474, 0, 0, 0)),
  (474, (.iload 5, 476, 0, 0, 0)),
  (476, (.ifCond .ne 15, 479, 491, 0, 0)),
  (479, (.aload_n 3, 480, 0, 0, 0)),
  (480, (.iconst 0, 481, 0, 0, 0)),
  (481, (.laload, 482, 0, 0, 0)),
  (482, (.iload 6, 484, 0, 0, 0)),
  (484, (.i2l, 485, 0, 0, 0)),
  (485, (.lcmp, 486, 0, 0, 0)),
  (486, (.ifCond .eq 5, 489, 491, 0, 0)),
  (489, (.iconst 0, 490, 0, 0, 0)),
  (490, (.ireturn, 491, 0, 0, 0)),
  (491, (.goto 183, 494, 674, 0, 0)),
  (494, (.aload_n 1, 495, 0, 0, 0)),
  (495, (.aload_n 0, 496, 0, 0, 0)),
  (496, (.iload 4, 498, 0, 0, 0)),
  (498, (.iconst 1, 499, 0, 0, 1)),
  (499, (.iadd, 500, 0, 0, 0)),
  (500, (.iaload, 501, 0, 0, 0)),
  (501, (.aload_n 3, 502, 0, 0, 0)),
  (502, (.invokestatic 92, 505, 960, 3, 0)),
  (505, (.istore 5, 507, 0, 0, 0)),
  (507, (.aload_n 2, 508, 0, 0, 0)),
  (508, (.aload_n 0, 509, 0, 0, 0)),
  (509, (.iload 4, 511, 0, 0, 0)),
  (511, (.iconst 1, 512, 0, 0, 1)),
  (512, (.iadd, 513, 0, 0, 0)),
  (513, (.iaload, 514, 0, 0, 0)),
  (514, (.invokevirtual 94, 517, 238, 1, 0)),
  (517, (.istore 6, 519, 0, 0, 0)),
  (519, (.aload_n 2, 520, 0, 0, 0)),
  (520, (.invokevirtual 59, 523, 171, 0, 0)),
  (523, (.iload 5, 525, 0, 0, 0)),
  (525, (.if_icmp .eq 5, 528, 530, 0, 0)),
  (528, (.iconst 0, 529, 0, 0, 0)),
  (529, (.ireturn, 530, 0, 0, 0)),
  (530, (.iload 5, 532, 0, 0, 0)),
  (532, (.ifCond .ne 15, 535, 547, 0, 0)),
  (535, (.aload_n 3, 536, 0, 0, 0)),
  (536, (.iconst 0, 537, 0, 0, 0)),
  (537, (.laload, 538, 0, 0, 0)),
  (538, (.iload 6, 540, 0, 0, 0)),
  (540, (.i2l, 541, 0, 0, 0)),
  (541, (.lcmp, 542, 0, 0, 0)),
  (542, (.ifCond .eq 5, 545, 547, 0, 0)),
  (545, (.iconst 0, 546, 0, 0, 0)),
  (546, (.ireturn, 547, 0, 0, 0)),
  (547, (.goto 127, 550, 674, 0, 0)),
  (550, (.aload_n 1, 551, 0, 0, 0)),
  (551, (.aload_n 0, 552, 0, 0, 0)),
  (552, (.iload 4, 554, 0, 0, 0)),
  (554, (.iconst 1, 555, 0, 0, 1)),
  (555, (.iadd, 556, 0, 0, 0)),
  (556, (.iaload, 557, 0, 0, 0)),
  (557, (.aload_n 3, 558, 0, 0, 0)),
  (558, (.invokestatic 95, 561, 960, 3, 0)),
  (561, (.istore 5, 563, 0, 0, 0)),
  (563, (.aload_n 2, 564, 0, 0, 0)),
  (564, (.aload_n 0, 565, 0, 0, 0)),
  (565, (.iload 4, 567, 0, 0, 0)),
  (567, (.iconst 1, 568, 0, 0, 1)),
  (568, (.iadd, 569, 0, 0, 0)),
  (569, (.iaload, 570, 0, 0, 0)),
  (570, (.invokevirtual 97, 573, 239, 1, 0)),
  (573, (.istore 6, 575, 0, 0, 0)),
  (575, (.aload_n 2, 576, 0, 0, 0)),
  (576, (.invokevirtual 59, 579, 171, 0, 0)),
  (579, (.iload 5, 581, 0, 0, 0)),
  (581, (.if_icmp .eq 5, 584, 586, 0, 0)),
  (584, (.iconst 0, 585, 0, 0, 0)),
  (585, (.ireturn, 586, 0, 0, 0)),
  (586, (.iload 5, 588, 0, 0, 0)),
  (588, (.ifCond .ne 15, 591, 603, 0, 0)),
  (591, (.aload_n 3, 592, 0, 0, 0)),
  (592, (.iconst 0, 593, 0, 0, 0)),
  (593, (.laload, 594, 0, 0, 0)),
  (594, (.iload 6, 596, 0, 0, 0)),
  (596, (.i2l, 597, 0, 0, 0)),
  (597, (.lcmp, 598, 0, 0, 0)),
  (598, (.ifCond .eq 5, 601, 603, 0, 0)),
  (601, (.iconst 0, 602, 0, 0, 0)),
  (602, (.ireturn, 603, 0, 0, 0)),
  (603, (.goto 71, 606, 674, 0, 0)),
  (606, (.aload_n 1, 607, 0, 0, 0)),
  (607, (.aload_n 0, 608, 0, 0, 0)),
  (608, (.iload 4, 610, 0, 0, 0)),
  (610, (.iconst 1, 611, 0, 0, 1)),
  (611, (.iadd, 612, 0, 0, 0)),
  (612, (.iaload, 613, 0, 0, 0)),
  (613, (.aload_n 0, 614, 0, 0, 0)),
  (614, (.iload 4, 616, 0, 0, 0)),
  (616, (.iconst 2, 617, 0, 0, 2)),
  (617, (.iadd, 618, 0, 0, 0)),
  (618, (.iaload, 619, 0, 0, 0)),
  (619, (.aload_n 3, 620, 0, 0, 0)),
  (620, (.invokestatic 98, 623, 960, 4, 0)),
  (623, (.istore 5, 625, 0, 0, 0)),
  (625, (.aload_n 2, 626, 0, 0, 0)),
  (626, (.aload_n 0, 627, 0, 0, 0)),
  (627, (.iload 4, 629, 0, 0, 0)),
  (629, (.iconst 1, 630, 0, 0, 1)),
  (630, (.iadd, 631, 0, 0, 0)),
  (631, (.iaload, 632, 0, 0, 0)),
  (632, (.aload_n 0, 633, 0, 0, 0)),
  (633, (.iload 4, 635, 0, 0, 0)),
  (635, (.iconst 2, 636, 0, 0, 2)),
  (636, (.iadd, 637, 0, 0, 0)),
  (637, (.iaload, 638, 0, 0, 0)),
  (638, (.invokevirtual 101, 641, 240, 2, 0)),
  (641, (.istore 6, 643, 0, 0, 0)),
  (643, (.aload_n 2, 644, 0, 0, 0)),
  (644, (.invokevirtual 59, 647, 171, 0, 0)),
  (647, (.iload 5, 649, 0, 0, 0)),
  (649, (.if_icmp .eq 5, 652, 654, 0, 0)),
  (652, (.iconst 0, 653, 0, 0, 0)),
  (653, (.ireturn, 654, 0, 0, 0)),
  (654, (.iload 5, 656, 0, 0, 0)),
  (656, (.ifCond .ne 15, 659, 671, 0, 0)),
  (659, (.aload_n 3, 660, 0, 0, 0)),
  (660, (.iconst 0, 661, 0, 0, 0)),
  (661, (.laload, 662, 0, 0, 0)),
  (662, (.iload 6, 664, 0, 0, 0)),
  (664, (.i2l, 665, 0, 0, 0)),
  (665, (.lcmp, 666, 0, 0, 0)),
  (666, (.ifCond .eq 5, 669, 671, 0, 0)),
  (669, (.iconst 0, 670, 0, 0, 0)),
  (670, (.ireturn, 671, 0, 0, 0)),
  (671, (.goto 3, 674, 674, 0, 0)),
  (674, (.iinc 4 3, 677, 0, 0, 3)),
  (677, (.goto (-654), 680, 23, 0, 0)),
  (680, (.iconst 1, 681, 0, 0, 1)),
  (681, (.ireturn, 682, 0, 0, 0))]
def xm_tbs : List (List (Nat × xm_row)) := [xB0, xB1, xB2, xB3, xB4, xB5, xB6, xB7, xB8, xB9, xB10, xB11, xB12, xB13, xB14, xB15, xB16, xB17, xB18, xB19, xB20, xB21, xB22, xB23, xB24, xB25, xB26, xB27, xB28, xB29, xB30, xB31, xB32, xB33, xB34, xB35, xB36, xB37, xB38, xB39, xB40, xB41, xB42, xB43, xB44, xB45, xB46, xB47, xB48, xB49, xB50, xB51, xB52, xB53, xB54, xB55, xB56, xB57, xB58, xB59, xB60, xB61, xB62, xB63, xB64, xB65, xB66, xB67, xB68, xB69, xB70, xB71, xB72, xB73, xB74, xB75, xB76, xB77, xB78, xB79, xB80, xB81, xB82, xB83, xB84, xB85, xB86, xB87, xB88, xB89, xB90, xB91, xB92, xB93, xB94, xB95, xB96, xB97, xB98, xB99, xB100, xB101, xB102, xB103, xB104, xB105, xB106, xB107, xB108, xB109, xB110, xB111, xB112, xB113, xB114, xB115, xB116, xB117, xB118, xB119, xB120, xB121, xB122, xB123, xB124, xB125, xB126, xB127, xB128, xB129, xB130, xB131, xB132, xB133, xB134, xB135, xB136, xB137, xB138, xB139, xB140, xB141, xB142, xB143, xB144, xB145, xB146, xB147, xB148, xB149, xB150, xB151, xB152, xB153, xB154, xB155, xB156, xB157, xB158, xB159, xB160, xB161, xB162, xB163, xB164, xB165, xB166, xB167, xB168, xB169, xB170, xB171, xB172, xB173, xB174, xB175, xB176, xB177, xB178, xB179, xB180, xB181, xB182, xB183, xB184, xB185, xB186, xB187, xB188, xB189, xB190, xB191, xB192, xB193, xB194, xB195, xB196, xB197, xB198, xB199, xB200, xB201, xB202, xB203, xB204, xB205, xB206, xB207, xB208, xB209, xB210, xB211, xB212, xB213, xB214, xB215, xB216, xB217, xB218, xB219, xB220, xB221, xB222, xB223, xB224, xB225, xB226, xB227, xB228, xB229, xB230, xB231, xB232, xB233, xB234, xB235, xB236, xB237, xB238, xB239, xB240, xB241, xB242, xB243, xB244, xB245, xB246, xB247, xB248, xB249, xB250, xB251]
def xm_hh (k : Nat) : List (Nat × Nat × Nat × Nat) := match k with
  | 241 => [(0, 9, 12, 13)]
  | 242 => [(0, 9, 12, 13)]
  | 243 => [(0, 5, 8, 22)]
  | 244 => [(0, 5, 8, 13)]
  | 245 => [(0, 9, 12, 31)]
  | 246 => [(0, 9, 12, 13)]
  | 247 => [(0, 9, 12, 31)]
  | 248 => [(0, 9, 12, 31)]
  | 249 => [(0, 9, 12, 31)]
  | 250 => [(0, 10, 13, 31)]
  | _ => []
def xm_xw : List Cond := [.instanceMethod Lib.objectInit, .code Lib.objectInit ⟨#[0xb1]⟩ 1 none, .arrayClass .int, .arrayClass .long, .arrayClass .boolean, .arrayOver (.object "FabLink$Message"), .arrayOver (.array .int)]
def xm_sp (r : Nat) : MethodName := match r with
  | 900 => Lib.objectInit
  | _ => ⟨"", "", ""⟩
end
section
def xm_cn (t : FieldType) : String := match t with
  | .object C => C
  | t => t.toString
def xm_lk (c idx : Nat) : Option Cond := (xm_lks.getD c []).lookup idx
def xm_nm (k : Nat) : MethodName := (xm_Ms.getD k xm_M0).1
def xm_by (k : Nat) : ByteArray := (xm_Ms.getD k xm_M0).2.1
def xm_ml (k : Nat) : Nat := (xm_Ms.getD k xm_M0).2.2.1
def xm_rt (k : Nat) : Option FieldType := (xm_Ms.getD k xm_M0).2.2.2.1
def xm_kd (k : Nat) : Nat := (xm_Ms.getD k xm_M0).2.2.2.2.1
def xm_pn (k : Nat) : Nat := (xm_Ms.getD k xm_M0).2.2.2.2.2
def xm_nM : Nat := xm_Ms.length
def xm_code (k pc : Nat) : Option xm_row := (xm_tbs.getD k []).lookup pc
/-- the words of a method: 0 static, 1 instance, 2 constructor -/
def xm_mw (j : Nat) : List Cond := match xm_kd j with
  | 0 => [.code (xm_nm j) (xm_by j) (xm_ml j) (xm_rt j), .static (xm_nm j), .initialized (xm_nm j).cls]
  | 1 => [.code (xm_nm j) (xm_by j) (xm_ml j) (xm_rt j), .instanceMethod (xm_nm j), .selects (xm_nm j).cls (xm_nm j) (xm_nm j), .initialized (xm_nm j).cls]
  | 2 => [.code (xm_nm j) (xm_by j) (xm_ml j) (xm_rt j), .instanceMethod (xm_nm j), .initialized (xm_nm j).cls]
  | _ => []
def xm_cw (c : Nat) : List Cond := match xm_cl[c]? with
  | some (C, T, N) => u_ws C T N ++ [.instantiable C N, .initialized C]
  | none => []
def xm_W : List Cond := xm_lks.flatMap (fun t => t.map (fun q => q.2)) ++ ((List.range xm_nM).flatMap xm_mw ++ ((List.range xm_cl.length).flatMap xm_cw ++ xm_xw))
def xm_okw (w : Cond) : Bool := match w with
  | .methodLinkNest _ _ _ _ => true
  | .fieldLinkNest _ _ _ _ _ _ => true
  | .castable _ _ => true
  | .arrayOver (.array _) => true
  | .arrayOver (.object _) => true
  | w => goodWord w
theorem xm_lookup_mem {α : Type} {l : List (Nat × α)} {i : Nat} {x : α} (h : l.lookup i = some x) : (i, x) ∈ l := by
  induction l with
  | nil => cases h
  | cons a t ih =>
    obtain ⟨b, y⟩ := a
    by_cases hb : i = b
    · subst hb
      rw [List.lookup_cons_self] at h
      cases h
      exact List.mem_cons_self
    · have hb' : (i == b) = false := by simpa using hb
      rw [List.lookup_cons, hb'] at h
      exact List.mem_cons_of_mem _ (ih h)
theorem xm_lk_mem {c idx : Nat} {w : Cond} (h : xm_lk c idx = some w) : w ∈ xm_W := by
  unfold xm_lk at h
  rw [List.getD_eq_getElem?_getD] at h
  cases hq : xm_lks[c]? with
  | none => rw [hq] at h; cases h
  | some t =>
    rw [hq] at h
    exact List.mem_append_left _ (List.mem_flatMap.mpr ⟨t, List.mem_of_getElem? hq, List.mem_map.mpr ⟨_, xm_lookup_mem h, rfl⟩⟩)
theorem xm_mw_mem {j : Nat} (hj : j < xm_nM) {w : Cond} (h : w ∈ xm_mw j) : w ∈ xm_W :=
  List.mem_append_right _ (List.mem_append_left _ (List.mem_flatMap.mpr ⟨j, List.mem_range.mpr hj, h⟩))
theorem xm_cls_mem {c : Nat} {C : String} {T : u_T} {N : Nat} (hc : xm_cl[c]? = some (C, T, N)) {w : Cond} (h : w ∈ u_ws C T N ++ [.instantiable C N, .initialized C]) : w ∈ xm_W := by
  refine List.mem_append_right _ (List.mem_append_right _ (List.mem_append_left _ (List.mem_flatMap.mpr ⟨c, List.mem_range.mpr (List.getElem?_eq_some_iff.mp hc).1, ?_⟩)))
  unfold xm_cw
  rw [hc]
  exact h
theorem xm_xw_mem {w : Cond} (h : w ∈ xm_xw) : w ∈ xm_W := List.mem_append_right _ (List.mem_append_right _ (List.mem_append_right _ h))
theorem va_AOw {s U : State} {C : String} (hW : s.WarmedH U.vm) (h : va_Nw (.arrayOver (.object C)) s) : va_Nw (.arrayOver (.object C)) U := va_AO.moved hW.alike h
def xm_fok (k idx r1 r2 : Nat) : Bool := match xm_cl[r1]? with
  | none => false
  | some (C, T, N) => decide (r2 < N) && decide (xm_lk (xm_pn k) idx = some (.fieldLink (xm_nm k).cls idx C (T r2).2.1 (T r2).2.2.1)) && decide ((T r2).1 = C)
def xm_pok (k _idx r1 r2 : Nat) : Bool := match xm_cl[r1]? with
  | none => false
  | some (C, T, _) => decide ((T r2).2.2.2 = false) || (decide ((xm_nm k).name = "<init>") && decide ((xm_nm k).cls = C))
def xm_nok (k idx r1 : Nat) : Bool := match xm_cl[r1]? with
  | none => false
  | some (C, _, _) => decide (xm_lk (xm_pn k) idx = some (.classLink (xm_nm k).cls idx C))
def xm_cok (k idx j n kd : Nat) : Bool := (match xm_lk (xm_pn k) idx with
    | some (.methodLink o i y) => decide (o = (xm_nm k).cls) && decide (i = idx) && decide (y = xm_nm j)
    | some (.methodLinkNest o i y _) => decide (o = (xm_nm k).cls) && decide (i = idx) && decide (y = xm_nm j)
    | _ => false) && decide (xm_kd j = kd) && decide ((xm_nm j).cls ≠ "java/lang/invoke/MethodHandle") && decide ((xm_nm j).cls ≠ "java/lang/invoke/VarHandle") && decide ((parseMethodDescriptor (xm_nm j).desc).map (fun d => d.parameters.length) = some n) && decide (xm_ml j ≤ 41) && decide (j < xm_nM)
def xm_spok (k idx r1 : Nat) : Bool := decide (xm_lk (xm_pn k) idx = some (.methodLink (xm_nm k).cls idx (xm_sp r1)))
def xm_okI (k pc : Nat) (i : Instr) (r1 r2 : Nat) (v : Int32) : Bool := match i with
  | .iconst n => decide (Int32.ofInt n = v)
  | .bipush n => decide ((Int8.ofInt n).toInt32 = v)
  | .sipush n => decide ((Int16.ofInt n).toInt32 = v)
  | .iinc _ n => decide (Int32.ofInt n = v)
  | .goto off => decide ((pc : Int) + off = (r1 : Int))
  | .ifCond _ off => decide ((pc : Int) + off = (r1 : Int))
  | .if_icmp _ off => decide ((pc : Int) + off = (r1 : Int))
  | .ifnull off => decide ((pc : Int) + off = (r1 : Int))
  | .ifnonnull off => decide ((pc : Int) + off = (r1 : Int))
  | .lookupswitch _ ps => (ps.toList.zip (ps.toList.drop 1)).all (fun (a, next) => a.1 < next.1)
  | .getfield idx => xm_fok k idx r1 r2
  | .putfield idx => xm_fok k idx r1 r2 && xm_pok k idx r1 r2
  | .new idx => if 950 ≤ r1 then true else xm_nok k idx r1
  | .newarray at0 => decide (newarray.typeOf at0 = xm_ty r1) && decide (r1 < xm_nt) && decide (Cond.arrayClass (xm_ty r1) ∈ xm_xw)
  | .anewarray idx => decide (xm_lk (xm_pn k) idx = some (.classLink (xm_nm k).cls idx (xm_cn (xm_ty r1)))) && decide (r1 < xm_nt) && decide (Cond.arrayOver (xm_ty r1) ∈ xm_xw)
  | .invokevirtual idx => if 950 ≤ r1 then true else if 900 ≤ r1 then xm_spok k idx r1 else xm_cok k idx r1 r2 1
  | .invokestatic idx => if 950 ≤ r1 then true else if 900 ≤ r1 then xm_spok k idx r1 else xm_cok k idx r1 r2 0
  | .invokespecial idx => if 950 ≤ r1 then true else if 900 ≤ r1 then xm_spok k idx r1 else xm_cok k idx r1 r2 2
  | .ldc idx => if 900 ≤ r2 then xm_sl.any (fun r => decide (r.1 = (xm_nm k).cls) && decide (r.2.1 = idx) && decide (r.2.2.2 = r1)) else decide (xm_lk (xm_pn k) idx = some (.constant (xm_nm k).cls idx v))
  | _ => true
def xm_ok (k pc : Nat) (r : xm_row) : Bool := (match decode (xm_by k) pc with
    | .ok (j, n) => decide (j = r.1) && decide (n = xm_len r.1 r.2.2.2.1) && decide (r.2.1 = pc + xm_len r.1 r.2.2.2.1)
    | _ => false) && xm_okI k pc r.1 r.2.2.1 r.2.2.2.1 r.2.2.2.2
set_option maxRecDepth 100000 in
theorem xm_W_ok : xm_W.all xm_okw = true := by decide +kernel
def xm_clchk (c : Nat) : Bool := match xm_cl[c]? with
  | some (_, T, N) => (List.range N).all (fun j => decide (parseFieldDescriptor (T j).2.2.1 = some (xm_ft c j)) && (List.range N).all (fun b => decide (j = b) || decide ((T j).2.1 ≠ (T b).2.1)))
  | none => true
set_option maxRecDepth 100000 in
theorem xm_cls_chk : (List.range xm_cl.length).all xm_clchk = true := by decide +kernel
theorem xm_cls_ok {c : Nat} {C : String} {T : u_T} {N : Nat} (hc : xm_cl[c]? = some (C, T, N)) : (∀ j, j < N → parseFieldDescriptor (T j).2.2.1 = some (xm_ft c j)) ∧ ∀ a, a < N → ∀ b, b < N → a ≠ b → (T a).2.1 ≠ (T b).2.1 := by
  have h := List.all_eq_true.mp xm_cls_chk c (List.mem_range.mpr (List.getElem?_eq_some_iff.mp hc).1)
  unfold xm_clchk at h
  rw [hc] at h
  have h1 := List.all_eq_true.mp h
  refine ⟨fun j hj => ?_, fun a ha b hb hab => ?_⟩
  · have h2 := h1 j (List.mem_range.mpr hj)
    simp only [Bool.and_eq_true, decide_eq_true_eq] at h2
    exact h2.1
  · have h2 := h1 a (List.mem_range.mpr ha)
    simp only [Bool.and_eq_true, decide_eq_true_eq] at h2
    have h3 := List.all_eq_true.mp h2.2 b (List.mem_range.mpr hb)
    simp only [Bool.or_eq_true, decide_eq_true_eq] at h3
    exact h3.resolve_left hab
set_option maxRecDepth 100000 in
theorem xm_ini_chk : ∀ j, j < xm_nM → xm_kd j = 2 → (xm_nm j).name = "<init>" ∧ xm_rt j = none := by decide +kernel
theorem xm_xw_oi1 : Cond.instanceMethod Lib.objectInit ∈ xm_xw := List.mem_cons_self
theorem xm_xw_oi2 : Cond.code Lib.objectInit ⟨#[0xb1]⟩ 1 none ∈ xm_xw := List.mem_cons_of_mem _ List.mem_cons_self
def xm_good (k : Nat) : Prop := ∀ (pc : Nat) (r : xm_row), xm_code k pc = some r → xm_ok k pc r = true
theorem xm_good_of {k : Nat} (h : (xm_tbs.getD k []).all (fun q => xm_ok k q.1 q.2) = true) : xm_good k := by
  intro pc r hr
  exact List.all_eq_true.mp h (pc, r) (xm_lookup_mem hr)
end
section
set_option maxRecDepth 100000 in
theorem xg0 : xm_good 0 := xm_good_of (by decide +kernel)
set_option maxRecDepth 100000 in
theorem xg1 : xm_good 1 := xm_good_of (by decide +kernel)
set_option maxRecDepth 100000 in
theorem xg2 : xm_good 2 := xm_good_of (by decide +kernel)
set_option maxRecDepth 100000 in
theorem xg3 : xm_good 3 := xm_good_of (by decide +kernel)
set_option maxRecDepth 100000 in
theorem xg4 : xm_good 4 := xm_good_of (by decide +kernel)
set_option maxRecDepth 100000 in
theorem xg5 : xm_good 5 := xm_good_of (by decide +kernel)
set_option maxRecDepth 100000 in
theorem xg6 : xm_good 6 := xm_good_of (by decide +kernel)
set_option maxRecDepth 100000 in
theorem xg7 : xm_good 7 := xm_good_of (by decide +kernel)
set_option maxRecDepth 100000 in
theorem xg8 : xm_good 8 := xm_good_of (by decide +kernel)
set_option maxRecDepth 100000 in
theorem xg9 : xm_good 9 := xm_good_of (by decide +kernel)
set_option maxRecDepth 100000 in
theorem xg10 : xm_good 10 := xm_good_of (by decide +kernel)
set_option maxRecDepth 100000 in
theorem xg11 : xm_good 11 := xm_good_of (by decide +kernel)
set_option maxRecDepth 100000 in
theorem xg12 : xm_good 12 := xm_good_of (by decide +kernel)
set_option maxRecDepth 100000 in
theorem xg13 : xm_good 13 := xm_good_of (by decide +kernel)
set_option maxRecDepth 100000 in
theorem xg14 : xm_good 14 := xm_good_of (by decide +kernel)
set_option maxRecDepth 100000 in
theorem xg15 : xm_good 15 := xm_good_of (by decide +kernel)
set_option maxRecDepth 100000 in
theorem xg16 : xm_good 16 := xm_good_of (by decide +kernel)
set_option maxRecDepth 100000 in
theorem xg17 : xm_good 17 := xm_good_of (by decide +kernel)
set_option maxRecDepth 100000 in
theorem xg18 : xm_good 18 := xm_good_of (by decide +kernel)
set_option maxRecDepth 100000 in
theorem xg19 : xm_good 19 := xm_good_of (by decide +kernel)
set_option maxRecDepth 100000 in
theorem xg20 : xm_good 20 := xm_good_of (by decide +kernel)
set_option maxRecDepth 100000 in
theorem xg21 : xm_good 21 := xm_good_of (by decide +kernel)
set_option maxRecDepth 100000 in
theorem xg22 : xm_good 22 := xm_good_of (by decide +kernel)
set_option maxRecDepth 100000 in
theorem xg23 : xm_good 23 := xm_good_of (by decide +kernel)
set_option maxRecDepth 100000 in
theorem xg24 : xm_good 24 := xm_good_of (by decide +kernel)
set_option maxRecDepth 100000 in
theorem xg25 : xm_good 25 := xm_good_of (by decide +kernel)
set_option maxRecDepth 100000 in
theorem xg26 : xm_good 26 := xm_good_of (by decide +kernel)
set_option maxRecDepth 100000 in
theorem xg27 : xm_good 27 := xm_good_of (by decide +kernel)
set_option maxRecDepth 100000 in
theorem xg28 : xm_good 28 := xm_good_of (by decide +kernel)
set_option maxRecDepth 100000 in
theorem xg29 : xm_good 29 := xm_good_of (by decide +kernel)
set_option maxRecDepth 100000 in
theorem xg30 : xm_good 30 := xm_good_of (by decide +kernel)
set_option maxRecDepth 100000 in
theorem xg31 : xm_good 31 := xm_good_of (by decide +kernel)
set_option maxRecDepth 100000 in
theorem xg32 : xm_good 32 := xm_good_of (by decide +kernel)
set_option maxRecDepth 100000 in
theorem xg33 : xm_good 33 := xm_good_of (by decide +kernel)
set_option maxRecDepth 100000 in
theorem xg34 : xm_good 34 := xm_good_of (by decide +kernel)
set_option maxRecDepth 100000 in
theorem xg35 : xm_good 35 := xm_good_of (by decide +kernel)
set_option maxRecDepth 100000 in
theorem xg36 : xm_good 36 := xm_good_of (by decide +kernel)
set_option maxRecDepth 100000 in
theorem xg37 : xm_good 37 := xm_good_of (by decide +kernel)
set_option maxRecDepth 100000 in
theorem xg38 : xm_good 38 := xm_good_of (by decide +kernel)
set_option maxRecDepth 100000 in
theorem xg39 : xm_good 39 := xm_good_of (by decide +kernel)
set_option maxRecDepth 100000 in
theorem xg40 : xm_good 40 := xm_good_of (by decide +kernel)
set_option maxRecDepth 100000 in
theorem xg41 : xm_good 41 := xm_good_of (by decide +kernel)
set_option maxRecDepth 100000 in
theorem xg42 : xm_good 42 := xm_good_of (by decide +kernel)
set_option maxRecDepth 100000 in
theorem xg43 : xm_good 43 := xm_good_of (by decide +kernel)
set_option maxRecDepth 100000 in
theorem xg44 : xm_good 44 := xm_good_of (by decide +kernel)
set_option maxRecDepth 100000 in
theorem xg45 : xm_good 45 := xm_good_of (by decide +kernel)
set_option maxRecDepth 100000 in
theorem xg46 : xm_good 46 := xm_good_of (by decide +kernel)
set_option maxRecDepth 100000 in
theorem xg47 : xm_good 47 := xm_good_of (by decide +kernel)
set_option maxRecDepth 100000 in
theorem xg48 : xm_good 48 := xm_good_of (by decide +kernel)
set_option maxRecDepth 100000 in
theorem xg49 : xm_good 49 := xm_good_of (by decide +kernel)
set_option maxRecDepth 100000 in
theorem xg50 : xm_good 50 := xm_good_of (by decide +kernel)
set_option maxRecDepth 100000 in
theorem xg51 : xm_good 51 := xm_good_of (by decide +kernel)
set_option maxRecDepth 100000 in
theorem xg52 : xm_good 52 := xm_good_of (by decide +kernel)
set_option maxRecDepth 100000 in
theorem xg53 : xm_good 53 := xm_good_of (by decide +kernel)
set_option maxRecDepth 100000 in
theorem xg54 : xm_good 54 := xm_good_of (by decide +kernel)
set_option maxRecDepth 100000 in
theorem xg55 : xm_good 55 := xm_good_of (by decide +kernel)
set_option maxRecDepth 100000 in
theorem xg56 : xm_good 56 := xm_good_of (by decide +kernel)
set_option maxRecDepth 100000 in
theorem xg57 : xm_good 57 := xm_good_of (by decide +kernel)
set_option maxRecDepth 100000 in
theorem xg58 : xm_good 58 := xm_good_of (by decide +kernel)
set_option maxRecDepth 100000 in
theorem xg59 : xm_good 59 := xm_good_of (by decide +kernel)
end
section
set_option maxRecDepth 100000 in
theorem xg60 : xm_good 60 := xm_good_of (by decide +kernel)
set_option maxRecDepth 100000 in
theorem xg61 : xm_good 61 := xm_good_of (by decide +kernel)
set_option maxRecDepth 100000 in
theorem xg62 : xm_good 62 := xm_good_of (by decide +kernel)
set_option maxRecDepth 100000 in
theorem xg63 : xm_good 63 := xm_good_of (by decide +kernel)
set_option maxRecDepth 100000 in
theorem xg64 : xm_good 64 := xm_good_of (by decide +kernel)
set_option maxRecDepth 100000 in
theorem xg65 : xm_good 65 := xm_good_of (by decide +kernel)
set_option maxRecDepth 100000 in
theorem xg66 : xm_good 66 := xm_good_of (by decide +kernel)
set_option maxRecDepth 100000 in
theorem xg67 : xm_good 67 := xm_good_of (by decide +kernel)
set_option maxRecDepth 100000 in
theorem xg68 : xm_good 68 := xm_good_of (by decide +kernel)
set_option maxRecDepth 100000 in
theorem xg69 : xm_good 69 := xm_good_of (by decide +kernel)
set_option maxRecDepth 100000 in
theorem xg70 : xm_good 70 := xm_good_of (by decide +kernel)
set_option maxRecDepth 100000 in
theorem xg71 : xm_good 71 := xm_good_of (by decide +kernel)
set_option maxRecDepth 100000 in
theorem xg72 : xm_good 72 := xm_good_of (by decide +kernel)
set_option maxRecDepth 100000 in
theorem xg73 : xm_good 73 := xm_good_of (by decide +kernel)
set_option maxRecDepth 100000 in
theorem xg74 : xm_good 74 := xm_good_of (by decide +kernel)
set_option maxRecDepth 100000 in
theorem xg75 : xm_good 75 := xm_good_of (by decide +kernel)
set_option maxRecDepth 100000 in
theorem xg76 : xm_good 76 := xm_good_of (by decide +kernel)
set_option maxRecDepth 100000 in
theorem xg77 : xm_good 77 := xm_good_of (by decide +kernel)
set_option maxRecDepth 100000 in
theorem xg78 : xm_good 78 := xm_good_of (by decide +kernel)
set_option maxRecDepth 100000 in
theorem xg79 : xm_good 79 := xm_good_of (by decide +kernel)
set_option maxRecDepth 100000 in
theorem xg80 : xm_good 80 := xm_good_of (by decide +kernel)
set_option maxRecDepth 100000 in
theorem xg81 : xm_good 81 := xm_good_of (by decide +kernel)
set_option maxRecDepth 100000 in
theorem xg82 : xm_good 82 := xm_good_of (by decide +kernel)
set_option maxRecDepth 100000 in
theorem xg83 : xm_good 83 := xm_good_of (by decide +kernel)
set_option maxRecDepth 100000 in
theorem xg84 : xm_good 84 := xm_good_of (by decide +kernel)
set_option maxRecDepth 100000 in
theorem xg85 : xm_good 85 := xm_good_of (by decide +kernel)
set_option maxRecDepth 100000 in
theorem xg86 : xm_good 86 := xm_good_of (by decide +kernel)
set_option maxRecDepth 100000 in
theorem xg87 : xm_good 87 := xm_good_of (by decide +kernel)
set_option maxRecDepth 100000 in
theorem xg88 : xm_good 88 := xm_good_of (by decide +kernel)
set_option maxRecDepth 100000 in
theorem xg89 : xm_good 89 := xm_good_of (by decide +kernel)
set_option maxRecDepth 100000 in
theorem xg90 : xm_good 90 := xm_good_of (by decide +kernel)
set_option maxRecDepth 100000 in
theorem xg91 : xm_good 91 := xm_good_of (by decide +kernel)
set_option maxRecDepth 100000 in
theorem xg92 : xm_good 92 := xm_good_of (by decide +kernel)
set_option maxRecDepth 100000 in
theorem xg93 : xm_good 93 := xm_good_of (by decide +kernel)
set_option maxRecDepth 100000 in
theorem xg94 : xm_good 94 := xm_good_of (by decide +kernel)
set_option maxRecDepth 100000 in
theorem xg95 : xm_good 95 := xm_good_of (by decide +kernel)
set_option maxRecDepth 100000 in
theorem xg96 : xm_good 96 := xm_good_of (by decide +kernel)
set_option maxRecDepth 100000 in
theorem xg97 : xm_good 97 := xm_good_of (by decide +kernel)
set_option maxRecDepth 100000 in
theorem xg98 : xm_good 98 := xm_good_of (by decide +kernel)
set_option maxRecDepth 100000 in
theorem xg99 : xm_good 99 := xm_good_of (by decide +kernel)
set_option maxRecDepth 100000 in
theorem xg100 : xm_good 100 := xm_good_of (by decide +kernel)
set_option maxRecDepth 100000 in
theorem xg101 : xm_good 101 := xm_good_of (by decide +kernel)
set_option maxRecDepth 100000 in
theorem xg102 : xm_good 102 := xm_good_of (by decide +kernel)
set_option maxRecDepth 100000 in
theorem xg103 : xm_good 103 := xm_good_of (by decide +kernel)
set_option maxRecDepth 100000 in
theorem xg104 : xm_good 104 := xm_good_of (by decide +kernel)
set_option maxRecDepth 100000 in
theorem xg105 : xm_good 105 := xm_good_of (by decide +kernel)
set_option maxRecDepth 100000 in
theorem xg106 : xm_good 106 := xm_good_of (by decide +kernel)
set_option maxRecDepth 100000 in
theorem xg107 : xm_good 107 := xm_good_of (by decide +kernel)
set_option maxRecDepth 100000 in
theorem xg108 : xm_good 108 := xm_good_of (by decide +kernel)
set_option maxRecDepth 100000 in
theorem xg109 : xm_good 109 := xm_good_of (by decide +kernel)
set_option maxRecDepth 100000 in
theorem xg110 : xm_good 110 := xm_good_of (by decide +kernel)
set_option maxRecDepth 100000 in
theorem xg111 : xm_good 111 := xm_good_of (by decide +kernel)
set_option maxRecDepth 100000 in
theorem xg112 : xm_good 112 := xm_good_of (by decide +kernel)
set_option maxRecDepth 100000 in
theorem xg113 : xm_good 113 := xm_good_of (by decide +kernel)
set_option maxRecDepth 100000 in
theorem xg114 : xm_good 114 := xm_good_of (by decide +kernel)
set_option maxRecDepth 100000 in
theorem xg115 : xm_good 115 := xm_good_of (by decide +kernel)
set_option maxRecDepth 100000 in
theorem xg116 : xm_good 116 := xm_good_of (by decide +kernel)
set_option maxRecDepth 100000 in
theorem xg117 : xm_good 117 := xm_good_of (by decide +kernel)
set_option maxRecDepth 100000 in
theorem xg118 : xm_good 118 := xm_good_of (by decide +kernel)
set_option maxRecDepth 100000 in
theorem xg119 : xm_good 119 := xm_good_of (by decide +kernel)
end
section
set_option maxRecDepth 100000 in
theorem xg120 : xm_good 120 := xm_good_of (by decide +kernel)
set_option maxRecDepth 100000 in
theorem xg121 : xm_good 121 := xm_good_of (by decide +kernel)
set_option maxRecDepth 100000 in
theorem xg122 : xm_good 122 := xm_good_of (by decide +kernel)
set_option maxRecDepth 100000 in
theorem xg123 : xm_good 123 := xm_good_of (by decide +kernel)
set_option maxRecDepth 100000 in
theorem xg124 : xm_good 124 := xm_good_of (by decide +kernel)
set_option maxRecDepth 100000 in
theorem xg125 : xm_good 125 := xm_good_of (by decide +kernel)
set_option maxRecDepth 100000 in
theorem xg126 : xm_good 126 := xm_good_of (by decide +kernel)
set_option maxRecDepth 100000 in
theorem xg127 : xm_good 127 := xm_good_of (by decide +kernel)
set_option maxRecDepth 100000 in
theorem xg128 : xm_good 128 := xm_good_of (by decide +kernel)
set_option maxRecDepth 100000 in
theorem xg129 : xm_good 129 := xm_good_of (by decide +kernel)
set_option maxRecDepth 100000 in
theorem xg130 : xm_good 130 := xm_good_of (by decide +kernel)
set_option maxRecDepth 100000 in
theorem xg131 : xm_good 131 := xm_good_of (by decide +kernel)
set_option maxRecDepth 100000 in
theorem xg132 : xm_good 132 := xm_good_of (by decide +kernel)
set_option maxRecDepth 100000 in
theorem xg133 : xm_good 133 := xm_good_of (by decide +kernel)
set_option maxRecDepth 100000 in
theorem xg134 : xm_good 134 := xm_good_of (by decide +kernel)
set_option maxRecDepth 100000 in
theorem xg135 : xm_good 135 := xm_good_of (by decide +kernel)
set_option maxRecDepth 100000 in
theorem xg136 : xm_good 136 := xm_good_of (by decide +kernel)
set_option maxRecDepth 100000 in
theorem xg137 : xm_good 137 := xm_good_of (by decide +kernel)
set_option maxRecDepth 100000 in
theorem xg138 : xm_good 138 := xm_good_of (by decide +kernel)
set_option maxRecDepth 100000 in
theorem xg139 : xm_good 139 := xm_good_of (by decide +kernel)
set_option maxRecDepth 100000 in
theorem xg140 : xm_good 140 := xm_good_of (by decide +kernel)
set_option maxRecDepth 100000 in
theorem xg141 : xm_good 141 := xm_good_of (by decide +kernel)
set_option maxRecDepth 100000 in
theorem xg142 : xm_good 142 := xm_good_of (by decide +kernel)
set_option maxRecDepth 100000 in
theorem xg143 : xm_good 143 := xm_good_of (by decide +kernel)
set_option maxRecDepth 100000 in
theorem xg144 : xm_good 144 := xm_good_of (by decide +kernel)
set_option maxRecDepth 100000 in
theorem xg145 : xm_good 145 := xm_good_of (by decide +kernel)
set_option maxRecDepth 100000 in
theorem xg146 : xm_good 146 := xm_good_of (by decide +kernel)
set_option maxRecDepth 100000 in
theorem xg147 : xm_good 147 := xm_good_of (by decide +kernel)
set_option maxRecDepth 100000 in
theorem xg148 : xm_good 148 := xm_good_of (by decide +kernel)
set_option maxRecDepth 100000 in
theorem xg149 : xm_good 149 := xm_good_of (by decide +kernel)
set_option maxRecDepth 100000 in
theorem xg150 : xm_good 150 := xm_good_of (by decide +kernel)
set_option maxRecDepth 100000 in
theorem xg151 : xm_good 151 := xm_good_of (by decide +kernel)
set_option maxRecDepth 100000 in
theorem xg152 : xm_good 152 := xm_good_of (by decide +kernel)
set_option maxRecDepth 100000 in
theorem xg153 : xm_good 153 := xm_good_of (by decide +kernel)
set_option maxRecDepth 100000 in
theorem xg154 : xm_good 154 := xm_good_of (by decide +kernel)
set_option maxRecDepth 100000 in
theorem xg155 : xm_good 155 := xm_good_of (by decide +kernel)
set_option maxRecDepth 100000 in
theorem xg156 : xm_good 156 := xm_good_of (by decide +kernel)
set_option maxRecDepth 100000 in
theorem xg157 : xm_good 157 := xm_good_of (by decide +kernel)
set_option maxRecDepth 100000 in
theorem xg158 : xm_good 158 := xm_good_of (by decide +kernel)
set_option maxRecDepth 100000 in
theorem xg159 : xm_good 159 := xm_good_of (by decide +kernel)
set_option maxRecDepth 100000 in
theorem xg160 : xm_good 160 := xm_good_of (by decide +kernel)
set_option maxRecDepth 100000 in
theorem xg161 : xm_good 161 := xm_good_of (by decide +kernel)
set_option maxRecDepth 100000 in
theorem xg162 : xm_good 162 := xm_good_of (by decide +kernel)
set_option maxRecDepth 100000 in
theorem xg163 : xm_good 163 := xm_good_of (by decide +kernel)
set_option maxRecDepth 100000 in
theorem xg164 : xm_good 164 := xm_good_of (by decide +kernel)
set_option maxRecDepth 100000 in
theorem xg165 : xm_good 165 := xm_good_of (by decide +kernel)
set_option maxRecDepth 100000 in
theorem xg166 : xm_good 166 := xm_good_of (by decide +kernel)
set_option maxRecDepth 100000 in
theorem xg167 : xm_good 167 := xm_good_of (by decide +kernel)
set_option maxRecDepth 100000 in
theorem xg168 : xm_good 168 := xm_good_of (by decide +kernel)
set_option maxRecDepth 100000 in
theorem xg169 : xm_good 169 := xm_good_of (by decide +kernel)
set_option maxRecDepth 100000 in
theorem xg170 : xm_good 170 := xm_good_of (by decide +kernel)
set_option maxRecDepth 100000 in
theorem xg171 : xm_good 171 := xm_good_of (by decide +kernel)
set_option maxRecDepth 100000 in
theorem xg172 : xm_good 172 := xm_good_of (by decide +kernel)
set_option maxRecDepth 100000 in
theorem xg173 : xm_good 173 := xm_good_of (by decide +kernel)
set_option maxRecDepth 100000 in
theorem xg174 : xm_good 174 := xm_good_of (by decide +kernel)
set_option maxRecDepth 100000 in
theorem xg175 : xm_good 175 := xm_good_of (by decide +kernel)
set_option maxRecDepth 100000 in
theorem xg176 : xm_good 176 := xm_good_of (by decide +kernel)
set_option maxRecDepth 100000 in
theorem xg177 : xm_good 177 := xm_good_of (by decide +kernel)
set_option maxRecDepth 100000 in
theorem xg178 : xm_good 178 := xm_good_of (by decide +kernel)
set_option maxRecDepth 100000 in
theorem xg179 : xm_good 179 := xm_good_of (by decide +kernel)
end
section
set_option maxRecDepth 100000 in
theorem xg180 : xm_good 180 := xm_good_of (by decide +kernel)
set_option maxRecDepth 100000 in
theorem xg181 : xm_good 181 := xm_good_of (by decide +kernel)
set_option maxRecDepth 100000 in
theorem xg182 : xm_good 182 := xm_good_of (by decide +kernel)
set_option maxRecDepth 100000 in
theorem xg183 : xm_good 183 := xm_good_of (by decide +kernel)
set_option maxRecDepth 100000 in
theorem xg184 : xm_good 184 := xm_good_of (by decide +kernel)
set_option maxRecDepth 100000 in
theorem xg185 : xm_good 185 := xm_good_of (by decide +kernel)
set_option maxRecDepth 100000 in
theorem xg186 : xm_good 186 := xm_good_of (by decide +kernel)
set_option maxRecDepth 100000 in
theorem xg187 : xm_good 187 := xm_good_of (by decide +kernel)
set_option maxRecDepth 100000 in
theorem xg188 : xm_good 188 := xm_good_of (by decide +kernel)
set_option maxRecDepth 100000 in
theorem xg189 : xm_good 189 := xm_good_of (by decide +kernel)
set_option maxRecDepth 100000 in
theorem xg190 : xm_good 190 := xm_good_of (by decide +kernel)
set_option maxRecDepth 100000 in
theorem xg191 : xm_good 191 := xm_good_of (by decide +kernel)
set_option maxRecDepth 100000 in
theorem xg192 : xm_good 192 := xm_good_of (by decide +kernel)
set_option maxRecDepth 100000 in
theorem xg193 : xm_good 193 := xm_good_of (by decide +kernel)
set_option maxRecDepth 100000 in
theorem xg194 : xm_good 194 := xm_good_of (by decide +kernel)
set_option maxRecDepth 100000 in
theorem xg195 : xm_good 195 := xm_good_of (by decide +kernel)
set_option maxRecDepth 100000 in
theorem xg196 : xm_good 196 := xm_good_of (by decide +kernel)
set_option maxRecDepth 100000 in
theorem xg197 : xm_good 197 := xm_good_of (by decide +kernel)
set_option maxRecDepth 100000 in
theorem xg198 : xm_good 198 := xm_good_of (by decide +kernel)
set_option maxRecDepth 100000 in
theorem xg199 : xm_good 199 := xm_good_of (by decide +kernel)
set_option maxRecDepth 100000 in
theorem xg200 : xm_good 200 := xm_good_of (by decide +kernel)
set_option maxRecDepth 100000 in
theorem xg201 : xm_good 201 := xm_good_of (by decide +kernel)
set_option maxRecDepth 100000 in
theorem xg202 : xm_good 202 := xm_good_of (by decide +kernel)
set_option maxRecDepth 100000 in
theorem xg203 : xm_good 203 := xm_good_of (by decide +kernel)
set_option maxRecDepth 100000 in
theorem xg204 : xm_good 204 := xm_good_of (by decide +kernel)
set_option maxRecDepth 100000 in
theorem xg205 : xm_good 205 := xm_good_of (by decide +kernel)
set_option maxRecDepth 100000 in
theorem xg206 : xm_good 206 := xm_good_of (by decide +kernel)
set_option maxRecDepth 100000 in
theorem xg207 : xm_good 207 := xm_good_of (by decide +kernel)
set_option maxRecDepth 100000 in
theorem xg208 : xm_good 208 := xm_good_of (by decide +kernel)
set_option maxRecDepth 100000 in
theorem xg209 : xm_good 209 := xm_good_of (by decide +kernel)
set_option maxRecDepth 100000 in
theorem xg210 : xm_good 210 := xm_good_of (by decide +kernel)
set_option maxRecDepth 100000 in
theorem xg211 : xm_good 211 := xm_good_of (by decide +kernel)
set_option maxRecDepth 100000 in
theorem xg212 : xm_good 212 := xm_good_of (by decide +kernel)
set_option maxRecDepth 100000 in
theorem xg213 : xm_good 213 := xm_good_of (by decide +kernel)
set_option maxRecDepth 100000 in
theorem xg214 : xm_good 214 := xm_good_of (by decide +kernel)
set_option maxRecDepth 100000 in
theorem xg215 : xm_good 215 := xm_good_of (by decide +kernel)
set_option maxRecDepth 100000 in
theorem xg216 : xm_good 216 := xm_good_of (by decide +kernel)
set_option maxRecDepth 100000 in
theorem xg217 : xm_good 217 := xm_good_of (by decide +kernel)
set_option maxRecDepth 100000 in
theorem xg218 : xm_good 218 := xm_good_of (by decide +kernel)
set_option maxRecDepth 100000 in
theorem xg219 : xm_good 219 := xm_good_of (by decide +kernel)
set_option maxRecDepth 100000 in
theorem xg220 : xm_good 220 := xm_good_of (by decide +kernel)
set_option maxRecDepth 100000 in
theorem xg221 : xm_good 221 := xm_good_of (by decide +kernel)
set_option maxRecDepth 100000 in
theorem xg222 : xm_good 222 := xm_good_of (by decide +kernel)
set_option maxRecDepth 100000 in
theorem xg223 : xm_good 223 := xm_good_of (by decide +kernel)
set_option maxRecDepth 100000 in
theorem xg224 : xm_good 224 := xm_good_of (by decide +kernel)
set_option maxRecDepth 100000 in
theorem xg225 : xm_good 225 := xm_good_of (by decide +kernel)
set_option maxRecDepth 100000 in
theorem xg226 : xm_good 226 := xm_good_of (by decide +kernel)
set_option maxRecDepth 100000 in
theorem xg227 : xm_good 227 := xm_good_of (by decide +kernel)
set_option maxRecDepth 100000 in
theorem xg228 : xm_good 228 := xm_good_of (by decide +kernel)
set_option maxRecDepth 100000 in
theorem xg229 : xm_good 229 := xm_good_of (by decide +kernel)
set_option maxRecDepth 100000 in
theorem xg230 : xm_good 230 := xm_good_of (by decide +kernel)
set_option maxRecDepth 100000 in
theorem xg231 : xm_good 231 := xm_good_of (by decide +kernel)
set_option maxRecDepth 100000 in
theorem xg232 : xm_good 232 := xm_good_of (by decide +kernel)
set_option maxRecDepth 100000 in
theorem xg233 : xm_good 233 := xm_good_of (by decide +kernel)
set_option maxRecDepth 100000 in
theorem xg234 : xm_good 234 := xm_good_of (by decide +kernel)
set_option maxRecDepth 100000 in
theorem xg235 : xm_good 235 := xm_good_of (by decide +kernel)
set_option maxRecDepth 100000 in
theorem xg236 : xm_good 236 := xm_good_of (by decide +kernel)
set_option maxRecDepth 100000 in
theorem xg237 : xm_good 237 := xm_good_of (by decide +kernel)
set_option maxRecDepth 100000 in
theorem xg238 : xm_good 238 := xm_good_of (by decide +kernel)
set_option maxRecDepth 100000 in
theorem xg239 : xm_good 239 := xm_good_of (by decide +kernel)
set_option maxRecDepth 100000 in
theorem xg240 : xm_good 240 := xm_good_of (by decide +kernel)
set_option maxRecDepth 100000 in
theorem xg241 : xm_good 241 := xm_good_of (by decide +kernel)
set_option maxRecDepth 100000 in
theorem xg242 : xm_good 242 := xm_good_of (by decide +kernel)
set_option maxRecDepth 100000 in
theorem xg243 : xm_good 243 := xm_good_of (by decide +kernel)
set_option maxRecDepth 100000 in
theorem xg244 : xm_good 244 := xm_good_of (by decide +kernel)
set_option maxRecDepth 100000 in
theorem xg245 : xm_good 245 := xm_good_of (by decide +kernel)
set_option maxRecDepth 100000 in
theorem xg246 : xm_good 246 := xm_good_of (by decide +kernel)
set_option maxRecDepth 100000 in
theorem xg247 : xm_good 247 := xm_good_of (by decide +kernel)
set_option maxRecDepth 100000 in
theorem xg248 : xm_good 248 := xm_good_of (by decide +kernel)
set_option maxRecDepth 100000 in
theorem xg249 : xm_good 249 := xm_good_of (by decide +kernel)
set_option maxRecDepth 100000 in
theorem xg250 : xm_good 250 := xm_good_of (by decide +kernel)
set_option maxRecDepth 100000 in
theorem xg251 : xm_good 251 := xm_good_of (by decide +kernel)
end
section
/-! Our own judgement over the kit's W: one world (a list of cells, addressed by small numbers), one context; a rule an instruction. -/
/-- a static field that the tables lay, its cell below what may change -/
def xm_LS (C n d : String) (A : Nat → Prop) (U : State) (H : Heap) : Prop := ∃ (c : ClassId) (k : Class) (i : Nat) (f : Field) (a : Nat) (cell : Cell), U.vm.findClass C = some c ∧ U.fieldFound? C n d = some (c, k, i, f) ∧ f.isStatic = true ∧ k.statics = some a ∧ H[a]? = some cell ∧ cell.vm.isStatics = true ∧ cell.cls = c ∧ f.slot < cell.slots.size ∧ k.staticTypes[f.slot]? = some f.type ∧ ¬ A a
theorem xm_LS.moved {C n d : String} {A : Nat → Prop} {u U : State} {H : Heap} (hvm : u.vm.Alike U.vm) (h : xm_LS C n d A u H) : xm_LS C n d A U H := by
  obtain ⟨c, k, i, f, a, cell, h1, h2, h3, h4, h5, h6, h7, h8, h9, h10⟩ := h
  obtain ⟨k', hi', he⟩ := State.fieldFound?_setVm hvm h2
  exact ⟨c, k', i, f, a, cell, by rw [hvm.findClass]; exact h1, hi', h3, by rw [he]; exact h4, h5, h6, h7, h8, by rw [he]; exact h9, h10⟩
theorem xm_LS.kept {C n d : String} {A : Nat → Prop} {U : State} {H H1 : Heap} (h : xm_LS C n d A U H) (hq : ∀ a : Nat, a < H.size → ¬ A a → H1[a]? = H[a]?) : xm_LS C n d A U H1 := by
  obtain ⟨c, k, i, f, a, cell, h1, h2, h3, h4, h5, h6, h7, h8, h9, h10⟩ := h
  exact ⟨c, k, i, f, a, cell, h1, h2, h3, h4, by rw [hq a (Array.getElem?_eq_some_iff.mp h5).1 h10]; exact h5, h6, h7, h8, h9, h10⟩
theorem xm_LS.use {C n d : String} {A : Nat → Prop} {U : State} {args : Array Value} (h : xm_LS C n d A U U.heap) : (Cond.laysStatic C n d).before args U = true := by
  obtain ⟨c, k, i, f, a, cell, h1, h2, h3, h4, h5, h6, h7, h8, h9, h10⟩ := h
  exact Cond.laysStatic_of h1 h2 h3 h4 h5 h6 h7 h8 h9
theorem va_Zq.use {C n d : String} {A : Nat → Prop} {U : State} {args : Array Value} (h : va_Zq C n d A U U.heap) : (Cond.isRef (.static C n d)).before args U = true := by
  rcases h with h | ⟨t, h⟩
  · obtain ⟨cf, kf, fi, f, a, cell, h1, h2, h3, h4, h5, h6, h7, h8⟩ := h
    simp [Cond.before, Cond.holds, Cond.value, Term.eval, State.fieldNamed?, h1, h2, h4, h5, h6, h7]
  · obtain ⟨cf, kf, fi, f, a, cell, h1, h2, h3, h4, h5, h6, h7, h8⟩ := h
    simp [Cond.before, Cond.holds, Cond.value, Term.eval, State.fieldNamed?, h1, h2, h4, h5, h6, h7]
def xm_at (G : xm_G) (U : State) (H : Heap) (a : Nat) (e : xm_E) : Prop := match e with
  | .inl (t, n, f) => ∃ cell : Cell, H[G.1 a]? = some cell ∧ U.isArrayOf cell (xm_ty t) ∧ cell.vm ≠ .unknown ∧ cell.slots.size = n ∧ (∀ j : Nat, j < n → cell.slots[j]? = some (.int (f j))) ∧ (xm_c0 ≤ a → cell.cls = G.2.2.1 t)
  | .inr (.inl (t, n, f)) => ∃ cell : Cell, H[G.1 a]? = some cell ∧ U.isArrayOf cell (xm_ty t) ∧ cell.vm ≠ .unknown ∧ cell.slots.size = n ∧ (∀ j : Nat, j < n → cell.slots[j]? = some (xm_tv G.1 (f j))) ∧ (xm_c0 ≤ a → cell.cls = G.2.2.1 t)
  | .inr (.inr (.inl (c, fs))) => ∃ r : vw_C, xm_cl[c]? = some r ∧ t_OB (G.1 a) (G.2.1.1 c) r.2.2 (G.2.1.2 c) H (vp_V (fs.map (xm_tv G.1)))
  | .inr (.inr (.inr n)) => a < xm_c0 ∧ match n with
    | 0 => G.1 a < H.size ∧ va_Z "java/lang/String" "COMPACT_STRINGS" "Z" (.int 1) (fun q => G.2.2.2 ≤ q) U H ∧ va_Zq "jdk/internal/util/Preconditions" "SIOOBE_FORMATTER" "Ljava/util/function/BiFunction;" (fun q => G.2.2.2 ≤ q) U H ∧ va_Zq "java/lang/Throwable" "UNASSIGNED_STACK" "[Ljava/lang/StackTraceElement;" (fun q => G.2.2.2 ≤ q) U H ∧ va_Zq "java/lang/Throwable" "SUPPRESSED_SENTINEL" "Ljava/util/List;" (fun q => G.2.2.2 ≤ q) U H ∧ xm_LS "java/lang/Throwable" "UNASSIGNED_STACK" "[Ljava/lang/StackTraceElement;" (fun q => G.2.2.2 ≤ q) U H ∧ xm_LS "java/lang/Throwable" "SUPPRESSED_SENTINEL" "Ljava/util/List;" (fun q => G.2.2.2 ≤ q) U H
    | n + 1 => ∃ v : Nat, va_O "java/lang/String" (G.1 a) (fun q => G.2.2.2 ≤ q) U H ∧ va_OF "java/lang/String" "coder" "B" (.int 0) (G.1 a) (fun q => G.2.2.2 ≤ q) U H ∧ va_OF "java/lang/String" "value" "[B" (.ref v) (G.1 a) (fun q => G.2.2.2 ≤ q) U H ∧ va_T .byte v (xm_tx (n + 1)).length (fun j => .int ((xm_tx (n + 1)).getD j 0)) (fun q => G.2.2.2 ≤ q) U H
/-- the heap H holds the world hp -/
def xm_R (G : xm_G) (U : State) (hp : xm_H) (H : Heap) : Prop := xm_c0 ≤ hp.length ∧ H.size + xm_c0 = G.2.2.2 + hp.length ∧ ∀ (a : Nat) (e : xm_E), hp[a]? = some (some e) → xm_at G U H a e
/-- what the tables say -/
def xm_KA (G : xm_G) (U : State) : Prop := ∀ t : Nat, t < xm_nt → U.vm.findClass ("[" ++ (xm_ty t).toString) = some (G.2.2.1 t) ∧ ∃ (kA : Class) (comp : ClassId), U.vm.classes[G.2.2.1 t]? = some kA ∧ kA.kind = .array comp (xm_ty t) ∧ ((xm_ty t).isReference = true → U.vm.findClass (xm_cn (xm_ty t)) = some comp)
def xm_KC (G : xm_G) (U : State) : Prop := ∀ (c : Nat) (q : vw_C), xm_cl[c]? = some q → u_Kn U q.1 q.2.1 q.2.2 (G.2.1.1 c) (G.2.1.2 c)
def xm_KW (U : State) : Prop := ∀ w ∈ xm_W, va_Nw w U
def xm_KS (G : xm_G) (U : State) : Prop := ∀ r ∈ xm_sl, vk_R r.1 r.2.1 r.2.2.1 (G.1 r.2.2.2) U
def xm_KG (G : xm_G) : Prop := (∀ i : Nat, G.1 (xm_c0 + i) = G.2.2.2 + i) ∧ ∀ i : Nat, i < xm_c0 → G.1 i < G.2.2.2
/-- every word of the Statement's tables that stays -/
def xm_okx (w : Cond) : Bool := match w with
  | .declares _ => true
  | w => xm_okw w
def xm_KX (U : State) : Prop := ∀ w ∈ tables_1, xm_okx w = true → va_Nw w U
def xm_K (G : xm_G) (U : State) : Prop := xm_KG G ∧ xm_KW U ∧ xm_KC G U ∧ xm_KA G U ∧ xm_KS G U ∧ xm_KX U
def xm_L (r : Nat → Nat) (ls : Array Slot) (nL : Nat) (pl : List (Option Value)) : Prop := ls.size = nL ∧ lv_wf ls ∧ pl.length = nL ∧ ∀ (i : Nat) (v : Value), pl[i]? = some (some v) → v.category = 1 ∧ ls[i]? = some (.val (xm_tv r v))
/-- the context of a walk of method k -/
def xm_C (k d rc rs : Nat) (G : xm_G) (p : Program) (R : Room) (s : State) (m : MethodId) (meth : Method) (c : Code) (H : Heap) (locs : List Loc) (cells slots : Nat) : Prop :=
  xm_good k ∧ p.tables.exec = Jvm.exec ∧ c.code = xm_by k ∧ c.maxLocals = xm_ml k ∧ s.vm.findClass (xm_nm k).cls = some m.cls ∧ meth.sig.returnType = xm_rt k ∧ meth.locks = false ∧ meth.name = (xm_nm k).name ∧
  xm_K G s ∧ d ≤ R.frames ∧ 60 * d ≤ R.locals ∧ cells + rc ≤ R.cells ∧ slots + rs ≤ R.slots ∧ (∀ q ∈ locs, G.2.2.2 ≤ q.base) ∧ (∀ q : Nat, q < G.2.2.2 → H[q]? = s.heap[q]?) ∧ G.2.2.2 ≤ s.heap.size ∧ s.methodNamed? (xm_nm k) = some m
def xm_Qc (G : xm_G) (Q : Option Value → xm_H → Prop) : Array Value → State → Outcome → State → Prop := fun _ st o t =>
  ∃ (v : Option Value) (hp : xm_H), Q v hp ∧ o = .returned (v.map (xm_tv G.1)) ∧ xm_R G t hp t.heap ∧ ∀ q : Nat, q < G.2.2.2 → t.heap[q]? = st.heap[q]?
/-- how a walk ends -/
abbrev xm_Q : Type := xm_G → List Frame → Array Value → State → Room → State → Prop
/-- what is asked of the heap beside: nothing; or that nothing was done yet -/
abbrev xm_P : Type := State → Heap → List Loc → Nat → Nat → Prop
def xm_any : xm_P := fun _ _ _ _ _ => True
def xm_clean : xm_P := fun s H locs cells slots => H = s.heap ∧ locs = [] ∧ cells = 0 ∧ slots = 0
/-- from pc, locals pl, stack st, world hp, method k comes to Q; d deep, rc cells and rs slots left -/
def XG (l : Launch) (P : xm_P) (k d rc rs pc : Nat) (pl : List (Option Value)) (st : List Value) (hp : xm_H) (Q : xm_Q) : Prop :=
  ∀ (G : xm_G) (p : Program) (e : Env) (R : Room) (s : State) (m : MethodId) (args : Array Value) (below : List Frame) (meth : Method) (c : Code) (H : Heap) (locs : List Loc) (cells slots : Nat) (ls : Array Slot),
    xm_C k d rc rs G p R s m meth c H locs cells slots ∧ P s H locs cells slots → xm_R G s hp H → xm_L G.1 ls (xm_ml k) pl →
    W p l e R s m args below meth c H locs cells slots (Q G below args s R) (F0 m pc ls (st.map (xm_tv G.1)))
/-- it returns, with Q -/
def xm_ret (Q : Option Value → xm_H → Prop) : xm_Q := fun G below args s R => MQ below (xm_Qc G Q) args s R.cells R.slots (fun q => G.2.2.2 ≤ q)
abbrev XW (l : Launch) (k d rc rs pc : Nat) (pl : List (Option Value)) (st : List Value) (hp : xm_H) (Q : Option Value → xm_H → Prop) : Prop := XG l xm_any k d rc rs pc pl st hp (xm_ret Q)
def xm_Pc (G : xm_G) (as : List Value) (hp : xm_H) : Array Value → State → Prop := fun a U => a = (as.map (xm_tv G.1)).toArray ∧ xm_K G U ∧ xm_R G U hp U.heap
/-- method k's contract at these arguments and this world -/
def XM (l : Launch) (k d mc ms : Nat) (as : List Value) (hp : xm_H) (Q : Option Value → xm_H → Prop) : Prop :=
  ∀ G : xm_G, Met l (xm_nm k) [.code (xm_nm k) (xm_by k) (xm_ml k) (xm_rt k)] { frames := d, cells := mc, slots := ms, locals := 60 * d } (xm_Pc G as hp) (xm_Qc G Q) mc ms (fun q => G.2.2.2 ≤ q)
theorem xm_at.lt {G : xm_G} {U : State} {H : Heap} {a : Nat} {e : xm_E} (h : xm_at G U H a e) : G.1 a < H.size := by
  obtain ⟨t, n, f⟩ | ⟨t, n, f⟩ | ⟨c, fs⟩ | n := e
  · obtain ⟨cell, h1, -⟩ := h
    exact (Array.getElem?_eq_some_iff.mp h1).1
  · obtain ⟨cell, h1, -⟩ := h
    exact (Array.getElem?_eq_some_iff.mp h1).1
  · obtain ⟨r, -, cell, h1, -⟩ := h
    exact (Array.getElem?_eq_some_iff.mp h1).1
  · cases n with
    | zero => exact h.2.1
    | succ n =>
      obtain ⟨-, v, ⟨cell, h1, -⟩, -⟩ := h
      exact (Array.getElem?_eq_some_iff.mp h1).1
theorem xm_at.kept {G : xm_G} {U : State} {H H1 : Heap} {a : Nat} {e : xm_E} (h : xm_at G U H a e) (hq : H1[G.1 a]? = H[G.1 a]?) (hlo : ∀ q : Nat, q < G.2.2.2 → H1[q]? = H[q]?) : xm_at G U H1 a e := by
  obtain ⟨t, n, f⟩ | ⟨t, n, f⟩ | ⟨c, fs⟩ | n := e
  · obtain ⟨cell, h1, h2⟩ := h
    exact ⟨cell, hq.trans h1, h2⟩
  · obtain ⟨cell, h1, h2⟩ := h
    exact ⟨cell, hq.trans h1, h2⟩
  · obtain ⟨r, h1, h2⟩ := h
    exact ⟨r, h1, h2.kept hq⟩
  · have hk : ∀ q : Nat, q < H.size → ¬ (G.2.2.2 ≤ q) → H1[q]? = H[q]? := fun q _ hn => hlo q (by omega)
    cases n with
    | zero =>
      obtain ⟨h0, h1, h2, h3, h4, h5, h6, h7⟩ := h
      refine ⟨h0, ?_, h2.kept hk, h3.kept hk, h4.kept hk, h5.kept hk, h6.kept hk, h7.kept hk⟩
      have e : H1[G.1 a]? = some H[G.1 a] := by rw [hq]; exact Array.getElem?_eq_getElem h1
      exact (Array.getElem?_eq_some_iff.mp e).1
    | succ n =>
      obtain ⟨h0, v, h1, h2, h3, h4⟩ := h
      exact ⟨h0, v, h1.kept hk, h2.kept hk, h3.kept hk, h4.kept hk⟩
theorem xm_at.moved {G : xm_G} {u U : State} {H : Heap} {a : Nat} {e : xm_E} (hvm : u.vm.Alike U.vm) (h : xm_at G u H a e) : xm_at G U H a e := by
  obtain ⟨t, n, f⟩ | ⟨t, n, f⟩ | ⟨c, fs⟩ | n := e
  · obtain ⟨cell, h1, h2, h3⟩ := h
    exact ⟨cell, h1, State.isArrayOf_alike hvm h2, h3⟩
  · obtain ⟨cell, h1, h2, h3⟩ := h
    exact ⟨cell, h1, State.isArrayOf_alike hvm h2, h3⟩
  · exact h
  · cases n with
    | zero =>
      obtain ⟨h0, h1, h2, h3, h4, h5, h6, h7⟩ := h
      exact ⟨h0, h1, h2.moved hvm, h3.moved hvm, h4.moved hvm, h5.moved hvm, h6.moved hvm, h7.moved hvm⟩
    | succ n =>
      obtain ⟨h0, v, h1, h2, h3, h4⟩ := h
      exact ⟨h0, v, h1.moved hvm, h2.moved hvm, h3.moved hvm, h4.moved hvm⟩
theorem xm_R.moved {G : xm_G} {u U : State} {hp : xm_H} {H : Heap} (hvm : u.vm.Alike U.vm) (h : xm_R G u hp H) : xm_R G U hp H := ⟨h.1, h.2.1, fun a e he => (h.2.2 a e he).moved hvm⟩
theorem xm_KW.at {s : State} (h : xm_KW s) {w : Cond} (hw : w ∈ xm_W) (a : Array Value) (hg : goodWord w = true) : w.before a s = true := word_at (State.WarmedH.refl s) (good_of_word hg) (h w hw)
theorem xm_KW.nest {s : State} (h : xm_KW s) {w : Cond} (hw : w ∈ xm_W) : va_Nw w s := h w hw
theorem xm_okw_warm {s U : State} (hW : s.WarmedH U.vm) {w : Cond} (h1 : va_Nw w s) (h2 : xm_okw w = true) : va_Nw w U := by
  unfold xm_okw at h2
  split at h2
  · exact va_Nw.warmM hW h1
  · exact va_Nw.warmF hW h1
  · exact va_Nw.warmC hW h1
  · exact over_moved hW.alike h1
  · exact va_AOw hW h1
  · exact word_at hW (good_of_word h2) h1
theorem xm_KW.warm {s U : State} (hW : s.WarmedH U.vm) (h : xm_KW s) : xm_KW U := fun w hw => xm_okw_warm hW (h w hw) (List.all_eq_true.mp xm_W_ok w hw)
theorem xm_KX.warm {s U : State} (hW : s.WarmedH U.vm) (h : xm_KX s) : xm_KX U := by
  intro w hw hk
  have h1 := h w hw hk
  unfold xm_okx at hk
  split at hk
  · exact va_Nw.warmD hW h1
  · exact xm_okw_warm hW h1 hk
theorem xm_KC.moved {G : xm_G} {u U : State} (hvm : u.vm.Alike U.vm) (h : xm_KC G u) : xm_KC G U := fun c q hq => u_Kn_moved hvm (h c q hq)
theorem xm_KA.moved {G : xm_G} {u U : State} (hvm : u.vm.Alike U.vm) (h : xm_KA G u) : xm_KA G U := by
  intro t ht
  obtain ⟨h1, kA, comp, h2, h3, h4⟩ := h t ht
  obtain ⟨k', hk', he⟩ := hvm.2.2 _ _ h2
  exact ⟨by rw [hvm.findClass]; exact h1, k', comp, hk', by rw [he]; exact h3, fun hr => by rw [hvm.findClass]; exact h4 hr⟩
theorem xm_KS.warm {G : xm_G} {s U : State} (hW : s.WarmedH U.vm) (h : xm_KS G s) : xm_KS G U := fun r hr => (h r hr).warm hW
theorem xm_K.warm {G : xm_G} {s U : State} (hW : s.WarmedH U.vm) (h : xm_K G s) : xm_K G U := ⟨h.1, h.2.1.warm hW, h.2.2.1.moved hW.alike, h.2.2.2.1.moved hW.alike, h.2.2.2.2.1.warm hW, h.2.2.2.2.2.warm hW⟩
theorem xm_Pc_blind (G : xm_G) (as : List Value) (hp : xm_H) : FrameBlind (xm_Pc G as hp) := by
  intro a U g mk h
  exact ⟨h.1, xm_K.warm (s := U) (U := U.calling g mk a) (State.WarmedH.refl U) h.2.1, h.2.2.moved (Vm.Alike.refl _)⟩
theorem xm_rho_ne {G : xm_G} (h : xm_KG G) {a b : Nat} (ha : xm_c0 ≤ a) (hab : b ≠ a) : G.1 b ≠ G.1 a := by
  have h1 := h.1 (a - xm_c0)
  rw [Nat.add_sub_cancel' ha] at h1
  by_cases hb : xm_c0 ≤ b
  · have h2 := h.1 (b - xm_c0)
    rw [Nat.add_sub_cancel' hb] at h2
    omega
  · have h2 := h.2 b (by omega)
    omega
theorem xm_rho_ge {G : xm_G} (h : xm_KG G) {a : Nat} (ha : xm_c0 ≤ a) : G.2.2.2 ≤ G.1 a := by
  have h1 := h.1 (a - xm_c0)
  rw [Nat.add_sub_cancel' ha] at h1
  omega
/-- a cell is written -/
theorem xm_R.set {G : xm_G} {U : State} {hp : xm_H} {H H1 : Heap} {a : Nat} {e : xm_E} (hG : xm_KG G) (h : xm_R G U hp H) (ha : xm_c0 ≤ a) (he : xm_at G U H1 a e) (hz : H1.size = H.size) (oq : ∀ q : Nat, q ≠ G.1 a → H1[q]? = H[q]?) : xm_R G U (hp.set a (some e)) H1 := by
  refine ⟨by rw [List.length_set]; exact h.1, by rw [List.length_set, hz]; exact h.2.1, fun b e' hb => ?_⟩
  by_cases hab : b = a
  · subst hab
    rw [List.getElem?_set] at hb
    simp only [if_true] at hb
    split at hb
    · cases hb
      exact he
    · cases hb
  · rw [List.getElem?_set_ne (Ne.symm hab)] at hb
    exact (h.2.2 b e' hb).kept (oq _ (xm_rho_ne hG ha hab)) (fun q hq => oq q (fun z => by have := xm_rho_ge hG ha; omega))
/-- a cell is made -/
theorem xm_R.push {G : xm_G} {U : State} {hp : xm_H} {H H1 : Heap} {e : Option xm_E} (hG : xm_KG G) (h : xm_R G U hp H) (he : ∀ x, e = some x → xm_at G U H1 hp.length x) (hz : H1.size = H.size + 1) (oq : ∀ q : Nat, q < H.size → H1[q]? = H[q]?) : xm_R G U (hp ++ [e]) H1 := by
  have hlo : G.2.2.2 ≤ H.size := by have h1 := h.1; have h2 := h.2.1; omega
  refine ⟨by rw [List.length_append]; have := h.1; omega, by rw [List.length_append, hz]; have := h.2.1; simp; omega, fun b e' hb => ?_⟩
  by_cases hl : b < hp.length
  · rw [List.getElem?_append_left hl] at hb
    have h3 := h.2.2 b e' hb
    exact h3.kept (oq _ h3.lt) (fun q hq => oq q (by omega))
  · rw [List.getElem?_append_right (by omega)] at hb
    have hb0 : b - hp.length = 0 := by
      have := (List.getElem?_eq_some_iff.mp hb).1
      simp at this
      omega
    rw [hb0] at hb
    have hbl : b = hp.length := by omega
    subst hbl
    simp at hb
    exact he e' hb
theorem xm_dec {k d rc rs : Nat} {G : xm_G} {p : Program} {R : Room} {s : State} {m : MethodId} {meth : Method} {c : Code} {H : Heap} {locs : List Loc} {cells slots : Nat} (hC : xm_C k d rc rs G p R s m meth c H locs cells slots) {pc nx r1 r2 : Nat} {i : Instr} {v : Int32} (hf : xm_code k pc = some (i, nx, r1, r2, v)) :
    decode (xm_by k) pc = .ok (i, xm_len i r2) ∧ nx = pc + xm_len i r2 ∧ xm_okI k pc i r1 r2 v = true := by
  have h := hC.1 pc _ hf
  unfold xm_ok at h
  simp only [Bool.and_eq_true] at h
  obtain ⟨h1, h2⟩ := h
  split at h1
  next j n hd =>
    simp only [Bool.and_eq_true, decide_eq_true_eq] at h1
    obtain ⟨⟨e1, e2⟩, e3⟩ := h1
    exact ⟨by rw [hd, e1, e2], e3, h2⟩
  next => cases h1
theorem xm_store {r : Nat → Nat} {ls : Array Slot} {nL : Nat} {pl : List (Option Value)} {i : Nat} {v : Value} (h : xm_L r ls nL pl) (hi : i < nL) (hc : v.category = 1) :
    ∃ ls', storeLocals ls i (xm_tv r v) = some ls' ∧ xm_L r ls' nL (pl.set i (some v)) := by
  obtain ⟨h1, h2, h3, h4⟩ := h
  let es : List (Nat × Value) := (List.range nL).filterMap (fun j => (pl[j]?.join).map (fun w => (j, xm_tv r w)))
  have hes : ∀ q ∈ es, ∃ w, pl[q.1]? = some (some w) ∧ q.2 = xm_tv r w := by
    intro q hq
    obtain ⟨j, -, hj⟩ := List.mem_filterMap.mp hq
    cases hp : pl[j]? with
    | none => rw [hp] at hj; simp at hj
    | some o =>
      cases o with
      | none => rw [hp] at hj; simp at hj
      | some w =>
        rw [hp] at hj
        simp at hj
        rw [← hj]
        exact ⟨w, hp, rfl⟩
  have hhas : lv_has ls nL es := ⟨h1, h2, fun q hq => by
    obtain ⟨w, hw, e⟩ := hes q hq
    rw [e]
    exact (h4 _ _ hw).2⟩
  obtain ⟨ls', e', hs', hw', hl'⟩ := lv_store1 (v := xm_tv r v) hhas hi (by rw [xm_tv_cat]; exact hc)
  refine ⟨ls', e', hs', hw', by rw [List.length_set]; exact h3, fun j w hj => ?_⟩
  by_cases hji : j = i
  · subst hji
    rw [List.getElem?_set] at hj
    simp only [if_true] at hj
    split at hj
    · cases hj
      exact ⟨hc, hl' (j, xm_tv r v) List.mem_cons_self⟩
    · cases hj
  · rw [List.getElem?_set_ne (Ne.symm hji)] at hj
    refine ⟨(h4 j w hj).1, hl' (j, xm_tv r w) (List.mem_cons_of_mem _ (List.mem_filter.mpr ⟨?_, ?_⟩))⟩
    · refine List.mem_filterMap.mpr ⟨j, List.mem_range.mpr ?_, by rw [hj]; rfl⟩
      rw [← h3]
      exact (List.getElem?_eq_some_iff.mp hj).1
    · have hcw : (xm_tv r w).category = 1 := by rw [xm_tv_cat]; exact (h4 j w hj).1
      simp [hji, hcw]
section XR
variable {l : Launch} {k d rc rs pc nx r1 r2 : Nat} {pl : List (Option Value)} {st : List Value} {hp : xm_H} {Q : xm_Q} {v : Int32} {P : xm_P}

theorem x_iconst {n : Int} (hf : xm_code k pc = some (.iconst n, nx, r1, r2, v)) (kk : XG l P k d rc rs nx pl (.int v :: st) hp Q) : XG l P k d rc rs pc pl (st) hp Q := by
  intro G p e R s m args below meth c H locs cells slots ls hCP hR hL
  have hC := hCP.1
  obtain ⟨hd, hn, ho⟩ := xm_dec hC hf
  have K := kk G p e R s m args below meth c H locs cells slots ls hCP hR hL
  rw [hn] at K
  exact lv_iconst hC.2.1 hC.2.2.1 hd (by simpa [xm_okI] using ho) K
theorem x_bipush {n : Int} (hf : xm_code k pc = some (.bipush n, nx, r1, r2, v)) (kk : XG l P k d rc rs nx pl (.int v :: st) hp Q) : XG l P k d rc rs pc pl (st) hp Q := by
  intro G p e R s m args below meth c H locs cells slots ls hCP hR hL
  have hC := hCP.1
  obtain ⟨hd, hn, ho⟩ := xm_dec hC hf
  have K := kk G p e R s m args below meth c H locs cells slots ls hCP hR hL
  rw [hn] at K
  exact lv_bipush hC.2.1 hC.2.2.1 hd (by simpa [xm_okI] using ho) K
theorem x_sipush {n : Int} (hf : xm_code k pc = some (.sipush n, nx, r1, r2, v)) (kk : XG l P k d rc rs nx pl (.int v :: st) hp Q) : XG l P k d rc rs pc pl (st) hp Q := by
  intro G p e R s m args below meth c H locs cells slots ls hCP hR hL
  have hC := hCP.1
  obtain ⟨hd, hn, ho⟩ := xm_dec hC hf
  have K := kk G p e R s m args below meth c H locs cells slots ls hCP hR hL
  rw [hn] at K
  exact lv_sipush hC.2.1 hC.2.2.1 hd (by simpa [xm_okI] using ho) K
theorem x_iload {i : Nat} {x : Int32} (hf : xm_code k pc = some (.iload i, nx, r1, r2, v)) (hl : pl[i]? = some (some (.int x))) (kk : XG l P k d rc rs nx pl (.int x :: st) hp Q) : XG l P k d rc rs pc pl (st) hp Q := by
  intro G p e R s m args below meth c H locs cells slots ls hCP hR hL
  have hC := hCP.1
  obtain ⟨hd, hn, ho⟩ := xm_dec hC hf
  have K := kk G p e R s m args below meth c H locs cells slots ls hCP hR hL
  rw [hn] at K
  exact lv_iload hC.2.1 hC.2.2.1 hd (hL.2.2.2 _ _ hl).2 K
theorem x_iload_n {i : Fin 4} {x : Int32} (hf : xm_code k pc = some (.iload_n i, nx, r1, r2, v)) (hl : pl[(i : Nat)]? = some (some (.int x))) (kk : XG l P k d rc rs nx pl (.int x :: st) hp Q) : XG l P k d rc rs pc pl (st) hp Q := by
  intro G p e R s m args below meth c H locs cells slots ls hCP hR hL
  have hC := hCP.1
  obtain ⟨hd, hn, ho⟩ := xm_dec hC hf
  have K := kk G p e R s m args below meth c H locs cells slots ls hCP hR hL
  rw [hn] at K
  exact lv_iload_n hC.2.1 hC.2.2.1 hd rfl (hL.2.2.2 _ _ hl).2 K
theorem x_aload {i : Nat} {x : Nat} (hf : xm_code k pc = some (.aload i, nx, r1, r2, v)) (hl : pl[i]? = some (some (.ref x))) (kk : XG l P k d rc rs nx pl (.ref x :: st) hp Q) : XG l P k d rc rs pc pl (st) hp Q := by
  intro G p e R s m args below meth c H locs cells slots ls hCP hR hL
  have hC := hCP.1
  obtain ⟨hd, hn, ho⟩ := xm_dec hC hf
  have K := kk G p e R s m args below meth c H locs cells slots ls hCP hR hL
  rw [hn] at K
  exact lv_aload hC.2.1 hC.2.2.1 hd (hL.2.2.2 _ _ hl).2 K
theorem x_aload_n {i : Fin 4} {x : Nat} (hf : xm_code k pc = some (.aload_n i, nx, r1, r2, v)) (hl : pl[(i : Nat)]? = some (some (.ref x))) (kk : XG l P k d rc rs nx pl (.ref x :: st) hp Q) : XG l P k d rc rs pc pl (st) hp Q := by
  intro G p e R s m args below meth c H locs cells slots ls hCP hR hL
  have hC := hCP.1
  obtain ⟨hd, hn, ho⟩ := xm_dec hC hf
  have K := kk G p e R s m args below meth c H locs cells slots ls hCP hR hL
  rw [hn] at K
  exact lv_aload_n hC.2.1 hC.2.2.1 hd rfl (hL.2.2.2 _ _ hl).2 K
theorem x_iadd {x y : Int32} (hf : xm_code k pc = some (.iadd, nx, r1, r2, v)) (kk : XG l P k d rc rs nx pl (.int (x + y) :: st) hp Q) : XG l P k d rc rs pc pl (.int y :: .int x :: st) hp Q := by
  intro G p e R s m args below meth c H locs cells slots ls hCP hR hL
  have hC := hCP.1
  obtain ⟨hd, hn, ho⟩ := xm_dec hC hf
  have K := kk G p e R s m args below meth c H locs cells slots ls hCP hR hL
  rw [hn] at K
  exact lv_iadd hC.2.1 hC.2.2.1 hd K
theorem x_isub {x y : Int32} (hf : xm_code k pc = some (.isub, nx, r1, r2, v)) (kk : XG l P k d rc rs nx pl (.int (x - y) :: st) hp Q) : XG l P k d rc rs pc pl (.int y :: .int x :: st) hp Q := by
  intro G p e R s m args below meth c H locs cells slots ls hCP hR hL
  have hC := hCP.1
  obtain ⟨hd, hn, ho⟩ := xm_dec hC hf
  have K := kk G p e R s m args below meth c H locs cells slots ls hCP hR hL
  rw [hn] at K
  exact lv_isub hC.2.1 hC.2.2.1 hd K
theorem x_imul {x y : Int32} (hf : xm_code k pc = some (.imul, nx, r1, r2, v)) (kk : XG l P k d rc rs nx pl (.int (x * y) :: st) hp Q) : XG l P k d rc rs pc pl (.int y :: .int x :: st) hp Q := by
  intro G p e R s m args below meth c H locs cells slots ls hCP hR hL
  have hC := hCP.1
  obtain ⟨hd, hn, ho⟩ := xm_dec hC hf
  have K := kk G p e R s m args below meth c H locs cells slots ls hCP hR hL
  rw [hn] at K
  exact lv_imul hC.2.1 hC.2.2.1 hd K
theorem x_iand {x y : Int32} (hf : xm_code k pc = some (.iand, nx, r1, r2, v)) (kk : XG l P k d rc rs nx pl (.int (x &&& y) :: st) hp Q) : XG l P k d rc rs pc pl (.int y :: .int x :: st) hp Q := by
  intro G p e R s m args below meth c H locs cells slots ls hCP hR hL
  have hC := hCP.1
  obtain ⟨hd, hn, ho⟩ := xm_dec hC hf
  have K := kk G p e R s m args below meth c H locs cells slots ls hCP hR hL
  rw [hn] at K
  exact lv_iand hC.2.1 hC.2.2.1 hd K
theorem x_ior {x y : Int32} (hf : xm_code k pc = some (.ior, nx, r1, r2, v)) (kk : XG l P k d rc rs nx pl (.int (x ||| y) :: st) hp Q) : XG l P k d rc rs pc pl (.int y :: .int x :: st) hp Q := by
  intro G p e R s m args below meth c H locs cells slots ls hCP hR hL
  have hC := hCP.1
  obtain ⟨hd, hn, ho⟩ := xm_dec hC hf
  have K := kk G p e R s m args below meth c H locs cells slots ls hCP hR hL
  rw [hn] at K
  exact lv_ior hC.2.1 hC.2.2.1 hd K
theorem x_ixor {x y : Int32} (hf : xm_code k pc = some (.ixor, nx, r1, r2, v)) (kk : XG l P k d rc rs nx pl (.int (x ^^^ y) :: st) hp Q) : XG l P k d rc rs pc pl (.int y :: .int x :: st) hp Q := by
  intro G p e R s m args below meth c H locs cells slots ls hCP hR hL
  have hC := hCP.1
  obtain ⟨hd, hn, ho⟩ := xm_dec hC hf
  have K := kk G p e R s m args below meth c H locs cells slots ls hCP hR hL
  rw [hn] at K
  exact lv_ixor hC.2.1 hC.2.2.1 hd K
theorem x_ishl {x y : Int32} (hf : xm_code k pc = some (.ishl, nx, r1, r2, v)) (kk : XG l P k d rc rs nx pl (.int (x <<< (y &&& 31)) :: st) hp Q) : XG l P k d rc rs pc pl (.int y :: .int x :: st) hp Q := by
  intro G p e R s m args below meth c H locs cells slots ls hCP hR hL
  have hC := hCP.1
  obtain ⟨hd, hn, ho⟩ := xm_dec hC hf
  have K := kk G p e R s m args below meth c H locs cells slots ls hCP hR hL
  rw [hn] at K
  exact lv_ishl hC.2.1 hC.2.2.1 hd K
theorem x_ishr {x y : Int32} (hf : xm_code k pc = some (.ishr, nx, r1, r2, v)) (kk : XG l P k d rc rs nx pl (.int (x >>> (y &&& 31)) :: st) hp Q) : XG l P k d rc rs pc pl (.int y :: .int x :: st) hp Q := by
  intro G p e R s m args below meth c H locs cells slots ls hCP hR hL
  have hC := hCP.1
  obtain ⟨hd, hn, ho⟩ := xm_dec hC hf
  have K := kk G p e R s m args below meth c H locs cells slots ls hCP hR hL
  rw [hn] at K
  exact lv_ishr hC.2.1 hC.2.2.1 hd K
theorem x_iushr {x y : Int32} (hf : xm_code k pc = some (.iushr, nx, r1, r2, v)) (kk : XG l P k d rc rs nx pl (.int ((x.toUInt32 >>> (y.toUInt32 &&& Int32.toUInt32 31)).toInt32) :: st) hp Q) : XG l P k d rc rs pc pl (.int y :: .int x :: st) hp Q := by
  intro G p e R s m args below meth c H locs cells slots ls hCP hR hL
  have hC := hCP.1
  obtain ⟨hd, hn, ho⟩ := xm_dec hC hf
  have K := kk G p e R s m args below meth c H locs cells slots ls hCP hR hL
  rw [hn] at K
  exact lv_iushr hC.2.1 hC.2.2.1 hd rfl K
theorem x_idiv {x y : Int32} (hf : xm_code k pc = some (.idiv, nx, r1, r2, v)) (hne : ¬ y = 0) (kk : XG l P k d rc rs nx pl (.int (x / y) :: st) hp Q) : XG l P k d rc rs pc pl (.int y :: .int x :: st) hp Q := by
  intro G p e R s m args below meth c H locs cells slots ls hCP hR hL
  have hC := hCP.1
  obtain ⟨hd, hn, ho⟩ := xm_dec hC hf
  have K := kk G p e R s m args below meth c H locs cells slots ls hCP hR hL
  rw [hn] at K
  exact lv_idiv hC.2.1 hC.2.2.1 hd hne K
theorem x_irem {x y : Int32} (hf : xm_code k pc = some (.irem, nx, r1, r2, v)) (hne : ¬ y = 0) (kk : XG l P k d rc rs nx pl (.int (x - x / y * y) :: st) hp Q) : XG l P k d rc rs pc pl (.int y :: .int x :: st) hp Q := by
  intro G p e R s m args below meth c H locs cells slots ls hCP hR hL
  have hC := hCP.1
  obtain ⟨hd, hn, ho⟩ := xm_dec hC hf
  have K := kk G p e R s m args below meth c H locs cells slots ls hCP hR hL
  rw [hn] at K
  exact lv_irem hC.2.1 hC.2.2.1 hd hne K
theorem x_ineg {x : Int32} (hf : xm_code k pc = some (.ineg, nx, r1, r2, v)) (kk : XG l P k d rc rs nx pl (.int (-x) :: st) hp Q) : XG l P k d rc rs pc pl (.int x :: st) hp Q := by
  intro G p e R s m args below meth c H locs cells slots ls hCP hR hL
  have hC := hCP.1
  obtain ⟨hd, hn, ho⟩ := xm_dec hC hf
  have K := kk G p e R s m args below meth c H locs cells slots ls hCP hR hL
  rw [hn] at K
  exact lv_ineg hC.2.1 hC.2.2.1 hd K
theorem x_i2l {x : Int32} (hf : xm_code k pc = some (.i2l, nx, r1, r2, v)) (kk : XG l P k d rc rs nx pl (.long (x.toInt64) :: st) hp Q) : XG l P k d rc rs pc pl (.int x :: st) hp Q := by
  intro G p e R s m args below meth c H locs cells slots ls hCP hR hL
  have hC := hCP.1
  obtain ⟨hd, hn, ho⟩ := xm_dec hC hf
  have K := kk G p e R s m args below meth c H locs cells slots ls hCP hR hL
  rw [hn] at K
  exact lv_i2l hC.2.1 hC.2.2.1 hd rfl K
theorem x_l2i {x : Int64} (hf : xm_code k pc = some (.l2i, nx, r1, r2, v)) (kk : XG l P k d rc rs nx pl (.int (x.toInt32) :: st) hp Q) : XG l P k d rc rs pc pl (.long x :: st) hp Q := by
  intro G p e R s m args below meth c H locs cells slots ls hCP hR hL
  have hC := hCP.1
  obtain ⟨hd, hn, ho⟩ := xm_dec hC hf
  have K := kk G p e R s m args below meth c H locs cells slots ls hCP hR hL
  rw [hn] at K
  exact lv_l2i hC.2.1 hC.2.2.1 hd rfl K
theorem x_i2c {x : Int32} (hf : xm_code k pc = some (.i2c, nx, r1, r2, v)) (kk : XG l P k d rc rs nx pl (.int ((x.toUInt32 % 65536).toInt32) :: st) hp Q) : XG l P k d rc rs pc pl (.int x :: st) hp Q := by
  intro G p e R s m args below meth c H locs cells slots ls hCP hR hL
  have hC := hCP.1
  obtain ⟨hd, hn, ho⟩ := xm_dec hC hf
  have K := kk G p e R s m args below meth c H locs cells slots ls hCP hR hL
  rw [hn] at K
  exact lv_i2c hC.2.1 hC.2.2.1 hd rfl K
theorem x_i2b {x : Int32} (hf : xm_code k pc = some (.i2b, nx, r1, r2, v)) (kk : XG l P k d rc rs nx pl (.int (x.toInt8.toInt32) :: st) hp Q) : XG l P k d rc rs pc pl (.int x :: st) hp Q := by
  intro G p e R s m args below meth c H locs cells slots ls hCP hR hL
  have hC := hCP.1
  obtain ⟨hd, hn, ho⟩ := xm_dec hC hf
  have K := kk G p e R s m args below meth c H locs cells slots ls hCP hR hL
  rw [hn] at K
  exact lv_i2b hC.2.1 hC.2.2.1 hd rfl K
theorem x_lcmp {x y : Int64} (hf : xm_code k pc = some (.lcmp, nx, r1, r2, v)) (kk : XG l P k d rc rs nx pl (.int (lg_cmp x y) :: st) hp Q) : XG l P k d rc rs pc pl (.long y :: .long x :: st) hp Q := by
  intro G p e R s m args below meth c H locs cells slots ls hCP hR hL
  have hC := hCP.1
  obtain ⟨hd, hn, ho⟩ := xm_dec hC hf
  have K := kk G p e R s m args below meth c H locs cells slots ls hCP hR hL
  rw [hn] at K
  exact W.lcmp hC.2.1 hC.2.2.1 hd K
theorem x_lconst {i : Fin 2} {x : Int64} (hf : xm_code k pc = some (.lconst i, nx, r1, r2, v)) (hx : Int64.ofNat (i : Nat) = x) (kk : XG l P k d rc rs nx pl (.long x :: st) hp Q) : XG l P k d rc rs pc pl (st) hp Q := by
  intro G p e R s m args below meth c H locs cells slots ls hCP hR hL
  have hC := hCP.1
  obtain ⟨hd, hn, ho⟩ := xm_dec hC hf
  have K := kk G p e R s m args below meth c H locs cells slots ls hCP hR hL
  rw [hn] at K
  exact lv_lconst hC.2.1 hC.2.2.1 hd hx K
theorem x_null  (hf : xm_code k pc = some (.aconst_null, nx, r1, r2, v)) (kk : XG l P k d rc rs nx pl (.null :: st) hp Q) : XG l P k d rc rs pc pl (st) hp Q := by
  intro G p e R s m args below meth c H locs cells slots ls hCP hR hL
  have hC := hCP.1
  obtain ⟨hd, hn, ho⟩ := xm_dec hC hf
  have K := kk G p e R s m args below meth c H locs cells slots ls hCP hR hL
  rw [hn] at K
  exact lv_null hC.2.1 hC.2.2.1 hd K
theorem x_dup {a : Value} (hf : xm_code k pc = some (.dup, nx, r1, r2, v)) (h1 : a.category = 1) (kk : XG l P k d rc rs nx pl (a :: a :: st) hp Q) : XG l P k d rc rs pc pl (a :: st) hp Q := by
  intro G p e R s m args below meth c H locs cells slots ls hCP hR hL
  have hC := hCP.1
  obtain ⟨hd, hn, ho⟩ := xm_dec hC hf
  have K := kk G p e R s m args below meth c H locs cells slots ls hCP hR hL
  rw [hn] at K
  exact lv_dup hC.2.1 hC.2.2.1 hd (by rw [xm_tv_cat]; exact h1) K
theorem x_pop {a : Value} (hf : xm_code k pc = some (.pop, nx, r1, r2, v)) (h1 : a.category = 1) (kk : XG l P k d rc rs nx pl (st) hp Q) : XG l P k d rc rs pc pl (a :: st) hp Q := by
  intro G p e R s m args below meth c H locs cells slots ls hCP hR hL
  have hC := hCP.1
  obtain ⟨hd, hn, ho⟩ := xm_dec hC hf
  have K := kk G p e R s m args below meth c H locs cells slots ls hCP hR hL
  rw [hn] at K
  exact lv_pop hC.2.1 hC.2.2.1 hd (by rw [xm_tv_cat]; exact h1) K
theorem x_dup_x1 {a b : Value} (hf : xm_code k pc = some (.dup_x1, nx, r1, r2, v)) (h1 : a.category = 1) (h2 : b.category = 1) (kk : XG l P k d rc rs nx pl (a :: b :: a :: st) hp Q) : XG l P k d rc rs pc pl (a :: b :: st) hp Q := by
  intro G p e R s m args below meth c H locs cells slots ls hCP hR hL
  have hC := hCP.1
  obtain ⟨hd, hn, ho⟩ := xm_dec hC hf
  have K := kk G p e R s m args below meth c H locs cells slots ls hCP hR hL
  rw [hn] at K
  exact lv_dup_x1 hC.2.1 hC.2.2.1 hd (by rw [xm_tv_cat]; exact h1) (by rw [xm_tv_cat]; exact h2) K
theorem x_dup_x2 {a b f : Value} (hf : xm_code k pc = some (.dup_x2, nx, r1, r2, v)) (h1 : a.category = 1) (h2 : b.category = 1) (h3 : f.category = 1) (kk : XG l P k d rc rs nx pl (a :: b :: f :: a :: st) hp Q) : XG l P k d rc rs pc pl (a :: b :: f :: st) hp Q := by
  intro G p e R s m args below meth c H locs cells slots ls hCP hR hL
  have hC := hCP.1
  obtain ⟨hd, hn, ho⟩ := xm_dec hC hf
  have K := kk G p e R s m args below meth c H locs cells slots ls hCP hR hL
  rw [hn] at K
  exact lv_dup_x2 hC.2.1 hC.2.2.1 hd (by rw [xm_tv_cat]; exact h1) (by rw [xm_tv_cat]; exact h2) (by rw [xm_tv_cat]; exact h3) K
theorem x_dup2 {a b : Value} (hf : xm_code k pc = some (.dup2, nx, r1, r2, v)) (h1 : a.category = 1) (h2 : b.category = 1) (kk : XG l P k d rc rs nx pl (a :: b :: a :: b :: st) hp Q) : XG l P k d rc rs pc pl (a :: b :: st) hp Q := by
  intro G p e R s m args below meth c H locs cells slots ls hCP hR hL
  have hC := hCP.1
  obtain ⟨hd, hn, ho⟩ := xm_dec hC hf
  have K := kk G p e R s m args below meth c H locs cells slots ls hCP hR hL
  rw [hn] at K
  exact lv_dup2_11 hC.2.1 hC.2.2.1 hd (by rw [xm_tv_cat]; exact h1) (by rw [xm_tv_cat]; exact h2) K
theorem x_istore {i : Nat} {x : Int32} (hf : xm_code k pc = some (.istore i, nx, r1, r2, v)) (hi : i < xm_ml k) (kk : XG l P k d rc rs nx (pl.set i (some (.int x))) st hp Q) : XG l P k d rc rs pc pl (.int x :: st) hp Q := by
  intro G p e R s m args below meth c H locs cells slots ls hCP hR hL
  have hC := hCP.1
  obtain ⟨hd, hn, ho⟩ := xm_dec hC hf
  obtain ⟨ls', e', hL'⟩ := xm_store (v := .int x) hL hi rfl
  have K := kk G p e R s m args below meth c H locs cells slots ls' hCP hR hL'
  rw [hn] at K
  intro T hT X
  obtain ⟨t, a, b⟩ := K T hT X
  refine ⟨t, ?_, b⟩
  have hexec := hC.2.1
  have hb := hC.2.2.1
  simp only [xm_tv] at e'
  simp only [List.map_cons, xm_tv]
  jvm_step X.here [X.here.top, ↓top_set X.here.top, hexec, hb, hd, e']
  exact a
theorem x_istore_n {i : Fin 4} {x : Int32} (hf : xm_code k pc = some (.istore_n i, nx, r1, r2, v)) (hi : (i : Nat) < xm_ml k) (kk : XG l P k d rc rs nx (pl.set (i : Nat) (some (.int x))) st hp Q) : XG l P k d rc rs pc pl (.int x :: st) hp Q := by
  intro G p e R s m args below meth c H locs cells slots ls hCP hR hL
  have hC := hCP.1
  obtain ⟨hd, hn, ho⟩ := xm_dec hC hf
  obtain ⟨ls', e', hL'⟩ := xm_store (v := .int x) hL hi rfl
  have K := kk G p e R s m args below meth c H locs cells slots ls' hCP hR hL'
  rw [hn] at K
  intro T hT X
  obtain ⟨t, a, b⟩ := K T hT X
  refine ⟨t, ?_, b⟩
  have hexec := hC.2.1
  have hb := hC.2.2.1
  simp only [xm_tv] at e'
  simp only [List.map_cons, xm_tv]
  jvm_step X.here [X.here.top, ↓top_set X.here.top, hexec, hb, hd, e']
  exact a
theorem x_astore {i : Nat} {x : Nat} (hf : xm_code k pc = some (.astore i, nx, r1, r2, v)) (hi : i < xm_ml k) (kk : XG l P k d rc rs nx (pl.set i (some (.ref x))) st hp Q) : XG l P k d rc rs pc pl (.ref x :: st) hp Q := by
  intro G p e R s m args below meth c H locs cells slots ls hCP hR hL
  have hC := hCP.1
  obtain ⟨hd, hn, ho⟩ := xm_dec hC hf
  obtain ⟨ls', e', hL'⟩ := xm_store (v := .ref x) hL hi rfl
  have K := kk G p e R s m args below meth c H locs cells slots ls' hCP hR hL'
  rw [hn] at K
  intro T hT X
  obtain ⟨t, a, b⟩ := K T hT X
  refine ⟨t, ?_, b⟩
  have hexec := hC.2.1
  have hb := hC.2.2.1
  simp only [xm_tv] at e'
  simp only [List.map_cons, xm_tv]
  jvm_step X.here [X.here.top, ↓top_set X.here.top, hexec, hb, hd, e', Value.isRef]
  exact a
theorem x_astore_n {i : Fin 4} {x : Nat} (hf : xm_code k pc = some (.astore_n i, nx, r1, r2, v)) (hi : (i : Nat) < xm_ml k) (kk : XG l P k d rc rs nx (pl.set (i : Nat) (some (.ref x))) st hp Q) : XG l P k d rc rs pc pl (.ref x :: st) hp Q := by
  intro G p e R s m args below meth c H locs cells slots ls hCP hR hL
  have hC := hCP.1
  obtain ⟨hd, hn, ho⟩ := xm_dec hC hf
  obtain ⟨ls', e', hL'⟩ := xm_store (v := .ref x) hL hi rfl
  have K := kk G p e R s m args below meth c H locs cells slots ls' hCP hR hL'
  rw [hn] at K
  intro T hT X
  obtain ⟨t, a, b⟩ := K T hT X
  refine ⟨t, ?_, b⟩
  have hexec := hC.2.1
  have hb := hC.2.2.1
  simp only [xm_tv] at e'
  simp only [List.map_cons, xm_tv]
  jvm_step X.here [X.here.top, ↓top_set X.here.top, hexec, hb, hd, e', Value.isRef]
  exact a
theorem x_iinc {i : Nat} {x : Int32} {n : Int} (hf : xm_code k pc = some (.iinc i n, nx, r1, r2, v)) (hl : pl[i]? = some (some (.int x))) (hi : i < xm_ml k) (kk : XG l P k d rc rs nx (pl.set i (some (.int (x + v)))) st hp Q) : XG l P k d rc rs pc pl st hp Q := by
  intro G p e R s m args below meth c H locs cells slots ls hCP hR hL
  have hC := hCP.1
  obtain ⟨hd, hn, ho⟩ := xm_dec hC hf
  have hv : Int32.ofInt n = v := by simpa [xm_okI] using ho
  obtain ⟨ls', e', hL'⟩ := xm_store (v := .int (x + v)) hL hi rfl
  have K := kk G p e R s m args below meth c H locs cells slots ls' hCP hR hL'
  rw [hn] at K
  have hl2 := (hL.2.2.2 _ _ hl).2
  intro T hT X
  obtain ⟨t, a, b⟩ := K T hT X
  refine ⟨t, ?_, b⟩
  have hexec := hC.2.1
  have hb := hC.2.2.1
  simp only [xm_tv] at e' hl2
  subst hv
  jvm_step X.here [X.here.top, ↓top_set X.here.top, hexec, hb, hd, hl2, e']
  exact a
theorem x_if_eq {x : Int32} {off : Int} (hf : xm_code k pc = some (.ifCond .eq off, nx, r1, r2, v)) (kt : x = 0 → XG l P k d rc rs r1 pl st hp Q) (kf : ¬ x = 0 → XG l P k d rc rs nx pl st hp Q) : XG l P k d rc rs pc pl (.int x :: st) hp Q := by
  intro G p e R s m args below meth c H locs cells slots ls hCP hR hL
  have hC := hCP.1
  obtain ⟨hd, hn, ho⟩ := xm_dec hC hf
  exact lv_if_eq hC.2.1 hC.2.2.1 hd (by simpa [xm_okI] using ho) (fun h => kt h G p e R s m args below meth c H locs cells slots ls hCP hR hL) (fun h => by have K := kf h G p e R s m args below meth c H locs cells slots ls hCP hR hL; rw [hn] at K; exact K)
theorem x_icmp_eq {x y : Int32} {off : Int} (hf : xm_code k pc = some (.if_icmp .eq off, nx, r1, r2, v)) (kt : x = y → XG l P k d rc rs r1 pl st hp Q) (kf : ¬ x = y → XG l P k d rc rs nx pl st hp Q) : XG l P k d rc rs pc pl (.int y :: .int x :: st) hp Q := by
  intro G p e R s m args below meth c H locs cells slots ls hCP hR hL
  have hC := hCP.1
  obtain ⟨hd, hn, ho⟩ := xm_dec hC hf
  exact lv_icmp_eq hC.2.1 hC.2.2.1 hd (by simpa [xm_okI] using ho) (fun h => kt h G p e R s m args below meth c H locs cells slots ls hCP hR hL) (fun h => by have K := kf h G p e R s m args below meth c H locs cells slots ls hCP hR hL; rw [hn] at K; exact K)
theorem x_if_ne {x : Int32} {off : Int} (hf : xm_code k pc = some (.ifCond .ne off, nx, r1, r2, v)) (kt : ¬ x = 0 → XG l P k d rc rs r1 pl st hp Q) (kf : x = 0 → XG l P k d rc rs nx pl st hp Q) : XG l P k d rc rs pc pl (.int x :: st) hp Q := by
  intro G p e R s m args below meth c H locs cells slots ls hCP hR hL
  have hC := hCP.1
  obtain ⟨hd, hn, ho⟩ := xm_dec hC hf
  exact lv_if_ne hC.2.1 hC.2.2.1 hd (by simpa [xm_okI] using ho) (fun h => kt h G p e R s m args below meth c H locs cells slots ls hCP hR hL) (fun h => by have K := kf h G p e R s m args below meth c H locs cells slots ls hCP hR hL; rw [hn] at K; exact K)
theorem x_icmp_ne {x y : Int32} {off : Int} (hf : xm_code k pc = some (.if_icmp .ne off, nx, r1, r2, v)) (kt : ¬ x = y → XG l P k d rc rs r1 pl st hp Q) (kf : x = y → XG l P k d rc rs nx pl st hp Q) : XG l P k d rc rs pc pl (.int y :: .int x :: st) hp Q := by
  intro G p e R s m args below meth c H locs cells slots ls hCP hR hL
  have hC := hCP.1
  obtain ⟨hd, hn, ho⟩ := xm_dec hC hf
  exact lv_icmp_ne hC.2.1 hC.2.2.1 hd (by simpa [xm_okI] using ho) (fun h => kt h G p e R s m args below meth c H locs cells slots ls hCP hR hL) (fun h => by have K := kf h G p e R s m args below meth c H locs cells slots ls hCP hR hL; rw [hn] at K; exact K)
theorem x_if_lt {x : Int32} {off : Int} (hf : xm_code k pc = some (.ifCond .lt off, nx, r1, r2, v)) (kt : x < 0 → XG l P k d rc rs r1 pl st hp Q) (kf : ¬ x < 0 → XG l P k d rc rs nx pl st hp Q) : XG l P k d rc rs pc pl (.int x :: st) hp Q := by
  intro G p e R s m args below meth c H locs cells slots ls hCP hR hL
  have hC := hCP.1
  obtain ⟨hd, hn, ho⟩ := xm_dec hC hf
  exact lv_if_lt hC.2.1 hC.2.2.1 hd (by simpa [xm_okI] using ho) (fun h => kt h G p e R s m args below meth c H locs cells slots ls hCP hR hL) (fun h => by have K := kf h G p e R s m args below meth c H locs cells slots ls hCP hR hL; rw [hn] at K; exact K)
theorem x_icmp_lt {x y : Int32} {off : Int} (hf : xm_code k pc = some (.if_icmp .lt off, nx, r1, r2, v)) (kt : x < y → XG l P k d rc rs r1 pl st hp Q) (kf : ¬ x < y → XG l P k d rc rs nx pl st hp Q) : XG l P k d rc rs pc pl (.int y :: .int x :: st) hp Q := by
  intro G p e R s m args below meth c H locs cells slots ls hCP hR hL
  have hC := hCP.1
  obtain ⟨hd, hn, ho⟩ := xm_dec hC hf
  exact lv_icmp_lt hC.2.1 hC.2.2.1 hd (by simpa [xm_okI] using ho) (fun h => kt h G p e R s m args below meth c H locs cells slots ls hCP hR hL) (fun h => by have K := kf h G p e R s m args below meth c H locs cells slots ls hCP hR hL; rw [hn] at K; exact K)
theorem x_if_ge {x : Int32} {off : Int} (hf : xm_code k pc = some (.ifCond .ge off, nx, r1, r2, v)) (kt : 0 ≤ x → XG l P k d rc rs r1 pl st hp Q) (kf : ¬ 0 ≤ x → XG l P k d rc rs nx pl st hp Q) : XG l P k d rc rs pc pl (.int x :: st) hp Q := by
  intro G p e R s m args below meth c H locs cells slots ls hCP hR hL
  have hC := hCP.1
  obtain ⟨hd, hn, ho⟩ := xm_dec hC hf
  exact lv_if_ge hC.2.1 hC.2.2.1 hd (by simpa [xm_okI] using ho) (fun h => kt h G p e R s m args below meth c H locs cells slots ls hCP hR hL) (fun h => by have K := kf h G p e R s m args below meth c H locs cells slots ls hCP hR hL; rw [hn] at K; exact K)
theorem x_icmp_ge {x y : Int32} {off : Int} (hf : xm_code k pc = some (.if_icmp .ge off, nx, r1, r2, v)) (kt : y ≤ x → XG l P k d rc rs r1 pl st hp Q) (kf : ¬ y ≤ x → XG l P k d rc rs nx pl st hp Q) : XG l P k d rc rs pc pl (.int y :: .int x :: st) hp Q := by
  intro G p e R s m args below meth c H locs cells slots ls hCP hR hL
  have hC := hCP.1
  obtain ⟨hd, hn, ho⟩ := xm_dec hC hf
  exact lv_icmp_ge hC.2.1 hC.2.2.1 hd (by simpa [xm_okI] using ho) (fun h => kt h G p e R s m args below meth c H locs cells slots ls hCP hR hL) (fun h => by have K := kf h G p e R s m args below meth c H locs cells slots ls hCP hR hL; rw [hn] at K; exact K)
theorem x_if_gt {x : Int32} {off : Int} (hf : xm_code k pc = some (.ifCond .gt off, nx, r1, r2, v)) (kt : 0 < x → XG l P k d rc rs r1 pl st hp Q) (kf : ¬ 0 < x → XG l P k d rc rs nx pl st hp Q) : XG l P k d rc rs pc pl (.int x :: st) hp Q := by
  intro G p e R s m args below meth c H locs cells slots ls hCP hR hL
  have hC := hCP.1
  obtain ⟨hd, hn, ho⟩ := xm_dec hC hf
  exact lv_if_gt hC.2.1 hC.2.2.1 hd (by simpa [xm_okI] using ho) (fun h => kt h G p e R s m args below meth c H locs cells slots ls hCP hR hL) (fun h => by have K := kf h G p e R s m args below meth c H locs cells slots ls hCP hR hL; rw [hn] at K; exact K)
theorem x_icmp_gt {x y : Int32} {off : Int} (hf : xm_code k pc = some (.if_icmp .gt off, nx, r1, r2, v)) (kt : y < x → XG l P k d rc rs r1 pl st hp Q) (kf : ¬ y < x → XG l P k d rc rs nx pl st hp Q) : XG l P k d rc rs pc pl (.int y :: .int x :: st) hp Q := by
  intro G p e R s m args below meth c H locs cells slots ls hCP hR hL
  have hC := hCP.1
  obtain ⟨hd, hn, ho⟩ := xm_dec hC hf
  exact lv_icmp_gt hC.2.1 hC.2.2.1 hd (by simpa [xm_okI] using ho) (fun h => kt h G p e R s m args below meth c H locs cells slots ls hCP hR hL) (fun h => by have K := kf h G p e R s m args below meth c H locs cells slots ls hCP hR hL; rw [hn] at K; exact K)
theorem x_if_le {x : Int32} {off : Int} (hf : xm_code k pc = some (.ifCond .le off, nx, r1, r2, v)) (kt : x ≤ 0 → XG l P k d rc rs r1 pl st hp Q) (kf : ¬ x ≤ 0 → XG l P k d rc rs nx pl st hp Q) : XG l P k d rc rs pc pl (.int x :: st) hp Q := by
  intro G p e R s m args below meth c H locs cells slots ls hCP hR hL
  have hC := hCP.1
  obtain ⟨hd, hn, ho⟩ := xm_dec hC hf
  exact lv_if_le hC.2.1 hC.2.2.1 hd (by simpa [xm_okI] using ho) (fun h => kt h G p e R s m args below meth c H locs cells slots ls hCP hR hL) (fun h => by have K := kf h G p e R s m args below meth c H locs cells slots ls hCP hR hL; rw [hn] at K; exact K)
theorem x_icmp_le {x y : Int32} {off : Int} (hf : xm_code k pc = some (.if_icmp .le off, nx, r1, r2, v)) (kt : x ≤ y → XG l P k d rc rs r1 pl st hp Q) (kf : ¬ x ≤ y → XG l P k d rc rs nx pl st hp Q) : XG l P k d rc rs pc pl (.int y :: .int x :: st) hp Q := by
  intro G p e R s m args below meth c H locs cells slots ls hCP hR hL
  have hC := hCP.1
  obtain ⟨hd, hn, ho⟩ := xm_dec hC hf
  exact lv_icmp_le hC.2.1 hC.2.2.1 hd (by simpa [xm_okI] using ho) (fun h => kt h G p e R s m args below meth c H locs cells slots ls hCP hR hL) (fun h => by have K := kf h G p e R s m args below meth c H locs cells slots ls hCP hR hL; rw [hn] at K; exact K)
theorem x_goto {off : Int} (hf : xm_code k pc = some (.goto off, nx, r1, r2, v)) (kk : XG l P k d rc rs r1 pl st hp Q) : XG l P k d rc rs pc pl st hp Q := by
  intro G p e R s m args below meth c H locs cells slots ls hCP hR hL
  have hC := hCP.1
  obtain ⟨hd, hn, ho⟩ := xm_dec hC hf
  exact lv_goto hC.2.1 hC.2.2.1 hd (by simpa [xm_okI] using ho) (kk G p e R s m args below meth c H locs cells slots ls hCP hR hL)
theorem x_lsw {x : Int32} {dflt : Int} {ps : Array (Int × Int)} (hf : xm_code k pc = some (.lookupswitch dflt ps, nx, r1, r2, v)) {t : Nat} (ht : (pc : Int) + Op.lookupswitch.offset ps.toList dflt x.toInt = (t : Int)) (kk : XG l P k d rc rs t pl st hp Q) : XG l P k d rc rs pc pl (.int x :: st) hp Q := by
  intro G p e R s m args below meth c H locs cells slots ls hCP hR hL
  have hC := hCP.1
  obtain ⟨hd, hn, ho⟩ := xm_dec hC hf
  exact lv_lookup hC.2.1 hC.2.2.1 hd (by simpa [xm_okI] using ho) rfl ht (kk G p e R s m args below meth c H locs cells slots ls hCP hR hL)
theorem x_tswIn {x : Int32} {dflt lo hi off : Int} {os : Array Int} (hf : xm_code k pc = some (.tableswitch dflt lo hi os, nx, r1, r2, v)) (h1 : ¬ x.toInt < lo) (h2 : ¬ hi < x.toInt) (h3 : os[(x.toInt - lo).toNat]? = some off) {t : Nat} (ht : (pc : Int) + off = (t : Int)) (kk : XG l P k d rc rs t pl st hp Q) : XG l P k d rc rs pc pl (.int x :: st) hp Q := by
  intro G p e R s m args below meth c H locs cells slots ls hCP hR hL
  have hC := hCP.1
  obtain ⟨hd, hn, ho⟩ := xm_dec hC hf
  exact lv_tableIn hC.2.1 hC.2.2.1 hd h1 h2 h3 ht (kk G p e R s m args below meth c H locs cells slots ls hCP hR hL)
theorem x_tswOut {x : Int32} {dflt lo hi : Int} {os : Array Int} (hf : xm_code k pc = some (.tableswitch dflt lo hi os, nx, r1, r2, v)) (h : x.toInt < lo ∨ hi < x.toInt) {t : Nat} (ht : (pc : Int) + dflt = (t : Int)) (kk : XG l P k d rc rs t pl st hp Q) : XG l P k d rc rs pc pl (.int x :: st) hp Q := by
  intro G p e R s m args below meth c H locs cells slots ls hCP hR hL
  have hC := hCP.1
  obtain ⟨hd, hn, ho⟩ := xm_dec hC hf
  exact lv_tableOut hC.2.1 hC.2.2.1 hd h ht (kk G p e R s m args below meth c H locs cells slots ls hCP hR hL)
end XR
end
section
section XR2
variable {l : Launch} {k d rc rs pc nx r1 r2 : Nat} {pl : List (Option Value)} {st : List Value} {hp : xm_H} {Q : xm_Q} {v : Int32}
theorem xm_fok_spec {k idx r1 r2 : Nat} (h : xm_fok k idx r1 r2 = true) : ∃ (C : String) (T : u_T) (N : Nat), xm_cl[r1]? = some (C, T, N) ∧ r2 < N ∧ (Cond.fieldLink (xm_nm k).cls idx C (T r2).2.1 (T r2).2.2.1 ∈ xm_W ∧ goodWord (Cond.fieldLink (xm_nm k).cls idx C (T r2).2.1 (T r2).2.2.1) = true) ∧ (T r2).1 = C := by
  unfold xm_fok at h
  split at h
  next => cases h
  next C T N hc =>
    simp only [Bool.and_eq_true, decide_eq_true_eq] at h
    exact ⟨C, T, N, hc, h.1.1, ⟨xm_lk_mem h.1.2, rfl⟩, h.2⟩
theorem xm_lays_in {c : Nat} {C : String} {T : u_T} {N : Nat} (hc : xm_cl[c]? = some (C, T, N)) : ∀ w ∈ u_ws C T N, w ∈ xm_W := fun w hw => xm_cls_mem hc (List.mem_append_left _ hw)
theorem xm_u_good {C : String} {T : u_T} {N : Nat} : ∀ w ∈ u_ws C T N, goodWord w = true := by
  intro w hw
  obtain ⟨k, -, rfl⟩ := List.mem_map.mp hw
  unfold u_lay
  split <;> rfl
theorem xm_hts {s : State} (h : xm_KW s) {c : Nat} {C : String} {T : u_T} {N : Nat} (hc : xm_cl[c]? = some (C, T, N)) (a : Array Value) : ∀ w ∈ u_ws C T N, w.before a s = true := fun w hw => h.at (xm_lays_in hc w hw) a (xm_u_good w hw)
theorem x_getf {P : xm_P} {idx a : Nat} {fs : List Value} {x : Value} (hf : xm_code k pc = some (.getfield idx, nx, r1, r2, v)) (he : hp[a]? = some (xO r1 fs)) (hv : fs[r2]? = some x) (kk : XG l P k d rc rs nx pl (x :: st) hp Q) : XG l P k d rc rs pc pl (.ref a :: st) hp Q := by
  intro G p e R s m args below meth c H locs cells slots ls hCP hR hL
  have hC := hCP.1
  obtain ⟨hd, hn, ho⟩ := xm_dec hC hf
  have K := kk G p e R s m args below meth c H locs cells slots ls hCP hR hL
  rw [hn] at K
  obtain ⟨C, T, N, hc, hk, hw, ht⟩ := xm_fok_spec (k := k) (idx := idx) (r1 := r1) (r2 := r2) (by simpa [xm_okI] using ho)
  have hKW := hC.2.2.2.2.2.2.2.2.1.2.1
  obtain ⟨r, h1, cell, q1, q2, q3, q4⟩ := hR.2.2 a _ he
  have hr : r = (C, T, N) := Option.some.inj (h1.symm.trans hc)
  subst hr
  obtain ⟨hS, hfc, kC, hkC, hkind⟩ := hC.2.2.2.2.2.2.2.2.1.2.2.1 r1 _ hc
  obtain ⟨cf, kf, fi, f, hi, hsl⟩ := hS r2 hk
  have hi2 : s.fieldFound? C (T r2).2.1 (T r2).2.2.1 = some (cf, kf, fi, f) := by rw [← ht]; exact hi
  have hst := (u_facts hfc hkC (u_lays (xm_hts hKW hc args) (fun w h => h) hk) hi).1
  refine W.getf hC.2.1 hC.2.2.1 hC.2.2.2.2.1 (hKW.at hw.1 args hw.2) hi2 hst q1 (by rw [q3]; exact fun h => by cases h) (v := xm_tv G.1 x) ?_ rfl rfl hd K
  rw [hsl, q4 r2 hk]
  simp [vp_V, hv]
theorem xm_pok_spec {k idx r1 r2 : Nat} (h : xm_pok k idx r1 r2 = true) : ∃ (C : String) (T : u_T) (N : Nat), xm_cl[r1]? = some (C, T, N) ∧ (∀ j, j < N → parseFieldDescriptor (T j).2.2.1 = some (xm_ft r1 j)) ∧ (∀ a, a < N → ∀ b, b < N → a ≠ b → (T a).2.1 ≠ (T b).2.1) ∧ ((T r2).2.2.2 = true → (xm_nm k).name = "<init>" ∧ (xm_nm k).cls = C) := by
  unfold xm_pok at h
  split at h
  next => cases h
  next C T N hc =>
    simp only [Bool.and_eq_true, decide_eq_true_eq, Bool.or_eq_true] at h
    refine ⟨C, T, N, hc, (xm_cls_ok hc).1, (xm_cls_ok hc).2, fun hfi => ?_⟩
    rcases h with h | h
    · rw [hfi] at h; cases h
    · exact h
theorem x_putf {idx a : Nat} {fs : List Value} {x : Value} (hf : xm_code k pc = some (.putfield idx, nx, r1, r2, v)) (he : hp[a]? = some (xO r1 fs)) (hl : r2 < fs.length) (ha : xm_c0 ≤ a) (hnar : narrow (xm_ft r1 r2) x = x) (hfit : fits (xm_ft r1 r2) x = true) (kk : XG l xm_any k d rc rs nx pl st (hp.set a (xO r1 (fs.set r2 x))) Q) : XG l xm_any k d rc rs pc pl (x :: .ref a :: st) hp Q := by
  intro G p e R s m args below meth c H locs cells slots ls hCP hR hL
  have hC := hCP.1
  obtain ⟨hd, hn, ho⟩ := xm_dec hC hf
  have ho' : xm_fok k idx r1 r2 = true ∧ xm_pok k idx r1 r2 = true := by simpa [xm_okI] using ho
  obtain ⟨C, T, N, hc, hk, hw, ht⟩ := xm_fok_spec ho'.1
  obtain ⟨C', T', N', hc', hty, hnm, hfin⟩ := xm_pok_spec ho'.2
  cases hc.symm.trans hc'
  obtain ⟨hgd, hexec, hb, hml, hown, hret, hlk, hmn, hKK, hfr, hlo, hcel, hsl0, hlocs, hfrm, hsz⟩ := id hC
  have hKW := hKK.2.1
  have hts := xm_hts hKW hc args
  obtain ⟨r, h1, cell, q1, q2, q3, q4⟩ := hR.2.2 a _ he
  have hr : r = (C, T, N) := Option.some.inj (h1.symm.trans hc)
  subst hr
  have hKn := hKK.2.2.1 r1 _ hc
  obtain ⟨hS, hfc, kC, hkC, hkind⟩ := hKn
  obtain ⟨cf, kf, fi, f, hi, hsl⟩ := hS r2 hk
  have hi2 : s.fieldFound? C (T r2).2.1 (T r2).2.2.1 = some (cf, kf, fi, f) := by rw [← ht]; exact hi
  have hlay := u_lays hts (fun w h => h) hk
  have hst := (u_facts hfc hkC hlay hi).1
  have hap : ∀ x y, x < N → y < N → x ≠ y → (G.2.1.2 r1) x ≠ (G.2.1.2 r1) y := by
    intro x y hx hy hne
    obtain ⟨_, _, _, fa, hia, ea⟩ := hS x hx
    obtain ⟨_, _, _, fb, hib, eb⟩ := hS y hy
    rw [← ea, ← eb]
    refine u_apart (u_lays hts (fun w h => h) hx) (u_lays hts (fun w h => h) hy) hia hib ?_
    rw [(State.fieldFound?_type hia (hty x hx)).1, (State.fieldFound?_type hib (hty y hy)).1]
    exact hnm x hx y hy hne
  have hnar2 : narrow (xm_ft r1 r2) (xm_tv G.1 x) = xm_tv G.1 x := by
    cases x <;> first | exact hnar | (cases xm_ft r1 r2 <;> rfl)
  have hfit2 : fits (xm_ft r1 r2) (xm_tv G.1 x) = true := by
    cases x <;> first | exact hfit | (revert hfit; cases xm_ft r1 r2 <;> exact fun h => h)
  have hF := u_fits hfc hkC hkind hlay hi (hty r2 hk) hnar2 hfit2
  have hfl : hasFlag f.accessFlags Acc.final = false ∨ (m.cls = cf ∧ meth.name = "<init>") := by
    by_cases hfi : (T r2).2.2.2 = true
    · refine Or.inr ⟨?_, by rw [hmn]; exact (hfin hfi).1⟩
      have hl2 := hts _ (u_in_lay hk)
      unfold u_lay at hl2
      rw [if_pos hfi] at hl2
      obtain ⟨_, _, c', _, _, _, -, -, hf', -, -, -, hown2, -⟩ := Cond.laysFinal_spec hl2
      have e1 : c' = cf := by have := hi.symm.trans hf'; simp at this; exact this.1.symm
      rw [ht, ← (hfin hfi).2] at hown2
      rw [← e1]
      exact Option.some.inj (hown.symm.trans hown2)
    · refine Or.inl ?_
      have hl2 := hts _ (u_in_lay hk)
      unfold u_lay at hl2
      rw [if_neg hfi] at hl2
      exact (u_store hfc hkC hkind hl2 hi (hty r2 hk) hnar2 hfit2).1
  have haH : G.1 a < H.size := (Array.getElem?_eq_some_iff.mp q1).1
  have hlt : f.slot < cell.slots.size := by rw [hsl]; exact k2_hasslot (q4 r2 hk)
  have oq : ∀ q : Nat, q ≠ G.1 a → (H.setIfInBounds (G.1 a) (cell.setSlot f.slot (xm_tv G.1 x)))[q]? = H[q]? := fun q hq => by simp [Array.getElem?_setIfInBounds, Ne.symm hq]
  have hat : xm_at G s (H.setIfInBounds (G.1 a) (cell.setSlot f.slot (xm_tv G.1 x))) a (.inr (.inr (.inl (r1, fs.set r2 x)))) := by
    refine ⟨_, hc, t_OB.to (V := updV (vp_V (fs.map (xm_tv G.1))) r2 (xm_tv G.1 x)) ⟨cell.setSlot f.slot (xm_tv G.1 x), by simp [Array.getElem?_setIfInBounds, haH], q2, q3, ?_⟩ (fun j _ => ?_)⟩
    · rw [hsl]
      exact t_set q4 hap hk _
    · rw [vp_updV_set (by rw [List.length_map]; exact hl), List.map_set]
  have hge := xm_rho_ge hKK.1 ha
  have hC2 : xm_C k d rc rs G p R s m meth c (H.setIfInBounds (G.1 a) (cell.setSlot f.slot (xm_tv G.1 x))) (locs ++ [⟨G.1 a, f.slot⟩]) cells slots :=
    ⟨hgd, hexec, hb, hml, hown, hret, hlk, hmn, hKK, hfr, hlo, hcel, hsl0, fun q hq => by
      rcases List.mem_append.mp hq with h | h
      · exact hlocs q h
      · rw [List.mem_singleton.mp h]; exact hge, fun q hq => by rw [oq q (by omega)]; exact hfrm q hq, hsz⟩
  have K := kk G p e R s m args below meth c _ _ cells slots ls ⟨hC2, trivial⟩ (hR.set hKK.1 ha hat (by simp) oq) hL
  rw [hn] at K
  exact W.putf hexec hb hown (hKW.at hw.1 args hw.2) hi2 hst hfl q1 (by rw [q3]; exact fun h => by cases h) hlt hF.1 (by rw [q2, q3]; exact hF.2) rfl rfl hd K
/-- an array's cell is written -/
theorem xm_C.put {G : xm_G} {p : Program} {R : Room} {s : State} {m : MethodId} {meth : Method} {c : Code} {H H1 : Heap} {locs : List Loc} {cells slots a j : Nat} (hC : xm_C k d rc rs G p R s m meth c H locs cells slots) (ha : xm_c0 ≤ a) (oq : ∀ q : Nat, q ≠ G.1 a → H1[q]? = H[q]?) : xm_C k d rc rs G p R s m meth c H1 (locs ++ [⟨G.1 a, j⟩]) cells slots := by
  obtain ⟨hgd, hexec, hb, hml, hown, hret, hlk, hmn, hKK, hfr, hlo, hcel, hsl0, hlocs, hfrm, hsz⟩ := hC
  have hge := xm_rho_ge hKK.1 ha
  exact ⟨hgd, hexec, hb, hml, hown, hret, hlk, hmn, hKK, hfr, hlo, hcel, hsl0, fun q hq => by
      rcases List.mem_append.mp hq with h | h
      · exact hlocs q h
      · rw [List.mem_singleton.mp h]; exact hge, fun q hq => by rw [oq q (by omega)]; exact hfrm q hq, hsz⟩
theorem xm_slots_set {cell : Cell} {n j : Nat} {g : Nat → Value} {y : Value} (hs : cell.slots.size = n) (h : ∀ i : Nat, i < n → cell.slots[i]? = some (g i)) (hj : j < n) : (cell.setSlot j y).slots.size = n ∧ ∀ i : Nat, i < n → (cell.setSlot j y).slots[i]? = some (updV g j y i) := by
  refine ⟨by simp [Cell.setSlot, hs], fun i hi => ?_⟩
  by_cases hij : i = j
  · subst hij
    simp [Cell.setSlot, updV, hs, hj]
  · simp [Cell.setSlot, updV, hij, Array.getElem?_setIfInBounds_ne (fun q => hij q.symm), h i hi]
theorem x_alen {P : xm_P} {a : Nat} {n : Nat} {e0 : xm_E} (hf : xm_code k pc = some (.arraylength, nx, r1, r2, v)) (he : hp[a]? = some (some e0)) (hn0 : (∃ t f, e0 = .inl (t, n, f)) ∨ ∃ t f, e0 = .inr (.inl (t, n, f))) {x : Int32} (hx : Int32.ofNat n = x) (kk : XG l P k d rc rs nx pl (.int x :: st) hp Q) : XG l P k d rc rs pc pl (.ref a :: st) hp Q := by
  intro G p e R s m args below meth c H locs cells slots ls hCP hR hL
  have hC := hCP.1
  obtain ⟨hd, hn, ho⟩ := xm_dec hC hf
  have K := kk G p e R s m args below meth c H locs cells slots ls hCP hR hL
  rw [hn] at K
  have hA := hR.2.2 a _ he
  rcases hn0 with ⟨t, f, rfl⟩ | ⟨t, f, rfl⟩
  · obtain ⟨cell, h1, h2, h3, h4, -⟩ := hA
    exact W.alen hC.2.1 hC.2.2.1 h1 h2 (by rw [h4]; exact hx) rfl rfl hd K
  · obtain ⟨cell, h1, h2, h3, h4, -⟩ := hA
    exact W.alen hC.2.1 hC.2.2.1 h1 h2 (by rw [h4]; exact hx) rfl rfl hd K

theorem x_iald {P : xm_P} {a t n : Nat} {f : Nat → Int32} {i : Int32} (hf : xm_code k pc = some (.iaload, nx, r1, r2, v)) (he : hp[a]? = some (xI t n f)) (ht : xm_ty t = .int) (hin : vp_in i n) (kk : XG l P k d rc rs nx pl (.int (f i.toNatClampNeg) :: st) hp Q) : XG l P k d rc rs pc pl (.int i :: .ref a :: st) hp Q := by
  intro G p e R s m args below meth c H locs cells slots ls hCP hR hL
  have hC := hCP.1
  obtain ⟨hd, hn, ho⟩ := xm_dec hC hf
  have K := kk G p e R s m args below meth c H locs cells slots ls hCP hR hL
  rw [hn] at K
  obtain ⟨cell, h1, h2, h3, h4, h5, h6⟩ := hR.2.2 a _ he
  rw [ht] at h2
  exact W.iald hC.2.1 hC.2.2.1 h1 h2 h3 (by rw [h4]; exact hin) (h5 _ (Nat.not_le.mp fun q => hin (Or.inr q))) rfl rfl hd K
theorem x_zald {P : xm_P} {a t n : Nat} {f : Nat → Int32} {i : Int32} (hf : xm_code k pc = some (.baload, nx, r1, r2, v)) (he : hp[a]? = some (xI t n f)) (ht : xm_ty t = .boolean) (hin : vp_in i n) (kk : XG l P k d rc rs nx pl (.int (f i.toNatClampNeg) :: st) hp Q) : XG l P k d rc rs pc pl (.int i :: .ref a :: st) hp Q := by
  intro G p e R s m args below meth c H locs cells slots ls hCP hR hL
  have hC := hCP.1
  obtain ⟨hd, hn, ho⟩ := xm_dec hC hf
  have K := kk G p e R s m args below meth c H locs cells slots ls hCP hR hL
  rw [hn] at K
  obtain ⟨cell, h1, h2, h3, h4, h5, h6⟩ := hR.2.2 a _ he
  rw [ht] at h2
  exact W.zald hC.2.1 hC.2.2.1 h1 h2 h3 (by rw [h4]; exact hin) (h5 _ (Nat.not_le.mp fun q => hin (Or.inr q))) rfl rfl hd K
theorem x_lald {P : xm_P} {a t n : Nat} {f : Nat → Value} {x : Value} {i : Int32} (hf : xm_code k pc = some (.laload, nx, r1, r2, v)) (he : hp[a]? = some (xV t n f)) (ht : xm_ty t = .long) (hin : vp_in i n) (hx : f i.toNatClampNeg = x) (kk : XG l P k d rc rs nx pl (x :: st) hp Q) : XG l P k d rc rs pc pl (.int i :: .ref a :: st) hp Q := by
  intro G p e R s m args below meth c H locs cells slots ls hCP hR hL
  have hC := hCP.1
  obtain ⟨hd, hn, ho⟩ := xm_dec hC hf
  have K := kk G p e R s m args below meth c H locs cells slots ls hCP hR hL
  rw [hn, ← hx] at K
  obtain ⟨cell, h1, h2, h3, h4, h5, h6⟩ := hR.2.2 a _ he
  rw [ht] at h2
  exact W.lald hC.2.1 hC.2.2.1 h1 h2 h3 (by rw [h4]; exact hin) (h5 _ (Nat.not_le.mp fun q => hin (Or.inr q))) rfl rfl hd K
theorem x_aald {P : xm_P} {a t n : Nat} {f : Nat → Value} {x : Value} {i : Int32} (hf : xm_code k pc = some (.aaload, nx, r1, r2, v)) (he : hp[a]? = some (xV t n f)) (ht : (xm_ty t).isReference = true) (hin : vp_in i n) (hx : f i.toNatClampNeg = x) (kk : XG l P k d rc rs nx pl (x :: st) hp Q) : XG l P k d rc rs pc pl (.int i :: .ref a :: st) hp Q := by
  intro G p e R s m args below meth c H locs cells slots ls hCP hR hL
  have hC := hCP.1
  obtain ⟨hd, hn, ho⟩ := xm_dec hC hf
  have K := kk G p e R s m args below meth c H locs cells slots ls hCP hR hL
  rw [hn, ← hx] at K
  obtain ⟨cell, h1, h2, h3, h4, h5, h6⟩ := hR.2.2 a _ he
  exact W.aald hC.2.1 hC.2.2.1 h1 h2 ht h3 (by rw [h4]; exact hin) (h5 _ (Nat.not_le.mp fun q => hin (Or.inr q))) rfl rfl hd K

theorem x_iast {a t n : Nat} {f : Nat → Int32} {i x : Int32} (hf : xm_code k pc = some (.iastore, nx, r1, r2, v)) (he : hp[a]? = some (xI t n f)) (ha : xm_c0 ≤ a) (ht : xm_ty t = .int) (hin : vp_in i n) (kk : XG l xm_any k d rc rs nx pl st (hp.set a (xI t n (upd f i.toNatClampNeg (x)))) Q) : XG l xm_any k d rc rs pc pl (.int x :: .int i :: .ref a :: st) hp Q := by
  intro G p e R s m args below meth c H locs cells slots ls hCP hR hL
  have hC := hCP.1
  obtain ⟨hd, hn, ho⟩ := xm_dec hC hf
  obtain ⟨cell, h1, h2, h3, h4, h5, h6⟩ := hR.2.2 a _ he
  have h2' := h2
  rw [ht] at h2'
  have hj : i.toNatClampNeg < n := Nat.not_le.mp fun q => hin (Or.inr q)
  refine W.iast hC.2.1 hC.2.2.1 h1 h2' h3 (by rw [h4]; exact hin) rfl rfl hd fun H1 e1 z1 o1 => ?_
  obtain ⟨g1, g2⟩ := xm_slots_set (y := .int (x)) h4 h5 hj
  have hat : xm_at G s H1 a (.inl (t, n, upd f i.toNatClampNeg (x))) := by
    refine ⟨_, e1, h2, h3, g1, fun j hj2 => (g2 j hj2).trans ?_, h6⟩
    by_cases hji : j = i.toNatClampNeg
    · subst hji
      simp [updV, upd]
    · simp [updV, upd, hji]
  have K := kk G p e R s m args below meth c H1 _ cells slots ls ⟨hC.put (j := i.toNatClampNeg) ha o1, trivial⟩ (hR.set hC.2.2.2.2.2.2.2.2.1.1 ha hat z1 o1) hL
  rw [hn] at K
  exact K
theorem x_zast {a t n : Nat} {f : Nat → Int32} {i x : Int32} (hf : xm_code k pc = some (.bastore, nx, r1, r2, v)) (he : hp[a]? = some (xI t n f)) (ha : xm_c0 ≤ a) (ht : xm_ty t = .boolean) (hin : vp_in i n) (kk : XG l xm_any k d rc rs nx pl st (hp.set a (xI t n (upd f i.toNatClampNeg (x &&& 1)))) Q) : XG l xm_any k d rc rs pc pl (.int x :: .int i :: .ref a :: st) hp Q := by
  intro G p e R s m args below meth c H locs cells slots ls hCP hR hL
  have hC := hCP.1
  obtain ⟨hd, hn, ho⟩ := xm_dec hC hf
  obtain ⟨cell, h1, h2, h3, h4, h5, h6⟩ := hR.2.2 a _ he
  have h2' := h2
  rw [ht] at h2'
  have hj : i.toNatClampNeg < n := Nat.not_le.mp fun q => hin (Or.inr q)
  refine W.zast hC.2.1 hC.2.2.1 h1 h2' h3 (by rw [h4]; exact hin) rfl rfl hd fun H1 e1 z1 o1 => ?_
  obtain ⟨g1, g2⟩ := xm_slots_set (y := .int (x &&& 1)) h4 h5 hj
  have hat : xm_at G s H1 a (.inl (t, n, upd f i.toNatClampNeg (x &&& 1))) := by
    refine ⟨_, e1, h2, h3, g1, fun j hj2 => (g2 j hj2).trans ?_, h6⟩
    by_cases hji : j = i.toNatClampNeg
    · subst hji
      simp [updV, upd]
    · simp [updV, upd, hji]
  have K := kk G p e R s m args below meth c H1 _ cells slots ls ⟨hC.put (j := i.toNatClampNeg) ha o1, trivial⟩ (hR.set hC.2.2.2.2.2.2.2.2.1.1 ha hat z1 o1) hL
  rw [hn] at K
  exact K
theorem x_last {a t n : Nat} {f : Nat → Value} {i : Int32} {x : Int64} (hf : xm_code k pc = some (.lastore, nx, r1, r2, v)) (he : hp[a]? = some (xV t n f)) (ha : xm_c0 ≤ a) (ht : xm_ty t = .long) (hin : vp_in i n) (kk : XG l xm_any k d rc rs nx pl st (hp.set a (xV t n (updV f i.toNatClampNeg (.long x)))) Q) : XG l xm_any k d rc rs pc pl (.long x :: .int i :: .ref a :: st) hp Q := by
  intro G p e R s m args below meth c H locs cells slots ls hCP hR hL
  have hC := hCP.1
  obtain ⟨hd, hn, ho⟩ := xm_dec hC hf
  obtain ⟨cell, h1, h2, h3, h4, h5, h6⟩ := hR.2.2 a _ he
  have h2' := h2
  rw [ht] at h2'
  have hj : i.toNatClampNeg < n := Nat.not_le.mp fun q => hin (Or.inr q)
  refine W.last hC.2.1 hC.2.2.1 h1 h2' h3 (by rw [h4]; exact hin) rfl rfl hd fun H1 e1 z1 o1 => ?_
  obtain ⟨g1, g2⟩ := xm_slots_set (y := .long x) h4 h5 hj
  have hat : xm_at G s H1 a (.inr (.inl (t, n, updV f i.toNatClampNeg (.long x)))) := by
    refine ⟨_, e1, h2, h3, g1, fun j hj2 => (g2 j hj2).trans ?_, h6⟩
    by_cases hji : j = i.toNatClampNeg
    · subst hji
      simp [updV, xm_tv]
    · simp [updV, hji]
  have K := kk G p e R s m args below meth c H1 _ cells slots ls ⟨hC.put (j := i.toNatClampNeg) ha o1, trivial⟩ (hR.set hC.2.2.2.2.2.2.2.2.1.1 ha hat z1 o1) hL
  rw [hn] at K
  exact K
end XR2
end
section
section XR3
variable {l : Launch} {k d rc rs pc nx r1 r2 : Nat} {pl : List (Option Value)} {st : List Value} {hp : xm_H} {Q : xm_Q} {v : Int32}
theorem x_iret {Q0 : Option Value → xm_H → Prop} {x : Int32} {ty : FieldType} (hf : xm_code k pc = some (.ireturn, nx, r1, r2, v)) (hr : xm_rt k = some ty) (hx : narrow ty (.int x) = .int x) (hq : Q0 (some (.int x)) hp) : XG l xm_any k d rc rs pc pl [.int x] hp (xm_ret Q0) := by
  intro G p e R s m args below meth c H locs cells slots ls hCP hR hL
  have hC := hCP.1
  obtain ⟨hd, hn, ho⟩ := xm_dec hC hf
  obtain ⟨hgd, hexec, hb, hml, hown, hret, hlk, hmn, hKK, hfr, hlo, hcel, hsl0, hlocs, hfrm, hsz⟩ := hC
  refine W.widen (k := R.cells) (n := R.slots) (by omega) (by omega) ?_
  exact W.zret hexec hb (hret.trans hr) hx (fun t ht hW => ⟨some (.int x), hp, hq, rfl, by rw [ht]; exact hR.moved hW.alike, fun q hq => by rw [ht]; exact hfrm q hq⟩) hlocs hd hlk
theorem x_ret {Q0 : Option Value → xm_H → Prop} (hf : xm_code k pc = some (.return_, nx, r1, r2, v)) (hr : xm_rt k = none) (hq : Q0 none hp) : XG l xm_any k d rc rs pc pl [] hp (xm_ret Q0) := by
  intro G p e R s m args below meth c H locs cells slots ls hCP hR hL
  have hC := hCP.1
  obtain ⟨hd, hn, ho⟩ := xm_dec hC hf
  obtain ⟨hgd, hexec, hb, hml, hown, hret, hlk, hmn, hKK, hfr, hlo, hcel, hsl0, hlocs, hfrm, hsz⟩ := hC
  refine W.widen (k := R.cells) (n := R.slots) (by omega) (by omega) ?_
  exact W.vret hexec hb (hret.trans hr) (fun t ht hW => ⟨none, hp, hq, rfl, by rw [ht]; exact hR.moved hW.alike, fun q hq => by rw [ht]; exact hfrm q hq⟩) hlocs hd hlk
theorem x_aret {Q0 : Option Value → xm_H → Prop} {a : Nat} {ty : FieldType} (hf : xm_code k pc = some (.areturn, nx, r1, r2, v)) (hr : xm_rt k = some ty) (hx : ty.isReference = true) (hq : Q0 (some (.ref a)) hp) : XG l xm_any k d rc rs pc pl [.ref a] hp (xm_ret Q0) := by
  intro G p e R s m args below meth c H locs cells slots ls hCP hR hL
  have hC := hCP.1
  obtain ⟨hd, hn, ho⟩ := xm_dec hC hf
  obtain ⟨hgd, hexec, hb, hml, hown, hret, hlk, hmn, hKK, hfr, hlo, hcel, hsl0, hlocs, hfrm, hsz⟩ := hC
  refine W.widen (k := R.cells) (n := R.slots) (by omega) (by omega) ?_
  have hty : (∃ n, ty = .object n) ∨ ∃ t, ty = .array t := by
    cases ty <;> first | exact Or.inl ⟨_, rfl⟩ | exact Or.inr ⟨_, rfl⟩ | cases hx
  exact W.aret (v := .ref (G.1 a)) hexec hb (hret.trans hr) hty (Or.inr ⟨_, rfl⟩) (fun t ht hW => ⟨some (.ref a), hp, hq, rfl, by rw [ht]; exact hR.moved hW.alike, fun q hq => by rw [ht]; exact hfrm q hq⟩) hlocs hd hlk
theorem xm_sl1 (vs : List Value) (h : ∀ v ∈ vs, v.category = 1) : lg_sl vs = vs.map Slot.val := by
  induction vs with
  | nil => rfl
  | cons a t ih =>
    have ha : ¬ a.category = 2 := by have := h a List.mem_cons_self; omega
    have ht := ih (fun v hv => h v (List.mem_cons_of_mem _ hv))
    show (if a.category = 2 then [Slot.val a, Slot.second] else [Slot.val a]) ++ lg_sl t = _
    rw [if_neg ha, ht]
    rfl
theorem XM_of {Q0 : Option Value → xm_H → Prop} {mc ms : Nat} {as : List Value} (hg : xm_good k) (hpn : plainFor (xm_nm k) = true) (hca : ∀ v ∈ as, v.category = 1) (hle : as.length ≤ xm_ml k) (hpl : as.map some ++ List.replicate (xm_ml k - as.length) none = pl) (h : XG l xm_any k d mc ms 0 pl [] hp (xm_ret Q0)) : XM l k d mc ms as hp Q0 := by
  intro G
  refine va_MetF (cc := xm_by k) (maxL := xm_ml k) (ret := xm_rt k) hpn rfl ?_
  intro p e s m args below meth c s₁ B hml hv
  obtain ⟨rfl, hK, hR⟩ := hv
  rw [lg_entry_eq]
  have hsl : lg_sl (as.map (xm_tv G.1)) = (as.map (xm_tv G.1)).map Slot.val := xm_sl1 _ (fun v hv => by
    obtain ⟨w, hw, rfl⟩ := List.mem_map.mp hv
    rw [xm_tv_cat]
    exact hca w hw)
  have hlen : (lg_sl (as.map (xm_tv G.1))).length ≤ xm_ml k := by rw [hsl]; simpa using hle
  have hent := lv_entry (as.map (xm_tv G.1)) (n := xm_ml k) hlen
  have hsz : G.2.2.2 ≤ s.heap.size := by have h1 := hR.1; have h2 := hR.2.1; omega
  refine h G p e _ s m _ below meth c s.heap [] 0 0 _ ⟨⟨hg, B.exec, B.bytes, hml, findClass_of_methodNamed B.named, B.returns, B.notSynchronized, (name_of_methodNamed B.named B.method).1, hK, Nat.le_refl _, Nat.le_refl _, by simp [headSpec], by simp [headSpec], fun q hq => (by cases hq), fun q _ => rfl, hsz, B.named⟩, trivial⟩ hR ⟨hent.1, hent.2.1, ?_, fun i w hw => ?_⟩
  · rw [← hpl]
    simp
    omega
  · rw [← hpl] at hw
    by_cases hi : i < as.length
    · rw [List.getElem?_append_left (by simpa using hi), List.getElem?_map] at hw
      cases ha : as[i]? with
      | none => rw [ha] at hw; cases hw
      | some u =>
        rw [ha] at hw
        simp at hw
        subst hw
        refine ⟨hca u (List.mem_of_getElem? ha), ?_⟩
        rw [List.getElem?_toArray, hsl, List.getElem?_append_left (by simpa using hi)]
        simp [ha]
    · rw [List.getElem?_append_right (by simpa using hi)] at hw
      have := List.eq_of_mem_replicate (List.mem_of_getElem? hw)
      cases this
/-- behind a call -/
theorem xm_after {G : xm_G} {p : Program} {e : Env} {R : Room} {s : State} {m : MethodId} {args : Array Value} {below : List Frame} {meth : Method} {c : Code} {H : Heap} {locs : List Loc} {cells slots mc ms : Nat} {ls : Array Slot} {a0 : Array Value} {rest st0 : List Value} {Q1 : Option Value → xm_H → Prop}
    (hr : va_Run p l e R s m args below meth c H locs cells slots mc ms (F0 m pc ls st0) (rest.map (xm_tv G.1)) (xm_Qc G Q1 a0) (fun q => G.2.2.2 ≤ q)) (hC : xm_C k d rc rs G p R s m meth c H locs cells slots) (hL : xm_L G.1 ls (xm_ml k) pl) (hmc : mc ≤ rc) (hms : ms ≤ rs)
    (kk : ∀ (x : Option Value) (hp1 : xm_H), Q1 x hp1 → XG l xm_any k d (rc - mc) (rs - ms) (pc + 3) pl (x.toList ++ rest) hp1 Q) : W p l e R s m args below meth c H locs cells slots (Q G below args s R) (F0 m pc ls st0) := by
  intro T hT X
  obtain ⟨v0, st₀, t, T', L, h0, X', hL', e1, e2, ⟨x, hp1, hq, hv, hR1, hfr1⟩, go⟩ := hr T hT X
  obtain ⟨hgd, hexec, hb, hml, hown, hret, hlk, hmn, hKK, hfr, hlo, hcel, hsl0, hlocs, hfrm, hsz⟩ := hC
  cases hv
  have hal : t.vm.Alike s.vm := by rw [← e2]; exact X'.warmed.alike.symm
  have K := kk x hp1 hq G p e R s m args below meth c T'.heap (locs ++ L) (cells + mc) (slots + ms) ls ⟨⟨hgd, hexec, hb, hml, hown, hret, hlk, hmn, hKK, hfr, hlo, by omega, by omega, fun q hq2 => by
      rcases List.mem_append.mp hq2 with h | h
      · exact hlocs q h
      · exact hL' q h, fun q hq2 => by rw [e1, hfr1 q hq2, h0]; exact hfrm q hq2, hsz⟩, trivial⟩ (by rw [e1]; exact hR1.moved hal) hL
  obtain ⟨t2, a1, b1⟩ := K T' rfl X'
  refine ⟨t2, go t2 ?_, b1⟩
  cases x with
  | none => exact a1
  | some y => exact a1
theorem xm_mwV {s : State} (h : xm_KW s) {j : Nat} (hj : j < xm_nM) (hk : xm_kd j = 1) (a : Array Value) : (Cond.code (xm_nm j) (xm_by j) (xm_ml j) (xm_rt j)).before a s = true ∧ (Cond.instanceMethod (xm_nm j)).before a s = true ∧ (Cond.selects (xm_nm j).cls (xm_nm j) (xm_nm j)).before a s = true ∧ (Cond.initialized (xm_nm j).cls).before a s = true := by
  have e : xm_mw j = [.code (xm_nm j) (xm_by j) (xm_ml j) (xm_rt j), .instanceMethod (xm_nm j), .selects (xm_nm j).cls (xm_nm j) (xm_nm j), .initialized (xm_nm j).cls] := by unfold xm_mw; rw [hk]; rfl
  exact ⟨h.at (xm_mw_mem hj (by rw [e]; simp)) a rfl, h.at (xm_mw_mem hj (by rw [e]; simp)) a rfl, h.at (xm_mw_mem hj (by rw [e]; simp)) a rfl, h.at (xm_mw_mem hj (by rw [e]; simp)) a rfl⟩
theorem xm_mwS {s : State} (h : xm_KW s) {j : Nat} (hj : j < xm_nM) (hk : xm_kd j = 0) (a : Array Value) : (Cond.code (xm_nm j) (xm_by j) (xm_ml j) (xm_rt j)).before a s = true ∧ (Cond.static (xm_nm j)).before a s = true ∧ (Cond.initialized (xm_nm j).cls).before a s = true := by
  have e : xm_mw j = [.code (xm_nm j) (xm_by j) (xm_ml j) (xm_rt j), .static (xm_nm j), .initialized (xm_nm j).cls] := by unfold xm_mw; rw [hk]; rfl
  exact ⟨h.at (xm_mw_mem hj (by rw [e]; simp)) a rfl, h.at (xm_mw_mem hj (by rw [e]; simp)) a rfl, h.at (xm_mw_mem hj (by rw [e]; simp)) a rfl⟩
theorem xm_mwI {s : State} (h : xm_KW s) {j : Nat} (hj : j < xm_nM) (hk : xm_kd j = 2) (a : Array Value) : (Cond.code (xm_nm j) (xm_by j) (xm_ml j) (xm_rt j)).before a s = true ∧ (Cond.instanceMethod (xm_nm j)).before a s = true ∧ (Cond.initialized (xm_nm j).cls).before a s = true ∧ (xm_nm j).name = "<init>" ∧ xm_rt j = none := by
  have e : xm_mw j = [.code (xm_nm j) (xm_by j) (xm_ml j) (xm_rt j), .instanceMethod (xm_nm j), .initialized (xm_nm j).cls] := by unfold xm_mw; rw [hk]; rfl
  exact ⟨h.at (xm_mw_mem hj (by rw [e]; simp)) a rfl, h.at (xm_mw_mem hj (by rw [e]; simp)) a rfl, h.at (xm_mw_mem hj (by rw [e]; simp)) a rfl, xm_ini_chk j hj hk⟩
theorem xm_cok_spec {k idx j n kd : Nat} (h : xm_cok k idx j n kd = true) : (xm_lk (xm_pn k) idx = some (.methodLink (xm_nm k).cls idx (xm_nm j)) ∨ ∃ host, xm_lk (xm_pn k) idx = some (.methodLinkNest (xm_nm k).cls idx (xm_nm j) host)) ∧ xm_kd j = kd ∧ ((xm_nm j).cls ≠ "java/lang/invoke/MethodHandle" ∧ (xm_nm j).cls ≠ "java/lang/invoke/VarHandle" ∧ (parseMethodDescriptor (xm_nm j).desc).map (fun d => d.parameters.length) = some n) ∧ xm_ml j ≤ 41 ∧ j < xm_nM := by
  unfold xm_cok at h
  simp only [Bool.and_eq_true, decide_eq_true_eq] at h
  obtain ⟨⟨⟨⟨⟨⟨h1, h2⟩, h3⟩, h4⟩, h5⟩, h6⟩, h7⟩ := h
  refine ⟨?_, h2, ⟨h3, h4, h5⟩, h6, h7⟩
  split at h1
  next o i y hl =>
    simp only [Bool.and_eq_true, decide_eq_true_eq] at h1
    obtain ⟨⟨rfl, rfl⟩, rfl⟩ := h1
    exact Or.inl hl
  next o i y host hl =>
    simp only [Bool.and_eq_true, decide_eq_true_eq] at h1
    obtain ⟨⟨rfl, rfl⟩, rfl⟩ := h1
    exact Or.inr ⟨host, hl⟩
  next => cases h1
theorem xm_rest {G : xm_G} {m : MethodId} {pc : Nat} {ls : Array Slot} {st0 rest : List Value} (h : (rest.map fun v => v.category).sum ≤ 8) : 2 * (F0 m pc ls st0).monitorRoom + ((rest.map (xm_tv G.1)).map fun v => v.category).sum ≤ 8 := by
  refine lv_room ?_
  rw [List.map_map]
  have : ((fun v : Value => v.category) ∘ xm_tv G.1) = fun v => v.category := by funext v; exact xm_tv_cat _ v
  rw [this]
  exact h
theorem x_callv {idx j n dd mc ms a c0 : Nat} {as rest : List Value} {fs : List Value} {Q1 : Option Value → xm_H → Prop} (hf : xm_code k pc = some (.invokevirtual idx, nx, j, n, v)) (hj9 : ¬ 900 ≤ j) (hM : XM l j dd mc ms (.ref a :: as) hp Q1) (hdd : dd < d) (hmc : mc ≤ rc) (hms : ms ≤ rs) (hst : st = as.reverse ++ .ref a :: rest) (hn0 : as.length = n) (hw8 : (rest.map fun v => v.category).sum ≤ 8) (he : hp[a]? = some (xO c0 fs)) (hcn : xm_cl[c0]?.map (fun r => r.1) = some (xm_nm j).cls)
    (kk : ∀ (x : Option Value) (hp1 : xm_H), Q1 x hp1 → XG l xm_any k d (rc - mc) (rs - ms) nx pl (x.toList ++ rest) hp1 Q) : XG l xm_any k d rc rs pc pl st hp Q := by
  intro G p e R s m args below meth c H locs cells slots ls hCP hR hL
  have hC := hCP.1
  obtain ⟨hd, hn, ho⟩ := xm_dec hC hf
  obtain ⟨hlk, hkd, hy, hml, hjm⟩ := xm_cok_spec (k := k) (idx := idx) (j := j) (n := n) (kd := 1) (by simpa [xm_okI, hj9, show ¬ 950 ≤ j by omega] using ho)
  have hC' := hC
  obtain ⟨hgd, hexec, hb, hmlk, hown, hret, hlks, hmn, hKK, hfr, hlo, hcel, hsl0, hlocs, hfrm, hsz⟩ := hC'
  have hKW := hKK.2.1
  obtain ⟨w1, w2, w3, w4⟩ := xm_mwV hKW hjm hkd args
  obtain ⟨r, h1, cell, q1, q2, q3, q4⟩ := hR.2.2 a _ he
  have hcl : s.vm.findClass (xm_nm j).cls = some cell.cls := by
    rw [h1] at hcn
    have hcn2 : r.1 = (xm_nm j).cls := by simpa using hcn
    rw [← hcn2, q2]
    exact (hKK.2.2.1 c0 _ h1).2.1
  have hws : ∀ w ∈ [Cond.code (xm_nm j) (xm_by j) (xm_ml j) (xm_rt j)], ∀ (a' : Array Value) (U : State), s.WarmedH U.vm → w.before a' U = true := fun w hw a' U hW => by
    rw [List.mem_singleton.mp hw]
    exact word_at hW (Or.inl rfl) w1
  have hlen : ∀ sig, parseMethodDescriptor (xm_nm j).desc = some sig → n = sig.parameters.length := fun sig h => by
    have h2 := hy.2.2
    rw [h] at h2
    exact (Option.some.inj h2).symm
  have hpre : PreV s H (xm_nm j).cls (G.1 a) (xm_Pc G (.ref a :: as) hp) (as.map (xm_tv G.1)) := ⟨xm_Pc_blind _ _ _, ⟨cell, q1, by rw [q3]; rfl, hcl⟩, fun U hU hW => ⟨rfl, hKK.warm hW, by rw [hU]; exact hR.moved hW.alike⟩⟩
  have hstk : st.map (xm_tv G.1) = (as.map (xm_tv G.1)).reverse ++ .ref (G.1 a) :: rest.map (xm_tv G.1) := by rw [hst, List.map_append, List.map_reverse]; rfl
  have hrm : dd + 1 ≤ R.frames ∧ 8 + (xm_ml j + 11) + 60 * dd ≤ R.locals := ⟨by omega, by omega⟩
  have hcs : cells + mc ≤ R.cells ∧ slots + ms ≤ R.slots := ⟨by omega, by omega⟩
  have key : va_Run p l e R s m args below meth c H locs cells slots mc ms (F0 m pc ls (st.map (xm_tv G.1))) (rest.map (xm_tv G.1)) (xm_Qc G Q1 (Value.ref (G.1 a) :: as.map (xm_tv G.1)).toArray) (fun q => G.2.2.2 ≤ q) := by
    rcases hlk with hlk | ⟨host, hlk⟩
    · exact va_runV (Ts := []) (cc := xm_by k) (nL := xm_ml k) (own := (xm_nm k).cls) ⟨hexec, hb, hmlk, hown, fun w h => (by cases h)⟩ (hM G) ⟨⟨rfl, rfl, hrm.1, hrm.2, hws, List.mem_singleton.mpr rfl, w1, w4, ⟨hy.1, hy.2.1⟩, hlen, hKW.at (xm_lk_mem hlk) args rfl⟩, w2, w3⟩ hpre rfl (by rw [List.length_map]; exact hn0) hL.1 hstk (xm_rest hw8) hd hcs
    · exact va_runVN (Ts := []) (cc := xm_by k) (nL := xm_ml k) (own := (xm_nm k).cls) ⟨hexec, hb, hmlk, hown, fun w h => (by cases h)⟩ (hM G) ⟨⟨⟨rfl, rfl, hrm.1, hrm.2, hws, List.mem_singleton.mpr rfl⟩, w1, w4, ⟨hy.1, hy.2.1⟩, hlen, va_Nw.use rfl (hKW.nest (xm_lk_mem hlk))⟩, w2, w3⟩ hpre rfl (by rw [List.length_map]; exact hn0) hL.1 hstk (xm_rest hw8) hd hcs
  refine xm_after key hC hL hmc hms ?_
  rw [hn] at kk
  exact kk
theorem x_calls {idx j n dd mc ms : Nat} {as rest : List Value} {Q1 : Option Value → xm_H → Prop} (hf : xm_code k pc = some (.invokestatic idx, nx, j, n, v)) (hj9 : ¬ 900 ≤ j) (hM : XM l j dd mc ms as hp Q1) (hdd : dd < d) (hmc : mc ≤ rc) (hms : ms ≤ rs) (hst : st = as.reverse ++ rest) (hn0 : as.length = n) (hw8 : (rest.map fun v => v.category).sum ≤ 8)
    (kk : ∀ (x : Option Value) (hp1 : xm_H), Q1 x hp1 → XG l xm_any k d (rc - mc) (rs - ms) nx pl (x.toList ++ rest) hp1 Q) : XG l xm_any k d rc rs pc pl st hp Q := by
  intro G p e R s m args below meth c H locs cells slots ls hCP hR hL
  have hC := hCP.1
  obtain ⟨hd, hn, ho⟩ := xm_dec hC hf
  obtain ⟨hlk, hkd, hy, hml, hjm⟩ := xm_cok_spec (k := k) (idx := idx) (j := j) (n := n) (kd := 0) (by simpa [xm_okI, hj9, show ¬ 950 ≤ j by omega] using ho)
  have hC' := hC
  obtain ⟨hgd, hexec, hb, hmlk, hown, hret, hlks, hmn, hKK, hfr, hlo, hcel, hsl0, hlocs, hfrm, hsz⟩ := hC'
  have hKW := hKK.2.1
  obtain ⟨w1, w2, w4⟩ := xm_mwS hKW hjm hkd args
  have hws : ∀ w ∈ [Cond.code (xm_nm j) (xm_by j) (xm_ml j) (xm_rt j)], ∀ (a' : Array Value) (U : State), s.WarmedH U.vm → w.before a' U = true := fun w hw a' U hW => by
    rw [List.mem_singleton.mp hw]
    exact word_at hW (Or.inl rfl) w1
  have hlen : ∀ sig, parseMethodDescriptor (xm_nm j).desc = some sig → n = sig.parameters.length := fun sig h => by
    have h2 := hy.2.2
    rw [h] at h2
    exact (Option.some.inj h2).symm
  have hpre : PreS s H (xm_Pc G as hp) (as.map (xm_tv G.1)) := ⟨xm_Pc_blind _ _ _, fun U hU hW => ⟨rfl, hKK.warm hW, by rw [hU]; exact hR.moved hW.alike⟩⟩
  have hstk : st.map (xm_tv G.1) = (as.map (xm_tv G.1)).reverse ++ rest.map (xm_tv G.1) := by rw [hst, List.map_append, List.map_reverse]
  have hrm : dd + 1 ≤ R.frames ∧ 8 + (xm_ml j + 11) + 60 * dd ≤ R.locals := ⟨by omega, by omega⟩
  have hcs : cells + mc ≤ R.cells ∧ slots + ms ≤ R.slots := ⟨by omega, by omega⟩
  have key : va_Run p l e R s m args below meth c H locs cells slots mc ms (F0 m pc ls (st.map (xm_tv G.1))) (rest.map (xm_tv G.1)) (xm_Qc G Q1 (as.map (xm_tv G.1)).toArray) (fun q => G.2.2.2 ≤ q) := by
    rcases hlk with hlk | ⟨host, hlk⟩
    · exact va_runS (Ts := []) (cc := xm_by k) (nL := xm_ml k) (own := (xm_nm k).cls) ⟨hexec, hb, hmlk, hown, fun w h => (by cases h)⟩ (hM G) ⟨⟨rfl, rfl, hrm.1, hrm.2, hws, List.mem_singleton.mpr rfl, w1, w4, ⟨hy.1, hy.2.1⟩, hlen, hKW.at (xm_lk_mem hlk) args rfl⟩, w2⟩ hpre rfl (by rw [List.length_map]; exact hn0) hL.1 hstk (xm_rest hw8) hd hcs
    · exact va_runSN (Ts := []) (cc := xm_by k) (nL := xm_ml k) (own := (xm_nm k).cls) ⟨hexec, hb, hmlk, hown, fun w h => (by cases h)⟩ (hM G) ⟨⟨⟨rfl, rfl, hrm.1, hrm.2, hws, List.mem_singleton.mpr rfl⟩, w1, w4, ⟨hy.1, hy.2.1⟩, hlen, va_Nw.use rfl (hKW.nest (xm_lk_mem hlk))⟩, w2, trivial⟩ hpre rfl (by rw [List.length_map]; exact hn0) hL.1 hstk (xm_rest hw8) hd hcs
  refine xm_after key hC hL hmc hms ?_
  rw [hn] at kk
  exact kk
theorem x_calli {idx j n dd mc ms a : Nat} {as rest : List Value} {Q1 : Option Value → xm_H → Prop} (hf : xm_code k pc = some (.invokespecial idx, nx, j, n, v)) (hj9 : ¬ 900 ≤ j) (hM : XM l j dd mc ms (.ref a :: as) hp Q1) (hdd : dd < d) (hmc : mc ≤ rc) (hms : ms ≤ rs) (hst : st = as.reverse ++ .ref a :: rest) (hn0 : as.length = n) (hw8 : (rest.map fun v => v.category).sum ≤ 8)
    (kk : ∀ (x : Option Value) (hp1 : xm_H), Q1 x hp1 → XG l xm_any k d (rc - mc) (rs - ms) nx pl (x.toList ++ rest) hp1 Q) : XG l xm_any k d rc rs pc pl st hp Q := by
  intro G p e R s m args below meth c H locs cells slots ls hCP hR hL
  have hC := hCP.1
  obtain ⟨hd, hn, ho⟩ := xm_dec hC hf
  obtain ⟨hlk, hkd, hy, hml, hjm⟩ := xm_cok_spec (k := k) (idx := idx) (j := j) (n := n) (kd := 2) (by simpa [xm_okI, hj9, show ¬ 950 ≤ j by omega] using ho)
  have hC' := hC
  obtain ⟨hgd, hexec, hb, hmlk, hown, hret, hlks, hmn, hKK, hfr, hlo, hcel, hsl0, hlocs, hfrm, hsz⟩ := hC'
  have hKW := hKK.2.1
  obtain ⟨w1, w2, w4, hini, hrt⟩ := xm_mwI hKW hjm hkd args
  have hws : ∀ w ∈ [Cond.code (xm_nm j) (xm_by j) (xm_ml j) (xm_rt j)], ∀ (a' : Array Value) (U : State), s.WarmedH U.vm → w.before a' U = true := fun w hw a' U hW => by
    rw [List.mem_singleton.mp hw]
    exact word_at hW (Or.inl rfl) w1
  have hlen : ∀ sig, parseMethodDescriptor (xm_nm j).desc = some sig → n = sig.parameters.length := fun sig h => by
    have h2 := hy.2.2
    rw [h] at h2
    exact (Option.some.inj h2).symm
  have hpre : PreS s H (xm_Pc G (.ref a :: as) hp) (.ref (G.1 a) :: as.map (xm_tv G.1)) := ⟨xm_Pc_blind _ _ _, fun U hU hW => ⟨rfl, hKK.warm hW, by rw [hU]; exact hR.moved hW.alike⟩⟩
  have hstk : st.map (xm_tv G.1) = (as.map (xm_tv G.1)).reverse ++ .ref (G.1 a) :: rest.map (xm_tv G.1) := by rw [hst, List.map_append, List.map_reverse]; rfl
  have hrm : dd + 1 ≤ R.frames ∧ 8 + (xm_ml j + 11) + 60 * dd ≤ R.locals := ⟨by omega, by omega⟩
  have hcs : cells + mc ≤ R.cells ∧ slots + ms ≤ R.slots := ⟨by omega, by omega⟩
  have hMG := hM G
  rw [hrt] at hMG hws w1
  have key : va_Run p l e R s m args below meth c H locs cells slots mc ms (F0 m pc ls (st.map (xm_tv G.1))) (rest.map (xm_tv G.1)) (xm_Qc G Q1 (Value.ref (G.1 a) :: as.map (xm_tv G.1)).toArray) (fun q => G.2.2.2 ≤ q) := by
    rcases hlk with hlk | ⟨host, hlk⟩
    · exact va_runI (Ts := []) (cc := xm_by k) (nL := xm_ml k) (own := (xm_nm k).cls) ⟨hexec, hb, hmlk, hown, fun w h => (by cases h)⟩ hMG ⟨⟨rfl, rfl, hrm.1, hrm.2, hws, List.mem_singleton.mpr rfl, w1, w4, ⟨hy.1, hy.2.1⟩, hlen, hKW.at (xm_lk_mem hlk) args rfl⟩, hini, w2⟩ hpre rfl (by rw [List.length_map]; exact hn0) hL.1 hstk (xm_rest hw8) hd hcs
    · exact va_runIN (Ts := []) (cc := xm_by k) (nL := xm_ml k) (own := (xm_nm k).cls) ⟨hexec, hb, hmlk, hown, fun w h => (by cases h)⟩ hMG ⟨⟨⟨rfl, rfl, hrm.1, hrm.2, hws, List.mem_singleton.mpr rfl⟩, w1, w4, ⟨hy.1, hy.2.1⟩, hlen, va_Nw.use rfl (hKW.nest (xm_lk_mem hlk))⟩, hini, w2⟩ hpre rfl (by rw [List.length_map]; exact hn0) hL.1 hstk (xm_rest hw8) hd hcs
  refine xm_after key hC hL hmc hms ?_
  rw [hn] at kk
  exact kk
/-- it returns v, and no cell was written -/
def xm_QR (G : xm_G) (v0 : Option Value) : Array Value → State → Outcome → State → Prop := fun _ st o t => o = .returned (v0.map (xm_tv G.1)) ∧ t.heap = st.heap
def xm_retR (v0 : Option Value) : xm_Q := fun G below args s R => MQ below (xm_QR G v0) args s R.cells R.slots (fun _ => False)
def XMR (l : Launch) (k d : Nat) (as : List Value) (hp : xm_H) (v0 : Option Value) : Prop :=
  ∀ G : xm_G, Met l (xm_nm k) [.code (xm_nm k) (xm_by k) (xm_ml k) (xm_rt k)] { frames := d, cells := 0, slots := 0, locals := 60 * d } (xm_Pc G as hp) (xm_QR G v0) 0 0 (fun _ => False)
theorem x_iretR {x : Int32} {ty : FieldType} (hf : xm_code k pc = some (.ireturn, nx, r1, r2, v)) (hr : xm_rt k = some ty) (hx : narrow ty (.int x) = .int x) : XG l xm_clean k d rc rs pc pl [.int x] hp (xm_retR (some (.int x))) := by
  intro G p e R s m args below meth c H locs cells slots ls hCP hR hL
  have hC := hCP.1
  obtain ⟨hH, hlo0, hc0, hs0⟩ := hCP.2
  obtain ⟨hd, hn, ho⟩ := xm_dec hC hf
  obtain ⟨hgd, hexec, hb, hml, hown, hret, hlk, hmn, hKK, hfr, hlo, hcel, hsl0, hlocs, hfrm, hsz⟩ := hC
  refine W.widen (k := R.cells) (n := R.slots) (by omega) (by omega) ?_
  exact W.zret hexec hb (hret.trans hr) hx (fun t ht hW => ⟨rfl, ht.trans hH⟩) (fun q hq => by rw [hlo0] at hq; cases hq) hd hlk
theorem x_aretR {a : Nat} {ty : FieldType} (hf : xm_code k pc = some (.areturn, nx, r1, r2, v)) (hr : xm_rt k = some ty) (hx : ty.isReference = true) : XG l xm_clean k d rc rs pc pl [.ref a] hp (xm_retR (some (.ref a))) := by
  intro G p e R s m args below meth c H locs cells slots ls hCP hR hL
  have hC := hCP.1
  obtain ⟨hH, hlo0, hc0, hs0⟩ := hCP.2
  obtain ⟨hd, hn, ho⟩ := xm_dec hC hf
  obtain ⟨hgd, hexec, hb, hml, hown, hret, hlk, hmn, hKK, hfr, hlo, hcel, hsl0, hlocs, hfrm, hsz⟩ := hC
  refine W.widen (k := R.cells) (n := R.slots) (by omega) (by omega) ?_
  have hty : (∃ n, ty = .object n) ∨ ∃ t, ty = .array t := by
    cases ty <;> first | exact Or.inl ⟨_, rfl⟩ | exact Or.inr ⟨_, rfl⟩ | cases hx
  exact W.aret (v := .ref (G.1 a)) hexec hb (hret.trans hr) hty (Or.inr ⟨_, rfl⟩) (fun t ht hW => ⟨rfl, ht.trans hH⟩) (fun q hq => by rw [hlo0] at hq; cases hq) hd hlk
theorem xm_afterR {G : xm_G} {p : Program} {e : Env} {R : Room} {s : State} {m : MethodId} {args : Array Value} {below : List Frame} {meth : Method} {c : Code} {H : Heap} {locs : List Loc} {cells slots : Nat} {ls : Array Slot} {a0 : Array Value} {rest st0 : List Value} {v0 : Option Value}
    (hr : va_Run p l e R s m args below meth c H locs cells slots 0 0 (F0 m pc ls st0) (rest.map (xm_tv G.1)) (xm_QR G v0 a0) (fun _ => False)) (hCP : xm_C k d rc rs G p R s m meth c H locs cells slots ∧ xm_clean s H locs cells slots) (hR : xm_R G s hp H) (hL : xm_L G.1 ls (xm_ml k) pl)
    (kk : XG l xm_clean k d rc rs (pc + 3) pl (v0.toList ++ rest) hp Q) : W p l e R s m args below meth c H locs cells slots (Q G below args s R) (F0 m pc ls st0) := by
  intro T hT X
  obtain ⟨v1, st₀, t, T', L, h0, X', hL', e1, e2, ⟨hv, hh⟩, go⟩ := hr T hT X
  cases hv
  have hLn : L = [] := by
    cases L with
    | nil => rfl
    | cons q L => exact (hL' q List.mem_cons_self).elim
  subst hLn
  have hTH : T'.heap = H := by rw [e1, hh, h0]
  have K := kk G p e R s m args below meth c H locs cells slots ls hCP hR hL
  obtain ⟨t2, a1, b1⟩ := K T' hTH (by simpa using X')
  refine ⟨t2, go t2 ?_, b1⟩
  cases v0 with
  | none => exact a1
  | some y => exact a1
theorem x_callvR {idx j n dd a c0 : Nat} {as rest : List Value} {fs : List Value} {v0 : Option Value} (hf : xm_code k pc = some (.invokevirtual idx, nx, j, n, v)) (hj9 : ¬ 900 ≤ j) (hM : XMR l j dd (.ref a :: as) hp v0) (hdd : dd < d) (hst : st = as.reverse ++ .ref a :: rest) (hn0 : as.length = n) (hw8 : (rest.map fun v => v.category).sum ≤ 8) (he : hp[a]? = some (xO c0 fs)) (hcn : xm_cl[c0]?.map (fun r => r.1) = some (xm_nm j).cls)
    (kk : XG l xm_clean k d rc rs nx pl (v0.toList ++ rest) hp Q) : XG l xm_clean k d rc rs pc pl st hp Q := by
  intro G p e R s m args below meth c H locs cells slots ls hCP hR hL
  have hC := hCP.1
  obtain ⟨hd, hn, ho⟩ := xm_dec hC hf
  obtain ⟨hlk, hkd, hy, hml, hjm⟩ := xm_cok_spec (k := k) (idx := idx) (j := j) (n := n) (kd := 1) (by simpa [xm_okI, hj9, show ¬ 950 ≤ j by omega] using ho)
  have hC' := hC
  obtain ⟨hgd, hexec, hb, hmlk, hown, hret, hlks, hmn, hKK, hfr, hlo, hcel, hsl0, hlocs, hfrm, hsz⟩ := hC'
  have hKW := hKK.2.1
  obtain ⟨w1, w2, w3, w4⟩ := xm_mwV hKW hjm hkd args
  obtain ⟨r, h1, cell, q1, q2, q3, q4⟩ := hR.2.2 a _ he
  have hcl : s.vm.findClass (xm_nm j).cls = some cell.cls := by
    rw [h1] at hcn
    have hcn2 : r.1 = (xm_nm j).cls := by simpa using hcn
    rw [← hcn2, q2]
    exact (hKK.2.2.1 c0 _ h1).2.1
  have hws : ∀ w ∈ [Cond.code (xm_nm j) (xm_by j) (xm_ml j) (xm_rt j)], ∀ (a' : Array Value) (U : State), s.WarmedH U.vm → w.before a' U = true := fun w hw a' U hW => by
    rw [List.mem_singleton.mp hw]
    exact word_at hW (Or.inl rfl) w1
  have hlen : ∀ sig, parseMethodDescriptor (xm_nm j).desc = some sig → n = sig.parameters.length := fun sig h => by
    have h2 := hy.2.2
    rw [h] at h2
    exact (Option.some.inj h2).symm
  have hpre : PreV s H (xm_nm j).cls (G.1 a) (xm_Pc G (.ref a :: as) hp) (as.map (xm_tv G.1)) := ⟨xm_Pc_blind _ _ _, ⟨cell, q1, by rw [q3]; rfl, hcl⟩, fun U hU hW => ⟨rfl, hKK.warm hW, by rw [hU]; exact hR.moved hW.alike⟩⟩
  have hstk : st.map (xm_tv G.1) = (as.map (xm_tv G.1)).reverse ++ .ref (G.1 a) :: rest.map (xm_tv G.1) := by rw [hst, List.map_append, List.map_reverse]; rfl
  have hrm : dd + 1 ≤ R.frames ∧ 8 + (xm_ml j + 11) + 60 * dd ≤ R.locals := ⟨by omega, by omega⟩
  have hcs : cells + 0 ≤ R.cells ∧ slots + 0 ≤ R.slots := ⟨by omega, by omega⟩
  have key : va_Run p l e R s m args below meth c H locs cells slots 0 0 (F0 m pc ls (st.map (xm_tv G.1))) (rest.map (xm_tv G.1)) (xm_QR G v0 (Value.ref (G.1 a) :: as.map (xm_tv G.1)).toArray) (fun _ => False) := by
    rcases hlk with hlk | ⟨host, hlk⟩
    · exact va_runV (Ts := []) (cc := xm_by k) (nL := xm_ml k) (own := (xm_nm k).cls) ⟨hexec, hb, hmlk, hown, fun w h => (by cases h)⟩ (hM G) ⟨⟨rfl, rfl, hrm.1, hrm.2, hws, List.mem_singleton.mpr rfl, w1, w4, ⟨hy.1, hy.2.1⟩, hlen, hKW.at (xm_lk_mem hlk) args rfl⟩, w2, w3⟩ hpre rfl (by rw [List.length_map]; exact hn0) hL.1 hstk (xm_rest hw8) hd hcs
    · exact va_runVN (Ts := []) (cc := xm_by k) (nL := xm_ml k) (own := (xm_nm k).cls) ⟨hexec, hb, hmlk, hown, fun w h => (by cases h)⟩ (hM G) ⟨⟨⟨rfl, rfl, hrm.1, hrm.2, hws, List.mem_singleton.mpr rfl⟩, w1, w4, ⟨hy.1, hy.2.1⟩, hlen, va_Nw.use rfl (hKW.nest (xm_lk_mem hlk))⟩, w2, w3⟩ hpre rfl (by rw [List.length_map]; exact hn0) hL.1 hstk (xm_rest hw8) hd hcs
  rw [hn] at kk
  exact xm_afterR key hCP hR hL kk
theorem x_callsR {idx j n dd : Nat} {as rest : List Value} {v0 : Option Value} (hf : xm_code k pc = some (.invokestatic idx, nx, j, n, v)) (hj9 : ¬ 900 ≤ j) (hM : XMR l j dd as hp v0) (hdd : dd < d) (hst : st = as.reverse ++ rest) (hn0 : as.length = n) (hw8 : (rest.map fun v => v.category).sum ≤ 8)
    (kk : XG l xm_clean k d rc rs nx pl (v0.toList ++ rest) hp Q) : XG l xm_clean k d rc rs pc pl st hp Q := by
  intro G p e R s m args below meth c H locs cells slots ls hCP hR hL
  have hC := hCP.1
  obtain ⟨hd, hn, ho⟩ := xm_dec hC hf
  obtain ⟨hlk, hkd, hy, hml, hjm⟩ := xm_cok_spec (k := k) (idx := idx) (j := j) (n := n) (kd := 0) (by simpa [xm_okI, hj9, show ¬ 950 ≤ j by omega] using ho)
  have hC' := hC
  obtain ⟨hgd, hexec, hb, hmlk, hown, hret, hlks, hmn, hKK, hfr, hlo, hcel, hsl0, hlocs, hfrm, hsz⟩ := hC'
  have hKW := hKK.2.1
  obtain ⟨w1, w2, w4⟩ := xm_mwS hKW hjm hkd args
  have hws : ∀ w ∈ [Cond.code (xm_nm j) (xm_by j) (xm_ml j) (xm_rt j)], ∀ (a' : Array Value) (U : State), s.WarmedH U.vm → w.before a' U = true := fun w hw a' U hW => by
    rw [List.mem_singleton.mp hw]
    exact word_at hW (Or.inl rfl) w1
  have hlen : ∀ sig, parseMethodDescriptor (xm_nm j).desc = some sig → n = sig.parameters.length := fun sig h => by
    have h2 := hy.2.2
    rw [h] at h2
    exact (Option.some.inj h2).symm
  have hpre : PreS s H (xm_Pc G as hp) (as.map (xm_tv G.1)) := ⟨xm_Pc_blind _ _ _, fun U hU hW => ⟨rfl, hKK.warm hW, by rw [hU]; exact hR.moved hW.alike⟩⟩
  have hstk : st.map (xm_tv G.1) = (as.map (xm_tv G.1)).reverse ++ rest.map (xm_tv G.1) := by rw [hst, List.map_append, List.map_reverse]
  have hrm : dd + 1 ≤ R.frames ∧ 8 + (xm_ml j + 11) + 60 * dd ≤ R.locals := ⟨by omega, by omega⟩
  have hcs : cells + 0 ≤ R.cells ∧ slots + 0 ≤ R.slots := ⟨by omega, by omega⟩
  have key : va_Run p l e R s m args below meth c H locs cells slots 0 0 (F0 m pc ls (st.map (xm_tv G.1))) (rest.map (xm_tv G.1)) (xm_QR G v0 (as.map (xm_tv G.1)).toArray) (fun _ => False) := by
    rcases hlk with hlk | ⟨host, hlk⟩
    · exact va_runS (Ts := []) (cc := xm_by k) (nL := xm_ml k) (own := (xm_nm k).cls) ⟨hexec, hb, hmlk, hown, fun w h => (by cases h)⟩ (hM G) ⟨⟨rfl, rfl, hrm.1, hrm.2, hws, List.mem_singleton.mpr rfl, w1, w4, ⟨hy.1, hy.2.1⟩, hlen, hKW.at (xm_lk_mem hlk) args rfl⟩, w2⟩ hpre rfl (by rw [List.length_map]; exact hn0) hL.1 hstk (xm_rest hw8) hd hcs
    · exact va_runSN (Ts := []) (cc := xm_by k) (nL := xm_ml k) (own := (xm_nm k).cls) ⟨hexec, hb, hmlk, hown, fun w h => (by cases h)⟩ (hM G) ⟨⟨⟨rfl, rfl, hrm.1, hrm.2, hws, List.mem_singleton.mpr rfl⟩, w1, w4, ⟨hy.1, hy.2.1⟩, hlen, va_Nw.use rfl (hKW.nest (xm_lk_mem hlk))⟩, w2, trivial⟩ hpre rfl (by rw [List.length_map]; exact hn0) hL.1 hstk (xm_rest hw8) hd hcs
  rw [hn] at kk
  exact xm_afterR key hCP hR hL kk
/-- a contract that says the very answer and the very world -/
abbrev xm_is (r0 : Option Value) (h0 : xm_H) : Option Value → xm_H → Prop := fun r h => r = r0 ∧ h = h0
theorem x_callvE {idx j n dd mc ms a c0 : Nat} {as rest : List Value} {fs : List Value} {r0 : Option Value} {h0 : xm_H} (hf : xm_code k pc = some (.invokevirtual idx, nx, j, n, v)) (hM : XM l j dd mc ms (.ref a :: as) hp (xm_is r0 h0)) (hst : st = as.reverse ++ .ref a :: rest) (hn0 : as.length = n) (he : hp[a]? = some (xO c0 fs))
    (kk : XG l xm_any k d (rc - mc) (rs - ms) nx pl (r0.toList ++ rest) h0 Q) (hcn : xm_cl[c0]?.map (fun r => r.1) = some (xm_nm j).cls := by rfl) (hj9 : ¬ 900 ≤ j := by decide) (hdd : dd < d := by omega) (hmc : mc ≤ rc := by omega) (hms : ms ≤ rs := by omega) (hw8 : Nat.ble (rest.map fun v => v.category).sum 8 = true := by rfl) : XG l xm_any k d rc rs pc pl st hp Q :=
  x_callv hf hj9 hM hdd hmc hms hst hn0 (Nat.le_of_ble_eq_true hw8) he hcn (fun x hp1 hq => by rw [hq.1, hq.2]; exact kk)
theorem x_callsE {idx j n dd mc ms : Nat} {as rest : List Value} {r0 : Option Value} {h0 : xm_H} (hf : xm_code k pc = some (.invokestatic idx, nx, j, n, v)) (hM : XM l j dd mc ms as hp (xm_is r0 h0)) (hst : st = as.reverse ++ rest) (hn0 : as.length = n)
    (kk : XG l xm_any k d (rc - mc) (rs - ms) nx pl (r0.toList ++ rest) h0 Q) (hj9 : ¬ 900 ≤ j := by decide) (hdd : dd < d := by omega) (hmc : mc ≤ rc := by omega) (hms : ms ≤ rs := by omega) (hw8 : Nat.ble (rest.map fun v => v.category).sum 8 = true := by rfl) : XG l xm_any k d rc rs pc pl st hp Q :=
  x_calls hf hj9 hM hdd hmc hms hst hn0 (Nat.le_of_ble_eq_true hw8) (fun x hp1 hq => by rw [hq.1, hq.2]; exact kk)
theorem x_calliE {idx j n dd mc ms a : Nat} {as rest : List Value} {r0 : Option Value} {h0 : xm_H} (hf : xm_code k pc = some (.invokespecial idx, nx, j, n, v)) (hM : XM l j dd mc ms (.ref a :: as) hp (xm_is r0 h0)) (hst : st = as.reverse ++ .ref a :: rest) (hn0 : as.length = n)
    (kk : XG l xm_any k d (rc - mc) (rs - ms) nx pl (r0.toList ++ rest) h0 Q) (hj9 : ¬ 900 ≤ j := by decide) (hdd : dd < d := by omega) (hmc : mc ≤ rc := by omega) (hms : ms ≤ rs := by omega) (hw8 : Nat.ble (rest.map fun v => v.category).sum 8 = true := by rfl) : XG l xm_any k d rc rs pc pl st hp Q :=
  x_calli hf hj9 hM hdd hmc hms hst hn0 (Nat.le_of_ble_eq_true hw8) (fun x hp1 hq => by rw [hq.1, hq.2]; exact kk)
theorem x_new {idx N a : Nat} {fs : List Value} {C : String} {T : u_T} (hf : xm_code k pc = some (.new idx, nx, r1, r2, v)) (hc : xm_cl[r1]? = some (C, T, N)) (hfs : (List.range N).map (fun j => defaultValue (xm_ft r1 j)) = fs) (ha : hp.length = a) (hrc : 1 ≤ rc) (hrs : N ≤ rs) (kk : XG l xm_any k d (rc - 1) (rs - N) nx pl (.ref a :: st) (hp ++ [xO r1 fs]) Q) : XG l xm_any k d rc rs pc pl st hp Q := by
  intro G p e R s m args below meth c H locs cells slots ls hCP hR hL
  have hC := hCP.1
  obtain ⟨hd, hn, ho⟩ := xm_dec hC hf
  obtain ⟨hgd, hexec, hb, hmlk, hown, hret, hlks, hmn, hKK, hfr, hlo, hcel, hsl0, hlocs, hfrm, hsz⟩ := hC
  have hKW := hKK.2.1
  obtain ⟨C', hcn', hlk⟩ : ∃ C' : String, xm_cl[r1]?.map (fun r => r.1) = some C' ∧ xm_lk (xm_pn k) idx = some (.classLink (xm_nm k).cls idx C') := by
    have h13 : r1 < 13 := (List.getElem?_eq_some_iff.mp hc).1
    simp only [xm_okI, if_neg (show ¬ 950 ≤ r1 by omega), xm_nok] at ho
    split at ho
    next => cases ho
    next C' T' N' hc' =>
      refine ⟨C', by rw [hc']; rfl, ?_⟩
      simpa using ho
  rw [hc] at hcn'
  cases hcn'
  have hKn := hKK.2.2.1 r1 _ hc
  have hl : G.1 hp.length = H.size := by
    have h1 := hKK.1.1 (hp.length - xm_c0)
    have h2 := hR.1
    have h3 := hR.2.1
    rw [Nat.add_sub_cancel' h2] at h1
    omega
  refine W.newcK hexec hb hown (hKW.at (xm_lk_mem hlk) args rfl) (hKW.at (xm_cls_mem hc (List.mem_append_right _ List.mem_cons_self)) args rfl) (hKW.at (xm_cls_mem hc (List.mem_append_right _ (List.mem_cons_of_mem _ List.mem_cons_self))) args rfl) rfl hd (by omega) (by omega) hKn.2.1 rfl fun H1 kC hkC e1 z1 o1 => ?_
  have hob := u_born (xm_ft r1) (xm_hts hKW hc args) (fun w h => h) hKn hkC e1 (xm_cls_ok hc).1
  have hat : xm_at G s H1 hp.length (.inr (.inr (.inl (r1, fs)))) := by
    refine ⟨_, hc, ?_⟩
    rw [hl]
    refine hob.to fun j hj => ?_
    subst hfs
    have hj' : j < N := hj
    simp only [vp_V, List.getD, List.map_map]
    rw [List.getElem?_map, List.getElem?_range hj']
    simp only [Option.map_some, Option.getD_some, Function.comp]
    cases xm_ft r1 j <;> rfl
  have K := kk G p e R s m args below meth c H1 locs (cells + 1) (slots + N) ls ⟨⟨hgd, hexec, hb, hmlk, hown, hret, hlks, hmn, hKK, hfr, hlo, by omega, by omega, hlocs, fun q hq => by rw [o1 q (by have h2 := hR.1; have h3 := hR.2.1; omega)]; exact hfrm q hq, hsz⟩, trivial⟩ (hR.push hKK.1 (fun x hx => by cases hx; exact hat) z1 o1) hL
  rw [hn, ← ha] at K
  simp only [List.map_cons, xm_tv, hl] at K
  exact K
end XR3
end
section
/-! a new exception is thrown out of a method that has written nothing yet -/
def xm_twA (X : String) : List Cond := Bundle.throwableAtoms ++ Bundle.throwableSAtoms ++ Bundle.chainSAtoms X ["java/lang/RuntimeException", "java/lang/Exception"]
def xm_twB (X : String) : List Cond := [.instantiable X 6, .castable X X, .selects X Bundle.tFill0 Bundle.tFill0, .selects X Bundle.tFill Bundle.tFill,
   .lays X Bundle.tN "cause" "Ljava/lang/Throwable;", .lays X Bundle.tN "stackTrace" Bundle.steD, .lays X Bundle.tN "suppressedExceptions" Bundle.listD, .lays X Bundle.tN "detailMessage" "Ljava/lang/String;",
   .fieldLink Bundle.tN 198 Bundle.tN "backtrace" "Ljava/lang/Object;", .lays Bundle.tN Bundle.tN "backtrace" "Ljava/lang/Object;", .lays X Bundle.tN "backtrace" "Ljava/lang/Object;", .initialized X]
def xm_isLS : Cond → Bool
  | .laysStatic _ _ _ => true
  | _ => false
/-- which of them the tables have for good; the two of statics stand in the world -/
def xm_twok (X : String) : Bool := (xm_twA X ++ xm_twB X).all (fun w => (decide (w = .laysStatic Bundle.tN "UNASSIGNED_STACK" Bundle.steD) || decide (w = .laysStatic Bundle.tN "SUPPRESSED_SENTINEL" Bundle.listD)) || (decide (w ∈ tables_1) && xm_okx w))
set_option maxRecDepth 100000 in
theorem xm_tw1 : xm_twok "java/lang/IllegalArgumentException" = true := by decide +kernel
set_option maxRecDepth 100000 in
theorem xm_tw2 : xm_twok "java/lang/IllegalStateException" = true := by decide +kernel
set_option maxRecDepth 100000 in
theorem xm_tw3 : xm_twok "java/lang/IndexOutOfBoundsException" = true := by decide +kernel
/-- it throws an X, the world is h0 -/
def xm_thr (X : String) (a1 : Nat) (h0 : xm_H) : xm_Q := fun G below args s R t => t.status = .running ∧ Ended t below (.threw (G.1 a1)) ∧ (∃ ce : Cell, t.heap[G.1 a1]? = some ce ∧ ce.vm = .none ∧ s.vm.findClass X = some ce.cls) ∧ xm_R G t h0 t.heap ∧ (∀ q : Nat, q < G.2.2.2 → t.heap[q]? = s.heap[q]?) ∧ s.WarmedH t.vm ∧ s.sameButNew ({ t with vm := s.vm } : State) [] R.cells R.slots
section XT
variable {l : Launch} {k d rc rs pc : Nat} {pl : List (Option Value)} {st : List Value} {hp : xm_H}
/-- words that hold at any arguments -/
theorem xm_KX.at {s : State} (h : xm_KX s) {w : Cond} (hw : w ∈ tables_1) (a : Array Value) (hk : xm_okx w = true) (ht : w.onTables = true) : w.before a s = true := va_Nw.use ht (h w hw hk)
set_option maxHeartbeats 2000000 in
theorem x_throw {X : String} {iC iS iI a0 : Nat} {q1 q2 q3 q4 q5 q6 q7 q8 q9 : Nat} {v0 v1 v2 v3 v4 : Int32} (hfl : l.flags = pinnedFlags ++ [noTraceFlag]) (hX : xm_twok X = true) (hXf : Bundle.fit X = true) (hon : (xm_twA X ++ xm_twB X).all (fun w => w.onTables || xm_isLS w) = true)
    (f0 : xm_code k pc = some (.new iC, pc + 3, q1, q2, v0)) (f1 : xm_code k (pc + 3) = some (.dup, pc + 4, q3, q4, v1)) (f2 : xm_code k (pc + 4) = some (.ldc iS, pc + 6, a0, 900, v2)) (f3 : xm_code k (pc + 6) = some (.invokespecial iI, pc + 9, q5, q6, v3)) (f4 : xm_code k (pc + 9) = some (.athrow, q7, q8, q9, v4))
    (hlC : xm_lk (xm_pn k) iC = some (.classLink (xm_nm k).cls iC X)) (hlI : xm_lk (xm_pn k) iI = some (.methodLink (xm_nm k).cls iI (Bundle.initS X)))
    (h31 : hp[31]? = some (xS 0)) (hkd : xm_kd k = 1) (hkM : k < xm_nM) (hd6 : 6 ≤ d) (hw8 : (st.map fun v => v.category).sum ≤ 8) (hrc : 1 ≤ rc) (hrs : 6 ≤ rs) : XG l xm_clean k d rc rs pc pl st hp (xm_thr X hp.length (hp ++ [none])) := by
  intro G p e R s m args below meth c H locs cells slots ls hCP hR hL
  have hC := hCP.1
  obtain ⟨hH, hlo0, hc0, hs0⟩ := hCP.2
  obtain ⟨d0, -, -⟩ := xm_dec hC f0
  obtain ⟨d1, -, -⟩ := xm_dec hC f1
  obtain ⟨d2, -, o2⟩ := xm_dec hC f2
  obtain ⟨d3, -, -⟩ := xm_dec hC f3
  obtain ⟨d4, -, -⟩ := xm_dec hC f4
  obtain ⟨hgd, hexec, hb, hml, hown, hret, hlk, hmn, hKK, hfr, hlo, hcel, hsl0, hlocs, hfrm, hsz⟩ := hC
  have hKW := hKK.2.1
  have hKX := hKK.2.2.2.2.2
  obtain ⟨w1, -, -, -⟩ := xm_mwV hKW hkM hkd args
  obtain ⟨meth', c', hm', hc', -, -, -, -, hex, -⟩ := Cond.code_spec hsz.2 w1
  subst hH hlo0 hc0 hs0
  have hall := List.all_eq_true.mp hX
  have hS0 := hR.2.2 31 _ h31
  obtain ⟨-, -, -, -, hz1, hz2, hz3, hz4⟩ := hS0
  have hword : ∀ w ∈ xm_twA X ++ xm_twB X, w.before args s = true := by
    intro w hw
    have h1 := hall w hw
    have h2 := List.all_eq_true.mp hon w hw
    simp only [Bool.or_eq_true, decide_eq_true_eq, Bool.and_eq_true] at h1
    rcases h1 with (rfl | rfl) | ⟨h1, h3⟩
    · exact hz3.use
    · exact hz4.use
    · simp only [Bool.or_eq_true] at h2
      rcases h2 with h2 | h2
      · exact hKX.at h1 args h3 h2
      · cases w <;> first | (cases h2; done) | (unfold xm_okx xm_okw at h3; cases h3)
  obtain ⟨cX, kX, hfX, hkX, hordX, -, -, hn6⟩ := Cond.instantiable_spec (hword (.instantiable X 6) (List.mem_append_right _ List.mem_cons_self))
  obtain ⟨r, hr, hr1, hr2, hr3⟩ : ∃ r ∈ xm_sl, r.1 = (xm_nm k).cls ∧ r.2.1 = iS ∧ r.2.2.2 = a0 := by
    have h := List.any_eq_true.mp (show xm_sl.any (fun r => decide (r.1 = (xm_nm k).cls) && decide (r.2.1 = iS) && decide (r.2.2.2 = a0)) = true by simpa [xm_okI] using o2)
    obtain ⟨r, hr, h⟩ := h
    simp only [Bool.and_eq_true, decide_eq_true_eq] at h
    exact ⟨r, hr, h.1.1, h.1.2, h.2⟩
  have hZ := hKK.2.2.2.2.1 r hr
  rw [hr1, hr2, hr3] at hZ
  refine W.newcK hexec hb hown (hKW.at (xm_lk_mem hlC) args rfl) (hword (.instantiable X 6) (List.mem_append_right _ List.mem_cons_self)) (hword (.initialized X) (List.mem_append_right _ (by simp [xm_twB]))) rfl d0 (by omega) (by omega) hfX rfl fun H1 kC hkC e1 z1 o1 => ?_
  refine lv_dup hexec hb d1 rfl ?_
  refine va_ldcS hexec hb hown hZ d2 ?_
  intro T hT Xs
  have hkk : kC = kX := Option.some.inj (hkC.symm.trans hkX)
  subst hkk
  have hrest : ((Value.ref s.heap.size :: st.map (xm_tv G.1)).map fun v => v.category).sum ≤ 9 := by
    have h := lv_room (m := m) (pc := pc) (ls := ls) (rest := ([] : List Value)) (st := st) hw8
    have e9 : ((st.map (xm_tv G.1)).map fun v => v.category) = st.map fun v => v.category := by
      rw [List.map_map]
      exact List.map_congr_left (fun v _ => xm_tv_cat _ v)
    rw [List.map_cons, List.sum_cons, e9]
    have h1 : (Value.ref s.heap.size).category = 1 := rfl
    omega
  have hatoms : ∀ w ∈ Bundle.ownAtoms (xm_nm k).cls iI X ["java/lang/RuntimeException", "java/lang/Exception"], w.before args s = true := by
    intro w hw
    unfold Bundle.ownAtoms at hw
    rcases List.mem_append.mp hw with h | h
    · exact hword w (List.mem_append_left _ h)
    · simp only [List.mem_cons, List.not_mem_nil, or_false] at h
      rcases h with rfl | rfl | rfl | rfl | rfl | rfl | rfl | rfl | rfl | rfl | rfl | rfl | rfl | rfl <;> first
        | exact hKW.at (xm_lk_mem hlI) args rfl
        | exact hz1.use
        | exact hz2.use
        | exact hword _ (List.mem_append_right _ (by simp [xm_twB]))
  have hout : ∀ x ∈ c.exceptionTable.toList, covers x (pc + 6 + 3) = false := by
    have hmm : meth = meth' := Option.some.inj (Xs.method.symm.trans hm')
    subst hmm
    have hcc : c = c' := Option.some.inj (Xs.code.symm.trans hc')
    subst hcc
    intro x hx
    have he : c.exceptionTable = #[] := by simpa using hex
    rw [he] at hx
    cases hx
  obtain ⟨U, hsteps, hrun, hend, hWU, hsame, ce, hce, hown2⟩ := Xs.ctorThrowS hexec (Launch.traces_off hfl Xs.admits) (own := (xm_nm k).cls) (cls := X) (names := ["java/lang/RuntimeException", "java/lang/Exception"]) (ic := iI) hown hXf (by decide) hatoms (fun x hx => by cases hx) (a := s.heap.size) hfX hkX (by rw [hT]; exact e1) (Nat.le_refl _) (msg := .ref (G.1 a0)) rfl (g := F0 m (pc + 6) ls (.ref (G.1 a0) :: .ref s.heap.size :: .ref s.heap.size :: st.map (xm_tv G.1))) rfl (by rw [hml]; exact hL.1) rfl rfl (rest := st.map (xm_tv G.1)) rfl (by rw [hb]; exact d3) (by rw [hb]; exact d4) hout (by show 2 + 3 < R.frames; omega) (by show 2 * 0 + _ + (13 * 3 + 42) ≤ R.locals; omega) hlk
  have hold : ∀ q : Nat, q < s.heap.size → U.heap[q]? = s.heap[q]? := by
    intro q hq
    obtain ⟨-, -, -, -, -, h6⟩ := hsame
    obtain ⟨cq, hcq⟩ : ∃ cq, s.heap[q]? = some cq := ⟨_, Array.getElem?_eq_getElem hq⟩
    obtain ⟨c2, g1, g2, g3, g4⟩ := h6 q cq hcq
    have g1' : U.heap[q]? = some c2 := g1
    have hsl : c2.slots = cq.slots := by
      apply Array.ext_getElem?
      intro i
      exact g4 i (by simp)
    rw [g1', hcq, g2, hsl]
  have hsize : U.heap.size = s.heap.size + 1 := by
    obtain ⟨-, -, h3, -⟩ := hsame
    have h4 : U.heap.size ≤ s.heap.size + (0 + 1) := h3
    have h5 := (Array.getElem?_eq_some_iff.mp hce).1
    omega
  have htop : G.1 hp.length = s.heap.size := by
    have h1 := hKK.1.1 (hp.length - xm_c0)
    have h2 := hR.1
    have h3 := hR.2.1
    rw [Nat.add_sub_cancel' h2] at h1
    omega
  refine ⟨U, hsteps, hrun, by rw [htop]; exact hend, ⟨ce, by rw [htop]; exact hce, hown2.vm, hown2.cls⟩, ?_, fun q hq => hold q (by omega), hWU, hsame.mono (by omega) (by omega)⟩
  exact (hR.push hKK.1 (e := none) (fun x hx => by cases hx) hsize hold).moved hWU.alike
end XT
end
section
/-! a call whose callee throws, caught by the caller's own handler -/
section XC
variable {l : Launch} {k d rc rs pc nx : Nat} {pl : List (Option Value)} {st : List Value} {hp : xm_H} {Q : xm_Q} {v : Int32}
def xm_thrO (G : xm_G) (X : String) (a1 : Nat) (h0 : xm_H) (mc ms : Nat) : Array Value → State → Outcome → State → Prop := fun _ st o t =>
  o = .threw (G.1 a1) ∧ (∃ ce : Cell, t.heap[G.1 a1]? = some ce ∧ ce.vm = .none ∧ st.vm.findClass X = some ce.cls) ∧ xm_R G t h0 t.heap ∧ (∀ q : Nat, q < G.2.2.2 → t.heap[q]? = st.heap[q]?) ∧ st.WarmedH t.vm ∧ st.sameButNew ({ t with vm := st.vm } : State) [] mc ms
/-- method k throws an X at these arguments and this world -/
def XMT (l : Launch) (k d mc ms : Nat) (as : List Value) (hp : xm_H) (X : String) (a1 : Nat) (h0 : xm_H) : Prop :=
  ∀ G : xm_G, MetFree l (xm_nm k) (headSpec [.code (xm_nm k) (xm_by k) (xm_ml k) (xm_rt k)] { frames := d, cells := mc, slots := ms, locals := 60 * d }) (xm_Pc G as hp) (fun _ _ _ _ _ => True) (xm_thrO G X a1 h0 mc ms)
theorem xm_entryL {G : xm_G} {as : List Value} (hca : ∀ v ∈ as, v.category = 1) (hle : as.length ≤ xm_ml k) (hpl : as.map some ++ List.replicate (xm_ml k - as.length) none = pl) : xm_L G.1 ((lg_sl (as.map (xm_tv G.1)) ++ List.replicate (xm_ml k - (lg_sl (as.map (xm_tv G.1))).length) Slot.unset).toArray) (xm_ml k) pl := by
  have hsl : lg_sl (as.map (xm_tv G.1)) = (as.map (xm_tv G.1)).map Slot.val := xm_sl1 _ (fun v hv => by
    obtain ⟨w, hw, rfl⟩ := List.mem_map.mp hv
    rw [xm_tv_cat]
    exact hca w hw)
  have hlen : (lg_sl (as.map (xm_tv G.1))).length ≤ xm_ml k := by rw [hsl]; simpa using hle
  have hent := lv_entry (as.map (xm_tv G.1)) (n := xm_ml k) hlen
  refine ⟨hent.1, hent.2.1, ?_, fun i w hw => ?_⟩
  · rw [← hpl]
    simp
    omega
  · rw [← hpl] at hw
    by_cases hi : i < as.length
    · rw [List.getElem?_append_left (by simpa using hi), List.getElem?_map] at hw
      cases ha : as[i]? with
      | none => rw [ha] at hw; cases hw
      | some u =>
        rw [ha] at hw
        simp at hw
        subst hw
        refine ⟨hca u (List.mem_of_getElem? ha), ?_⟩
        rw [List.getElem?_toArray, hsl, List.getElem?_append_left (by simpa using hi)]
        simp [ha]
    · rw [List.getElem?_append_right (by simpa using hi)] at hw
      have := List.eq_of_mem_replicate (List.mem_of_getElem? hw)
      cases this
theorem XMT_of {mc ms a1 : Nat} {as : List Value} {X : String} {h0 : xm_H} (hg : xm_good k) (hpn : plainFor (xm_nm k) = true) (hca : ∀ v ∈ as, v.category = 1) (hle : as.length ≤ xm_ml k) (hpl : as.map some ++ List.replicate (xm_ml k - as.length) none = pl) (h : XG l xm_clean k d mc ms 0 pl [] hp (xm_thr X a1 h0)) : XMT l k d mc ms as hp X a1 h0 := by
  intro G
  refine MetFree.of_bodySF (code := xm_by k) (maxLocals := xm_ml k) (ret := xm_rt k) hpn ?_ ?_
  · intro args s m h hn
    obtain ⟨meth, c, h1, h2, h3, h4, h5, h6, -, -⟩ := Cond.code_spec hn (atoms_spec (ws := [Cond.code (xm_nm k) (xm_by k) (xm_ml k) (xm_rt k)]) h _ List.mem_cons_self)
    exact ⟨meth, c, h1, h2, h3, h4, h5, h6⟩
  · intro p e s m args below meth c s₁ B hml hP _
    obtain ⟨rfl, hK, hR⟩ := hP
    have hh0 : s₁.heap = s.heap := by rw [B.state]; rfl
    have hsz : G.2.2.2 ≤ s.heap.size := by have h1 := hR.1; have h2 := hR.2.1; omega
    have K := h G p e ({ frames := d, cells := mc, slots := ms, locals := 60 * d } : Room) s m (as.map (xm_tv G.1)).toArray below meth c s.heap [] 0 0 _ ⟨⟨hg, B.exec, B.bytes, hml, findClass_of_methodNamed B.named, B.returns, B.notSynchronized, (name_of_methodNamed B.named B.method).1, hK, Nat.le_refl _, Nat.le_refl _, by simp, by simp, fun q hq => (by cases hq), fun q _ => rfl, hsz, B.named⟩, rfl, rfl, rfl, rfl⟩ hR (xm_entryL hca hle hpl)
    obtain ⟨t, a1', b1, b2, b3, b4, b5, b6, b7⟩ := K s₁ hh0 (Stand.of_body B)
    rw [lg_entry_eq]
    exact ⟨t, .threw (G.1 a1), a1', b1, b2, rfl, b3, b4, b5, b6, b7⟩
/-- what a callee that throws pays -/
def xm_PostT (G : xm_G) (X : String) (a1 : Nat) (h0 : xm_H) (mc ms : Nat) : Pt → Array Value → Addr → Pt → Prop := fun A a x B =>
  ∃ (g : JFrame) (mk : MethodId) (t : State), B.U.heap = t.heap ∧ B.U.vm = t.vm ∧ xm_thrO G X a1 h0 mc ms a (A.U.calling g mk a) (.threw x) t ∧ B.locs = A.locs ∧ B.cells = A.cells + mc ∧ B.slots = A.slots + ms
theorem x_callvT {idx j n dd mc ms a c0 a1 s0 e0 hpc ct : Nat} {as rest : List Value} {fs : List Value} {X : String} {h0 : xm_H} (hf : xm_code k pc = some (.invokevirtual idx, nx, j, n, v)) (hj9 : ¬ 900 ≤ j) (hM : XMT l j dd mc ms (.ref a :: as) hp X a1 h0) (hdd : dd < d) (hmc : mc ≤ rc) (hms : ms ≤ rs) (hst : st = as.reverse ++ .ref a :: rest) (hn0 : as.length = n) (hw8 : (rest.map fun v => v.category).sum ≤ 8) (he : hp[a]? = some (xO c0 fs)) (hcn : xm_cl[c0]?.map (fun r => r.1) = some (xm_nm j).cls)
    (hlk0 : xm_lk (xm_pn k) idx = some (.methodLink (xm_nm k).cls idx (xm_nm j))) (hh : xm_hh k = [(s0, e0, hpc, ct)]) (hcw : Cond.codeWith (xm_nm k) (xm_by k) (xm_ml k) (xm_rt k) (xm_hh k) ∈ tables_1) (hcov : s0 ≤ pc ∧ pc < e0) (hct : ct ≠ 0) (hlc : xm_lk (xm_pn k) ct = some (.classLink (xm_nm k).cls ct X)) (kk : XG l xm_any k d (rc - mc) (rs - ms) hpc pl [.ref a1] h0 Q) : XG l xm_any k d rc rs pc pl st hp Q := by
  intro G p e R s m args below meth c H locs cells slots ls hCP hR hL
  have hC := hCP.1
  obtain ⟨hd, hn, ho⟩ := xm_dec hC hf
  obtain ⟨hlk, hkd, hy, hml, hjm⟩ := xm_cok_spec (k := k) (idx := idx) (j := j) (n := n) (kd := 1) (by simpa [xm_okI, hj9, show ¬ 950 ≤ j by omega] using ho)
  have hC' := hC
  obtain ⟨hgd, hexec, hb, hmlk, hown, hret, hlks, hmn, hKK, hfr, hlo, hcel, hsl0, hlocs, hfrm, hsz⟩ := hC'
  have hKW := hKK.2.1
  have hKX := hKK.2.2.2.2.2
  obtain ⟨w1, w2, w3, w4⟩ := xm_mwV hKW hjm hkd args
  obtain ⟨r, h1, cell, q1, q2, q3, q4⟩ := hR.2.2 a _ he
  have hcl : s.vm.findClass (xm_nm j).cls = some cell.cls := by
    rw [h1] at hcn
    have hcn2 : r.1 = (xm_nm j).cls := by simpa using hcn
    rw [← hcn2, q2]
    exact (hKK.2.2.1 c0 _ h1).2.1
  have hlen : ∀ sig, parseMethodDescriptor (xm_nm j).desc = some sig → n = sig.parameters.length := fun sig h => by
    have h2 := hy.2.2
    rw [h] at h2
    exact (Option.some.inj h2).symm
  have hstk : st.map (xm_tv G.1) = (as.map (xm_tv G.1)).reverse ++ .ref (G.1 a) :: rest.map (xm_tv G.1) := by rw [hst, List.map_append, List.map_reverse]; rfl
  have hK : BackT l R p e below s args (xm_nm j) 3 8 (PreOf R mc ms (xm_Pc G (.ref a :: as) hp)) (xm_PostT G X a1 h0 mc ms) := by
    refine BackT.of_free (bytes := xm_by j) (maxL := xm_ml j) (ret := xm_rt j) (E := fun _ _ _ _ L k n => L = [] ∧ k = mc ∧ n = ms) (hM G) (by show dd + 1 ≤ R.frames; omega) (by show 8 + (xm_ml j + 11) + 60 * dd ≤ R.locals; omega) ?_ ?_ (fun _ _ _ _ _ _ _ _ _ => trivial) ?_ ?_
    · intro m meth c A a X hp
      exact ⟨atoms_intro fun w hw => by rw [List.mem_singleton.mp hw]; exact word_at X.warmed (Or.inl rfl) w1, word_at X.warmed (Or.inl rfl) w1, word_at X.warmed (Or.inl rfl) w4, hp.1, hp.2.1⟩
    · intro m meth c A a g mk X hp
      exact xm_Pc_blind _ _ _ _ _ _ _ hp.2.2
    · intro a first o t hq
      obtain ⟨g1, g2, g3, g4, g5, g6⟩ := hq
      exact ⟨[], mc, ms, ⟨⟨_, g1⟩, g5, g6⟩, rfl, rfl, rfl⟩
    · intro m meth c A a g mk v t L k n X hp hq hF hE
      obtain ⟨rfl, rfl, rfl⟩ := hE
      exact ⟨g, mk, t, rfl, rfl, hq, by simp, rfl, rfl⟩
  intro T hT Xs
  obtain ⟨mk, methM, hnamed, hmethM, hstM, habM⟩ := Cond.instanceMethod_spec w2
  obtain ⟨methM', cM, hmethM', -, -, -, -, -, -, hsigM⟩ := Cond.code_spec hnamed w1
  cases hmethM.symm.trans hmethM'
  obtain ⟨c2, r2, m2, p1, p2, p3, p4, kP, hkP, hkPi⟩ := Cond.selects_spec w3
  cases hcl.symm.trans p1
  cases (State.methodFound?_of_named hnamed ⟨hy.1, hy.2.1⟩).symm.trans p2
  cases hnamed.symm.trans p3
  have hselP : selectMethod e.platform s.vm cell.cls mk = .method mk := by rw [Launch.admits_selectMethod Xs.admits]; exact p4
  have hlink : (Cond.methodLink (xm_nm k).cls idx (xm_nm j)).before args s = true := hKW.at (xm_lk_mem hlk0) args rfl
  obtain ⟨vm₁, X₁, hstep₁⟩ := Xs.invokevirtual hexec hown hlink hnamed hmethM hstM hkP hkPi ⟨hy.1, hy.2.1⟩ (a := G.1 a) (cell := cell) (by rw [hT]; exact q1)
    (fun z h => by rw [q3] at h; cases h) hselP hmethM habM hkP hkPi (g := F0 m pc ls (st.map (xm_tv G.1))) rfl (argsL := as.map (xm_tv G.1)) (rest := rest.map (xm_tv G.1)) (by rw [List.length_map, hn0]; exact hlen _ hsigM) hstk (by rw [hb]; exact hd)
  obtain ⟨x, B, X', ⟨g', mk', t, b1, b2, ⟨o1, ⟨ce, o2, o3, o4⟩, o5, o6, o7, o8⟩, b3, b4, b5⟩, hsteps⟩ := hK m meth c ⟨T.setVm vm₁, locs, cells, slots⟩ { F0 m pc ls (st.map (xm_tv G.1)) with stack := rest.map (xm_tv G.1) } (.invokevirtual idx) mk (Value.ref (G.1 a) :: as.map (xm_tv G.1)).toArray X₁ rfl (by rw [hmlk]; exact hL.1) (by rw [hb]; exact hd) (xm_rest (G := G) (m := m) (pc := pc) (ls := ls) (st0 := []) hw8) (X₁.named hnamed) ⟨by show cells + mc ≤ R.cells; omega, by show slots + ms ≤ R.slots; omega, rfl, hKK.warm X₁.warmed, by show xm_R G (T.setVm vm₁) hp T.heap; rw [hT]; exact hR.moved X₁.warmed.alike⟩
  obtain rfl : x = G.1 a1 := by cases o1; rfl
  have hceB : B.U.heap[G.1 a1]? = some ce := by rw [b1]; exact o2
  have hfX : s.vm.findClass X = some ce.cls := by
    have h : (T.setVm vm₁).vm.findClass X = some ce.cls := o4
    rwa [X₁.warmed.alike.findClass] at h
  obtain ⟨mW, methW, cW, n1, n2, n3, -, -, n6, -, -, -⟩ := Cond.codeWith_spec (hKX.at hcw args rfl rfl)
  cases hsz.2.symm.trans n1
  cases Xs.method.symm.trans n2
  cases Xs.code.symm.trans n3
  rw [hh] at n6
  obtain ⟨x0, hx0, y1, y2, y3, y4⟩ : ∃ x0 : ExceptionTableEntry, c.exceptionTable.toList = [x0] ∧ x0.startPc = s0 ∧ x0.endPc = e0 ∧ x0.handlerPc = hpc ∧ x0.catchType = ct := by
    cases hE : c.exceptionTable.toList with
    | nil => rw [hE] at n6; cases n6
    | cons x0 r =>
      rw [hE] at n6
      cases r with
      | nil =>
        simp only [List.map_cons, List.map_nil, List.cons.injEq, Prod.mk.injEq, and_true] at n6
        exact ⟨x0, rfl, n6.1, n6.2.1, n6.2.2.1, n6.2.2.2⟩
      | cons y r => simp at n6
  have hcovx : covers x0 pc = true := by
    unfold covers
    rw [y1, y2]
    simp [hcov.1, hcov.2]
  obtain ⟨vm', XV, stV⟩ := X'.caughtLink (G.1 a1) (g := { F0 m pc ls (st.map (xm_tv G.1)) with stack := rest.map (xm_tv G.1) }) rfl hown [] x0 [] (by rw [hx0]; rfl) (fun y hy => by cases hy) hcovx (by rw [y4]; exact hct) (by rw [y4]; exact hKW.at (xm_lk_mem hlc) args rfl) hfX hceB (by rw [o3]; rfl) (va_asg _ _)
  have hal : t.vm.Alike s.vm := by rw [← b2]; exact X'.warmed.alike.symm
  have K := kk G p e R s m args below meth c (B.U.setVm vm').heap B.locs B.cells B.slots ls ⟨⟨hgd, hexec, hb, hmlk, hown, hret, hlks, hmn, hKK, hfr, hlo, by rw [b4]; show cells + mc + (rc - mc) ≤ R.cells; omega, by rw [b5]; show slots + ms + (rs - ms) ≤ R.slots; omega, by rw [b3]; exact hlocs, fun q hq => by
      have h1 : (B.U.setVm vm').heap[q]? = t.heap[q]? := by show B.U.heap[q]? = _; rw [b1]
      have h2 : t.heap[q]? = T.heap[q]? := o6 q hq
      rw [h1, h2, hT]; exact hfrm q hq, hsz⟩, trivial⟩ (by show xm_R G s h0 B.U.heap; rw [b1]; exact o5.moved hal) hL
  obtain ⟨t2, c1, c2⟩ := K (B.U.setVm vm') rfl XV
  refine ⟨t2, hstep₁ t2 fun acts => ?_, c2⟩
  rw [doInvoke_state]
  refine hsteps.trans ?_
  rw [X'.pushThrowing_eq]
  refine stV t2 ?_
  rw [y3]
  exact c1
/-- the contract of a helper with a handler -/
def XMW (l : Launch) (k d mc ms : Nat) (as : List Value) (hp : xm_H) (Q : Option Value → xm_H → Prop) : Prop :=
  ∀ G : xm_G, Met l (xm_nm k) [.codeWith (xm_nm k) (xm_by k) (xm_ml k) (xm_rt k) (xm_hh k)] { frames := d, cells := mc, slots := ms, locals := 60 * d } (xm_Pc G as hp) (xm_Qc G Q) mc ms (fun q => G.2.2.2 ≤ q)
theorem XMW_of {Q0 : Option Value → xm_H → Prop} {mc ms : Nat} {as : List Value} (hg : xm_good k) (hpn : plainName (xm_nm k).cls = true) (hca : ∀ v ∈ as, v.category = 1) (hle : as.length ≤ xm_ml k) (hpl : as.map some ++ List.replicate (xm_ml k - as.length) none = pl) (h : XG l xm_any k d mc ms 0 pl [] hp (xm_ret Q0)) : XMW l k d mc ms as hp Q0 := by
  intro G
  refine va_MetW (cc := xm_by k) (maxL := xm_ml k) (ret := xm_rt k) (hh := xm_hh k) hpn rfl ?_
  intro p e s m args below meth c s₁ B hml hv
  obtain ⟨rfl, hK, hR⟩ := hv
  rw [lg_entry_eq]
  have hsz : G.2.2.2 ≤ s.heap.size := by have h1 := hR.1; have h2 := hR.2.1; omega
  exact h G p e _ s m _ below meth c s.heap [] 0 0 _ ⟨⟨hg, B.exec, B.bytes, hml, findClass_of_methodNamed B.named, B.returns, B.notSynchronized, (name_of_methodNamed B.named B.method).1, hK, Nat.le_refl _, Nat.le_refl _, by simp [headSpec], by simp [headSpec], fun q hq => (by cases hq), fun q _ => rfl, hsz, B.named⟩, trivial⟩ hR (xm_entryL hca hle hpl)
theorem x_callsW {idx j n q0 dd mc ms : Nat} {as rest : List Value} {Q1 : Option Value → xm_H → Prop} (hf : xm_code k pc = some (.invokestatic idx, nx, q0, n, v)) (hM : XMW l j dd mc ms as hp Q1) (hdd : dd < d) (hmc : mc ≤ rc) (hms : ms ≤ rs) (hst : st = as.reverse ++ rest) (hw8 : (rest.map fun v => v.category).sum ≤ 8)
    (hlk0 : xm_lk (xm_pn k) idx = some (.methodLink (xm_nm k).cls idx (xm_nm j))) (hcw : Cond.codeWith (xm_nm j) (xm_by j) (xm_ml j) (xm_rt j) (xm_hh j) ∈ tables_1) (hsw : Cond.static (xm_nm j) ∈ tables_1) (hiw : Cond.initialized (xm_nm j).cls ∈ tables_1) (hx : (xm_nm j).cls ≠ "java/lang/invoke/MethodHandle" ∧ (xm_nm j).cls ≠ "java/lang/invoke/VarHandle" ∧ (parseMethodDescriptor (xm_nm j).desc).map (fun d => d.parameters.length) = some as.length) (hml : xm_ml j ≤ 40)
    (kk : ∀ (x : Option Value) (hp1 : xm_H), Q1 x hp1 → XG l xm_any k d (rc - mc) (rs - ms) nx pl (x.toList ++ rest) hp1 Q) : XG l xm_any k d rc rs pc pl st hp Q := by
  intro G p e R s m args below meth c H locs cells slots ls hCP hR hL
  have hC := hCP.1
  obtain ⟨hd, hn, ho⟩ := xm_dec hC hf
  have hd3 : decode (xm_by k) pc = .ok (.invokestatic idx, 3) := hd
  have hC' := hC
  obtain ⟨hgd, hexec, hb, hmlk, hown, hret, hlks, hmn, hKK, hfr, hlo, hcel, hsl0, hlocs, hfrm, hsz⟩ := hC'
  have hKW := hKK.2.1
  have hKX := hKK.2.2.2.2.2
  have wc := hKX.at hcw args rfl rfl
  have wst := hKX.at hsw args rfl rfl
  have wi := hKX.at hiw args rfl rfl
  have hpre : PreS s H (xm_Pc G as hp) (as.map (xm_tv G.1)) := ⟨xm_Pc_blind _ _ _, fun U hU hW => ⟨rfl, hKK.warm hW, by rw [hU]; exact hR.moved hW.alike⟩⟩
  have hstk : st.map (xm_tv G.1) = (as.map (xm_tv G.1)).reverse ++ rest.map (xm_tv G.1) := by rw [hst, List.map_append, List.map_reverse]
  have hrm : dd + 1 ≤ R.frames ∧ 8 + (xm_ml j + 11) + 60 * dd ≤ R.locals := ⟨by omega, by omega⟩
  have hcs : cells + mc ≤ R.cells ∧ slots + ms ≤ R.slots := ⟨by omega, by omega⟩
  have hK : Back l R p e below s args (xm_nm j) 3 8 (PreOf R mc ms (xm_Pc G as hp)) (PostOf (xm_Qc G Q1) mc ms (fun q => G.2.2.2 ≤ q)) := va_backW (hh := xm_hh j) (bytes := xm_by j) (maxL := xm_ml j) (ret := xm_rt j) (hM G) hpre.1 rfl rfl hrm.1 hrm.2 (fun w hw a' U hW => by rw [List.mem_singleton.mp hw]; exact word_at hW (Or.inl rfl) wc) (List.mem_singleton.mpr rfl) (fun a' U hW => word_at hW (Or.inl rfl) wi)
  have key : va_Run p l e R s m args below meth c H locs cells slots mc ms (F0 m pc ls (st.map (xm_tv G.1))) (rest.map (xm_tv G.1)) (xm_Qc G Q1 (as.map (xm_tv G.1)).toArray) (fun q => G.2.2.2 ≤ q) := by
    intro T hT X
    obtain ⟨mk, methM, cM, hnamed, hmethM, -, -, -, -, -, -, hsigM⟩ := Cond.codeWith_spec wc
    have hstatic : methM.isStatic = true := Cond.static_spec hnamed hmethM wst
    obtain ⟨kP, hkP, -⟩ := className_of_methodNamed hnamed
    have hinitP : kP.init = .initialized := Cond.initialized_spec (findClass_of_methodNamed hnamed) hkP wi
    have hlen : (as.map (xm_tv G.1)).length = methM.sig.parameters.length := by
      have h2 := hx.2.2
      rw [hsigM] at h2
      rw [List.length_map]
      exact (Option.some.inj h2).symm
    obtain ⟨vm₁, X₁, hstep₁⟩ := X.invokestatic hexec hown (hKW.at (xm_lk_mem hlk0) args rfl) hnamed hmethM hstatic hkP hinitP ⟨hx.1, hx.2.1⟩ (g := F0 m pc ls (st.map (xm_tv G.1))) rfl (argsL := as.map (xm_tv G.1)) (rest := rest.map (xm_tv G.1)) hlen hstk (by rw [hb]; exact hd3)
    obtain ⟨v0, ⟨U', l2, c2, s2⟩, X', ⟨g', mk', t, L, e1, e2, hq, h1, hL1, h2, h3⟩, hsteps⟩ := hK m meth c ⟨T.setVm vm₁, locs, cells, slots⟩ { F0 m pc ls (st.map (xm_tv G.1)) with stack := rest.map (xm_tv G.1) } (.invokestatic idx) mk (as.map (xm_tv G.1)).toArray X₁ rfl (by rw [hmlk]; exact hL.1) (by rw [hb]; exact hd3) (xm_rest (G := G) (m := m) (pc := pc) (ls := ls) (st0 := []) hw8) (X₁.named hnamed) ⟨hcs.1, hcs.2, hpre.2 (T.setVm vm₁) hT X₁.warmed⟩
    dsimp only [Pt.U, Pt.locs, Pt.cells, Pt.slots] at X' e1 e2 h1 h2 h3 hsteps
    subst h1; subst h2; subst h3
    exact ⟨v0, (T.setVm vm₁).calling g' mk' (as.map (xm_tv G.1)).toArray, t, U', L, hT, X', hL1, e1, e2, hq, fun target h => hstep₁ _ fun acts => by rw [doInvoke_state]; exact hsteps.trans h⟩
  refine xm_after key hC hL hmc hms ?_
  rw [hn] at kk
  exact kk
end XC
end
section
section XR4
variable {l : Launch} {k d rc rs pc nx r1 r2 : Nat} {pl : List (Option Value)} {st : List Value} {hp : xm_H} {Q : xm_Q} {v : Int32}
theorem xm_top {G : xm_G} {U : State} {H : Heap} (hG : xm_KG G) (hR : xm_R G U hp H) : G.1 hp.length = H.size := by
  have h1 := hG.1 (hp.length - xm_c0)
  have h2 := hR.1
  have h3 := hR.2.1
  rw [Nat.add_sub_cancel' h2] at h1
  omega
theorem xm_C.grow {G : xm_G} {p : Program} {R : Room} {s : State} {m : MethodId} {meth : Method} {c : Code} {H H1 : Heap} {locs : List Loc} {cells slots N : Nat} (hC : xm_C k d rc rs G p R s m meth c H locs cells slots) (hR : xm_R G s hp H) (hrc : 1 ≤ rc) (hrs : N ≤ rs) (o1 : ∀ q : Nat, q < H.size → H1[q]? = H[q]?) : xm_C k d (rc - 1) (rs - N) G p R s m meth c H1 locs (cells + 1) (slots + N) := by
  obtain ⟨hgd, hexec, hb, hmlk, hown, hret, hlks, hmn, hKK, hfr, hlo, hcel, hsl0, hlocs, hfrm, hsz⟩ := hC
  exact ⟨hgd, hexec, hb, hmlk, hown, hret, hlks, hmn, hKK, hfr, hlo, by omega, by omega, hlocs, fun q hq => by rw [o1 q (by have h2 := hR.1; have h3 := hR.2.1; omega)]; exact hfrm q hq, hsz⟩
theorem x_newaI {at0 : ArrayType} {n : Int32} {N a : Nat} (hf : xm_code k pc = some (.newarray at0, nx, r1, r2, v)) (ht : defaultValue (xm_ty r1) = .int 0) (hn0 : ¬ n < 0) (hN : n.toNatClampNeg = N) (hN8 : N ≤ 100000) (ha : hp.length = a) (hrc : 1 ≤ rc) (hrs : N ≤ rs) (kk : XG l xm_any k d (rc - 1) (rs - N) nx pl (.ref a :: st) (hp ++ [xI r1 N (fun _ => 0)]) Q) : XG l xm_any k d rc rs pc pl (.int n :: st) hp Q := by
  intro G p e R s m args below meth c H locs cells slots ls hCP hR hL
  have hC := hCP.1
  obtain ⟨hd, hn, ho⟩ := xm_dec hC hf
  have ho' : (newarray.typeOf at0 = xm_ty r1 ∧ r1 < xm_nt) ∧ Cond.arrayClass (xm_ty r1) ∈ xm_xw := by simpa [xm_okI] using ho
  obtain ⟨⟨e1, e2⟩, e3⟩ := ho'
  have hKK := hC.2.2.2.2.2.2.2.2.1
  have hl := xm_top hKK.1 hR
  have hcel := hC.2.2.2.2.2.2.2.2.2.2.2.1
  have hslt := hC.2.2.2.2.2.2.2.2.2.2.2.2.1
  have hcb : componentBytes (newarray.typeOf at0) ≤ 8 := by cases at0 <;> decide
  refine W.newa hC.2.1 hC.2.2.1 (by rw [e1]; exact hKK.2.1.at (xm_xw_mem e3) args rfl) rfl hd rfl hn0 (by rw [hN]; have := Nat.mul_le_mul hN8 hcb; omega) (by omega) (by rw [hN]; omega) fun cA kA comp h1 h2 h3 => ?_
  rw [hN, e1] at *
  have hcA : cA = G.2.2.1 r1 := Option.some.inj (h1.symm.trans (hKK.2.2.2.1 r1 e2).1)
  have o1 : ∀ q : Nat, q < H.size → (H.push { cls := cA, slots := Array.replicate N (defaultValue (xm_ty r1)), vm := .none })[q]? = H[q]? := fun q hq => by rw [Array.getElem?_push, if_neg (Nat.ne_of_lt hq)]
  have hat : xm_at G s (H.push { cls := cA, slots := Array.replicate N (defaultValue (xm_ty r1)), vm := .none }) hp.length (.inl (r1, N, fun _ => 0)) := by
    refine ⟨{ cls := cA, slots := Array.replicate N (defaultValue (xm_ty r1)), vm := .none }, by rw [hl]; simp, ⟨fun q h => (by cases h), kA, h2, comp, h3⟩, (fun h => by cases h), by simp, fun j hj => by simp [hj, ht], fun _ => hcA⟩
  have K := kk G p e R s m args below meth c _ locs (cells + 1) (slots + N) ls ⟨hC.grow hR hrc hrs o1, trivial⟩ (hR.push hKK.1 (fun x hx => by cases hx; exact hat) (by simp) o1) hL
  rw [hn, ← ha] at K
  simp only [List.map_cons, xm_tv, hl] at K
  exact K
theorem x_objInit {P : xm_P} {idx a : Nat} (hf : xm_code k pc = some (.invokespecial idx, nx, 900, r2, v)) (hd1 : 1 ≤ d) (hw8 : (st.map fun v => v.category).sum ≤ 8) (kk : XG l P k d rc rs nx pl st hp Q) : XG l P k d rc rs pc pl (.ref a :: st) hp Q := by
  intro G p e R s m args below meth c H locs cells slots ls hCP hR hL
  have hC := hCP.1
  obtain ⟨hd, hn, ho⟩ := xm_dec hC hf
  have K := kk G p e R s m args below meth c H locs cells slots ls hCP hR hL
  rw [hn] at K
  have hlk : xm_lk (xm_pn k) idx = some (.methodLink (xm_nm k).cls idx (xm_sp 900)) := by simpa [xm_okI, xm_spok] using ho
  have hKW := hC.2.2.2.2.2.2.2.2.1.2.1
  have hlo := hC.2.2.2.2.2.2.2.2.2.2.1
  have hfr := hC.2.2.2.2.2.2.2.2.2.1
  have hw := xm_rest (G := G) (m := m) (pc := pc) (ls := ls) (st0 := List.map (xm_tv G.1) (.ref a :: st)) hw8
  exact W.objInit hC.2.1 hC.2.2.1 hC.2.2.2.2.1 (hKW.at (xm_lk_mem hlk) args rfl) (hKW.at (xm_xw_mem xm_xw_oi1) args rfl) (hKW.at (xm_xw_mem xm_xw_oi2) args rfl) rfl (by rw [hC.2.2.2.1]; exact hL.1) rfl hd (by omega) (by omega) K
end XR4
end
section
section XR5
variable {l : Launch} {k d rc rs pc nx r1 r2 : Nat} {pl : List (Option Value)} {st : List Value} {hp : xm_H} {Q : xm_Q} {v : Int32}
theorem x_newaL {at0 : ArrayType} {n : Int32} {N a : Nat} (hf : xm_code k pc = some (.newarray at0, nx, r1, r2, v)) (ht : defaultValue (xm_ty r1) = .long 0) (hn0 : ¬ n < 0) (hN : n.toNatClampNeg = N) (hN8 : N ≤ 100000) (ha : hp.length = a) (hrc : 1 ≤ rc) (hrs : N ≤ rs) (kk : XG l xm_any k d (rc - 1) (rs - N) nx pl (.ref a :: st) (hp ++ [xV r1 N (fun _ => .long 0)]) Q) : XG l xm_any k d rc rs pc pl (.int n :: st) hp Q := by
  intro G p e R s m args below meth c H locs cells slots ls hCP hR hL
  have hC := hCP.1
  obtain ⟨hd, hn, ho⟩ := xm_dec hC hf
  have ho' : (newarray.typeOf at0 = xm_ty r1 ∧ r1 < xm_nt) ∧ Cond.arrayClass (xm_ty r1) ∈ xm_xw := by simpa [xm_okI] using ho
  obtain ⟨⟨e1, e2⟩, e3⟩ := ho'
  have hKK := hC.2.2.2.2.2.2.2.2.1
  have hl := xm_top hKK.1 hR
  have hcel := hC.2.2.2.2.2.2.2.2.2.2.2.1
  have hslt := hC.2.2.2.2.2.2.2.2.2.2.2.2.1
  have hcb : componentBytes (newarray.typeOf at0) ≤ 8 := by cases at0 <;> decide
  refine W.newa hC.2.1 hC.2.2.1 (by rw [e1]; exact hKK.2.1.at (xm_xw_mem e3) args rfl) rfl hd rfl hn0 (by rw [hN]; have := Nat.mul_le_mul hN8 hcb; omega) (by omega) (by rw [hN]; omega) fun cA kA comp h1 h2 h3 => ?_
  rw [hN, e1] at *
  have hcA : cA = G.2.2.1 r1 := Option.some.inj (h1.symm.trans (hKK.2.2.2.1 r1 e2).1)
  have o1 : ∀ q : Nat, q < H.size → (H.push { cls := cA, slots := Array.replicate N (defaultValue (xm_ty r1)), vm := .none })[q]? = H[q]? := fun q hq => by rw [Array.getElem?_push, if_neg (Nat.ne_of_lt hq)]
  have hat : xm_at G s (H.push { cls := cA, slots := Array.replicate N (defaultValue (xm_ty r1)), vm := .none }) hp.length (.inr (.inl (r1, N, fun _ => .long 0))) := by
    refine ⟨{ cls := cA, slots := Array.replicate N (defaultValue (xm_ty r1)), vm := .none }, by rw [hl]; simp, ⟨fun q h => (by cases h), kA, h2, comp, h3⟩, (fun h => by cases h), by simp, fun j hj => by simp [hj, ht, xm_tv], fun _ => hcA⟩
  have K := kk G p e R s m args below meth c _ locs (cells + 1) (slots + N) ls ⟨hC.grow hR hrc hrs o1, trivial⟩ (hR.push hKK.1 (fun x hx => by cases hx; exact hat) (by simp) o1) hL
  rw [hn, ← ha] at K
  simp only [List.map_cons, xm_tv, hl] at K
  exact K
theorem x_anew {idx : Nat} {C : String} {n : Int32} {N a : Nat} (hf : xm_code k pc = some (.anewarray idx, nx, r1, r2, v)) (ht : xm_ty r1 = .object C) (hn0 : ¬ n < 0) (hN : n.toNatClampNeg = N) (hN8 : N ≤ 100000) (ha : hp.length = a) (hrc : 1 ≤ rc) (hrs : N ≤ rs) (kk : XG l xm_any k d (rc - 1) (rs - N) nx pl (.ref a :: st) (hp ++ [xV r1 N (fun _ => .null)]) Q) : XG l xm_any k d rc rs pc pl (.int n :: st) hp Q := by
  intro G p e R s m args below meth c H locs cells slots ls hCP hR hL
  have hC := hCP.1
  obtain ⟨hd, hn, ho⟩ := xm_dec hC hf
  have ho' : (xm_lk (xm_pn k) idx = some (.classLink (xm_nm k).cls idx (xm_cn (xm_ty r1))) ∧ r1 < xm_nt) ∧ Cond.arrayOver (xm_ty r1) ∈ xm_xw := by simpa [xm_okI] using ho
  obtain ⟨⟨e1, e2⟩, e3⟩ := ho'
  rw [ht] at e1 e3
  have hKK := hC.2.2.2.2.2.2.2.2.1
  have hl := xm_top hKK.1 hR
  have hcel := hC.2.2.2.2.2.2.2.2.2.2.2.1
  have hslt := hC.2.2.2.2.2.2.2.2.2.2.2.2.1
  refine W.anew (C := C) hC.2.1 hC.2.2.1 hC.2.2.2.2.1 (hKK.2.1.at (xm_lk_mem e1) args rfl) (va_AO.use (hKK.2.1 _ (xm_xw_mem e3))) rfl hd rfl hn0 (by rw [hN]; omega) (by omega) (by rw [hN]; omega) fun cA kA comp h1 h2 h3 h4 => ?_
  rw [hN]
  have hKA := hKK.2.2.2.1 r1 e2
  rw [ht] at hKA
  have hcA : cA = G.2.2.1 r1 := Option.some.inj (h1.symm.trans hKA.1)
  have o1 : ∀ q : Nat, q < H.size → (H.push { cls := cA, slots := Array.replicate N .null, vm := .none })[q]? = H[q]? := fun q hq => by rw [Array.getElem?_push, if_neg (Nat.ne_of_lt hq)]
  have hat : xm_at G s (H.push { cls := cA, slots := Array.replicate N .null, vm := .none }) hp.length (.inr (.inl (r1, N, fun _ => .null))) := by
    refine ⟨{ cls := cA, slots := Array.replicate N .null, vm := .none }, by rw [hl]; simp, ⟨fun q h => (by cases h), kA, h2, comp, by rw [ht]; exact h3⟩, (fun h => by cases h), by simp, fun j hj => by simp [hj, xm_tv], fun _ => hcA⟩
  have K := kk G p e R s m args below meth c _ locs (cells + 1) (slots + N) ls ⟨hC.grow hR hrc hrs o1, trivial⟩ (hR.push hKK.1 (fun x hx => by cases hx; exact hat) (by simp) o1) hL
  rw [hn, ← ha] at K
  simp only [List.map_cons, xm_tv, hl] at K
  exact K
/-- a reference is stored into an array: of an object of the component's class, or of an int array into an array of such -/
theorem x_aast {a b t n : Nat} {f : Nat → Value} {i : Int32} {e0 : xm_E} (hf : xm_code k pc = some (.aastore, nx, r1, r2, v)) (he : hp[a]? = some (xV t n f)) (ha : xm_c0 ≤ a) (ht : t < xm_nt) (hb : hp[b]? = some (some e0)) (hb0 : xm_c0 ≤ b)
    (hfit : (∃ c0 fs, e0 = .inr (.inr (.inl (c0, fs))) ∧ xm_cl[c0]?.map (fun r => FieldType.object r.1) = some (xm_ty t)) ∨ ∃ t0 n0 f0, e0 = .inl (t0, n0, f0) ∧ t0 < xm_nt ∧ xm_ty t = .array (xm_ty t0)) (hin : vp_in i n)
    (kk : XG l xm_any k d rc rs nx pl st (hp.set a (xV t n (updV f i.toNatClampNeg (.ref b)))) Q) : XG l xm_any k d rc rs pc pl (.ref b :: .int i :: .ref a :: st) hp Q := by
  intro G p e R s m args below meth c H locs cells slots ls hCP hR hL
  have hC := hCP.1
  obtain ⟨hd, hn, ho⟩ := xm_dec hC hf
  obtain ⟨cell, h1, h2, h3, h4, h5, h6⟩ := hR.2.2 a _ he
  have hKK := hC.2.2.2.2.2.2.2.2.1
  have hj : i.toNatClampNeg < n := Nat.not_le.mp fun q => hin (Or.inr q)
  have h0 : ¬ i < 0 := fun q => hin (Or.inl q)
  obtain ⟨hA1, kA, comp, hA2, hA3, hA4⟩ := hKK.2.2.2.1 t ht
  have hcls := h6 ha
  have hB := hR.2.2 b _ hb
  obtain ⟨cv, kv, hcv, hvs, hkv, hcomp, href⟩ : ∃ (cv : Cell) (kv : Class), H[G.1 b]? = some cv ∧ (∀ q, cv.vm ≠ .statics q) ∧ s.vm.classes[cv.cls]? = some kv ∧ comp = cv.cls ∧ (xm_ty t).isReference = true := by
    rcases hfit with ⟨c0, fs, rfl, hc0⟩ | ⟨t0, n0, f0, rfl, ht0, hty⟩
    · obtain ⟨r, g1, cv, g2, g3, g4, -⟩ := hB
      rw [g1] at hc0
      have hc1 : FieldType.object r.1 = xm_ty t := by simpa using hc0
      have hK := (hKK.2.2.1 c0 _ g1).2
      obtain ⟨kC, hkC, -⟩ := hK.2
      have hcm := hA4 (by rw [← hc1]; rfl)
      rw [← hc1] at hcm
      refine ⟨cv, kC, g2, (fun q h => by rw [g4] at h; cases h), by rw [g3]; exact hkC, ?_, by rw [← hc1]; rfl⟩
      rw [g3]
      exact Option.some.inj (hcm.symm.trans hK.1)
    · obtain ⟨cv, g2, g3, g4, g5, g6, g7⟩ := hB
      have hcm := hA4 (by rw [hty]; rfl)
      rw [hty] at hcm
      obtain ⟨hZ1, kZ, compZ, hZ2, hZ3, -⟩ := hKK.2.2.2.1 t0 ht0
      refine ⟨cv, kZ, g2, g3.1, by rw [g7 hb0]; exact hZ2, ?_, by rw [hty]; rfl⟩
      rw [g7 hb0]
      exact Option.some.inj (hcm.symm.trans hZ1)
  subst hcomp
  refine W.aast (v := G.1 b) hC.2.1 hC.2.2.1 h1 h2.1 h3 (by rw [hcls]; exact hA2) hA3 href hkv ⟨h0, by rw [h4]; exact hj⟩ hcv hvs hkv (va_asg _ _) rfl rfl hd fun H1 e1 z1 o1 => ?_
  obtain ⟨g1, g2⟩ := xm_slots_set (y := .ref (G.1 b)) h4 h5 hj
  have hat : xm_at G s H1 a (.inr (.inl (t, n, updV f i.toNatClampNeg (.ref b)))) := by
    refine ⟨_, e1, h2, h3, g1, fun j hj2 => (g2 j hj2).trans ?_, h6⟩
    by_cases hji : j = i.toNatClampNeg
    · subst hji
      simp [updV, xm_tv]
    · simp [updV, hji]
  have K := kk G p e R s m args below meth c H1 _ cells slots ls ⟨hC.put (j := i.toNatClampNeg) ha o1, trivial⟩ (hR.set hKK.1 ha hat z1 o1) hL
  rw [hn] at K
  exact K
end XR5
end
section
/-! One step as a function: what straight stretches do, so that a stretch is walked by rfl. -/
abbrev xm_F : Type := Nat × List (Option Value) × List Value × xm_H
/-- constants, the stack, arithmetic -/
def xm_sA (i : Instr) (nx r1 : Nat) (v : Int32) (pl : List (Option Value)) (st : List Value) (hp : xm_H) : Option xm_F := match i with
  | .iconst _ => some (nx, pl, .int v :: st, hp)
  | .bipush _ => some (nx, pl, .int v :: st, hp)
  | .sipush _ => some (nx, pl, .int v :: st, hp)
  | .goto _ => some (r1, pl, st, hp)
  | .iadd => match st with
    | .int y :: .int x :: st => some (nx, pl, .int (x + y) :: st, hp)
    | _ => none
  | .isub => match st with
    | .int y :: .int x :: st => some (nx, pl, .int (x - y) :: st, hp)
    | _ => none
  | .imul => match st with
    | .int y :: .int x :: st => some (nx, pl, .int (x * y) :: st, hp)
    | _ => none
  | .iand => match st with
    | .int y :: .int x :: st => some (nx, pl, .int (x &&& y) :: st, hp)
    | _ => none
  | .ior => match st with
    | .int y :: .int x :: st => some (nx, pl, .int (x ||| y) :: st, hp)
    | _ => none
  | .ixor => match st with
    | .int y :: .int x :: st => some (nx, pl, .int (x ^^^ y) :: st, hp)
    | _ => none
  | .ishl => match st with
    | .int y :: .int x :: st => some (nx, pl, .int (x <<< (y &&& 31)) :: st, hp)
    | _ => none
  | .ishr => match st with
    | .int y :: .int x :: st => some (nx, pl, .int (x >>> (y &&& 31)) :: st, hp)
    | _ => none
  | .iushr => match st with
    | .int y :: .int x :: st => some (nx, pl, .int ((x.toUInt32 >>> (y.toUInt32 &&& Int32.toUInt32 31)).toInt32) :: st, hp)
    | _ => none
  | .ineg => match st with
    | .int x :: st => some (nx, pl, .int (-x) :: st, hp)
    | _ => none
  | .i2l => match st with
    | .int x :: st => some (nx, pl, .long (x.toInt64) :: st, hp)
    | _ => none
  | .lcmp => match st with
    | .long y :: .long x :: st => some (nx, pl, .int (lg_cmp x y) :: st, hp)
    | _ => none
  | .dup => match st with
    | .int x :: st => some (nx, pl, .int x :: .int x :: st, hp)
    | .ref x :: st => some (nx, pl, .ref x :: .ref x :: st, hp)
    | _ => none
  | .pop => match st with
    | .int _ :: st => some (nx, pl, st, hp)
    | .ref _ :: st => some (nx, pl, st, hp)
    | _ => none
  | .dup2 => match st with
    | .int x :: .ref y :: st => some (nx, pl, .int x :: .ref y :: .int x :: .ref y :: st, hp)
    | _ => none
  | _ => none
/-- locals -/
def xm_sL (k : Nat) (i : Instr) (nx : Nat) (v : Int32) (pl : List (Option Value)) (st : List Value) (hp : xm_H) : Option xm_F := match i, st with
  | .iload j, st => match pl[j]? with
    | some (some (.int x)) => some (nx, pl, .int x :: st, hp)
    | _ => none
  | .iload_n j, st => match pl[(j : Nat)]? with
    | some (some (.int x)) => some (nx, pl, .int x :: st, hp)
    | _ => none
  | .aload j, st => match pl[j]? with
    | some (some (.ref x)) => some (nx, pl, .ref x :: st, hp)
    | _ => none
  | .aload_n j, st => match pl[(j : Nat)]? with
    | some (some (.ref x)) => some (nx, pl, .ref x :: st, hp)
    | _ => none
  | .istore j, .int x :: st => if j < xm_ml k then some (nx, pl.set j (some (.int x)), st, hp) else none
  | .istore_n j, .int x :: st => if (j : Nat) < xm_ml k then some (nx, pl.set j (some (.int x)), st, hp) else none
  | .astore j, .ref x :: st => if j < xm_ml k then some (nx, pl.set j (some (.ref x)), st, hp) else none
  | .astore_n j, .ref x :: st => if (j : Nat) < xm_ml k then some (nx, pl.set j (some (.ref x)), st, hp) else none
  | .iinc j _, st => if j < xm_ml k then match pl[j]? with
      | some (some (.int x)) => some (nx, pl.set j (some (.int (x + v))), st, hp)
      | _ => none
    else none
  | _, _ => none
/-- fields: reading, and writing an int or a reference -/
def xm_sF (i : Instr) (nx r1 r2 : Nat) (pl : List (Option Value)) (st : List Value) (hp : xm_H) : Option xm_F := match i, st with
  | .getfield _, .ref a :: st => match hp[a]? with
    | some (some (.inr (.inr (.inl (c, fs))))) => if c = r1 then match fs[r2]? with
        | some x => some (nx, pl, x :: st, hp)
        | none => none
      else none
    | _ => none
  | .putfield _, .int x :: .ref a :: st => match hp[a]? with
    | some (some (.inr (.inr (.inl (c, fs))))) => if c = r1 ∧ xm_c0 ≤ a ∧ r2 < fs.length ∧ xm_ft r1 r2 = .int then some (nx, pl, st, hp.set a (xO r1 (fs.set r2 (.int x)))) else none
    | _ => none
  | .putfield _, .ref x :: .ref a :: st => match hp[a]? with
    | some (some (.inr (.inr (.inl (c, fs))))) => if c = r1 ∧ xm_c0 ≤ a ∧ r2 < fs.length ∧ (xm_ft r1 r2).isReference = true then some (nx, pl, st, hp.set a (xO r1 (fs.set r2 (.ref x)))) else none
    | _ => none
  | _, _ => none
def xm_step (k pc : Nat) (pl : List (Option Value)) (st : List Value) (hp : xm_H) : Option xm_F := match xm_code k pc with
  | none => none
  | some (i, nx, r1, r2, v) => match xm_sA i nx r1 v pl st hp with
    | some f => some f
    | none => match xm_sL k i nx v pl st hp with
      | some f => some f
      | none => xm_sF i nx r1 r2 pl st hp
section XS
variable {l : Launch} {k d rc rs pc nx r1 r2 pc' : Nat} {i : Instr} {pl pl' : List (Option Value)} {st st' : List Value} {hp hp' : xm_H} {Q : xm_Q} {v : Int32}
theorem xm_sA_ok (hf : xm_code k pc = some (i, nx, r1, r2, v)) (h : xm_sA i nx r1 v pl st hp = some (pc', pl', st', hp')) (kk : XG l xm_any k d rc rs pc' pl' st' hp' Q) : XG l xm_any k d rc rs pc pl st hp Q := by
  unfold xm_sA at h
  split at h
  · cases h; exact x_iconst hf kk
  · cases h; exact x_bipush hf kk
  · cases h; exact x_sipush hf kk
  · cases h; exact x_goto hf kk
  · split at h
    · cases h; exact x_iadd hf kk
    · cases h
  · split at h
    · cases h; exact x_isub hf kk
    · cases h
  · split at h
    · cases h; exact x_imul hf kk
    · cases h
  · split at h
    · cases h; exact x_iand hf kk
    · cases h
  · split at h
    · cases h; exact x_ior hf kk
    · cases h
  · split at h
    · cases h; exact x_ixor hf kk
    · cases h
  · split at h
    · cases h; exact x_ishl hf kk
    · cases h
  · split at h
    · cases h; exact x_ishr hf kk
    · cases h
  · split at h
    · cases h; exact x_iushr hf kk
    · cases h
  · split at h
    · cases h; exact x_ineg hf kk
    · cases h
  · split at h
    · cases h; exact x_i2l hf kk
    · cases h
  · split at h
    · cases h; exact x_lcmp hf kk
    · cases h
  · split at h
    · cases h; exact x_dup hf rfl kk
    · cases h; exact x_dup hf rfl kk
    · cases h
  · split at h
    · cases h; exact x_pop hf rfl kk
    · cases h; exact x_pop hf rfl kk
    · cases h
  · split at h
    · cases h; exact x_dup2 hf rfl rfl kk
    · cases h
  · cases h
theorem xm_sL_ok (hf : xm_code k pc = some (i, nx, r1, r2, v)) (h : xm_sL k i nx v pl st hp = some (pc', pl', st', hp')) (kk : XG l xm_any k d rc rs pc' pl' st' hp' Q) : XG l xm_any k d rc rs pc pl st hp Q := by
  unfold xm_sL at h
  split at h
  · split at h
    next hl => cases h; exact x_iload hf hl kk
    next => cases h
  · split at h
    next hl => cases h; exact x_iload_n hf hl kk
    next => cases h
  · split at h
    next hl => cases h; exact x_aload hf hl kk
    next => cases h
  · split at h
    next hl => cases h; exact x_aload_n hf hl kk
    next => cases h
  · split at h
    next hi => cases h; exact x_istore hf hi kk
    next => cases h
  · split at h
    next hi => cases h; exact x_istore_n hf hi kk
    next => cases h
  · split at h
    next hi => cases h; exact x_astore hf hi kk
    next => cases h
  · split at h
    next hi => cases h; exact x_astore_n hf hi kk
    next => cases h
  · split at h
    next hi =>
      split at h
      next hl => cases h; exact x_iinc hf hl hi kk
      next => cases h
    next => cases h
  · cases h
theorem xm_sF_ok (hf : xm_code k pc = some (i, nx, r1, r2, v)) (h : xm_sF i nx r1 r2 pl st hp = some (pc', pl', st', hp')) (kk : XG l xm_any k d rc rs pc' pl' st' hp' Q) : XG l xm_any k d rc rs pc pl st hp Q := by
  unfold xm_sF at h
  split at h
  · split at h
    next c fs he =>
      split at h
      next hc =>
        subst hc
        split at h
        next x hx => cases h; exact x_getf hf he hx kk
        next => cases h
      next => cases h
    next => cases h
  · split at h
    next c fs he =>
      split at h
      next hc =>
        obtain ⟨rfl, h1, h2, h3⟩ := hc
        cases h
        exact x_putf hf he h2 h1 (by rw [h3]; rfl) (by rw [h3]; rfl) kk
      next => cases h
    next => cases h
  · split at h
    next c fs he =>
      split at h
      next hc =>
        obtain ⟨rfl, h1, h2, h3⟩ := hc
        cases h
        refine x_putf hf he h2 h1 ?_ ?_ kk
        · cases hty : xm_ft c r2 <;> first | rfl | (rw [hty] at h3; cases h3)
        · cases hty : xm_ft c r2 <;> first | rfl | (rw [hty] at h3; cases h3)
      next => cases h
    next => cases h
  · cases h
theorem x_step (h : xm_step k pc pl st hp = some (pc', pl', st', hp')) (kk : XG l xm_any k d rc rs pc' pl' st' hp' Q) : XG l xm_any k d rc rs pc pl st hp Q := by
  unfold xm_step at h
  split at h
  next => cases h
  next i nx r1 r2 v hf =>
    split at h
    next f hA => cases h; exact xm_sA_ok hf hA kk
    next =>
      split at h
      next f hL => cases h; exact xm_sL_ok hf hL kk
      next => exact xm_sF_ok hf h kk
theorem XE {Q0 : Option Value → xm_H → Prop} {mc ms : Nat} {as : List Value} (hg : xm_good k) (hpl : as.map some ++ List.replicate (xm_ml k - as.length) none = pl) (h : XG l xm_any k d mc ms 0 pl [] hp (xm_ret Q0)) (hpn : plainFor (xm_nm k) = true := by decide +kernel) (hca : as.all (fun v => Nat.beq v.category 1) = true := by rfl) (hle : Nat.ble as.length (xm_ml k) = true := by rfl) : XM l k d mc ms as hp Q0 :=
  XM_of hg hpn (fun v hv => Nat.eq_of_beq_eq_true (List.all_eq_true.mp hca v hv)) (Nat.le_of_ble_eq_true hle) hpl h
end XS
end
section
section XR6
variable {l : Launch} {k d rc rs pc nx r1 r2 : Nat} {pl : List (Option Value)} {st : List Value} {hp : xm_H} {Q : xm_Q} {v : Int32}
/-- several cells are made -/
theorem xm_R.pushes {G : xm_G} {U : State} {H H1 : Heap} {es : xm_H} (hG : xm_KG G) (h : xm_R G U hp H) (he : ∀ (i : Nat) (x : xm_E), es[i]? = some (some x) → xm_at G U H1 (hp.length + i) x) (hz : H1.size = H.size + es.length) (oq : ∀ q : Nat, q < H.size → H1[q]? = H[q]?) : xm_R G U (hp ++ es) H1 := by
  have hlo : G.2.2.2 ≤ H.size := by have h1 := h.1; have h2 := h.2.1; omega
  refine ⟨by rw [List.length_append]; have := h.1; omega, by rw [List.length_append, hz]; have := h.2.1; omega, fun b e' hb => ?_⟩
  by_cases hl : b < hp.length
  · rw [List.getElem?_append_left hl] at hb
    have h3 := h.2.2 b e' hb
    exact h3.kept (oq _ h3.lt) (fun q hq => oq q (by omega))
  · rw [List.getElem?_append_right (by omega)] at hb
    have h4 := he (b - hp.length) e' hb
    rw [Nat.add_sub_cancel' (by omega)] at h4
    exact h4
theorem xm_rows_outer (c : ClassId) (N h0 : Nat) : ∀ i j : Nat, j < N → (Jvm.Free.Multi.outerC c N h0 i).slots[j]? = some (if j < i then .ref (h0 + 1 + j) else .null)
  | 0, j, hj => by
    show (Array.replicate N Value.null)[j]? = _
    simp [hj]
  | i + 1, j, hj => by
    have ih := xm_rows_outer c N h0 i j hj
    obtain ⟨-, -, hs⟩ := Jvm.Free.Multi.outerC_facts c N h0 i
    show ((Jvm.Free.Multi.outerC c N h0 i).setSlot i (.ref (h0 + 1 + i))).slots[j]? = _
    by_cases e : j = i
    · subst e
      simp [Cell.setSlot, hs, hj]
    · have e2 : ¬ i = j := fun q => e q.symm
      rw [show ((Jvm.Free.Multi.outerC c N h0 i).setSlot i (.ref (h0 + 1 + i))).slots[j]? = (Jvm.Free.Multi.outerC c N h0 i).slots[j]? from by simp [Cell.setSlot, Array.getElem?_setIfInBounds_ne e2], ih]
      by_cases h : j < i
      · rw [if_pos h, if_pos (by omega)]
      · rw [if_neg h, if_neg (by omega)]
/-- new int[n][m] -/
theorem x_mna {idx N M a : Nat} {n m0 : Int32} (hf : xm_code k pc = some (.multianewarray idx 2, nx, r1, r2, v)) (hlk : xm_lk (xm_pn k) idx = some (.classLink (xm_nm k).cls idx "[[I")) (hn0 : ¬ n < 0) (hm0 : ¬ m0 < 0) (hN : n.toNatClampNeg = N) (hM : m0.toNatClampNeg = M) (hN8 : N ≤ 1000) (hM8 : M ≤ 1000) (ha : hp.length = a) (hrc : 1 + N ≤ rc) (hrs : N + N * M ≤ rs)
    (kk : XG l xm_any k d (rc - (1 + N)) (rs - (N + N * M)) nx pl (.ref a :: st) (hp ++ (xV 4 N (fun j => .ref (a + 1 + j)) :: List.replicate N (xI 0 M (fun _ => 0)))) Q) : XG l xm_any k d rc rs pc pl (.int m0 :: .int n :: st) hp Q := by
  intro G p e R s m args below meth c H locs cells slots ls hCP hR hL
  have hC := hCP.1
  obtain ⟨hd, hn, ho⟩ := xm_dec hC hf
  obtain ⟨hgd, hexec, hb, hmlk, hown, hret, hlks, hmn, hKK, hfr, hlo, hcel, hsl0, hlocs, hfrm, hsz⟩ := hC
  have hKW := hKK.2.1
  have hl := xm_top hKK.1 hR
  have eT : "[" ++ (FieldType.array FieldType.int).toString = "[[I" := by decide
  have hw1 : Cond.arrayOver (.array .int) ∈ xm_xw := by decide +kernel
  have hw2 : Cond.arrayClass .int ∈ xm_xw := by decide +kernel
  intro T hT X
  obtain ⟨vm₁, cA, comp, hWm, fA, fC, hO, hI, X', step⟩ := X.multianewarray2F hexec hown (by rw [eT]; exact hKW.at (xm_lk_mem hlk) args rfl) (over_moved (Vm.Alike.refl _) (hKW _ (xm_xw_mem hw1))) (hKW.at (xm_xw_mem hw2) args rfl) (g := F0 m pc ls (List.map (xm_tv G.1) (.int m0 :: .int n :: st))) rfl (by rw [hb]; exact hd) rfl hn0 hm0 (by rw [hN]; omega) (by rw [hM]; show M * 4 ≤ _; omega) (by rw [hM]; omega) rfl rfl (by rw [hN]; omega) (by rw [hN, hM]; omega)
  rw [hN, hM] at X' step
  have hTh : (T.setVm vm₁).heap = H := hT
  obtain ⟨f1, f2, -, -⟩ := Jvm.Free.Multi.fill_facts (T.setVm vm₁) cA comp N M (defaultValue .int) N
  have hold : ∀ x : Nat, x < H.size → (Jvm.Free.Multi.fill (T.setVm vm₁) cA comp N M (defaultValue .int) N).heap[x]? = H[x]? := fun x hx => by
    have := Jvm.Free.Multi.fill_old (T.setVm vm₁) cA comp N M (defaultValue .int) (a := x) (by rw [hTh]; exact hx) N
    rw [hTh] at this
    exact this
  have hrow : ∀ j : Nat, j < N → (Jvm.Free.Multi.fill (T.setVm vm₁) cA comp N M (defaultValue .int) N).heap[H.size + 1 + j]? = some (Jvm.Free.Multi.innerC comp M (defaultValue .int)) := fun j hj => by
    have := Jvm.Free.Multi.fill_inner (T.setVm vm₁) cA comp N M (defaultValue .int) N j hj
    rw [hTh] at this
    exact this
  rw [hTh] at f1 f2
  generalize Jvm.Free.Multi.fill (T.setVm vm₁) cA comp N M (defaultValue .int) N = F at *
  have hA4 := hKK.2.2.2.1 4 (by decide)
  have hA0 := hKK.2.2.2.1 0 (by decide)
  have hcA : cA = G.2.2.1 4 := Option.some.inj (fA.symm.trans hA4.1)
  have hcI : comp = G.2.2.1 0 := Option.some.inj (fC.symm.trans hA0.1)
  have hrho : ∀ j : Nat, G.1 (hp.length + j) = H.size + j := fun j => by
    have h1 := hKK.1.1 (hp.length + j - xm_c0)
    have h2 := hR.1
    have h3 := hR.2.1
    rw [Nat.add_sub_cancel' (by omega)] at h1
    omega
  obtain ⟨oc1, oc2, oc3⟩ := Jvm.Free.Multi.outerC_facts cA N H.size N
  have hR1 : xm_R G s (hp ++ (xV 4 N (fun j => .ref (a + 1 + j)) :: List.replicate N (xI 0 M (fun _ => 0)))) F.heap := by
    refine hR.pushes hKK.1 (fun i x hx => ?_) (by rw [f1]; simp; omega) hold
    cases i with
    | zero =>
      cases hx
      refine ⟨_, by rw [hrho]; exact f2, (hO N H.size N).1, (hO N H.size N).2, oc3, fun j hj => ?_, fun _ => by rw [oc1]; exact hcA⟩
      rw [xm_rows_outer cA N H.size N j hj, if_pos hj]
      show _ = some (Value.ref (G.1 (a + 1 + j)))
      rw [← ha, show hp.length + 1 + j = hp.length + (1 + j) by omega, hrho, Nat.add_assoc]
    | succ i =>
      rw [List.getElem?_cons_succ] at hx
      have hi : i < N := by have := (List.getElem?_eq_some_iff.mp hx).1; simpa using this
      have hx2 := List.eq_of_mem_replicate (List.mem_of_getElem? hx)
      cases hx2
      refine ⟨_, by rw [hrho]; rw [show H.size + (i + 1) = H.size + 1 + i by omega]; exact hrow i hi, (hI M (defaultValue .int)).1, (hI M (defaultValue .int)).2, by simp [Jvm.Free.Multi.innerC], fun j hj => by simp [Jvm.Free.Multi.innerC, hj, defaultValue], fun _ => hcI⟩
  have hC1 : xm_C k d (rc - (1 + N)) (rs - (N + N * M)) G p R s m meth c F.heap locs (cells + 1 + N) (slots + N + N * M) := ⟨hgd, hexec, hb, hmlk, hown, hret, hlks, hmn, hKK, hfr, hlo, by omega, by omega, hlocs, fun q hq => by rw [hold q (by have h2 := hR.1; have h3 := hR.2.1; omega)]; exact hfrm q hq, hsz⟩
  have K := kk G p e R s m args below meth c F.heap locs (cells + 1 + N) (slots + N + N * M) ls ⟨hC1, trivial⟩ hR1 hL
  rw [hn, ← ha] at K
  simp only [List.map_cons, xm_tv, hl] at K
  obtain ⟨t, a1, b1⟩ := K F rfl X'
  refine ⟨t, step t ?_, b1⟩
  have e : T.heap.size = H.size := by rw [hT]
  rw [e]
  exact a1
end XR6
end
section
/-! Tape, and Math.floorMod -/
section TP
variable {l : Launch} {d : Nat} {hp : xm_H}
def xfm (x y : Int32) : Int32 := if x ^^^ y < 0 ∧ ¬ (x - x / y * y = 0) then x - x / y * y + y else x - x / y * y
theorem m41 (x y : Int32) (hy : ¬ y = 0) : XM l 41 d 0 0 [.int x, .int y] hp (xm_is (some (.int (xfm x y))) hp) := by
  refine XE (pl := [some (.int x), some (.int y), none]) xg41 rfl ?_
  iterate 2 refine x_step rfl ?_
  refine x_irem rfl hy ?_
  iterate 4 refine x_step rfl ?_
  refine x_if_ge rfl (fun q1 => ?_) (fun q1 => ?_)
  · refine x_step rfl ?_
    exact x_iret rfl rfl rfl ⟨by rw [xfm, if_neg]; exact fun h => (Int32.not_lt.mpr q1) h.1, rfl⟩
  · refine x_step rfl ?_
    refine x_if_eq rfl (fun q2 => ?_) (fun q2 => ?_)
    · refine x_step rfl ?_
      exact x_iret rfl rfl rfl ⟨by rw [xfm, if_neg]; exact fun h => h.2 q2, rfl⟩
    · iterate 3 refine x_step rfl ?_
      exact x_iret rfl rfl rfl ⟨by rw [xfm, if_pos ⟨Int32.not_le.mp q1, q2⟩], rfl⟩
def xholds (c i : Int32) : Int32 := if i < 0 then 0 else if c ≤ i then 0 else if 501 < c - i then 0 else 1
theorem m154 {a b : Nat} {c : Int32} (i : Int32) (h1 : hp[a]? = some (xO 1 [.ref b, .int c])) : XM l 154 d 0 0 [.ref a, .int i] hp (xm_is (some (.int (xholds c i))) hp) := by
  refine XE (pl := [some (.ref a), some (.int i)]) xg154 rfl ?_
  refine x_step rfl ?_
  refine x_if_lt rfl (fun q1 => ?_) (fun q1 => ?_)
  · refine x_step rfl ?_
    exact x_iret rfl rfl rfl ⟨by simp [xholds, q1], rfl⟩
  · iterate 2 refine x_step rfl ?_
    refine x_getf rfl h1 rfl ?_
    refine x_icmp_ge rfl (fun q2 => ?_) (fun q2 => ?_)
    · refine x_step rfl ?_
      exact x_iret rfl rfl rfl ⟨by simp [xholds, q1, q2], rfl⟩
    · refine x_step rfl ?_
      refine x_getf rfl h1 rfl ?_
      iterate 3 refine x_step rfl ?_
      refine x_icmp_gt rfl (fun q3 => ?_) (fun q3 => ?_)
      · refine x_step rfl ?_
        exact x_iret rfl rfl rfl ⟨by simp [xholds, q1, q2, q3], rfl⟩
      · iterate 2 refine x_step rfl ?_
        exact x_iret rfl rfl rfl ⟨by simp [xholds, q1, q2, q3], rfl⟩
theorem m40 {a b : Nat} {c : Int32} {f : Nat → Int32} (x : Int32) (hd : 1 ≤ d) (ha : xm_c0 ≤ a) (hb : xm_c0 ≤ b) (hab : a ≠ b) (hc : vp_in (xfm c 501) 501) (h1 : hp[a]? = some (xO 1 [.ref b, .int c])) (h2 : hp[b]? = some (xI 0 501 f)) : XM l 40 d 0 0 [.ref a, .int x] hp (xm_is none ((hp.set b (xI 0 501 (upd f (xfm c 501).toNatClampNeg x))).set a (xO 1 [.ref b, .int (c + 1)]))) := by
  refine XE (pl := [some (.ref a), some (.int x)]) xg40 rfl ?_
  refine x_step rfl ?_
  refine x_getf rfl h1 rfl ?_
  refine x_step rfl ?_
  refine x_getf rfl h1 rfl ?_
  refine x_step rfl ?_
  refine x_callsE rfl (m41 (d := 0) c 501 (by decide)) rfl rfl ?_
  refine x_step rfl ?_
  refine x_iast rfl h2 hb rfl hc ?_
  have h3 : (hp.set b (xI 0 501 (upd f (xfm c 501).toNatClampNeg x)))[a]? = some (xO 1 [.ref b, .int c]) := by rw [List.getElem?_set_ne (Ne.symm hab)]; exact h1
  iterate 2 refine x_step rfl ?_
  refine x_getf rfl h3 rfl ?_
  iterate 2 refine x_step rfl ?_
  refine x_putf rfl h3 (Nat.le_of_ble_eq_true rfl) ha rfl rfl ?_
  exact x_ret rfl rfl ⟨rfl, rfl⟩
end TP
end
section
def hz (L : Nat) (xs : Nat → Int32) : xm_H := [xI 0 L xs, xS 1, xS 2, xS 3, xS 4, xS 5, xS 6, xS 7, xS 8, xS 9, xS 10, xS 11, xS 12, xS 13, xS 14, xS 15, xS 16, none, none, none, none, none, none, none, none, none, none, none, none, none, none, xS 0]
section CT
variable {l : Launch} {L : Nat} {xs : Nat → Int32}
theorem xm_hs {k d rc rs pc : Nat} {pl : List (Option Value)} {st : List Value} {hp hp' : xm_H} {P : xm_P} {Q : xm_Q} (h : hp = hp') (kk : XG l P k d rc rs pc pl st hp' Q) : XG l P k d rc rs pc pl st hp Q := h ▸ kk
theorem xm_ls {k d rc rs pc : Nat} {pl pl' : List (Option Value)} {st : List Value} {hp : xm_H} {P : xm_P} {Q : xm_Q} (h : pl = pl') (kk : XG l P k d rc rs pc pl' st hp Q) : XG l P k d rc rs pc pl st hp Q := h ▸ kk
set_option maxRecDepth 10000 in
/-- FabLink$Tape.<init> -/
theorem ct0 : XM l 1 2 1 501 [.ref 33] (hz L xs ++ [xO 0 [.null, .null, .null, .null, .null, .null], xO 1 [.null, .int 0]]) (xm_is none (hz L xs ++ [xO 0 [.null, .null, .null, .null, .null, .null], xO 1 [.ref 34, .int 0], xI 0 501 (fun _ => 0)])) := by
  refine XE (pl := [some (.ref 33)]) xg1 rfl ?_
  refine x_step rfl ?_
  refine x_objInit rfl (by omega) (Nat.le_of_ble_eq_true rfl) ?_
  refine x_step rfl ?_
  refine x_step rfl ?_
  refine x_newaI (a := 34) (N := 501) rfl rfl (by decide) rfl (by decide) rfl (by omega) (by omega) ?_
  refine x_step rfl ?_
  refine xm_hs (hp' := hz L xs ++ [xO 0 [.null, .null, .null, .null, .null, .null], xO 1 [.ref 34, .int 0], xI 0 501 (fun _ => 0)]) rfl ?_
  exact x_ret rfl rfl ⟨rfl, rfl⟩
set_option maxRecDepth 10000 in
/-- FabLink$Body.<init> -/
theorem ct1 : XM l 3 1 1 120 [.ref 37] (hz L xs ++ [xO 0 [.ref 33, .null, .null, .null, .null, .null], xO 1 [.ref 34, .int 0], xI 0 501 (fun _ => 0), xO 2 [.ref 36, .null, .int 0, .int 0, .int 0, .int 0], xV 3 8 (fun _ => .null), xO 3 [.null, .int 0]]) (xm_is none (hz L xs ++ [xO 0 [.ref 33, .null, .null, .null, .null, .null], xO 1 [.ref 34, .int 0], xI 0 501 (fun _ => 0), xO 2 [.ref 36, .null, .int 0, .int 0, .int 0, .int 0], xV 3 8 (fun _ => .null), xO 3 [.ref 38, .int 0], xI 0 120 (fun _ => 0)])) := by
  refine XE (pl := [some (.ref 37)]) xg3 rfl ?_
  refine x_step rfl ?_
  refine x_objInit rfl (by omega) (Nat.le_of_ble_eq_true rfl) ?_
  refine x_step rfl ?_
  refine x_step rfl ?_
  refine x_newaI (a := 38) (N := 120) rfl rfl (by decide) rfl (by decide) rfl (by omega) (by omega) ?_
  refine x_step rfl ?_
  refine xm_hs (hp' := hz L xs ++ [xO 0 [.ref 33, .null, .null, .null, .null, .null], xO 1 [.ref 34, .int 0], xI 0 501 (fun _ => 0), xO 2 [.ref 36, .null, .int 0, .int 0, .int 0, .int 0], xV 3 8 (fun _ => .null), xO 3 [.ref 38, .int 0], xI 0 120 (fun _ => 0)]) rfl ?_
  exact x_ret rfl rfl ⟨rfl, rfl⟩
set_option maxRecDepth 10000 in
/-- FabLink$Message.<init> -/
theorem ct2 : XM l 4 1 1 130 [.ref 39] (hz L xs ++ [xO 0 [.ref 33, .null, .null, .null, .null, .null], xO 1 [.ref 34, .int 0], xI 0 501 (fun _ => 0), xO 2 [.ref 36, .ref 37, .int 0, .int 0, .int 0, .int 0], xV 3 8 (fun _ => .null), xO 3 [.ref 38, .int 0], xI 0 120 (fun _ => 0), xO 4 [.null, .int 0, .int 0]]) (xm_is none (hz L xs ++ [xO 0 [.ref 33, .null, .null, .null, .null, .null], xO 1 [.ref 34, .int 0], xI 0 501 (fun _ => 0), xO 2 [.ref 36, .ref 37, .int 0, .int 0, .int 0, .int 0], xV 3 8 (fun _ => .null), xO 3 [.ref 38, .int 0], xI 0 120 (fun _ => 0), xO 4 [.ref 40, .int 0, .int 0], xI 0 130 (fun _ => 0)])) := by
  refine XE (pl := [some (.ref 39)]) xg4 rfl ?_
  refine x_step rfl ?_
  refine x_objInit rfl (by omega) (Nat.le_of_ble_eq_true rfl) ?_
  refine x_step rfl ?_
  refine x_step rfl ?_
  refine x_newaI (a := 40) (N := 130) rfl rfl (by decide) rfl (by decide) rfl (by omega) (by omega) ?_
  refine x_step rfl ?_
  refine xm_hs (hp' := hz L xs ++ [xO 0 [.ref 33, .null, .null, .null, .null, .null], xO 1 [.ref 34, .int 0], xI 0 501 (fun _ => 0), xO 2 [.ref 36, .ref 37, .int 0, .int 0, .int 0, .int 0], xV 3 8 (fun _ => .null), xO 3 [.ref 38, .int 0], xI 0 120 (fun _ => 0), xO 4 [.ref 40, .int 0, .int 0], xI 0 130 (fun _ => 0)]) rfl ?_
  exact x_ret rfl rfl ⟨rfl, rfl⟩
set_option maxRecDepth 10000 in
/-- FabLink$Message.<init> -/
theorem ct3 : XM l 4 1 1 130 [.ref 41] (hz L xs ++ [xO 0 [.ref 33, .null, .null, .null, .null, .null], xO 1 [.ref 34, .int 0], xI 0 501 (fun _ => 0), xO 2 [.ref 36, .ref 37, .int 0, .int 0, .int 0, .int 0], xV 3 8 (updV (fun _ => .null) 0 (.ref 39)), xO 3 [.ref 38, .int 0], xI 0 120 (fun _ => 0), xO 4 [.ref 40, .int 0, .int 0], xI 0 130 (fun _ => 0), xO 4 [.null, .int 0, .int 0]]) (xm_is none (hz L xs ++ [xO 0 [.ref 33, .null, .null, .null, .null, .null], xO 1 [.ref 34, .int 0], xI 0 501 (fun _ => 0), xO 2 [.ref 36, .ref 37, .int 0, .int 0, .int 0, .int 0], xV 3 8 (updV (fun _ => .null) 0 (.ref 39)), xO 3 [.ref 38, .int 0], xI 0 120 (fun _ => 0), xO 4 [.ref 40, .int 0, .int 0], xI 0 130 (fun _ => 0), xO 4 [.ref 42, .int 0, .int 0], xI 0 130 (fun _ => 0)])) := by
  refine XE (pl := [some (.ref 41)]) xg4 rfl ?_
  refine x_step rfl ?_
  refine x_objInit rfl (by omega) (Nat.le_of_ble_eq_true rfl) ?_
  refine x_step rfl ?_
  refine x_step rfl ?_
  refine x_newaI (a := 42) (N := 130) rfl rfl (by decide) rfl (by decide) rfl (by omega) (by omega) ?_
  refine x_step rfl ?_
  refine xm_hs (hp' := hz L xs ++ [xO 0 [.ref 33, .null, .null, .null, .null, .null], xO 1 [.ref 34, .int 0], xI 0 501 (fun _ => 0), xO 2 [.ref 36, .ref 37, .int 0, .int 0, .int 0, .int 0], xV 3 8 (updV (fun _ => .null) 0 (.ref 39)), xO 3 [.ref 38, .int 0], xI 0 120 (fun _ => 0), xO 4 [.ref 40, .int 0, .int 0], xI 0 130 (fun _ => 0), xO 4 [.ref 42, .int 0, .int 0], xI 0 130 (fun _ => 0)]) rfl ?_
  exact x_ret rfl rfl ⟨rfl, rfl⟩
set_option maxRecDepth 10000 in
/-- FabLink$Message.<init> -/
theorem ct4 : XM l 4 1 1 130 [.ref 43] (hz L xs ++ [xO 0 [.ref 33, .null, .null, .null, .null, .null], xO 1 [.ref 34, .int 0], xI 0 501 (fun _ => 0), xO 2 [.ref 36, .ref 37, .int 0, .int 0, .int 0, .int 0], xV 3 8 (updV (updV (fun _ => .null) 0 (.ref 39)) 1 (.ref 41)), xO 3 [.ref 38, .int 0], xI 0 120 (fun _ => 0), xO 4 [.ref 40, .int 0, .int 0], xI 0 130 (fun _ => 0), xO 4 [.ref 42, .int 0, .int 0], xI 0 130 (fun _ => 0), xO 4 [.null, .int 0, .int 0]]) (xm_is none (hz L xs ++ [xO 0 [.ref 33, .null, .null, .null, .null, .null], xO 1 [.ref 34, .int 0], xI 0 501 (fun _ => 0), xO 2 [.ref 36, .ref 37, .int 0, .int 0, .int 0, .int 0], xV 3 8 (updV (updV (fun _ => .null) 0 (.ref 39)) 1 (.ref 41)), xO 3 [.ref 38, .int 0], xI 0 120 (fun _ => 0), xO 4 [.ref 40, .int 0, .int 0], xI 0 130 (fun _ => 0), xO 4 [.ref 42, .int 0, .int 0], xI 0 130 (fun _ => 0), xO 4 [.ref 44, .int 0, .int 0], xI 0 130 (fun _ => 0)])) := by
  refine XE (pl := [some (.ref 43)]) xg4 rfl ?_
  refine x_step rfl ?_
  refine x_objInit rfl (by omega) (Nat.le_of_ble_eq_true rfl) ?_
  refine x_step rfl ?_
  refine x_step rfl ?_
  refine x_newaI (a := 44) (N := 130) rfl rfl (by decide) rfl (by decide) rfl (by omega) (by omega) ?_
  refine x_step rfl ?_
  refine xm_hs (hp' := hz L xs ++ [xO 0 [.ref 33, .null, .null, .null, .null, .null], xO 1 [.ref 34, .int 0], xI 0 501 (fun _ => 0), xO 2 [.ref 36, .ref 37, .int 0, .int 0, .int 0, .int 0], xV 3 8 (updV (updV (fun _ => .null) 0 (.ref 39)) 1 (.ref 41)), xO 3 [.ref 38, .int 0], xI 0 120 (fun _ => 0), xO 4 [.ref 40, .int 0, .int 0], xI 0 130 (fun _ => 0), xO 4 [.ref 42, .int 0, .int 0], xI 0 130 (fun _ => 0), xO 4 [.ref 44, .int 0, .int 0], xI 0 130 (fun _ => 0)]) rfl ?_
  exact x_ret rfl rfl ⟨rfl, rfl⟩
set_option maxRecDepth 10000 in
/-- FabLink$Message.<init> -/
theorem ct5 : XM l 4 1 1 130 [.ref 45] (hz L xs ++ [xO 0 [.ref 33, .null, .null, .null, .null, .null], xO 1 [.ref 34, .int 0], xI 0 501 (fun _ => 0), xO 2 [.ref 36, .ref 37, .int 0, .int 0, .int 0, .int 0], xV 3 8 (updV (updV (updV (fun _ => .null) 0 (.ref 39)) 1 (.ref 41)) 2 (.ref 43)), xO 3 [.ref 38, .int 0], xI 0 120 (fun _ => 0), xO 4 [.ref 40, .int 0, .int 0], xI 0 130 (fun _ => 0), xO 4 [.ref 42, .int 0, .int 0], xI 0 130 (fun _ => 0), xO 4 [.ref 44, .int 0, .int 0], xI 0 130 (fun _ => 0), xO 4 [.null, .int 0, .int 0]]) (xm_is none (hz L xs ++ [xO 0 [.ref 33, .null, .null, .null, .null, .null], xO 1 [.ref 34, .int 0], xI 0 501 (fun _ => 0), xO 2 [.ref 36, .ref 37, .int 0, .int 0, .int 0, .int 0], xV 3 8 (updV (updV (updV (fun _ => .null) 0 (.ref 39)) 1 (.ref 41)) 2 (.ref 43)), xO 3 [.ref 38, .int 0], xI 0 120 (fun _ => 0), xO 4 [.ref 40, .int 0, .int 0], xI 0 130 (fun _ => 0), xO 4 [.ref 42, .int 0, .int 0], xI 0 130 (fun _ => 0), xO 4 [.ref 44, .int 0, .int 0], xI 0 130 (fun _ => 0), xO 4 [.ref 46, .int 0, .int 0], xI 0 130 (fun _ => 0)])) := by
  refine XE (pl := [some (.ref 45)]) xg4 rfl ?_
  refine x_step rfl ?_
  refine x_objInit rfl (by omega) (Nat.le_of_ble_eq_true rfl) ?_
  refine x_step rfl ?_
  refine x_step rfl ?_
  refine x_newaI (a := 46) (N := 130) rfl rfl (by decide) rfl (by decide) rfl (by omega) (by omega) ?_
  refine x_step rfl ?_
  refine xm_hs (hp' := hz L xs ++ [xO 0 [.ref 33, .null, .null, .null, .null, .null], xO 1 [.ref 34, .int 0], xI 0 501 (fun _ => 0), xO 2 [.ref 36, .ref 37, .int 0, .int 0, .int 0, .int 0], xV 3 8 (updV (updV (updV (fun _ => .null) 0 (.ref 39)) 1 (.ref 41)) 2 (.ref 43)), xO 3 [.ref 38, .int 0], xI 0 120 (fun _ => 0), xO 4 [.ref 40, .int 0, .int 0], xI 0 130 (fun _ => 0), xO 4 [.ref 42, .int 0, .int 0], xI 0 130 (fun _ => 0), xO 4 [.ref 44, .int 0, .int 0], xI 0 130 (fun _ => 0), xO 4 [.ref 46, .int 0, .int 0], xI 0 130 (fun _ => 0)]) rfl ?_
  exact x_ret rfl rfl ⟨rfl, rfl⟩
set_option maxRecDepth 10000 in
/-- FabLink$Message.<init> -/
theorem ct6 : XM l 4 1 1 130 [.ref 47] (hz L xs ++ [xO 0 [.ref 33, .null, .null, .null, .null, .null], xO 1 [.ref 34, .int 0], xI 0 501 (fun _ => 0), xO 2 [.ref 36, .ref 37, .int 0, .int 0, .int 0, .int 0], xV 3 8 (updV (updV (updV (updV (fun _ => .null) 0 (.ref 39)) 1 (.ref 41)) 2 (.ref 43)) 3 (.ref 45)), xO 3 [.ref 38, .int 0], xI 0 120 (fun _ => 0), xO 4 [.ref 40, .int 0, .int 0], xI 0 130 (fun _ => 0), xO 4 [.ref 42, .int 0, .int 0], xI 0 130 (fun _ => 0), xO 4 [.ref 44, .int 0, .int 0], xI 0 130 (fun _ => 0), xO 4 [.ref 46, .int 0, .int 0], xI 0 130 (fun _ => 0), xO 4 [.null, .int 0, .int 0]]) (xm_is none (hz L xs ++ [xO 0 [.ref 33, .null, .null, .null, .null, .null], xO 1 [.ref 34, .int 0], xI 0 501 (fun _ => 0), xO 2 [.ref 36, .ref 37, .int 0, .int 0, .int 0, .int 0], xV 3 8 (updV (updV (updV (updV (fun _ => .null) 0 (.ref 39)) 1 (.ref 41)) 2 (.ref 43)) 3 (.ref 45)), xO 3 [.ref 38, .int 0], xI 0 120 (fun _ => 0), xO 4 [.ref 40, .int 0, .int 0], xI 0 130 (fun _ => 0), xO 4 [.ref 42, .int 0, .int 0], xI 0 130 (fun _ => 0), xO 4 [.ref 44, .int 0, .int 0], xI 0 130 (fun _ => 0), xO 4 [.ref 46, .int 0, .int 0], xI 0 130 (fun _ => 0), xO 4 [.ref 48, .int 0, .int 0], xI 0 130 (fun _ => 0)])) := by
  refine XE (pl := [some (.ref 47)]) xg4 rfl ?_
  refine x_step rfl ?_
  refine x_objInit rfl (by omega) (Nat.le_of_ble_eq_true rfl) ?_
  refine x_step rfl ?_
  refine x_step rfl ?_
  refine x_newaI (a := 48) (N := 130) rfl rfl (by decide) rfl (by decide) rfl (by omega) (by omega) ?_
  refine x_step rfl ?_
  refine xm_hs (hp' := hz L xs ++ [xO 0 [.ref 33, .null, .null, .null, .null, .null], xO 1 [.ref 34, .int 0], xI 0 501 (fun _ => 0), xO 2 [.ref 36, .ref 37, .int 0, .int 0, .int 0, .int 0], xV 3 8 (updV (updV (updV (updV (fun _ => .null) 0 (.ref 39)) 1 (.ref 41)) 2 (.ref 43)) 3 (.ref 45)), xO 3 [.ref 38, .int 0], xI 0 120 (fun _ => 0), xO 4 [.ref 40, .int 0, .int 0], xI 0 130 (fun _ => 0), xO 4 [.ref 42, .int 0, .int 0], xI 0 130 (fun _ => 0), xO 4 [.ref 44, .int 0, .int 0], xI 0 130 (fun _ => 0), xO 4 [.ref 46, .int 0, .int 0], xI 0 130 (fun _ => 0), xO 4 [.ref 48, .int 0, .int 0], xI 0 130 (fun _ => 0)]) rfl ?_
  exact x_ret rfl rfl ⟨rfl, rfl⟩
set_option maxRecDepth 10000 in
/-- FabLink$Message.<init> -/
theorem ct7 : XM l 4 1 1 130 [.ref 49] (hz L xs ++ [xO 0 [.ref 33, .null, .null, .null, .null, .null], xO 1 [.ref 34, .int 0], xI 0 501 (fun _ => 0), xO 2 [.ref 36, .ref 37, .int 0, .int 0, .int 0, .int 0], xV 3 8 (updV (updV (updV (updV (updV (fun _ => .null) 0 (.ref 39)) 1 (.ref 41)) 2 (.ref 43)) 3 (.ref 45)) 4 (.ref 47)), xO 3 [.ref 38, .int 0], xI 0 120 (fun _ => 0), xO 4 [.ref 40, .int 0, .int 0], xI 0 130 (fun _ => 0), xO 4 [.ref 42, .int 0, .int 0], xI 0 130 (fun _ => 0), xO 4 [.ref 44, .int 0, .int 0], xI 0 130 (fun _ => 0), xO 4 [.ref 46, .int 0, .int 0], xI 0 130 (fun _ => 0), xO 4 [.ref 48, .int 0, .int 0], xI 0 130 (fun _ => 0), xO 4 [.null, .int 0, .int 0]]) (xm_is none (hz L xs ++ [xO 0 [.ref 33, .null, .null, .null, .null, .null], xO 1 [.ref 34, .int 0], xI 0 501 (fun _ => 0), xO 2 [.ref 36, .ref 37, .int 0, .int 0, .int 0, .int 0], xV 3 8 (updV (updV (updV (updV (updV (fun _ => .null) 0 (.ref 39)) 1 (.ref 41)) 2 (.ref 43)) 3 (.ref 45)) 4 (.ref 47)), xO 3 [.ref 38, .int 0], xI 0 120 (fun _ => 0), xO 4 [.ref 40, .int 0, .int 0], xI 0 130 (fun _ => 0), xO 4 [.ref 42, .int 0, .int 0], xI 0 130 (fun _ => 0), xO 4 [.ref 44, .int 0, .int 0], xI 0 130 (fun _ => 0), xO 4 [.ref 46, .int 0, .int 0], xI 0 130 (fun _ => 0), xO 4 [.ref 48, .int 0, .int 0], xI 0 130 (fun _ => 0), xO 4 [.ref 50, .int 0, .int 0], xI 0 130 (fun _ => 0)])) := by
  refine XE (pl := [some (.ref 49)]) xg4 rfl ?_
  refine x_step rfl ?_
  refine x_objInit rfl (by omega) (Nat.le_of_ble_eq_true rfl) ?_
  refine x_step rfl ?_
  refine x_step rfl ?_
  refine x_newaI (a := 50) (N := 130) rfl rfl (by decide) rfl (by decide) rfl (by omega) (by omega) ?_
  refine x_step rfl ?_
  refine xm_hs (hp' := hz L xs ++ [xO 0 [.ref 33, .null, .null, .null, .null, .null], xO 1 [.ref 34, .int 0], xI 0 501 (fun _ => 0), xO 2 [.ref 36, .ref 37, .int 0, .int 0, .int 0, .int 0], xV 3 8 (updV (updV (updV (updV (updV (fun _ => .null) 0 (.ref 39)) 1 (.ref 41)) 2 (.ref 43)) 3 (.ref 45)) 4 (.ref 47)), xO 3 [.ref 38, .int 0], xI 0 120 (fun _ => 0), xO 4 [.ref 40, .int 0, .int 0], xI 0 130 (fun _ => 0), xO 4 [.ref 42, .int 0, .int 0], xI 0 130 (fun _ => 0), xO 4 [.ref 44, .int 0, .int 0], xI 0 130 (fun _ => 0), xO 4 [.ref 46, .int 0, .int 0], xI 0 130 (fun _ => 0), xO 4 [.ref 48, .int 0, .int 0], xI 0 130 (fun _ => 0), xO 4 [.ref 50, .int 0, .int 0], xI 0 130 (fun _ => 0)]) rfl ?_
  exact x_ret rfl rfl ⟨rfl, rfl⟩
set_option maxRecDepth 10000 in
/-- FabLink$Message.<init> -/
theorem ct8 : XM l 4 1 1 130 [.ref 51] (hz L xs ++ [xO 0 [.ref 33, .null, .null, .null, .null, .null], xO 1 [.ref 34, .int 0], xI 0 501 (fun _ => 0), xO 2 [.ref 36, .ref 37, .int 0, .int 0, .int 0, .int 0], xV 3 8 (updV (updV (updV (updV (updV (updV (fun _ => .null) 0 (.ref 39)) 1 (.ref 41)) 2 (.ref 43)) 3 (.ref 45)) 4 (.ref 47)) 5 (.ref 49)), xO 3 [.ref 38, .int 0], xI 0 120 (fun _ => 0), xO 4 [.ref 40, .int 0, .int 0], xI 0 130 (fun _ => 0), xO 4 [.ref 42, .int 0, .int 0], xI 0 130 (fun _ => 0), xO 4 [.ref 44, .int 0, .int 0], xI 0 130 (fun _ => 0), xO 4 [.ref 46, .int 0, .int 0], xI 0 130 (fun _ => 0), xO 4 [.ref 48, .int 0, .int 0], xI 0 130 (fun _ => 0), xO 4 [.ref 50, .int 0, .int 0], xI 0 130 (fun _ => 0), xO 4 [.null, .int 0, .int 0]]) (xm_is none (hz L xs ++ [xO 0 [.ref 33, .null, .null, .null, .null, .null], xO 1 [.ref 34, .int 0], xI 0 501 (fun _ => 0), xO 2 [.ref 36, .ref 37, .int 0, .int 0, .int 0, .int 0], xV 3 8 (updV (updV (updV (updV (updV (updV (fun _ => .null) 0 (.ref 39)) 1 (.ref 41)) 2 (.ref 43)) 3 (.ref 45)) 4 (.ref 47)) 5 (.ref 49)), xO 3 [.ref 38, .int 0], xI 0 120 (fun _ => 0), xO 4 [.ref 40, .int 0, .int 0], xI 0 130 (fun _ => 0), xO 4 [.ref 42, .int 0, .int 0], xI 0 130 (fun _ => 0), xO 4 [.ref 44, .int 0, .int 0], xI 0 130 (fun _ => 0), xO 4 [.ref 46, .int 0, .int 0], xI 0 130 (fun _ => 0), xO 4 [.ref 48, .int 0, .int 0], xI 0 130 (fun _ => 0), xO 4 [.ref 50, .int 0, .int 0], xI 0 130 (fun _ => 0), xO 4 [.ref 52, .int 0, .int 0], xI 0 130 (fun _ => 0)])) := by
  refine XE (pl := [some (.ref 51)]) xg4 rfl ?_
  refine x_step rfl ?_
  refine x_objInit rfl (by omega) (Nat.le_of_ble_eq_true rfl) ?_
  refine x_step rfl ?_
  refine x_step rfl ?_
  refine x_newaI (a := 52) (N := 130) rfl rfl (by decide) rfl (by decide) rfl (by omega) (by omega) ?_
  refine x_step rfl ?_
  refine xm_hs (hp' := hz L xs ++ [xO 0 [.ref 33, .null, .null, .null, .null, .null], xO 1 [.ref 34, .int 0], xI 0 501 (fun _ => 0), xO 2 [.ref 36, .ref 37, .int 0, .int 0, .int 0, .int 0], xV 3 8 (updV (updV (updV (updV (updV (updV (fun _ => .null) 0 (.ref 39)) 1 (.ref 41)) 2 (.ref 43)) 3 (.ref 45)) 4 (.ref 47)) 5 (.ref 49)), xO 3 [.ref 38, .int 0], xI 0 120 (fun _ => 0), xO 4 [.ref 40, .int 0, .int 0], xI 0 130 (fun _ => 0), xO 4 [.ref 42, .int 0, .int 0], xI 0 130 (fun _ => 0), xO 4 [.ref 44, .int 0, .int 0], xI 0 130 (fun _ => 0), xO 4 [.ref 46, .int 0, .int 0], xI 0 130 (fun _ => 0), xO 4 [.ref 48, .int 0, .int 0], xI 0 130 (fun _ => 0), xO 4 [.ref 50, .int 0, .int 0], xI 0 130 (fun _ => 0), xO 4 [.ref 52, .int 0, .int 0], xI 0 130 (fun _ => 0)]) rfl ?_
  exact x_ret rfl rfl ⟨rfl, rfl⟩
set_option maxRecDepth 10000 in
/-- FabLink$Message.<init> -/
theorem ct9 : XM l 4 1 1 130 [.ref 53] (hz L xs ++ [xO 0 [.ref 33, .null, .null, .null, .null, .null], xO 1 [.ref 34, .int 0], xI 0 501 (fun _ => 0), xO 2 [.ref 36, .ref 37, .int 0, .int 0, .int 0, .int 0], xV 3 8 (updV (updV (updV (updV (updV (updV (updV (fun _ => .null) 0 (.ref 39)) 1 (.ref 41)) 2 (.ref 43)) 3 (.ref 45)) 4 (.ref 47)) 5 (.ref 49)) 6 (.ref 51)), xO 3 [.ref 38, .int 0], xI 0 120 (fun _ => 0), xO 4 [.ref 40, .int 0, .int 0], xI 0 130 (fun _ => 0), xO 4 [.ref 42, .int 0, .int 0], xI 0 130 (fun _ => 0), xO 4 [.ref 44, .int 0, .int 0], xI 0 130 (fun _ => 0), xO 4 [.ref 46, .int 0, .int 0], xI 0 130 (fun _ => 0), xO 4 [.ref 48, .int 0, .int 0], xI 0 130 (fun _ => 0), xO 4 [.ref 50, .int 0, .int 0], xI 0 130 (fun _ => 0), xO 4 [.ref 52, .int 0, .int 0], xI 0 130 (fun _ => 0), xO 4 [.null, .int 0, .int 0]]) (xm_is none (hz L xs ++ [xO 0 [.ref 33, .null, .null, .null, .null, .null], xO 1 [.ref 34, .int 0], xI 0 501 (fun _ => 0), xO 2 [.ref 36, .ref 37, .int 0, .int 0, .int 0, .int 0], xV 3 8 (updV (updV (updV (updV (updV (updV (updV (fun _ => .null) 0 (.ref 39)) 1 (.ref 41)) 2 (.ref 43)) 3 (.ref 45)) 4 (.ref 47)) 5 (.ref 49)) 6 (.ref 51)), xO 3 [.ref 38, .int 0], xI 0 120 (fun _ => 0), xO 4 [.ref 40, .int 0, .int 0], xI 0 130 (fun _ => 0), xO 4 [.ref 42, .int 0, .int 0], xI 0 130 (fun _ => 0), xO 4 [.ref 44, .int 0, .int 0], xI 0 130 (fun _ => 0), xO 4 [.ref 46, .int 0, .int 0], xI 0 130 (fun _ => 0), xO 4 [.ref 48, .int 0, .int 0], xI 0 130 (fun _ => 0), xO 4 [.ref 50, .int 0, .int 0], xI 0 130 (fun _ => 0), xO 4 [.ref 52, .int 0, .int 0], xI 0 130 (fun _ => 0), xO 4 [.ref 54, .int 0, .int 0], xI 0 130 (fun _ => 0)])) := by
  refine XE (pl := [some (.ref 53)]) xg4 rfl ?_
  refine x_step rfl ?_
  refine x_objInit rfl (by omega) (Nat.le_of_ble_eq_true rfl) ?_
  refine x_step rfl ?_
  refine x_step rfl ?_
  refine x_newaI (a := 54) (N := 130) rfl rfl (by decide) rfl (by decide) rfl (by omega) (by omega) ?_
  refine x_step rfl ?_
  refine xm_hs (hp' := hz L xs ++ [xO 0 [.ref 33, .null, .null, .null, .null, .null], xO 1 [.ref 34, .int 0], xI 0 501 (fun _ => 0), xO 2 [.ref 36, .ref 37, .int 0, .int 0, .int 0, .int 0], xV 3 8 (updV (updV (updV (updV (updV (updV (updV (fun _ => .null) 0 (.ref 39)) 1 (.ref 41)) 2 (.ref 43)) 3 (.ref 45)) 4 (.ref 47)) 5 (.ref 49)) 6 (.ref 51)), xO 3 [.ref 38, .int 0], xI 0 120 (fun _ => 0), xO 4 [.ref 40, .int 0, .int 0], xI 0 130 (fun _ => 0), xO 4 [.ref 42, .int 0, .int 0], xI 0 130 (fun _ => 0), xO 4 [.ref 44, .int 0, .int 0], xI 0 130 (fun _ => 0), xO 4 [.ref 46, .int 0, .int 0], xI 0 130 (fun _ => 0), xO 4 [.ref 48, .int 0, .int 0], xI 0 130 (fun _ => 0), xO 4 [.ref 50, .int 0, .int 0], xI 0 130 (fun _ => 0), xO 4 [.ref 52, .int 0, .int 0], xI 0 130 (fun _ => 0), xO 4 [.ref 54, .int 0, .int 0], xI 0 130 (fun _ => 0)]) rfl ?_
  exact x_ret rfl rfl ⟨rfl, rfl⟩
set_option maxRecDepth 10000 in
/-- FabLink$Outbox.<init> -/
theorem ct10 : XM l 2 2 19 1194 [.ref 35] (hz L xs ++ [xO 0 [.ref 33, .null, .null, .null, .null, .null], xO 1 [.ref 34, .int 0], xI 0 501 (fun _ => 0), xO 2 [.null, .null, .int 0, .int 0, .int 0, .int 0]]) (xm_is none (hz L xs ++ [xO 0 [.ref 33, .null, .null, .null, .null, .null], xO 1 [.ref 34, .int 0], xI 0 501 (fun _ => 0), xO 2 [.ref 36, .ref 37, .int 0, .int 0, .int 0, .int 0], xV 3 8 (updV (updV (updV (updV (updV (updV (updV (updV (fun _ => .null) 0 (.ref 39)) 1 (.ref 41)) 2 (.ref 43)) 3 (.ref 45)) 4 (.ref 47)) 5 (.ref 49)) 6 (.ref 51)) 7 (.ref 53)), xO 3 [.ref 38, .int 0], xI 0 120 (fun _ => 0), xO 4 [.ref 40, .int 0, .int 0], xI 0 130 (fun _ => 0), xO 4 [.ref 42, .int 0, .int 0], xI 0 130 (fun _ => 0), xO 4 [.ref 44, .int 0, .int 0], xI 0 130 (fun _ => 0), xO 4 [.ref 46, .int 0, .int 0], xI 0 130 (fun _ => 0), xO 4 [.ref 48, .int 0, .int 0], xI 0 130 (fun _ => 0), xO 4 [.ref 50, .int 0, .int 0], xI 0 130 (fun _ => 0), xO 4 [.ref 52, .int 0, .int 0], xI 0 130 (fun _ => 0), xO 4 [.ref 54, .int 0, .int 0], xI 0 130 (fun _ => 0)])) := by
  refine XE (pl := [some (.ref 35), none]) xg2 rfl ?_
  refine x_step rfl ?_
  refine x_objInit rfl (by omega) (Nat.le_of_ble_eq_true rfl) ?_
  refine x_step rfl ?_
  refine x_step rfl ?_
  refine x_anew (a := 36) (N := 8) rfl rfl (by decide) rfl (by decide) rfl (by omega) (by omega) ?_
  refine x_step rfl ?_
  refine xm_hs (hp' := hz L xs ++ [xO 0 [.ref 33, .null, .null, .null, .null, .null], xO 1 [.ref 34, .int 0], xI 0 501 (fun _ => 0), xO 2 [.ref 36, .null, .int 0, .int 0, .int 0, .int 0], xV 3 8 (fun _ => .null)]) rfl ?_
  refine x_step rfl ?_
  refine x_new (a := 37) rfl rfl rfl rfl (by omega) (by omega) ?_
  refine x_step rfl ?_
  refine xm_hs (hp' := hz L xs ++ [xO 0 [.ref 33, .null, .null, .null, .null, .null], xO 1 [.ref 34, .int 0], xI 0 501 (fun _ => 0), xO 2 [.ref 36, .null, .int 0, .int 0, .int 0, .int 0], xV 3 8 (fun _ => .null), xO 3 [.null, .int 0]]) rfl ?_
  refine x_calliE rfl ct1 rfl rfl ?_
  refine x_step rfl ?_
  refine xm_hs (hp' := hz L xs ++ [xO 0 [.ref 33, .null, .null, .null, .null, .null], xO 1 [.ref 34, .int 0], xI 0 501 (fun _ => 0), xO 2 [.ref 36, .ref 37, .int 0, .int 0, .int 0, .int 0], xV 3 8 (fun _ => .null), xO 3 [.ref 38, .int 0], xI 0 120 (fun _ => 0)]) rfl ?_
  refine x_step rfl ?_
  refine x_step rfl ?_
  refine x_step rfl ?_
  refine x_step rfl ?_
  refine x_icmp_ge rfl (fun h => absurd h (by decide)) (fun _ => ?_)
  refine x_step rfl ?_
  refine x_step rfl ?_
  refine x_step rfl ?_
  refine x_new (a := 39) rfl rfl rfl rfl (by omega) (by omega) ?_
  refine x_step rfl ?_
  refine xm_hs (hp' := hz L xs ++ [xO 0 [.ref 33, .null, .null, .null, .null, .null], xO 1 [.ref 34, .int 0], xI 0 501 (fun _ => 0), xO 2 [.ref 36, .ref 37, .int 0, .int 0, .int 0, .int 0], xV 3 8 (fun _ => .null), xO 3 [.ref 38, .int 0], xI 0 120 (fun _ => 0), xO 4 [.null, .int 0, .int 0]]) rfl ?_
  refine x_calliE rfl ct2 rfl rfl ?_
  refine x_aast rfl rfl (by decide) (by decide) rfl (by decide) (Or.inl ⟨_, _, rfl, rfl⟩) (by unfold vp_in; decide) ?_
  refine xm_hs (hp' := hz L xs ++ [xO 0 [.ref 33, .null, .null, .null, .null, .null], xO 1 [.ref 34, .int 0], xI 0 501 (fun _ => 0), xO 2 [.ref 36, .ref 37, .int 0, .int 0, .int 0, .int 0], xV 3 8 (updV (fun _ => .null) 0 (.ref 39)), xO 3 [.ref 38, .int 0], xI 0 120 (fun _ => 0), xO 4 [.ref 40, .int 0, .int 0], xI 0 130 (fun _ => 0)]) rfl ?_
  refine x_step rfl ?_
  refine xm_ls (pl' := [some (.ref 35), some (.int 1)]) rfl ?_
  refine x_step rfl ?_
  refine x_step rfl ?_
  refine x_step rfl ?_
  refine x_icmp_ge rfl (fun h => absurd h (by decide)) (fun _ => ?_)
  refine x_step rfl ?_
  refine x_step rfl ?_
  refine x_step rfl ?_
  refine x_new (a := 41) rfl rfl rfl rfl (by omega) (by omega) ?_
  refine x_step rfl ?_
  refine xm_hs (hp' := hz L xs ++ [xO 0 [.ref 33, .null, .null, .null, .null, .null], xO 1 [.ref 34, .int 0], xI 0 501 (fun _ => 0), xO 2 [.ref 36, .ref 37, .int 0, .int 0, .int 0, .int 0], xV 3 8 (updV (fun _ => .null) 0 (.ref 39)), xO 3 [.ref 38, .int 0], xI 0 120 (fun _ => 0), xO 4 [.ref 40, .int 0, .int 0], xI 0 130 (fun _ => 0), xO 4 [.null, .int 0, .int 0]]) rfl ?_
  refine x_calliE rfl ct3 rfl rfl ?_
  refine x_aast rfl rfl (by decide) (by decide) rfl (by decide) (Or.inl ⟨_, _, rfl, rfl⟩) (by unfold vp_in; decide) ?_
  refine xm_hs (hp' := hz L xs ++ [xO 0 [.ref 33, .null, .null, .null, .null, .null], xO 1 [.ref 34, .int 0], xI 0 501 (fun _ => 0), xO 2 [.ref 36, .ref 37, .int 0, .int 0, .int 0, .int 0], xV 3 8 (updV (updV (fun _ => .null) 0 (.ref 39)) 1 (.ref 41)), xO 3 [.ref 38, .int 0], xI 0 120 (fun _ => 0), xO 4 [.ref 40, .int 0, .int 0], xI 0 130 (fun _ => 0), xO 4 [.ref 42, .int 0, .int 0], xI 0 130 (fun _ => 0)]) rfl ?_
  refine x_step rfl ?_
  refine xm_ls (pl' := [some (.ref 35), some (.int 2)]) rfl ?_
  refine x_step rfl ?_
  refine x_step rfl ?_
  refine x_step rfl ?_
  refine x_icmp_ge rfl (fun h => absurd h (by decide)) (fun _ => ?_)
  refine x_step rfl ?_
  refine x_step rfl ?_
  refine x_step rfl ?_
  refine x_new (a := 43) rfl rfl rfl rfl (by omega) (by omega) ?_
  refine x_step rfl ?_
  refine xm_hs (hp' := hz L xs ++ [xO 0 [.ref 33, .null, .null, .null, .null, .null], xO 1 [.ref 34, .int 0], xI 0 501 (fun _ => 0), xO 2 [.ref 36, .ref 37, .int 0, .int 0, .int 0, .int 0], xV 3 8 (updV (updV (fun _ => .null) 0 (.ref 39)) 1 (.ref 41)), xO 3 [.ref 38, .int 0], xI 0 120 (fun _ => 0), xO 4 [.ref 40, .int 0, .int 0], xI 0 130 (fun _ => 0), xO 4 [.ref 42, .int 0, .int 0], xI 0 130 (fun _ => 0), xO 4 [.null, .int 0, .int 0]]) rfl ?_
  refine x_calliE rfl ct4 rfl rfl ?_
  refine x_aast rfl rfl (by decide) (by decide) rfl (by decide) (Or.inl ⟨_, _, rfl, rfl⟩) (by unfold vp_in; decide) ?_
  refine xm_hs (hp' := hz L xs ++ [xO 0 [.ref 33, .null, .null, .null, .null, .null], xO 1 [.ref 34, .int 0], xI 0 501 (fun _ => 0), xO 2 [.ref 36, .ref 37, .int 0, .int 0, .int 0, .int 0], xV 3 8 (updV (updV (updV (fun _ => .null) 0 (.ref 39)) 1 (.ref 41)) 2 (.ref 43)), xO 3 [.ref 38, .int 0], xI 0 120 (fun _ => 0), xO 4 [.ref 40, .int 0, .int 0], xI 0 130 (fun _ => 0), xO 4 [.ref 42, .int 0, .int 0], xI 0 130 (fun _ => 0), xO 4 [.ref 44, .int 0, .int 0], xI 0 130 (fun _ => 0)]) rfl ?_
  refine x_step rfl ?_
  refine xm_ls (pl' := [some (.ref 35), some (.int 3)]) rfl ?_
  refine x_step rfl ?_
  refine x_step rfl ?_
  refine x_step rfl ?_
  refine x_icmp_ge rfl (fun h => absurd h (by decide)) (fun _ => ?_)
  refine x_step rfl ?_
  refine x_step rfl ?_
  refine x_step rfl ?_
  refine x_new (a := 45) rfl rfl rfl rfl (by omega) (by omega) ?_
  refine x_step rfl ?_
  refine xm_hs (hp' := hz L xs ++ [xO 0 [.ref 33, .null, .null, .null, .null, .null], xO 1 [.ref 34, .int 0], xI 0 501 (fun _ => 0), xO 2 [.ref 36, .ref 37, .int 0, .int 0, .int 0, .int 0], xV 3 8 (updV (updV (updV (fun _ => .null) 0 (.ref 39)) 1 (.ref 41)) 2 (.ref 43)), xO 3 [.ref 38, .int 0], xI 0 120 (fun _ => 0), xO 4 [.ref 40, .int 0, .int 0], xI 0 130 (fun _ => 0), xO 4 [.ref 42, .int 0, .int 0], xI 0 130 (fun _ => 0), xO 4 [.ref 44, .int 0, .int 0], xI 0 130 (fun _ => 0), xO 4 [.null, .int 0, .int 0]]) rfl ?_
  refine x_calliE rfl ct5 rfl rfl ?_
  refine x_aast rfl rfl (by decide) (by decide) rfl (by decide) (Or.inl ⟨_, _, rfl, rfl⟩) (by unfold vp_in; decide) ?_
  refine xm_hs (hp' := hz L xs ++ [xO 0 [.ref 33, .null, .null, .null, .null, .null], xO 1 [.ref 34, .int 0], xI 0 501 (fun _ => 0), xO 2 [.ref 36, .ref 37, .int 0, .int 0, .int 0, .int 0], xV 3 8 (updV (updV (updV (updV (fun _ => .null) 0 (.ref 39)) 1 (.ref 41)) 2 (.ref 43)) 3 (.ref 45)), xO 3 [.ref 38, .int 0], xI 0 120 (fun _ => 0), xO 4 [.ref 40, .int 0, .int 0], xI 0 130 (fun _ => 0), xO 4 [.ref 42, .int 0, .int 0], xI 0 130 (fun _ => 0), xO 4 [.ref 44, .int 0, .int 0], xI 0 130 (fun _ => 0), xO 4 [.ref 46, .int 0, .int 0], xI 0 130 (fun _ => 0)]) rfl ?_
  refine x_step rfl ?_
  refine xm_ls (pl' := [some (.ref 35), some (.int 4)]) rfl ?_
  refine x_step rfl ?_
  refine x_step rfl ?_
  refine x_step rfl ?_
  refine x_icmp_ge rfl (fun h => absurd h (by decide)) (fun _ => ?_)
  refine x_step rfl ?_
  refine x_step rfl ?_
  refine x_step rfl ?_
  refine x_new (a := 47) rfl rfl rfl rfl (by omega) (by omega) ?_
  refine x_step rfl ?_
  refine xm_hs (hp' := hz L xs ++ [xO 0 [.ref 33, .null, .null, .null, .null, .null], xO 1 [.ref 34, .int 0], xI 0 501 (fun _ => 0), xO 2 [.ref 36, .ref 37, .int 0, .int 0, .int 0, .int 0], xV 3 8 (updV (updV (updV (updV (fun _ => .null) 0 (.ref 39)) 1 (.ref 41)) 2 (.ref 43)) 3 (.ref 45)), xO 3 [.ref 38, .int 0], xI 0 120 (fun _ => 0), xO 4 [.ref 40, .int 0, .int 0], xI 0 130 (fun _ => 0), xO 4 [.ref 42, .int 0, .int 0], xI 0 130 (fun _ => 0), xO 4 [.ref 44, .int 0, .int 0], xI 0 130 (fun _ => 0), xO 4 [.ref 46, .int 0, .int 0], xI 0 130 (fun _ => 0), xO 4 [.null, .int 0, .int 0]]) rfl ?_
  refine x_calliE rfl ct6 rfl rfl ?_
  refine x_aast rfl rfl (by decide) (by decide) rfl (by decide) (Or.inl ⟨_, _, rfl, rfl⟩) (by unfold vp_in; decide) ?_
  refine xm_hs (hp' := hz L xs ++ [xO 0 [.ref 33, .null, .null, .null, .null, .null], xO 1 [.ref 34, .int 0], xI 0 501 (fun _ => 0), xO 2 [.ref 36, .ref 37, .int 0, .int 0, .int 0, .int 0], xV 3 8 (updV (updV (updV (updV (updV (fun _ => .null) 0 (.ref 39)) 1 (.ref 41)) 2 (.ref 43)) 3 (.ref 45)) 4 (.ref 47)), xO 3 [.ref 38, .int 0], xI 0 120 (fun _ => 0), xO 4 [.ref 40, .int 0, .int 0], xI 0 130 (fun _ => 0), xO 4 [.ref 42, .int 0, .int 0], xI 0 130 (fun _ => 0), xO 4 [.ref 44, .int 0, .int 0], xI 0 130 (fun _ => 0), xO 4 [.ref 46, .int 0, .int 0], xI 0 130 (fun _ => 0), xO 4 [.ref 48, .int 0, .int 0], xI 0 130 (fun _ => 0)]) rfl ?_
  refine x_step rfl ?_
  refine xm_ls (pl' := [some (.ref 35), some (.int 5)]) rfl ?_
  refine x_step rfl ?_
  refine x_step rfl ?_
  refine x_step rfl ?_
  refine x_icmp_ge rfl (fun h => absurd h (by decide)) (fun _ => ?_)
  refine x_step rfl ?_
  refine x_step rfl ?_
  refine x_step rfl ?_
  refine x_new (a := 49) rfl rfl rfl rfl (by omega) (by omega) ?_
  refine x_step rfl ?_
  refine xm_hs (hp' := hz L xs ++ [xO 0 [.ref 33, .null, .null, .null, .null, .null], xO 1 [.ref 34, .int 0], xI 0 501 (fun _ => 0), xO 2 [.ref 36, .ref 37, .int 0, .int 0, .int 0, .int 0], xV 3 8 (updV (updV (updV (updV (updV (fun _ => .null) 0 (.ref 39)) 1 (.ref 41)) 2 (.ref 43)) 3 (.ref 45)) 4 (.ref 47)), xO 3 [.ref 38, .int 0], xI 0 120 (fun _ => 0), xO 4 [.ref 40, .int 0, .int 0], xI 0 130 (fun _ => 0), xO 4 [.ref 42, .int 0, .int 0], xI 0 130 (fun _ => 0), xO 4 [.ref 44, .int 0, .int 0], xI 0 130 (fun _ => 0), xO 4 [.ref 46, .int 0, .int 0], xI 0 130 (fun _ => 0), xO 4 [.ref 48, .int 0, .int 0], xI 0 130 (fun _ => 0), xO 4 [.null, .int 0, .int 0]]) rfl ?_
  refine x_calliE rfl ct7 rfl rfl ?_
  refine x_aast rfl rfl (by decide) (by decide) rfl (by decide) (Or.inl ⟨_, _, rfl, rfl⟩) (by unfold vp_in; decide) ?_
  refine xm_hs (hp' := hz L xs ++ [xO 0 [.ref 33, .null, .null, .null, .null, .null], xO 1 [.ref 34, .int 0], xI 0 501 (fun _ => 0), xO 2 [.ref 36, .ref 37, .int 0, .int 0, .int 0, .int 0], xV 3 8 (updV (updV (updV (updV (updV (updV (fun _ => .null) 0 (.ref 39)) 1 (.ref 41)) 2 (.ref 43)) 3 (.ref 45)) 4 (.ref 47)) 5 (.ref 49)), xO 3 [.ref 38, .int 0], xI 0 120 (fun _ => 0), xO 4 [.ref 40, .int 0, .int 0], xI 0 130 (fun _ => 0), xO 4 [.ref 42, .int 0, .int 0], xI 0 130 (fun _ => 0), xO 4 [.ref 44, .int 0, .int 0], xI 0 130 (fun _ => 0), xO 4 [.ref 46, .int 0, .int 0], xI 0 130 (fun _ => 0), xO 4 [.ref 48, .int 0, .int 0], xI 0 130 (fun _ => 0), xO 4 [.ref 50, .int 0, .int 0], xI 0 130 (fun _ => 0)]) rfl ?_
  refine x_step rfl ?_
  refine xm_ls (pl' := [some (.ref 35), some (.int 6)]) rfl ?_
  refine x_step rfl ?_
  refine x_step rfl ?_
  refine x_step rfl ?_
  refine x_icmp_ge rfl (fun h => absurd h (by decide)) (fun _ => ?_)
  refine x_step rfl ?_
  refine x_step rfl ?_
  refine x_step rfl ?_
  refine x_new (a := 51) rfl rfl rfl rfl (by omega) (by omega) ?_
  refine x_step rfl ?_
  refine xm_hs (hp' := hz L xs ++ [xO 0 [.ref 33, .null, .null, .null, .null, .null], xO 1 [.ref 34, .int 0], xI 0 501 (fun _ => 0), xO 2 [.ref 36, .ref 37, .int 0, .int 0, .int 0, .int 0], xV 3 8 (updV (updV (updV (updV (updV (updV (fun _ => .null) 0 (.ref 39)) 1 (.ref 41)) 2 (.ref 43)) 3 (.ref 45)) 4 (.ref 47)) 5 (.ref 49)), xO 3 [.ref 38, .int 0], xI 0 120 (fun _ => 0), xO 4 [.ref 40, .int 0, .int 0], xI 0 130 (fun _ => 0), xO 4 [.ref 42, .int 0, .int 0], xI 0 130 (fun _ => 0), xO 4 [.ref 44, .int 0, .int 0], xI 0 130 (fun _ => 0), xO 4 [.ref 46, .int 0, .int 0], xI 0 130 (fun _ => 0), xO 4 [.ref 48, .int 0, .int 0], xI 0 130 (fun _ => 0), xO 4 [.ref 50, .int 0, .int 0], xI 0 130 (fun _ => 0), xO 4 [.null, .int 0, .int 0]]) rfl ?_
  refine x_calliE rfl ct8 rfl rfl ?_
  refine x_aast rfl rfl (by decide) (by decide) rfl (by decide) (Or.inl ⟨_, _, rfl, rfl⟩) (by unfold vp_in; decide) ?_
  refine xm_hs (hp' := hz L xs ++ [xO 0 [.ref 33, .null, .null, .null, .null, .null], xO 1 [.ref 34, .int 0], xI 0 501 (fun _ => 0), xO 2 [.ref 36, .ref 37, .int 0, .int 0, .int 0, .int 0], xV 3 8 (updV (updV (updV (updV (updV (updV (updV (fun _ => .null) 0 (.ref 39)) 1 (.ref 41)) 2 (.ref 43)) 3 (.ref 45)) 4 (.ref 47)) 5 (.ref 49)) 6 (.ref 51)), xO 3 [.ref 38, .int 0], xI 0 120 (fun _ => 0), xO 4 [.ref 40, .int 0, .int 0], xI 0 130 (fun _ => 0), xO 4 [.ref 42, .int 0, .int 0], xI 0 130 (fun _ => 0), xO 4 [.ref 44, .int 0, .int 0], xI 0 130 (fun _ => 0), xO 4 [.ref 46, .int 0, .int 0], xI 0 130 (fun _ => 0), xO 4 [.ref 48, .int 0, .int 0], xI 0 130 (fun _ => 0), xO 4 [.ref 50, .int 0, .int 0], xI 0 130 (fun _ => 0), xO 4 [.ref 52, .int 0, .int 0], xI 0 130 (fun _ => 0)]) rfl ?_
  refine x_step rfl ?_
  refine xm_ls (pl' := [some (.ref 35), some (.int 7)]) rfl ?_
  refine x_step rfl ?_
  refine x_step rfl ?_
  refine x_step rfl ?_
  refine x_icmp_ge rfl (fun h => absurd h (by decide)) (fun _ => ?_)
  refine x_step rfl ?_
  refine x_step rfl ?_
  refine x_step rfl ?_
  refine x_new (a := 53) rfl rfl rfl rfl (by omega) (by omega) ?_
  refine x_step rfl ?_
  refine xm_hs (hp' := hz L xs ++ [xO 0 [.ref 33, .null, .null, .null, .null, .null], xO 1 [.ref 34, .int 0], xI 0 501 (fun _ => 0), xO 2 [.ref 36, .ref 37, .int 0, .int 0, .int 0, .int 0], xV 3 8 (updV (updV (updV (updV (updV (updV (updV (fun _ => .null) 0 (.ref 39)) 1 (.ref 41)) 2 (.ref 43)) 3 (.ref 45)) 4 (.ref 47)) 5 (.ref 49)) 6 (.ref 51)), xO 3 [.ref 38, .int 0], xI 0 120 (fun _ => 0), xO 4 [.ref 40, .int 0, .int 0], xI 0 130 (fun _ => 0), xO 4 [.ref 42, .int 0, .int 0], xI 0 130 (fun _ => 0), xO 4 [.ref 44, .int 0, .int 0], xI 0 130 (fun _ => 0), xO 4 [.ref 46, .int 0, .int 0], xI 0 130 (fun _ => 0), xO 4 [.ref 48, .int 0, .int 0], xI 0 130 (fun _ => 0), xO 4 [.ref 50, .int 0, .int 0], xI 0 130 (fun _ => 0), xO 4 [.ref 52, .int 0, .int 0], xI 0 130 (fun _ => 0), xO 4 [.null, .int 0, .int 0]]) rfl ?_
  refine x_calliE rfl ct9 rfl rfl ?_
  refine x_aast rfl rfl (by decide) (by decide) rfl (by decide) (Or.inl ⟨_, _, rfl, rfl⟩) (by unfold vp_in; decide) ?_
  refine xm_hs (hp' := hz L xs ++ [xO 0 [.ref 33, .null, .null, .null, .null, .null], xO 1 [.ref 34, .int 0], xI 0 501 (fun _ => 0), xO 2 [.ref 36, .ref 37, .int 0, .int 0, .int 0, .int 0], xV 3 8 (updV (updV (updV (updV (updV (updV (updV (updV (fun _ => .null) 0 (.ref 39)) 1 (.ref 41)) 2 (.ref 43)) 3 (.ref 45)) 4 (.ref 47)) 5 (.ref 49)) 6 (.ref 51)) 7 (.ref 53)), xO 3 [.ref 38, .int 0], xI 0 120 (fun _ => 0), xO 4 [.ref 40, .int 0, .int 0], xI 0 130 (fun _ => 0), xO 4 [.ref 42, .int 0, .int 0], xI 0 130 (fun _ => 0), xO 4 [.ref 44, .int 0, .int 0], xI 0 130 (fun _ => 0), xO 4 [.ref 46, .int 0, .int 0], xI 0 130 (fun _ => 0), xO 4 [.ref 48, .int 0, .int 0], xI 0 130 (fun _ => 0), xO 4 [.ref 50, .int 0, .int 0], xI 0 130 (fun _ => 0), xO 4 [.ref 52, .int 0, .int 0], xI 0 130 (fun _ => 0), xO 4 [.ref 54, .int 0, .int 0], xI 0 130 (fun _ => 0)]) rfl ?_
  refine x_step rfl ?_
  refine xm_ls (pl' := [some (.ref 35), some (.int 8)]) rfl ?_
  refine x_step rfl ?_
  refine x_step rfl ?_
  refine x_step rfl ?_
  refine x_icmp_ge rfl (fun _ => ?_) (fun h => absurd (by decide) h)
  exact x_ret rfl rfl ⟨rfl, rfl⟩
set_option maxRecDepth 10000 in
/-- FabLink$Talks.<init> -/
theorem ct11 : XM l 5 2 10 96 [.ref 55] (hz L xs ++ [xO 0 [.ref 33, .ref 35, .null, .null, .null, .null], xO 1 [.ref 34, .int 0], xI 0 501 (fun _ => 0), xO 2 [.ref 36, .ref 37, .int 0, .int 0, .int 0, .int 0], xV 3 8 (updV (updV (updV (updV (updV (updV (updV (updV (fun _ => .null) 0 (.ref 39)) 1 (.ref 41)) 2 (.ref 43)) 3 (.ref 45)) 4 (.ref 47)) 5 (.ref 49)) 6 (.ref 51)) 7 (.ref 53)), xO 3 [.ref 38, .int 0], xI 0 120 (fun _ => 0), xO 4 [.ref 40, .int 0, .int 0], xI 0 130 (fun _ => 0), xO 4 [.ref 42, .int 0, .int 0], xI 0 130 (fun _ => 0), xO 4 [.ref 44, .int 0, .int 0], xI 0 130 (fun _ => 0), xO 4 [.ref 46, .int 0, .int 0], xI 0 130 (fun _ => 0), xO 4 [.ref 48, .int 0, .int 0], xI 0 130 (fun _ => 0), xO 4 [.ref 50, .int 0, .int 0], xI 0 130 (fun _ => 0), xO 4 [.ref 52, .int 0, .int 0], xI 0 130 (fun _ => 0), xO 4 [.ref 54, .int 0, .int 0], xI 0 130 (fun _ => 0), xO 5 [.null, .null, .int 0]]) (xm_is none (hz L xs ++ [xO 0 [.ref 33, .ref 35, .null, .null, .null, .null], xO 1 [.ref 34, .int 0], xI 0 501 (fun _ => 0), xO 2 [.ref 36, .ref 37, .int 0, .int 0, .int 0, .int 0], xV 3 8 (updV (updV (updV (updV (updV (updV (updV (updV (fun _ => .null) 0 (.ref 39)) 1 (.ref 41)) 2 (.ref 43)) 3 (.ref 45)) 4 (.ref 47)) 5 (.ref 49)) 6 (.ref 51)) 7 (.ref 53)), xO 3 [.ref 38, .int 0], xI 0 120 (fun _ => 0), xO 4 [.ref 40, .int 0, .int 0], xI 0 130 (fun _ => 0), xO 4 [.ref 42, .int 0, .int 0], xI 0 130 (fun _ => 0), xO 4 [.ref 44, .int 0, .int 0], xI 0 130 (fun _ => 0), xO 4 [.ref 46, .int 0, .int 0], xI 0 130 (fun _ => 0), xO 4 [.ref 48, .int 0, .int 0], xI 0 130 (fun _ => 0), xO 4 [.ref 50, .int 0, .int 0], xI 0 130 (fun _ => 0), xO 4 [.ref 52, .int 0, .int 0], xI 0 130 (fun _ => 0), xO 4 [.ref 54, .int 0, .int 0], xI 0 130 (fun _ => 0), xO 5 [.ref 56, .ref 65, .int 0], xV 4 8 (fun j => .ref (56 + 1 + j)), xI 0 10 (fun _ => 0), xI 0 10 (fun _ => 0), xI 0 10 (fun _ => 0), xI 0 10 (fun _ => 0), xI 0 10 (fun _ => 0), xI 0 10 (fun _ => 0), xI 0 10 (fun _ => 0), xI 0 10 (fun _ => 0), xI 0 8 (fun _ => 0)])) := by
  refine XE (pl := [some (.ref 55)]) xg5 rfl ?_
  refine x_step rfl ?_
  refine x_objInit rfl (by omega) (Nat.le_of_ble_eq_true rfl) ?_
  refine x_step rfl ?_
  refine x_step rfl ?_
  refine x_step rfl ?_
  refine x_mna (a := 56) (N := 8) (M := 10) rfl rfl (by decide) (by decide) rfl rfl (by decide) (by decide) rfl (by omega) (by omega) ?_
  refine x_step rfl ?_
  refine xm_hs (hp' := hz L xs ++ [xO 0 [.ref 33, .ref 35, .null, .null, .null, .null], xO 1 [.ref 34, .int 0], xI 0 501 (fun _ => 0), xO 2 [.ref 36, .ref 37, .int 0, .int 0, .int 0, .int 0], xV 3 8 (updV (updV (updV (updV (updV (updV (updV (updV (fun _ => .null) 0 (.ref 39)) 1 (.ref 41)) 2 (.ref 43)) 3 (.ref 45)) 4 (.ref 47)) 5 (.ref 49)) 6 (.ref 51)) 7 (.ref 53)), xO 3 [.ref 38, .int 0], xI 0 120 (fun _ => 0), xO 4 [.ref 40, .int 0, .int 0], xI 0 130 (fun _ => 0), xO 4 [.ref 42, .int 0, .int 0], xI 0 130 (fun _ => 0), xO 4 [.ref 44, .int 0, .int 0], xI 0 130 (fun _ => 0), xO 4 [.ref 46, .int 0, .int 0], xI 0 130 (fun _ => 0), xO 4 [.ref 48, .int 0, .int 0], xI 0 130 (fun _ => 0), xO 4 [.ref 50, .int 0, .int 0], xI 0 130 (fun _ => 0), xO 4 [.ref 52, .int 0, .int 0], xI 0 130 (fun _ => 0), xO 4 [.ref 54, .int 0, .int 0], xI 0 130 (fun _ => 0), xO 5 [.ref 56, .null, .int 0], xV 4 8 (fun j => .ref (56 + 1 + j)), xI 0 10 (fun _ => 0), xI 0 10 (fun _ => 0), xI 0 10 (fun _ => 0), xI 0 10 (fun _ => 0), xI 0 10 (fun _ => 0), xI 0 10 (fun _ => 0), xI 0 10 (fun _ => 0), xI 0 10 (fun _ => 0)]) rfl ?_
  refine x_step rfl ?_
  refine x_step rfl ?_
  refine x_newaI (a := 65) (N := 8) rfl rfl (by decide) rfl (by decide) rfl (by omega) (by omega) ?_
  refine x_step rfl ?_
  refine xm_hs (hp' := hz L xs ++ [xO 0 [.ref 33, .ref 35, .null, .null, .null, .null], xO 1 [.ref 34, .int 0], xI 0 501 (fun _ => 0), xO 2 [.ref 36, .ref 37, .int 0, .int 0, .int 0, .int 0], xV 3 8 (updV (updV (updV (updV (updV (updV (updV (updV (fun _ => .null) 0 (.ref 39)) 1 (.ref 41)) 2 (.ref 43)) 3 (.ref 45)) 4 (.ref 47)) 5 (.ref 49)) 6 (.ref 51)) 7 (.ref 53)), xO 3 [.ref 38, .int 0], xI 0 120 (fun _ => 0), xO 4 [.ref 40, .int 0, .int 0], xI 0 130 (fun _ => 0), xO 4 [.ref 42, .int 0, .int 0], xI 0 130 (fun _ => 0), xO 4 [.ref 44, .int 0, .int 0], xI 0 130 (fun _ => 0), xO 4 [.ref 46, .int 0, .int 0], xI 0 130 (fun _ => 0), xO 4 [.ref 48, .int 0, .int 0], xI 0 130 (fun _ => 0), xO 4 [.ref 50, .int 0, .int 0], xI 0 130 (fun _ => 0), xO 4 [.ref 52, .int 0, .int 0], xI 0 130 (fun _ => 0), xO 4 [.ref 54, .int 0, .int 0], xI 0 130 (fun _ => 0), xO 5 [.ref 56, .ref 65, .int 0], xV 4 8 (fun j => .ref (56 + 1 + j)), xI 0 10 (fun _ => 0), xI 0 10 (fun _ => 0), xI 0 10 (fun _ => 0), xI 0 10 (fun _ => 0), xI 0 10 (fun _ => 0), xI 0 10 (fun _ => 0), xI 0 10 (fun _ => 0), xI 0 10 (fun _ => 0), xI 0 8 (fun _ => 0)]) rfl ?_
  exact x_ret rfl rfl ⟨rfl, rfl⟩
set_option maxRecDepth 10000 in
/-- FabLink$Message.<init> -/
theorem ct12 : XM l 4 1 1 130 [.ref 67] (hz L xs ++ [xO 0 [.ref 33, .ref 35, .ref 55, .null, .null, .null], xO 1 [.ref 34, .int 0], xI 0 501 (fun _ => 0), xO 2 [.ref 36, .ref 37, .int 0, .int 0, .int 0, .int 0], xV 3 8 (updV (updV (updV (updV (updV (updV (updV (updV (fun _ => .null) 0 (.ref 39)) 1 (.ref 41)) 2 (.ref 43)) 3 (.ref 45)) 4 (.ref 47)) 5 (.ref 49)) 6 (.ref 51)) 7 (.ref 53)), xO 3 [.ref 38, .int 0], xI 0 120 (fun _ => 0), xO 4 [.ref 40, .int 0, .int 0], xI 0 130 (fun _ => 0), xO 4 [.ref 42, .int 0, .int 0], xI 0 130 (fun _ => 0), xO 4 [.ref 44, .int 0, .int 0], xI 0 130 (fun _ => 0), xO 4 [.ref 46, .int 0, .int 0], xI 0 130 (fun _ => 0), xO 4 [.ref 48, .int 0, .int 0], xI 0 130 (fun _ => 0), xO 4 [.ref 50, .int 0, .int 0], xI 0 130 (fun _ => 0), xO 4 [.ref 52, .int 0, .int 0], xI 0 130 (fun _ => 0), xO 4 [.ref 54, .int 0, .int 0], xI 0 130 (fun _ => 0), xO 5 [.ref 56, .ref 65, .int 0], xV 4 8 (fun j => .ref (56 + 1 + j)), xI 0 10 (fun _ => 0), xI 0 10 (fun _ => 0), xI 0 10 (fun _ => 0), xI 0 10 (fun _ => 0), xI 0 10 (fun _ => 0), xI 0 10 (fun _ => 0), xI 0 10 (fun _ => 0), xI 0 10 (fun _ => 0), xI 0 8 (fun _ => 0), xO 6 [.null, .null, .null, .null, .int 0, .int 0, .int 0, .int 0, .int 0], xO 4 [.null, .int 0, .int 0]]) (xm_is none (hz L xs ++ [xO 0 [.ref 33, .ref 35, .ref 55, .null, .null, .null], xO 1 [.ref 34, .int 0], xI 0 501 (fun _ => 0), xO 2 [.ref 36, .ref 37, .int 0, .int 0, .int 0, .int 0], xV 3 8 (updV (updV (updV (updV (updV (updV (updV (updV (fun _ => .null) 0 (.ref 39)) 1 (.ref 41)) 2 (.ref 43)) 3 (.ref 45)) 4 (.ref 47)) 5 (.ref 49)) 6 (.ref 51)) 7 (.ref 53)), xO 3 [.ref 38, .int 0], xI 0 120 (fun _ => 0), xO 4 [.ref 40, .int 0, .int 0], xI 0 130 (fun _ => 0), xO 4 [.ref 42, .int 0, .int 0], xI 0 130 (fun _ => 0), xO 4 [.ref 44, .int 0, .int 0], xI 0 130 (fun _ => 0), xO 4 [.ref 46, .int 0, .int 0], xI 0 130 (fun _ => 0), xO 4 [.ref 48, .int 0, .int 0], xI 0 130 (fun _ => 0), xO 4 [.ref 50, .int 0, .int 0], xI 0 130 (fun _ => 0), xO 4 [.ref 52, .int 0, .int 0], xI 0 130 (fun _ => 0), xO 4 [.ref 54, .int 0, .int 0], xI 0 130 (fun _ => 0), xO 5 [.ref 56, .ref 65, .int 0], xV 4 8 (fun j => .ref (56 + 1 + j)), xI 0 10 (fun _ => 0), xI 0 10 (fun _ => 0), xI 0 10 (fun _ => 0), xI 0 10 (fun _ => 0), xI 0 10 (fun _ => 0), xI 0 10 (fun _ => 0), xI 0 10 (fun _ => 0), xI 0 10 (fun _ => 0), xI 0 8 (fun _ => 0), xO 6 [.null, .null, .null, .null, .int 0, .int 0, .int 0, .int 0, .int 0], xO 4 [.ref 68, .int 0, .int 0], xI 0 130 (fun _ => 0)])) := by
  refine XE (pl := [some (.ref 67)]) xg4 rfl ?_
  refine x_step rfl ?_
  refine x_objInit rfl (by omega) (Nat.le_of_ble_eq_true rfl) ?_
  refine x_step rfl ?_
  refine x_step rfl ?_
  refine x_newaI (a := 68) (N := 130) rfl rfl (by decide) rfl (by decide) rfl (by omega) (by omega) ?_
  refine x_step rfl ?_
  refine xm_hs (hp' := hz L xs ++ [xO 0 [.ref 33, .ref 35, .ref 55, .null, .null, .null], xO 1 [.ref 34, .int 0], xI 0 501 (fun _ => 0), xO 2 [.ref 36, .ref 37, .int 0, .int 0, .int 0, .int 0], xV 3 8 (updV (updV (updV (updV (updV (updV (updV (updV (fun _ => .null) 0 (.ref 39)) 1 (.ref 41)) 2 (.ref 43)) 3 (.ref 45)) 4 (.ref 47)) 5 (.ref 49)) 6 (.ref 51)) 7 (.ref 53)), xO 3 [.ref 38, .int 0], xI 0 120 (fun _ => 0), xO 4 [.ref 40, .int 0, .int 0], xI 0 130 (fun _ => 0), xO 4 [.ref 42, .int 0, .int 0], xI 0 130 (fun _ => 0), xO 4 [.ref 44, .int 0, .int 0], xI 0 130 (fun _ => 0), xO 4 [.ref 46, .int 0, .int 0], xI 0 130 (fun _ => 0), xO 4 [.ref 48, .int 0, .int 0], xI 0 130 (fun _ => 0), xO 4 [.ref 50, .int 0, .int 0], xI 0 130 (fun _ => 0), xO 4 [.ref 52, .int 0, .int 0], xI 0 130 (fun _ => 0), xO 4 [.ref 54, .int 0, .int 0], xI 0 130 (fun _ => 0), xO 5 [.ref 56, .ref 65, .int 0], xV 4 8 (fun j => .ref (56 + 1 + j)), xI 0 10 (fun _ => 0), xI 0 10 (fun _ => 0), xI 0 10 (fun _ => 0), xI 0 10 (fun _ => 0), xI 0 10 (fun _ => 0), xI 0 10 (fun _ => 0), xI 0 10 (fun _ => 0), xI 0 10 (fun _ => 0), xI 0 8 (fun _ => 0), xO 6 [.null, .null, .null, .null, .int 0, .int 0, .int 0, .int 0, .int 0], xO 4 [.ref 68, .int 0, .int 0], xI 0 130 (fun _ => 0)]) rfl ?_
  exact x_ret rfl rfl ⟨rfl, rfl⟩
set_option maxRecDepth 10000 in
/-- FabLink$Line.<init> -/
theorem ct13 : XM l 6 2 2 133 [.ref 66, .ref 33, .ref 35, .ref 55] (hz L xs ++ [xO 0 [.ref 33, .ref 35, .ref 55, .null, .null, .null], xO 1 [.ref 34, .int 0], xI 0 501 (fun _ => 0), xO 2 [.ref 36, .ref 37, .int 0, .int 0, .int 0, .int 0], xV 3 8 (updV (updV (updV (updV (updV (updV (updV (updV (fun _ => .null) 0 (.ref 39)) 1 (.ref 41)) 2 (.ref 43)) 3 (.ref 45)) 4 (.ref 47)) 5 (.ref 49)) 6 (.ref 51)) 7 (.ref 53)), xO 3 [.ref 38, .int 0], xI 0 120 (fun _ => 0), xO 4 [.ref 40, .int 0, .int 0], xI 0 130 (fun _ => 0), xO 4 [.ref 42, .int 0, .int 0], xI 0 130 (fun _ => 0), xO 4 [.ref 44, .int 0, .int 0], xI 0 130 (fun _ => 0), xO 4 [.ref 46, .int 0, .int 0], xI 0 130 (fun _ => 0), xO 4 [.ref 48, .int 0, .int 0], xI 0 130 (fun _ => 0), xO 4 [.ref 50, .int 0, .int 0], xI 0 130 (fun _ => 0), xO 4 [.ref 52, .int 0, .int 0], xI 0 130 (fun _ => 0), xO 4 [.ref 54, .int 0, .int 0], xI 0 130 (fun _ => 0), xO 5 [.ref 56, .ref 65, .int 0], xV 4 8 (fun j => .ref (56 + 1 + j)), xI 0 10 (fun _ => 0), xI 0 10 (fun _ => 0), xI 0 10 (fun _ => 0), xI 0 10 (fun _ => 0), xI 0 10 (fun _ => 0), xI 0 10 (fun _ => 0), xI 0 10 (fun _ => 0), xI 0 10 (fun _ => 0), xI 0 8 (fun _ => 0), xO 6 [.null, .null, .null, .null, .int 0, .int 0, .int 0, .int 0, .int 0]]) (xm_is none (hz L xs ++ [xO 0 [.ref 33, .ref 35, .ref 55, .null, .null, .null], xO 1 [.ref 34, .int 0], xI 0 501 (fun _ => 0), xO 2 [.ref 36, .ref 37, .int 0, .int 0, .int 0, .int 0], xV 3 8 (updV (updV (updV (updV (updV (updV (updV (updV (fun _ => .null) 0 (.ref 39)) 1 (.ref 41)) 2 (.ref 43)) 3 (.ref 45)) 4 (.ref 47)) 5 (.ref 49)) 6 (.ref 51)) 7 (.ref 53)), xO 3 [.ref 38, .int 0], xI 0 120 (fun _ => 0), xO 4 [.ref 40, .int 0, .int 0], xI 0 130 (fun _ => 0), xO 4 [.ref 42, .int 0, .int 0], xI 0 130 (fun _ => 0), xO 4 [.ref 44, .int 0, .int 0], xI 0 130 (fun _ => 0), xO 4 [.ref 46, .int 0, .int 0], xI 0 130 (fun _ => 0), xO 4 [.ref 48, .int 0, .int 0], xI 0 130 (fun _ => 0), xO 4 [.ref 50, .int 0, .int 0], xI 0 130 (fun _ => 0), xO 4 [.ref 52, .int 0, .int 0], xI 0 130 (fun _ => 0), xO 4 [.ref 54, .int 0, .int 0], xI 0 130 (fun _ => 0), xO 5 [.ref 56, .ref 65, .int 0], xV 4 8 (fun j => .ref (56 + 1 + j)), xI 0 10 (fun _ => 0), xI 0 10 (fun _ => 0), xI 0 10 (fun _ => 0), xI 0 10 (fun _ => 0), xI 0 10 (fun _ => 0), xI 0 10 (fun _ => 0), xI 0 10 (fun _ => 0), xI 0 10 (fun _ => 0), xI 0 8 (fun _ => 0), xO 6 [.ref 33, .ref 35, .ref 55, .ref 67, .int 0, .int 0, .int 0, .int 0, .int 0], xO 4 [.ref 68, .int 0, .int 0], xI 0 130 (fun _ => 0)])) := by
  refine XE (pl := [some (.ref 66), some (.ref 33), some (.ref 35), some (.ref 55)]) xg6 rfl ?_
  refine x_step rfl ?_
  refine x_objInit rfl (by omega) (Nat.le_of_ble_eq_true rfl) ?_
  refine x_step rfl ?_
  refine x_new (a := 67) rfl rfl rfl rfl (by omega) (by omega) ?_
  refine x_step rfl ?_
  refine xm_hs (hp' := hz L xs ++ [xO 0 [.ref 33, .ref 35, .ref 55, .null, .null, .null], xO 1 [.ref 34, .int 0], xI 0 501 (fun _ => 0), xO 2 [.ref 36, .ref 37, .int 0, .int 0, .int 0, .int 0], xV 3 8 (updV (updV (updV (updV (updV (updV (updV (updV (fun _ => .null) 0 (.ref 39)) 1 (.ref 41)) 2 (.ref 43)) 3 (.ref 45)) 4 (.ref 47)) 5 (.ref 49)) 6 (.ref 51)) 7 (.ref 53)), xO 3 [.ref 38, .int 0], xI 0 120 (fun _ => 0), xO 4 [.ref 40, .int 0, .int 0], xI 0 130 (fun _ => 0), xO 4 [.ref 42, .int 0, .int 0], xI 0 130 (fun _ => 0), xO 4 [.ref 44, .int 0, .int 0], xI 0 130 (fun _ => 0), xO 4 [.ref 46, .int 0, .int 0], xI 0 130 (fun _ => 0), xO 4 [.ref 48, .int 0, .int 0], xI 0 130 (fun _ => 0), xO 4 [.ref 50, .int 0, .int 0], xI 0 130 (fun _ => 0), xO 4 [.ref 52, .int 0, .int 0], xI 0 130 (fun _ => 0), xO 4 [.ref 54, .int 0, .int 0], xI 0 130 (fun _ => 0), xO 5 [.ref 56, .ref 65, .int 0], xV 4 8 (fun j => .ref (56 + 1 + j)), xI 0 10 (fun _ => 0), xI 0 10 (fun _ => 0), xI 0 10 (fun _ => 0), xI 0 10 (fun _ => 0), xI 0 10 (fun _ => 0), xI 0 10 (fun _ => 0), xI 0 10 (fun _ => 0), xI 0 10 (fun _ => 0), xI 0 8 (fun _ => 0), xO 6 [.null, .null, .null, .null, .int 0, .int 0, .int 0, .int 0, .int 0], xO 4 [.null, .int 0, .int 0]]) rfl ?_
  refine x_calliE rfl ct12 rfl rfl ?_
  refine x_step rfl ?_
  refine xm_hs (hp' := hz L xs ++ [xO 0 [.ref 33, .ref 35, .ref 55, .null, .null, .null], xO 1 [.ref 34, .int 0], xI 0 501 (fun _ => 0), xO 2 [.ref 36, .ref 37, .int 0, .int 0, .int 0, .int 0], xV 3 8 (updV (updV (updV (updV (updV (updV (updV (updV (fun _ => .null) 0 (.ref 39)) 1 (.ref 41)) 2 (.ref 43)) 3 (.ref 45)) 4 (.ref 47)) 5 (.ref 49)) 6 (.ref 51)) 7 (.ref 53)), xO 3 [.ref 38, .int 0], xI 0 120 (fun _ => 0), xO 4 [.ref 40, .int 0, .int 0], xI 0 130 (fun _ => 0), xO 4 [.ref 42, .int 0, .int 0], xI 0 130 (fun _ => 0), xO 4 [.ref 44, .int 0, .int 0], xI 0 130 (fun _ => 0), xO 4 [.ref 46, .int 0, .int 0], xI 0 130 (fun _ => 0), xO 4 [.ref 48, .int 0, .int 0], xI 0 130 (fun _ => 0), xO 4 [.ref 50, .int 0, .int 0], xI 0 130 (fun _ => 0), xO 4 [.ref 52, .int 0, .int 0], xI 0 130 (fun _ => 0), xO 4 [.ref 54, .int 0, .int 0], xI 0 130 (fun _ => 0), xO 5 [.ref 56, .ref 65, .int 0], xV 4 8 (fun j => .ref (56 + 1 + j)), xI 0 10 (fun _ => 0), xI 0 10 (fun _ => 0), xI 0 10 (fun _ => 0), xI 0 10 (fun _ => 0), xI 0 10 (fun _ => 0), xI 0 10 (fun _ => 0), xI 0 10 (fun _ => 0), xI 0 10 (fun _ => 0), xI 0 8 (fun _ => 0), xO 6 [.null, .null, .null, .ref 67, .int 0, .int 0, .int 0, .int 0, .int 0], xO 4 [.ref 68, .int 0, .int 0], xI 0 130 (fun _ => 0)]) rfl ?_
  refine x_step rfl ?_
  refine x_step rfl ?_
  refine x_step rfl ?_
  refine xm_hs (hp' := hz L xs ++ [xO 0 [.ref 33, .ref 35, .ref 55, .null, .null, .null], xO 1 [.ref 34, .int 0], xI 0 501 (fun _ => 0), xO 2 [.ref 36, .ref 37, .int 0, .int 0, .int 0, .int 0], xV 3 8 (updV (updV (updV (updV (updV (updV (updV (updV (fun _ => .null) 0 (.ref 39)) 1 (.ref 41)) 2 (.ref 43)) 3 (.ref 45)) 4 (.ref 47)) 5 (.ref 49)) 6 (.ref 51)) 7 (.ref 53)), xO 3 [.ref 38, .int 0], xI 0 120 (fun _ => 0), xO 4 [.ref 40, .int 0, .int 0], xI 0 130 (fun _ => 0), xO 4 [.ref 42, .int 0, .int 0], xI 0 130 (fun _ => 0), xO 4 [.ref 44, .int 0, .int 0], xI 0 130 (fun _ => 0), xO 4 [.ref 46, .int 0, .int 0], xI 0 130 (fun _ => 0), xO 4 [.ref 48, .int 0, .int 0], xI 0 130 (fun _ => 0), xO 4 [.ref 50, .int 0, .int 0], xI 0 130 (fun _ => 0), xO 4 [.ref 52, .int 0, .int 0], xI 0 130 (fun _ => 0), xO 4 [.ref 54, .int 0, .int 0], xI 0 130 (fun _ => 0), xO 5 [.ref 56, .ref 65, .int 0], xV 4 8 (fun j => .ref (56 + 1 + j)), xI 0 10 (fun _ => 0), xI 0 10 (fun _ => 0), xI 0 10 (fun _ => 0), xI 0 10 (fun _ => 0), xI 0 10 (fun _ => 0), xI 0 10 (fun _ => 0), xI 0 10 (fun _ => 0), xI 0 10 (fun _ => 0), xI 0 8 (fun _ => 0), xO 6 [.ref 33, .null, .null, .ref 67, .int 0, .int 0, .int 0, .int 0, .int 0], xO 4 [.ref 68, .int 0, .int 0], xI 0 130 (fun _ => 0)]) rfl ?_
  refine x_step rfl ?_
  refine x_step rfl ?_
  refine x_step rfl ?_
  refine xm_hs (hp' := hz L xs ++ [xO 0 [.ref 33, .ref 35, .ref 55, .null, .null, .null], xO 1 [.ref 34, .int 0], xI 0 501 (fun _ => 0), xO 2 [.ref 36, .ref 37, .int 0, .int 0, .int 0, .int 0], xV 3 8 (updV (updV (updV (updV (updV (updV (updV (updV (fun _ => .null) 0 (.ref 39)) 1 (.ref 41)) 2 (.ref 43)) 3 (.ref 45)) 4 (.ref 47)) 5 (.ref 49)) 6 (.ref 51)) 7 (.ref 53)), xO 3 [.ref 38, .int 0], xI 0 120 (fun _ => 0), xO 4 [.ref 40, .int 0, .int 0], xI 0 130 (fun _ => 0), xO 4 [.ref 42, .int 0, .int 0], xI 0 130 (fun _ => 0), xO 4 [.ref 44, .int 0, .int 0], xI 0 130 (fun _ => 0), xO 4 [.ref 46, .int 0, .int 0], xI 0 130 (fun _ => 0), xO 4 [.ref 48, .int 0, .int 0], xI 0 130 (fun _ => 0), xO 4 [.ref 50, .int 0, .int 0], xI 0 130 (fun _ => 0), xO 4 [.ref 52, .int 0, .int 0], xI 0 130 (fun _ => 0), xO 4 [.ref 54, .int 0, .int 0], xI 0 130 (fun _ => 0), xO 5 [.ref 56, .ref 65, .int 0], xV 4 8 (fun j => .ref (56 + 1 + j)), xI 0 10 (fun _ => 0), xI 0 10 (fun _ => 0), xI 0 10 (fun _ => 0), xI 0 10 (fun _ => 0), xI 0 10 (fun _ => 0), xI 0 10 (fun _ => 0), xI 0 10 (fun _ => 0), xI 0 10 (fun _ => 0), xI 0 8 (fun _ => 0), xO 6 [.ref 33, .ref 35, .null, .ref 67, .int 0, .int 0, .int 0, .int 0, .int 0], xO 4 [.ref 68, .int 0, .int 0], xI 0 130 (fun _ => 0)]) rfl ?_
  refine x_step rfl ?_
  refine x_step rfl ?_
  refine x_step rfl ?_
  refine xm_hs (hp' := hz L xs ++ [xO 0 [.ref 33, .ref 35, .ref 55, .null, .null, .null], xO 1 [.ref 34, .int 0], xI 0 501 (fun _ => 0), xO 2 [.ref 36, .ref 37, .int 0, .int 0, .int 0, .int 0], xV 3 8 (updV (updV (updV (updV (updV (updV (updV (updV (fun _ => .null) 0 (.ref 39)) 1 (.ref 41)) 2 (.ref 43)) 3 (.ref 45)) 4 (.ref 47)) 5 (.ref 49)) 6 (.ref 51)) 7 (.ref 53)), xO 3 [.ref 38, .int 0], xI 0 120 (fun _ => 0), xO 4 [.ref 40, .int 0, .int 0], xI 0 130 (fun _ => 0), xO 4 [.ref 42, .int 0, .int 0], xI 0 130 (fun _ => 0), xO 4 [.ref 44, .int 0, .int 0], xI 0 130 (fun _ => 0), xO 4 [.ref 46, .int 0, .int 0], xI 0 130 (fun _ => 0), xO 4 [.ref 48, .int 0, .int 0], xI 0 130 (fun _ => 0), xO 4 [.ref 50, .int 0, .int 0], xI 0 130 (fun _ => 0), xO 4 [.ref 52, .int 0, .int 0], xI 0 130 (fun _ => 0), xO 4 [.ref 54, .int 0, .int 0], xI 0 130 (fun _ => 0), xO 5 [.ref 56, .ref 65, .int 0], xV 4 8 (fun j => .ref (56 + 1 + j)), xI 0 10 (fun _ => 0), xI 0 10 (fun _ => 0), xI 0 10 (fun _ => 0), xI 0 10 (fun _ => 0), xI 0 10 (fun _ => 0), xI 0 10 (fun _ => 0), xI 0 10 (fun _ => 0), xI 0 10 (fun _ => 0), xI 0 8 (fun _ => 0), xO 6 [.ref 33, .ref 35, .ref 55, .ref 67, .int 0, .int 0, .int 0, .int 0, .int 0], xO 4 [.ref 68, .int 0, .int 0], xI 0 130 (fun _ => 0)]) rfl ?_
  exact x_ret rfl rfl ⟨rfl, rfl⟩
set_option maxRecDepth 10000 in
/-- FabLink$Variables.<init> -/
theorem ct14 : XM l 8 1 9 66 [.ref 70] (hz L xs ++ [xO 0 [.ref 33, .ref 35, .ref 55, .ref 66, .null, .null], xO 1 [.ref 34, .int 0], xI 0 501 (fun _ => 0), xO 2 [.ref 36, .ref 37, .int 0, .int 0, .int 0, .int 0], xV 3 8 (updV (updV (updV (updV (updV (updV (updV (updV (fun _ => .null) 0 (.ref 39)) 1 (.ref 41)) 2 (.ref 43)) 3 (.ref 45)) 4 (.ref 47)) 5 (.ref 49)) 6 (.ref 51)) 7 (.ref 53)), xO 3 [.ref 38, .int 0], xI 0 120 (fun _ => 0), xO 4 [.ref 40, .int 0, .int 0], xI 0 130 (fun _ => 0), xO 4 [.ref 42, .int 0, .int 0], xI 0 130 (fun _ => 0), xO 4 [.ref 44, .int 0, .int 0], xI 0 130 (fun _ => 0), xO 4 [.ref 46, .int 0, .int 0], xI 0 130 (fun _ => 0), xO 4 [.ref 48, .int 0, .int 0], xI 0 130 (fun _ => 0), xO 4 [.ref 50, .int 0, .int 0], xI 0 130 (fun _ => 0), xO 4 [.ref 52, .int 0, .int 0], xI 0 130 (fun _ => 0), xO 4 [.ref 54, .int 0, .int 0], xI 0 130 (fun _ => 0), xO 5 [.ref 56, .ref 65, .int 0], xV 4 8 (fun j => .ref (56 + 1 + j)), xI 0 10 (fun _ => 0), xI 0 10 (fun _ => 0), xI 0 10 (fun _ => 0), xI 0 10 (fun _ => 0), xI 0 10 (fun _ => 0), xI 0 10 (fun _ => 0), xI 0 10 (fun _ => 0), xI 0 10 (fun _ => 0), xI 0 8 (fun _ => 0), xO 6 [.ref 33, .ref 35, .ref 55, .ref 67, .int 0, .int 0, .int 0, .int 0, .int 0], xO 4 [.ref 68, .int 0, .int 0], xI 0 130 (fun _ => 0), xO 7 [.null, .null, .null, .int 0, .int 0, .int 0, .int 0], xO 8 [.null, .null, .null]]) (xm_is none (hz L xs ++ [xO 0 [.ref 33, .ref 35, .ref 55, .ref 66, .null, .null], xO 1 [.ref 34, .int 0], xI 0 501 (fun _ => 0), xO 2 [.ref 36, .ref 37, .int 0, .int 0, .int 0, .int 0], xV 3 8 (updV (updV (updV (updV (updV (updV (updV (updV (fun _ => .null) 0 (.ref 39)) 1 (.ref 41)) 2 (.ref 43)) 3 (.ref 45)) 4 (.ref 47)) 5 (.ref 49)) 6 (.ref 51)) 7 (.ref 53)), xO 3 [.ref 38, .int 0], xI 0 120 (fun _ => 0), xO 4 [.ref 40, .int 0, .int 0], xI 0 130 (fun _ => 0), xO 4 [.ref 42, .int 0, .int 0], xI 0 130 (fun _ => 0), xO 4 [.ref 44, .int 0, .int 0], xI 0 130 (fun _ => 0), xO 4 [.ref 46, .int 0, .int 0], xI 0 130 (fun _ => 0), xO 4 [.ref 48, .int 0, .int 0], xI 0 130 (fun _ => 0), xO 4 [.ref 50, .int 0, .int 0], xI 0 130 (fun _ => 0), xO 4 [.ref 52, .int 0, .int 0], xI 0 130 (fun _ => 0), xO 4 [.ref 54, .int 0, .int 0], xI 0 130 (fun _ => 0), xO 5 [.ref 56, .ref 65, .int 0], xV 4 8 (fun j => .ref (56 + 1 + j)), xI 0 10 (fun _ => 0), xI 0 10 (fun _ => 0), xI 0 10 (fun _ => 0), xI 0 10 (fun _ => 0), xI 0 10 (fun _ => 0), xI 0 10 (fun _ => 0), xI 0 10 (fun _ => 0), xI 0 10 (fun _ => 0), xI 0 8 (fun _ => 0), xO 6 [.ref 33, .ref 35, .ref 55, .ref 67, .int 0, .int 0, .int 0, .int 0, .int 0], xO 4 [.ref 68, .int 0, .int 0], xI 0 130 (fun _ => 0), xO 7 [.null, .null, .null, .int 0, .int 0, .int 0, .int 0], xO 8 [.ref 71, .ref 72, .ref 73], xI 0 6 (upd (upd (upd (upd (upd (upd (fun _ => 0) 0 41) 1 41) 2 41) 3 41) 4 41) 5 41), xI 0 6 (upd (upd (upd (upd (upd (upd (fun _ => 0) 0 1) 1 1) 2 1) 3 1) 4 1) 5 1), xV 4 6 (fun j => .ref (73 + 1 + j)), xI 0 8 (fun _ => 0), xI 0 8 (fun _ => 0), xI 0 8 (fun _ => 0), xI 0 8 (fun _ => 0), xI 0 8 (fun _ => 0), xI 0 8 (fun _ => 0)])) := by
  refine XE (pl := [some (.ref 70), none]) xg8 rfl ?_
  refine x_step rfl ?_
  refine x_objInit rfl (by omega) (Nat.le_of_ble_eq_true rfl) ?_
  refine x_step rfl ?_
  refine x_step rfl ?_
  refine x_newaI (a := 71) (N := 6) rfl rfl (by decide) rfl (by decide) rfl (by omega) (by omega) ?_
  refine x_step rfl ?_
  refine xm_hs (hp' := hz L xs ++ [xO 0 [.ref 33, .ref 35, .ref 55, .ref 66, .null, .null], xO 1 [.ref 34, .int 0], xI 0 501 (fun _ => 0), xO 2 [.ref 36, .ref 37, .int 0, .int 0, .int 0, .int 0], xV 3 8 (updV (updV (updV (updV (updV (updV (updV (updV (fun _ => .null) 0 (.ref 39)) 1 (.ref 41)) 2 (.ref 43)) 3 (.ref 45)) 4 (.ref 47)) 5 (.ref 49)) 6 (.ref 51)) 7 (.ref 53)), xO 3 [.ref 38, .int 0], xI 0 120 (fun _ => 0), xO 4 [.ref 40, .int 0, .int 0], xI 0 130 (fun _ => 0), xO 4 [.ref 42, .int 0, .int 0], xI 0 130 (fun _ => 0), xO 4 [.ref 44, .int 0, .int 0], xI 0 130 (fun _ => 0), xO 4 [.ref 46, .int 0, .int 0], xI 0 130 (fun _ => 0), xO 4 [.ref 48, .int 0, .int 0], xI 0 130 (fun _ => 0), xO 4 [.ref 50, .int 0, .int 0], xI 0 130 (fun _ => 0), xO 4 [.ref 52, .int 0, .int 0], xI 0 130 (fun _ => 0), xO 4 [.ref 54, .int 0, .int 0], xI 0 130 (fun _ => 0), xO 5 [.ref 56, .ref 65, .int 0], xV 4 8 (fun j => .ref (56 + 1 + j)), xI 0 10 (fun _ => 0), xI 0 10 (fun _ => 0), xI 0 10 (fun _ => 0), xI 0 10 (fun _ => 0), xI 0 10 (fun _ => 0), xI 0 10 (fun _ => 0), xI 0 10 (fun _ => 0), xI 0 10 (fun _ => 0), xI 0 8 (fun _ => 0), xO 6 [.ref 33, .ref 35, .ref 55, .ref 67, .int 0, .int 0, .int 0, .int 0, .int 0], xO 4 [.ref 68, .int 0, .int 0], xI 0 130 (fun _ => 0), xO 7 [.null, .null, .null, .int 0, .int 0, .int 0, .int 0], xO 8 [.ref 71, .null, .null], xI 0 6 (fun _ => 0)]) rfl ?_
  refine x_step rfl ?_
  refine x_step rfl ?_
  refine x_newaI (a := 72) (N := 6) rfl rfl (by decide) rfl (by decide) rfl (by omega) (by omega) ?_
  refine x_step rfl ?_
  refine xm_hs (hp' := hz L xs ++ [xO 0 [.ref 33, .ref 35, .ref 55, .ref 66, .null, .null], xO 1 [.ref 34, .int 0], xI 0 501 (fun _ => 0), xO 2 [.ref 36, .ref 37, .int 0, .int 0, .int 0, .int 0], xV 3 8 (updV (updV (updV (updV (updV (updV (updV (updV (fun _ => .null) 0 (.ref 39)) 1 (.ref 41)) 2 (.ref 43)) 3 (.ref 45)) 4 (.ref 47)) 5 (.ref 49)) 6 (.ref 51)) 7 (.ref 53)), xO 3 [.ref 38, .int 0], xI 0 120 (fun _ => 0), xO 4 [.ref 40, .int 0, .int 0], xI 0 130 (fun _ => 0), xO 4 [.ref 42, .int 0, .int 0], xI 0 130 (fun _ => 0), xO 4 [.ref 44, .int 0, .int 0], xI 0 130 (fun _ => 0), xO 4 [.ref 46, .int 0, .int 0], xI 0 130 (fun _ => 0), xO 4 [.ref 48, .int 0, .int 0], xI 0 130 (fun _ => 0), xO 4 [.ref 50, .int 0, .int 0], xI 0 130 (fun _ => 0), xO 4 [.ref 52, .int 0, .int 0], xI 0 130 (fun _ => 0), xO 4 [.ref 54, .int 0, .int 0], xI 0 130 (fun _ => 0), xO 5 [.ref 56, .ref 65, .int 0], xV 4 8 (fun j => .ref (56 + 1 + j)), xI 0 10 (fun _ => 0), xI 0 10 (fun _ => 0), xI 0 10 (fun _ => 0), xI 0 10 (fun _ => 0), xI 0 10 (fun _ => 0), xI 0 10 (fun _ => 0), xI 0 10 (fun _ => 0), xI 0 10 (fun _ => 0), xI 0 8 (fun _ => 0), xO 6 [.ref 33, .ref 35, .ref 55, .ref 67, .int 0, .int 0, .int 0, .int 0, .int 0], xO 4 [.ref 68, .int 0, .int 0], xI 0 130 (fun _ => 0), xO 7 [.null, .null, .null, .int 0, .int 0, .int 0, .int 0], xO 8 [.ref 71, .ref 72, .null], xI 0 6 (fun _ => 0), xI 0 6 (fun _ => 0)]) rfl ?_
  refine x_step rfl ?_
  refine x_step rfl ?_
  refine x_step rfl ?_
  refine x_mna (a := 73) (N := 6) (M := 8) rfl rfl (by decide) (by decide) rfl rfl (by decide) (by decide) rfl (by omega) (by omega) ?_
  refine x_step rfl ?_
  refine xm_hs (hp' := hz L xs ++ [xO 0 [.ref 33, .ref 35, .ref 55, .ref 66, .null, .null], xO 1 [.ref 34, .int 0], xI 0 501 (fun _ => 0), xO 2 [.ref 36, .ref 37, .int 0, .int 0, .int 0, .int 0], xV 3 8 (updV (updV (updV (updV (updV (updV (updV (updV (fun _ => .null) 0 (.ref 39)) 1 (.ref 41)) 2 (.ref 43)) 3 (.ref 45)) 4 (.ref 47)) 5 (.ref 49)) 6 (.ref 51)) 7 (.ref 53)), xO 3 [.ref 38, .int 0], xI 0 120 (fun _ => 0), xO 4 [.ref 40, .int 0, .int 0], xI 0 130 (fun _ => 0), xO 4 [.ref 42, .int 0, .int 0], xI 0 130 (fun _ => 0), xO 4 [.ref 44, .int 0, .int 0], xI 0 130 (fun _ => 0), xO 4 [.ref 46, .int 0, .int 0], xI 0 130 (fun _ => 0), xO 4 [.ref 48, .int 0, .int 0], xI 0 130 (fun _ => 0), xO 4 [.ref 50, .int 0, .int 0], xI 0 130 (fun _ => 0), xO 4 [.ref 52, .int 0, .int 0], xI 0 130 (fun _ => 0), xO 4 [.ref 54, .int 0, .int 0], xI 0 130 (fun _ => 0), xO 5 [.ref 56, .ref 65, .int 0], xV 4 8 (fun j => .ref (56 + 1 + j)), xI 0 10 (fun _ => 0), xI 0 10 (fun _ => 0), xI 0 10 (fun _ => 0), xI 0 10 (fun _ => 0), xI 0 10 (fun _ => 0), xI 0 10 (fun _ => 0), xI 0 10 (fun _ => 0), xI 0 10 (fun _ => 0), xI 0 8 (fun _ => 0), xO 6 [.ref 33, .ref 35, .ref 55, .ref 67, .int 0, .int 0, .int 0, .int 0, .int 0], xO 4 [.ref 68, .int 0, .int 0], xI 0 130 (fun _ => 0), xO 7 [.null, .null, .null, .int 0, .int 0, .int 0, .int 0], xO 8 [.ref 71, .ref 72, .ref 73], xI 0 6 (fun _ => 0), xI 0 6 (fun _ => 0), xV 4 6 (fun j => .ref (73 + 1 + j)), xI 0 8 (fun _ => 0), xI 0 8 (fun _ => 0), xI 0 8 (fun _ => 0), xI 0 8 (fun _ => 0), xI 0 8 (fun _ => 0), xI 0 8 (fun _ => 0)]) rfl ?_
  refine x_step rfl ?_
  refine x_step rfl ?_
  refine x_step rfl ?_
  refine x_step rfl ?_
  refine x_icmp_ge rfl (fun h => absurd h (by decide)) (fun _ => ?_)
  refine x_step rfl ?_
  refine x_step rfl ?_
  refine x_step rfl ?_
  refine x_step rfl ?_
  refine x_iast rfl rfl (by decide) rfl (by unfold vp_in; decide) ?_
  refine xm_hs (hp' := hz L xs ++ [xO 0 [.ref 33, .ref 35, .ref 55, .ref 66, .null, .null], xO 1 [.ref 34, .int 0], xI 0 501 (fun _ => 0), xO 2 [.ref 36, .ref 37, .int 0, .int 0, .int 0, .int 0], xV 3 8 (updV (updV (updV (updV (updV (updV (updV (updV (fun _ => .null) 0 (.ref 39)) 1 (.ref 41)) 2 (.ref 43)) 3 (.ref 45)) 4 (.ref 47)) 5 (.ref 49)) 6 (.ref 51)) 7 (.ref 53)), xO 3 [.ref 38, .int 0], xI 0 120 (fun _ => 0), xO 4 [.ref 40, .int 0, .int 0], xI 0 130 (fun _ => 0), xO 4 [.ref 42, .int 0, .int 0], xI 0 130 (fun _ => 0), xO 4 [.ref 44, .int 0, .int 0], xI 0 130 (fun _ => 0), xO 4 [.ref 46, .int 0, .int 0], xI 0 130 (fun _ => 0), xO 4 [.ref 48, .int 0, .int 0], xI 0 130 (fun _ => 0), xO 4 [.ref 50, .int 0, .int 0], xI 0 130 (fun _ => 0), xO 4 [.ref 52, .int 0, .int 0], xI 0 130 (fun _ => 0), xO 4 [.ref 54, .int 0, .int 0], xI 0 130 (fun _ => 0), xO 5 [.ref 56, .ref 65, .int 0], xV 4 8 (fun j => .ref (56 + 1 + j)), xI 0 10 (fun _ => 0), xI 0 10 (fun _ => 0), xI 0 10 (fun _ => 0), xI 0 10 (fun _ => 0), xI 0 10 (fun _ => 0), xI 0 10 (fun _ => 0), xI 0 10 (fun _ => 0), xI 0 10 (fun _ => 0), xI 0 8 (fun _ => 0), xO 6 [.ref 33, .ref 35, .ref 55, .ref 67, .int 0, .int 0, .int 0, .int 0, .int 0], xO 4 [.ref 68, .int 0, .int 0], xI 0 130 (fun _ => 0), xO 7 [.null, .null, .null, .int 0, .int 0, .int 0, .int 0], xO 8 [.ref 71, .ref 72, .ref 73], xI 0 6 (upd (fun _ => 0) 0 41), xI 0 6 (fun _ => 0), xV 4 6 (fun j => .ref (73 + 1 + j)), xI 0 8 (fun _ => 0), xI 0 8 (fun _ => 0), xI 0 8 (fun _ => 0), xI 0 8 (fun _ => 0), xI 0 8 (fun _ => 0), xI 0 8 (fun _ => 0)]) rfl ?_
  refine x_step rfl ?_
  refine x_step rfl ?_
  refine x_step rfl ?_
  refine x_step rfl ?_
  refine x_iast rfl rfl (by decide) rfl (by unfold vp_in; decide) ?_
  refine xm_hs (hp' := hz L xs ++ [xO 0 [.ref 33, .ref 35, .ref 55, .ref 66, .null, .null], xO 1 [.ref 34, .int 0], xI 0 501 (fun _ => 0), xO 2 [.ref 36, .ref 37, .int 0, .int 0, .int 0, .int 0], xV 3 8 (updV (updV (updV (updV (updV (updV (updV (updV (fun _ => .null) 0 (.ref 39)) 1 (.ref 41)) 2 (.ref 43)) 3 (.ref 45)) 4 (.ref 47)) 5 (.ref 49)) 6 (.ref 51)) 7 (.ref 53)), xO 3 [.ref 38, .int 0], xI 0 120 (fun _ => 0), xO 4 [.ref 40, .int 0, .int 0], xI 0 130 (fun _ => 0), xO 4 [.ref 42, .int 0, .int 0], xI 0 130 (fun _ => 0), xO 4 [.ref 44, .int 0, .int 0], xI 0 130 (fun _ => 0), xO 4 [.ref 46, .int 0, .int 0], xI 0 130 (fun _ => 0), xO 4 [.ref 48, .int 0, .int 0], xI 0 130 (fun _ => 0), xO 4 [.ref 50, .int 0, .int 0], xI 0 130 (fun _ => 0), xO 4 [.ref 52, .int 0, .int 0], xI 0 130 (fun _ => 0), xO 4 [.ref 54, .int 0, .int 0], xI 0 130 (fun _ => 0), xO 5 [.ref 56, .ref 65, .int 0], xV 4 8 (fun j => .ref (56 + 1 + j)), xI 0 10 (fun _ => 0), xI 0 10 (fun _ => 0), xI 0 10 (fun _ => 0), xI 0 10 (fun _ => 0), xI 0 10 (fun _ => 0), xI 0 10 (fun _ => 0), xI 0 10 (fun _ => 0), xI 0 10 (fun _ => 0), xI 0 8 (fun _ => 0), xO 6 [.ref 33, .ref 35, .ref 55, .ref 67, .int 0, .int 0, .int 0, .int 0, .int 0], xO 4 [.ref 68, .int 0, .int 0], xI 0 130 (fun _ => 0), xO 7 [.null, .null, .null, .int 0, .int 0, .int 0, .int 0], xO 8 [.ref 71, .ref 72, .ref 73], xI 0 6 (upd (fun _ => 0) 0 41), xI 0 6 (upd (fun _ => 0) 0 1), xV 4 6 (fun j => .ref (73 + 1 + j)), xI 0 8 (fun _ => 0), xI 0 8 (fun _ => 0), xI 0 8 (fun _ => 0), xI 0 8 (fun _ => 0), xI 0 8 (fun _ => 0), xI 0 8 (fun _ => 0)]) rfl ?_
  refine x_step rfl ?_
  refine xm_ls (pl' := [some (.ref 70), some (.int 1)]) rfl ?_
  refine x_step rfl ?_
  refine x_step rfl ?_
  refine x_step rfl ?_
  refine x_icmp_ge rfl (fun h => absurd h (by decide)) (fun _ => ?_)
  refine x_step rfl ?_
  refine x_step rfl ?_
  refine x_step rfl ?_
  refine x_step rfl ?_
  refine x_iast rfl rfl (by decide) rfl (by unfold vp_in; decide) ?_
  refine xm_hs (hp' := hz L xs ++ [xO 0 [.ref 33, .ref 35, .ref 55, .ref 66, .null, .null], xO 1 [.ref 34, .int 0], xI 0 501 (fun _ => 0), xO 2 [.ref 36, .ref 37, .int 0, .int 0, .int 0, .int 0], xV 3 8 (updV (updV (updV (updV (updV (updV (updV (updV (fun _ => .null) 0 (.ref 39)) 1 (.ref 41)) 2 (.ref 43)) 3 (.ref 45)) 4 (.ref 47)) 5 (.ref 49)) 6 (.ref 51)) 7 (.ref 53)), xO 3 [.ref 38, .int 0], xI 0 120 (fun _ => 0), xO 4 [.ref 40, .int 0, .int 0], xI 0 130 (fun _ => 0), xO 4 [.ref 42, .int 0, .int 0], xI 0 130 (fun _ => 0), xO 4 [.ref 44, .int 0, .int 0], xI 0 130 (fun _ => 0), xO 4 [.ref 46, .int 0, .int 0], xI 0 130 (fun _ => 0), xO 4 [.ref 48, .int 0, .int 0], xI 0 130 (fun _ => 0), xO 4 [.ref 50, .int 0, .int 0], xI 0 130 (fun _ => 0), xO 4 [.ref 52, .int 0, .int 0], xI 0 130 (fun _ => 0), xO 4 [.ref 54, .int 0, .int 0], xI 0 130 (fun _ => 0), xO 5 [.ref 56, .ref 65, .int 0], xV 4 8 (fun j => .ref (56 + 1 + j)), xI 0 10 (fun _ => 0), xI 0 10 (fun _ => 0), xI 0 10 (fun _ => 0), xI 0 10 (fun _ => 0), xI 0 10 (fun _ => 0), xI 0 10 (fun _ => 0), xI 0 10 (fun _ => 0), xI 0 10 (fun _ => 0), xI 0 8 (fun _ => 0), xO 6 [.ref 33, .ref 35, .ref 55, .ref 67, .int 0, .int 0, .int 0, .int 0, .int 0], xO 4 [.ref 68, .int 0, .int 0], xI 0 130 (fun _ => 0), xO 7 [.null, .null, .null, .int 0, .int 0, .int 0, .int 0], xO 8 [.ref 71, .ref 72, .ref 73], xI 0 6 (upd (upd (fun _ => 0) 0 41) 1 41), xI 0 6 (upd (fun _ => 0) 0 1), xV 4 6 (fun j => .ref (73 + 1 + j)), xI 0 8 (fun _ => 0), xI 0 8 (fun _ => 0), xI 0 8 (fun _ => 0), xI 0 8 (fun _ => 0), xI 0 8 (fun _ => 0), xI 0 8 (fun _ => 0)]) rfl ?_
  refine x_step rfl ?_
  refine x_step rfl ?_
  refine x_step rfl ?_
  refine x_step rfl ?_
  refine x_iast rfl rfl (by decide) rfl (by unfold vp_in; decide) ?_
  refine xm_hs (hp' := hz L xs ++ [xO 0 [.ref 33, .ref 35, .ref 55, .ref 66, .null, .null], xO 1 [.ref 34, .int 0], xI 0 501 (fun _ => 0), xO 2 [.ref 36, .ref 37, .int 0, .int 0, .int 0, .int 0], xV 3 8 (updV (updV (updV (updV (updV (updV (updV (updV (fun _ => .null) 0 (.ref 39)) 1 (.ref 41)) 2 (.ref 43)) 3 (.ref 45)) 4 (.ref 47)) 5 (.ref 49)) 6 (.ref 51)) 7 (.ref 53)), xO 3 [.ref 38, .int 0], xI 0 120 (fun _ => 0), xO 4 [.ref 40, .int 0, .int 0], xI 0 130 (fun _ => 0), xO 4 [.ref 42, .int 0, .int 0], xI 0 130 (fun _ => 0), xO 4 [.ref 44, .int 0, .int 0], xI 0 130 (fun _ => 0), xO 4 [.ref 46, .int 0, .int 0], xI 0 130 (fun _ => 0), xO 4 [.ref 48, .int 0, .int 0], xI 0 130 (fun _ => 0), xO 4 [.ref 50, .int 0, .int 0], xI 0 130 (fun _ => 0), xO 4 [.ref 52, .int 0, .int 0], xI 0 130 (fun _ => 0), xO 4 [.ref 54, .int 0, .int 0], xI 0 130 (fun _ => 0), xO 5 [.ref 56, .ref 65, .int 0], xV 4 8 (fun j => .ref (56 + 1 + j)), xI 0 10 (fun _ => 0), xI 0 10 (fun _ => 0), xI 0 10 (fun _ => 0), xI 0 10 (fun _ => 0), xI 0 10 (fun _ => 0), xI 0 10 (fun _ => 0), xI 0 10 (fun _ => 0), xI 0 10 (fun _ => 0), xI 0 8 (fun _ => 0), xO 6 [.ref 33, .ref 35, .ref 55, .ref 67, .int 0, .int 0, .int 0, .int 0, .int 0], xO 4 [.ref 68, .int 0, .int 0], xI 0 130 (fun _ => 0), xO 7 [.null, .null, .null, .int 0, .int 0, .int 0, .int 0], xO 8 [.ref 71, .ref 72, .ref 73], xI 0 6 (upd (upd (fun _ => 0) 0 41) 1 41), xI 0 6 (upd (upd (fun _ => 0) 0 1) 1 1), xV 4 6 (fun j => .ref (73 + 1 + j)), xI 0 8 (fun _ => 0), xI 0 8 (fun _ => 0), xI 0 8 (fun _ => 0), xI 0 8 (fun _ => 0), xI 0 8 (fun _ => 0), xI 0 8 (fun _ => 0)]) rfl ?_
  refine x_step rfl ?_
  refine xm_ls (pl' := [some (.ref 70), some (.int 2)]) rfl ?_
  refine x_step rfl ?_
  refine x_step rfl ?_
  refine x_step rfl ?_
  refine x_icmp_ge rfl (fun h => absurd h (by decide)) (fun _ => ?_)
  refine x_step rfl ?_
  refine x_step rfl ?_
  refine x_step rfl ?_
  refine x_step rfl ?_
  refine x_iast rfl rfl (by decide) rfl (by unfold vp_in; decide) ?_
  refine xm_hs (hp' := hz L xs ++ [xO 0 [.ref 33, .ref 35, .ref 55, .ref 66, .null, .null], xO 1 [.ref 34, .int 0], xI 0 501 (fun _ => 0), xO 2 [.ref 36, .ref 37, .int 0, .int 0, .int 0, .int 0], xV 3 8 (updV (updV (updV (updV (updV (updV (updV (updV (fun _ => .null) 0 (.ref 39)) 1 (.ref 41)) 2 (.ref 43)) 3 (.ref 45)) 4 (.ref 47)) 5 (.ref 49)) 6 (.ref 51)) 7 (.ref 53)), xO 3 [.ref 38, .int 0], xI 0 120 (fun _ => 0), xO 4 [.ref 40, .int 0, .int 0], xI 0 130 (fun _ => 0), xO 4 [.ref 42, .int 0, .int 0], xI 0 130 (fun _ => 0), xO 4 [.ref 44, .int 0, .int 0], xI 0 130 (fun _ => 0), xO 4 [.ref 46, .int 0, .int 0], xI 0 130 (fun _ => 0), xO 4 [.ref 48, .int 0, .int 0], xI 0 130 (fun _ => 0), xO 4 [.ref 50, .int 0, .int 0], xI 0 130 (fun _ => 0), xO 4 [.ref 52, .int 0, .int 0], xI 0 130 (fun _ => 0), xO 4 [.ref 54, .int 0, .int 0], xI 0 130 (fun _ => 0), xO 5 [.ref 56, .ref 65, .int 0], xV 4 8 (fun j => .ref (56 + 1 + j)), xI 0 10 (fun _ => 0), xI 0 10 (fun _ => 0), xI 0 10 (fun _ => 0), xI 0 10 (fun _ => 0), xI 0 10 (fun _ => 0), xI 0 10 (fun _ => 0), xI 0 10 (fun _ => 0), xI 0 10 (fun _ => 0), xI 0 8 (fun _ => 0), xO 6 [.ref 33, .ref 35, .ref 55, .ref 67, .int 0, .int 0, .int 0, .int 0, .int 0], xO 4 [.ref 68, .int 0, .int 0], xI 0 130 (fun _ => 0), xO 7 [.null, .null, .null, .int 0, .int 0, .int 0, .int 0], xO 8 [.ref 71, .ref 72, .ref 73], xI 0 6 (upd (upd (upd (fun _ => 0) 0 41) 1 41) 2 41), xI 0 6 (upd (upd (fun _ => 0) 0 1) 1 1), xV 4 6 (fun j => .ref (73 + 1 + j)), xI 0 8 (fun _ => 0), xI 0 8 (fun _ => 0), xI 0 8 (fun _ => 0), xI 0 8 (fun _ => 0), xI 0 8 (fun _ => 0), xI 0 8 (fun _ => 0)]) rfl ?_
  refine x_step rfl ?_
  refine x_step rfl ?_
  refine x_step rfl ?_
  refine x_step rfl ?_
  refine x_iast rfl rfl (by decide) rfl (by unfold vp_in; decide) ?_
  refine xm_hs (hp' := hz L xs ++ [xO 0 [.ref 33, .ref 35, .ref 55, .ref 66, .null, .null], xO 1 [.ref 34, .int 0], xI 0 501 (fun _ => 0), xO 2 [.ref 36, .ref 37, .int 0, .int 0, .int 0, .int 0], xV 3 8 (updV (updV (updV (updV (updV (updV (updV (updV (fun _ => .null) 0 (.ref 39)) 1 (.ref 41)) 2 (.ref 43)) 3 (.ref 45)) 4 (.ref 47)) 5 (.ref 49)) 6 (.ref 51)) 7 (.ref 53)), xO 3 [.ref 38, .int 0], xI 0 120 (fun _ => 0), xO 4 [.ref 40, .int 0, .int 0], xI 0 130 (fun _ => 0), xO 4 [.ref 42, .int 0, .int 0], xI 0 130 (fun _ => 0), xO 4 [.ref 44, .int 0, .int 0], xI 0 130 (fun _ => 0), xO 4 [.ref 46, .int 0, .int 0], xI 0 130 (fun _ => 0), xO 4 [.ref 48, .int 0, .int 0], xI 0 130 (fun _ => 0), xO 4 [.ref 50, .int 0, .int 0], xI 0 130 (fun _ => 0), xO 4 [.ref 52, .int 0, .int 0], xI 0 130 (fun _ => 0), xO 4 [.ref 54, .int 0, .int 0], xI 0 130 (fun _ => 0), xO 5 [.ref 56, .ref 65, .int 0], xV 4 8 (fun j => .ref (56 + 1 + j)), xI 0 10 (fun _ => 0), xI 0 10 (fun _ => 0), xI 0 10 (fun _ => 0), xI 0 10 (fun _ => 0), xI 0 10 (fun _ => 0), xI 0 10 (fun _ => 0), xI 0 10 (fun _ => 0), xI 0 10 (fun _ => 0), xI 0 8 (fun _ => 0), xO 6 [.ref 33, .ref 35, .ref 55, .ref 67, .int 0, .int 0, .int 0, .int 0, .int 0], xO 4 [.ref 68, .int 0, .int 0], xI 0 130 (fun _ => 0), xO 7 [.null, .null, .null, .int 0, .int 0, .int 0, .int 0], xO 8 [.ref 71, .ref 72, .ref 73], xI 0 6 (upd (upd (upd (fun _ => 0) 0 41) 1 41) 2 41), xI 0 6 (upd (upd (upd (fun _ => 0) 0 1) 1 1) 2 1), xV 4 6 (fun j => .ref (73 + 1 + j)), xI 0 8 (fun _ => 0), xI 0 8 (fun _ => 0), xI 0 8 (fun _ => 0), xI 0 8 (fun _ => 0), xI 0 8 (fun _ => 0), xI 0 8 (fun _ => 0)]) rfl ?_
  refine x_step rfl ?_
  refine xm_ls (pl' := [some (.ref 70), some (.int 3)]) rfl ?_
  refine x_step rfl ?_
  refine x_step rfl ?_
  refine x_step rfl ?_
  refine x_icmp_ge rfl (fun h => absurd h (by decide)) (fun _ => ?_)
  refine x_step rfl ?_
  refine x_step rfl ?_
  refine x_step rfl ?_
  refine x_step rfl ?_
  refine x_iast rfl rfl (by decide) rfl (by unfold vp_in; decide) ?_
  refine xm_hs (hp' := hz L xs ++ [xO 0 [.ref 33, .ref 35, .ref 55, .ref 66, .null, .null], xO 1 [.ref 34, .int 0], xI 0 501 (fun _ => 0), xO 2 [.ref 36, .ref 37, .int 0, .int 0, .int 0, .int 0], xV 3 8 (updV (updV (updV (updV (updV (updV (updV (updV (fun _ => .null) 0 (.ref 39)) 1 (.ref 41)) 2 (.ref 43)) 3 (.ref 45)) 4 (.ref 47)) 5 (.ref 49)) 6 (.ref 51)) 7 (.ref 53)), xO 3 [.ref 38, .int 0], xI 0 120 (fun _ => 0), xO 4 [.ref 40, .int 0, .int 0], xI 0 130 (fun _ => 0), xO 4 [.ref 42, .int 0, .int 0], xI 0 130 (fun _ => 0), xO 4 [.ref 44, .int 0, .int 0], xI 0 130 (fun _ => 0), xO 4 [.ref 46, .int 0, .int 0], xI 0 130 (fun _ => 0), xO 4 [.ref 48, .int 0, .int 0], xI 0 130 (fun _ => 0), xO 4 [.ref 50, .int 0, .int 0], xI 0 130 (fun _ => 0), xO 4 [.ref 52, .int 0, .int 0], xI 0 130 (fun _ => 0), xO 4 [.ref 54, .int 0, .int 0], xI 0 130 (fun _ => 0), xO 5 [.ref 56, .ref 65, .int 0], xV 4 8 (fun j => .ref (56 + 1 + j)), xI 0 10 (fun _ => 0), xI 0 10 (fun _ => 0), xI 0 10 (fun _ => 0), xI 0 10 (fun _ => 0), xI 0 10 (fun _ => 0), xI 0 10 (fun _ => 0), xI 0 10 (fun _ => 0), xI 0 10 (fun _ => 0), xI 0 8 (fun _ => 0), xO 6 [.ref 33, .ref 35, .ref 55, .ref 67, .int 0, .int 0, .int 0, .int 0, .int 0], xO 4 [.ref 68, .int 0, .int 0], xI 0 130 (fun _ => 0), xO 7 [.null, .null, .null, .int 0, .int 0, .int 0, .int 0], xO 8 [.ref 71, .ref 72, .ref 73], xI 0 6 (upd (upd (upd (upd (fun _ => 0) 0 41) 1 41) 2 41) 3 41), xI 0 6 (upd (upd (upd (fun _ => 0) 0 1) 1 1) 2 1), xV 4 6 (fun j => .ref (73 + 1 + j)), xI 0 8 (fun _ => 0), xI 0 8 (fun _ => 0), xI 0 8 (fun _ => 0), xI 0 8 (fun _ => 0), xI 0 8 (fun _ => 0), xI 0 8 (fun _ => 0)]) rfl ?_
  refine x_step rfl ?_
  refine x_step rfl ?_
  refine x_step rfl ?_
  refine x_step rfl ?_
  refine x_iast rfl rfl (by decide) rfl (by unfold vp_in; decide) ?_
  refine xm_hs (hp' := hz L xs ++ [xO 0 [.ref 33, .ref 35, .ref 55, .ref 66, .null, .null], xO 1 [.ref 34, .int 0], xI 0 501 (fun _ => 0), xO 2 [.ref 36, .ref 37, .int 0, .int 0, .int 0, .int 0], xV 3 8 (updV (updV (updV (updV (updV (updV (updV (updV (fun _ => .null) 0 (.ref 39)) 1 (.ref 41)) 2 (.ref 43)) 3 (.ref 45)) 4 (.ref 47)) 5 (.ref 49)) 6 (.ref 51)) 7 (.ref 53)), xO 3 [.ref 38, .int 0], xI 0 120 (fun _ => 0), xO 4 [.ref 40, .int 0, .int 0], xI 0 130 (fun _ => 0), xO 4 [.ref 42, .int 0, .int 0], xI 0 130 (fun _ => 0), xO 4 [.ref 44, .int 0, .int 0], xI 0 130 (fun _ => 0), xO 4 [.ref 46, .int 0, .int 0], xI 0 130 (fun _ => 0), xO 4 [.ref 48, .int 0, .int 0], xI 0 130 (fun _ => 0), xO 4 [.ref 50, .int 0, .int 0], xI 0 130 (fun _ => 0), xO 4 [.ref 52, .int 0, .int 0], xI 0 130 (fun _ => 0), xO 4 [.ref 54, .int 0, .int 0], xI 0 130 (fun _ => 0), xO 5 [.ref 56, .ref 65, .int 0], xV 4 8 (fun j => .ref (56 + 1 + j)), xI 0 10 (fun _ => 0), xI 0 10 (fun _ => 0), xI 0 10 (fun _ => 0), xI 0 10 (fun _ => 0), xI 0 10 (fun _ => 0), xI 0 10 (fun _ => 0), xI 0 10 (fun _ => 0), xI 0 10 (fun _ => 0), xI 0 8 (fun _ => 0), xO 6 [.ref 33, .ref 35, .ref 55, .ref 67, .int 0, .int 0, .int 0, .int 0, .int 0], xO 4 [.ref 68, .int 0, .int 0], xI 0 130 (fun _ => 0), xO 7 [.null, .null, .null, .int 0, .int 0, .int 0, .int 0], xO 8 [.ref 71, .ref 72, .ref 73], xI 0 6 (upd (upd (upd (upd (fun _ => 0) 0 41) 1 41) 2 41) 3 41), xI 0 6 (upd (upd (upd (upd (fun _ => 0) 0 1) 1 1) 2 1) 3 1), xV 4 6 (fun j => .ref (73 + 1 + j)), xI 0 8 (fun _ => 0), xI 0 8 (fun _ => 0), xI 0 8 (fun _ => 0), xI 0 8 (fun _ => 0), xI 0 8 (fun _ => 0), xI 0 8 (fun _ => 0)]) rfl ?_
  refine x_step rfl ?_
  refine xm_ls (pl' := [some (.ref 70), some (.int 4)]) rfl ?_
  refine x_step rfl ?_
  refine x_step rfl ?_
  refine x_step rfl ?_
  refine x_icmp_ge rfl (fun h => absurd h (by decide)) (fun _ => ?_)
  refine x_step rfl ?_
  refine x_step rfl ?_
  refine x_step rfl ?_
  refine x_step rfl ?_
  refine x_iast rfl rfl (by decide) rfl (by unfold vp_in; decide) ?_
  refine xm_hs (hp' := hz L xs ++ [xO 0 [.ref 33, .ref 35, .ref 55, .ref 66, .null, .null], xO 1 [.ref 34, .int 0], xI 0 501 (fun _ => 0), xO 2 [.ref 36, .ref 37, .int 0, .int 0, .int 0, .int 0], xV 3 8 (updV (updV (updV (updV (updV (updV (updV (updV (fun _ => .null) 0 (.ref 39)) 1 (.ref 41)) 2 (.ref 43)) 3 (.ref 45)) 4 (.ref 47)) 5 (.ref 49)) 6 (.ref 51)) 7 (.ref 53)), xO 3 [.ref 38, .int 0], xI 0 120 (fun _ => 0), xO 4 [.ref 40, .int 0, .int 0], xI 0 130 (fun _ => 0), xO 4 [.ref 42, .int 0, .int 0], xI 0 130 (fun _ => 0), xO 4 [.ref 44, .int 0, .int 0], xI 0 130 (fun _ => 0), xO 4 [.ref 46, .int 0, .int 0], xI 0 130 (fun _ => 0), xO 4 [.ref 48, .int 0, .int 0], xI 0 130 (fun _ => 0), xO 4 [.ref 50, .int 0, .int 0], xI 0 130 (fun _ => 0), xO 4 [.ref 52, .int 0, .int 0], xI 0 130 (fun _ => 0), xO 4 [.ref 54, .int 0, .int 0], xI 0 130 (fun _ => 0), xO 5 [.ref 56, .ref 65, .int 0], xV 4 8 (fun j => .ref (56 + 1 + j)), xI 0 10 (fun _ => 0), xI 0 10 (fun _ => 0), xI 0 10 (fun _ => 0), xI 0 10 (fun _ => 0), xI 0 10 (fun _ => 0), xI 0 10 (fun _ => 0), xI 0 10 (fun _ => 0), xI 0 10 (fun _ => 0), xI 0 8 (fun _ => 0), xO 6 [.ref 33, .ref 35, .ref 55, .ref 67, .int 0, .int 0, .int 0, .int 0, .int 0], xO 4 [.ref 68, .int 0, .int 0], xI 0 130 (fun _ => 0), xO 7 [.null, .null, .null, .int 0, .int 0, .int 0, .int 0], xO 8 [.ref 71, .ref 72, .ref 73], xI 0 6 (upd (upd (upd (upd (upd (fun _ => 0) 0 41) 1 41) 2 41) 3 41) 4 41), xI 0 6 (upd (upd (upd (upd (fun _ => 0) 0 1) 1 1) 2 1) 3 1), xV 4 6 (fun j => .ref (73 + 1 + j)), xI 0 8 (fun _ => 0), xI 0 8 (fun _ => 0), xI 0 8 (fun _ => 0), xI 0 8 (fun _ => 0), xI 0 8 (fun _ => 0), xI 0 8 (fun _ => 0)]) rfl ?_
  refine x_step rfl ?_
  refine x_step rfl ?_
  refine x_step rfl ?_
  refine x_step rfl ?_
  refine x_iast rfl rfl (by decide) rfl (by unfold vp_in; decide) ?_
  refine xm_hs (hp' := hz L xs ++ [xO 0 [.ref 33, .ref 35, .ref 55, .ref 66, .null, .null], xO 1 [.ref 34, .int 0], xI 0 501 (fun _ => 0), xO 2 [.ref 36, .ref 37, .int 0, .int 0, .int 0, .int 0], xV 3 8 (updV (updV (updV (updV (updV (updV (updV (updV (fun _ => .null) 0 (.ref 39)) 1 (.ref 41)) 2 (.ref 43)) 3 (.ref 45)) 4 (.ref 47)) 5 (.ref 49)) 6 (.ref 51)) 7 (.ref 53)), xO 3 [.ref 38, .int 0], xI 0 120 (fun _ => 0), xO 4 [.ref 40, .int 0, .int 0], xI 0 130 (fun _ => 0), xO 4 [.ref 42, .int 0, .int 0], xI 0 130 (fun _ => 0), xO 4 [.ref 44, .int 0, .int 0], xI 0 130 (fun _ => 0), xO 4 [.ref 46, .int 0, .int 0], xI 0 130 (fun _ => 0), xO 4 [.ref 48, .int 0, .int 0], xI 0 130 (fun _ => 0), xO 4 [.ref 50, .int 0, .int 0], xI 0 130 (fun _ => 0), xO 4 [.ref 52, .int 0, .int 0], xI 0 130 (fun _ => 0), xO 4 [.ref 54, .int 0, .int 0], xI 0 130 (fun _ => 0), xO 5 [.ref 56, .ref 65, .int 0], xV 4 8 (fun j => .ref (56 + 1 + j)), xI 0 10 (fun _ => 0), xI 0 10 (fun _ => 0), xI 0 10 (fun _ => 0), xI 0 10 (fun _ => 0), xI 0 10 (fun _ => 0), xI 0 10 (fun _ => 0), xI 0 10 (fun _ => 0), xI 0 10 (fun _ => 0), xI 0 8 (fun _ => 0), xO 6 [.ref 33, .ref 35, .ref 55, .ref 67, .int 0, .int 0, .int 0, .int 0, .int 0], xO 4 [.ref 68, .int 0, .int 0], xI 0 130 (fun _ => 0), xO 7 [.null, .null, .null, .int 0, .int 0, .int 0, .int 0], xO 8 [.ref 71, .ref 72, .ref 73], xI 0 6 (upd (upd (upd (upd (upd (fun _ => 0) 0 41) 1 41) 2 41) 3 41) 4 41), xI 0 6 (upd (upd (upd (upd (upd (fun _ => 0) 0 1) 1 1) 2 1) 3 1) 4 1), xV 4 6 (fun j => .ref (73 + 1 + j)), xI 0 8 (fun _ => 0), xI 0 8 (fun _ => 0), xI 0 8 (fun _ => 0), xI 0 8 (fun _ => 0), xI 0 8 (fun _ => 0), xI 0 8 (fun _ => 0)]) rfl ?_
  refine x_step rfl ?_
  refine xm_ls (pl' := [some (.ref 70), some (.int 5)]) rfl ?_
  refine x_step rfl ?_
  refine x_step rfl ?_
  refine x_step rfl ?_
  refine x_icmp_ge rfl (fun h => absurd h (by decide)) (fun _ => ?_)
  refine x_step rfl ?_
  refine x_step rfl ?_
  refine x_step rfl ?_
  refine x_step rfl ?_
  refine x_iast rfl rfl (by decide) rfl (by unfold vp_in; decide) ?_
  refine xm_hs (hp' := hz L xs ++ [xO 0 [.ref 33, .ref 35, .ref 55, .ref 66, .null, .null], xO 1 [.ref 34, .int 0], xI 0 501 (fun _ => 0), xO 2 [.ref 36, .ref 37, .int 0, .int 0, .int 0, .int 0], xV 3 8 (updV (updV (updV (updV (updV (updV (updV (updV (fun _ => .null) 0 (.ref 39)) 1 (.ref 41)) 2 (.ref 43)) 3 (.ref 45)) 4 (.ref 47)) 5 (.ref 49)) 6 (.ref 51)) 7 (.ref 53)), xO 3 [.ref 38, .int 0], xI 0 120 (fun _ => 0), xO 4 [.ref 40, .int 0, .int 0], xI 0 130 (fun _ => 0), xO 4 [.ref 42, .int 0, .int 0], xI 0 130 (fun _ => 0), xO 4 [.ref 44, .int 0, .int 0], xI 0 130 (fun _ => 0), xO 4 [.ref 46, .int 0, .int 0], xI 0 130 (fun _ => 0), xO 4 [.ref 48, .int 0, .int 0], xI 0 130 (fun _ => 0), xO 4 [.ref 50, .int 0, .int 0], xI 0 130 (fun _ => 0), xO 4 [.ref 52, .int 0, .int 0], xI 0 130 (fun _ => 0), xO 4 [.ref 54, .int 0, .int 0], xI 0 130 (fun _ => 0), xO 5 [.ref 56, .ref 65, .int 0], xV 4 8 (fun j => .ref (56 + 1 + j)), xI 0 10 (fun _ => 0), xI 0 10 (fun _ => 0), xI 0 10 (fun _ => 0), xI 0 10 (fun _ => 0), xI 0 10 (fun _ => 0), xI 0 10 (fun _ => 0), xI 0 10 (fun _ => 0), xI 0 10 (fun _ => 0), xI 0 8 (fun _ => 0), xO 6 [.ref 33, .ref 35, .ref 55, .ref 67, .int 0, .int 0, .int 0, .int 0, .int 0], xO 4 [.ref 68, .int 0, .int 0], xI 0 130 (fun _ => 0), xO 7 [.null, .null, .null, .int 0, .int 0, .int 0, .int 0], xO 8 [.ref 71, .ref 72, .ref 73], xI 0 6 (upd (upd (upd (upd (upd (upd (fun _ => 0) 0 41) 1 41) 2 41) 3 41) 4 41) 5 41), xI 0 6 (upd (upd (upd (upd (upd (fun _ => 0) 0 1) 1 1) 2 1) 3 1) 4 1), xV 4 6 (fun j => .ref (73 + 1 + j)), xI 0 8 (fun _ => 0), xI 0 8 (fun _ => 0), xI 0 8 (fun _ => 0), xI 0 8 (fun _ => 0), xI 0 8 (fun _ => 0), xI 0 8 (fun _ => 0)]) rfl ?_
  refine x_step rfl ?_
  refine x_step rfl ?_
  refine x_step rfl ?_
  refine x_step rfl ?_
  refine x_iast rfl rfl (by decide) rfl (by unfold vp_in; decide) ?_
  refine xm_hs (hp' := hz L xs ++ [xO 0 [.ref 33, .ref 35, .ref 55, .ref 66, .null, .null], xO 1 [.ref 34, .int 0], xI 0 501 (fun _ => 0), xO 2 [.ref 36, .ref 37, .int 0, .int 0, .int 0, .int 0], xV 3 8 (updV (updV (updV (updV (updV (updV (updV (updV (fun _ => .null) 0 (.ref 39)) 1 (.ref 41)) 2 (.ref 43)) 3 (.ref 45)) 4 (.ref 47)) 5 (.ref 49)) 6 (.ref 51)) 7 (.ref 53)), xO 3 [.ref 38, .int 0], xI 0 120 (fun _ => 0), xO 4 [.ref 40, .int 0, .int 0], xI 0 130 (fun _ => 0), xO 4 [.ref 42, .int 0, .int 0], xI 0 130 (fun _ => 0), xO 4 [.ref 44, .int 0, .int 0], xI 0 130 (fun _ => 0), xO 4 [.ref 46, .int 0, .int 0], xI 0 130 (fun _ => 0), xO 4 [.ref 48, .int 0, .int 0], xI 0 130 (fun _ => 0), xO 4 [.ref 50, .int 0, .int 0], xI 0 130 (fun _ => 0), xO 4 [.ref 52, .int 0, .int 0], xI 0 130 (fun _ => 0), xO 4 [.ref 54, .int 0, .int 0], xI 0 130 (fun _ => 0), xO 5 [.ref 56, .ref 65, .int 0], xV 4 8 (fun j => .ref (56 + 1 + j)), xI 0 10 (fun _ => 0), xI 0 10 (fun _ => 0), xI 0 10 (fun _ => 0), xI 0 10 (fun _ => 0), xI 0 10 (fun _ => 0), xI 0 10 (fun _ => 0), xI 0 10 (fun _ => 0), xI 0 10 (fun _ => 0), xI 0 8 (fun _ => 0), xO 6 [.ref 33, .ref 35, .ref 55, .ref 67, .int 0, .int 0, .int 0, .int 0, .int 0], xO 4 [.ref 68, .int 0, .int 0], xI 0 130 (fun _ => 0), xO 7 [.null, .null, .null, .int 0, .int 0, .int 0, .int 0], xO 8 [.ref 71, .ref 72, .ref 73], xI 0 6 (upd (upd (upd (upd (upd (upd (fun _ => 0) 0 41) 1 41) 2 41) 3 41) 4 41) 5 41), xI 0 6 (upd (upd (upd (upd (upd (upd (fun _ => 0) 0 1) 1 1) 2 1) 3 1) 4 1) 5 1), xV 4 6 (fun j => .ref (73 + 1 + j)), xI 0 8 (fun _ => 0), xI 0 8 (fun _ => 0), xI 0 8 (fun _ => 0), xI 0 8 (fun _ => 0), xI 0 8 (fun _ => 0), xI 0 8 (fun _ => 0)]) rfl ?_
  refine x_step rfl ?_
  refine xm_ls (pl' := [some (.ref 70), some (.int 6)]) rfl ?_
  refine x_step rfl ?_
  refine x_step rfl ?_
  refine x_step rfl ?_
  refine x_icmp_ge rfl (fun _ => ?_) (fun h => absurd (by decide) h)
  exact x_ret rfl rfl ⟨rfl, rfl⟩
set_option maxRecDepth 10000 in
/-- FabLink$Links.<init> -/
theorem ct15 : XM l 9 1 16 55 [.ref 80] (hz L xs ++ [xO 0 [.ref 33, .ref 35, .ref 55, .ref 66, .null, .null], xO 1 [.ref 34, .int 0], xI 0 501 (fun _ => 0), xO 2 [.ref 36, .ref 37, .int 0, .int 0, .int 0, .int 0], xV 3 8 (updV (updV (updV (updV (updV (updV (updV (updV (fun _ => .null) 0 (.ref 39)) 1 (.ref 41)) 2 (.ref 43)) 3 (.ref 45)) 4 (.ref 47)) 5 (.ref 49)) 6 (.ref 51)) 7 (.ref 53)), xO 3 [.ref 38, .int 0], xI 0 120 (fun _ => 0), xO 4 [.ref 40, .int 0, .int 0], xI 0 130 (fun _ => 0), xO 4 [.ref 42, .int 0, .int 0], xI 0 130 (fun _ => 0), xO 4 [.ref 44, .int 0, .int 0], xI 0 130 (fun _ => 0), xO 4 [.ref 46, .int 0, .int 0], xI 0 130 (fun _ => 0), xO 4 [.ref 48, .int 0, .int 0], xI 0 130 (fun _ => 0), xO 4 [.ref 50, .int 0, .int 0], xI 0 130 (fun _ => 0), xO 4 [.ref 52, .int 0, .int 0], xI 0 130 (fun _ => 0), xO 4 [.ref 54, .int 0, .int 0], xI 0 130 (fun _ => 0), xO 5 [.ref 56, .ref 65, .int 0], xV 4 8 (fun j => .ref (56 + 1 + j)), xI 0 10 (fun _ => 0), xI 0 10 (fun _ => 0), xI 0 10 (fun _ => 0), xI 0 10 (fun _ => 0), xI 0 10 (fun _ => 0), xI 0 10 (fun _ => 0), xI 0 10 (fun _ => 0), xI 0 10 (fun _ => 0), xI 0 8 (fun _ => 0), xO 6 [.ref 33, .ref 35, .ref 55, .ref 67, .int 0, .int 0, .int 0, .int 0, .int 0], xO 4 [.ref 68, .int 0, .int 0], xI 0 130 (fun _ => 0), xO 7 [.null, .ref 70, .null, .int 0, .int 0, .int 0, .int 0], xO 8 [.ref 71, .ref 72, .ref 73], xI 0 6 (upd (upd (upd (upd (upd (upd (fun _ => 0) 0 41) 1 41) 2 41) 3 41) 4 41) 5 41), xI 0 6 (upd (upd (upd (upd (upd (upd (fun _ => 0) 0 1) 1 1) 2 1) 3 1) 4 1) 5 1), xV 4 6 (fun j => .ref (73 + 1 + j)), xI 0 8 (fun _ => 0), xI 0 8 (fun _ => 0), xI 0 8 (fun _ => 0), xI 0 8 (fun _ => 0), xI 0 8 (fun _ => 0), xI 0 8 (fun _ => 0), xO 9 [.null, .null, .null, .null, .null]]) (xm_is none (hz L xs ++ [xO 0 [.ref 33, .ref 35, .ref 55, .ref 66, .null, .null], xO 1 [.ref 34, .int 0], xI 0 501 (fun _ => 0), xO 2 [.ref 36, .ref 37, .int 0, .int 0, .int 0, .int 0], xV 3 8 (updV (updV (updV (updV (updV (updV (updV (updV (fun _ => .null) 0 (.ref 39)) 1 (.ref 41)) 2 (.ref 43)) 3 (.ref 45)) 4 (.ref 47)) 5 (.ref 49)) 6 (.ref 51)) 7 (.ref 53)), xO 3 [.ref 38, .int 0], xI 0 120 (fun _ => 0), xO 4 [.ref 40, .int 0, .int 0], xI 0 130 (fun _ => 0), xO 4 [.ref 42, .int 0, .int 0], xI 0 130 (fun _ => 0), xO 4 [.ref 44, .int 0, .int 0], xI 0 130 (fun _ => 0), xO 4 [.ref 46, .int 0, .int 0], xI 0 130 (fun _ => 0), xO 4 [.ref 48, .int 0, .int 0], xI 0 130 (fun _ => 0), xO 4 [.ref 50, .int 0, .int 0], xI 0 130 (fun _ => 0), xO 4 [.ref 52, .int 0, .int 0], xI 0 130 (fun _ => 0), xO 4 [.ref 54, .int 0, .int 0], xI 0 130 (fun _ => 0), xO 5 [.ref 56, .ref 65, .int 0], xV 4 8 (fun j => .ref (56 + 1 + j)), xI 0 10 (fun _ => 0), xI 0 10 (fun _ => 0), xI 0 10 (fun _ => 0), xI 0 10 (fun _ => 0), xI 0 10 (fun _ => 0), xI 0 10 (fun _ => 0), xI 0 10 (fun _ => 0), xI 0 10 (fun _ => 0), xI 0 8 (fun _ => 0), xO 6 [.ref 33, .ref 35, .ref 55, .ref 67, .int 0, .int 0, .int 0, .int 0, .int 0], xO 4 [.ref 68, .int 0, .int 0], xI 0 130 (fun _ => 0), xO 7 [.null, .ref 70, .null, .int 0, .int 0, .int 0, .int 0], xO 8 [.ref 71, .ref 72, .ref 73], xI 0 6 (upd (upd (upd (upd (upd (upd (fun _ => 0) 0 41) 1 41) 2 41) 3 41) 4 41) 5 41), xI 0 6 (upd (upd (upd (upd (upd (upd (fun _ => 0) 0 1) 1 1) 2 1) 3 1) 4 1) 5 1), xV 4 6 (fun j => .ref (73 + 1 + j)), xI 0 8 (fun _ => 0), xI 0 8 (fun _ => 0), xI 0 8 (fun _ => 0), xI 0 8 (fun _ => 0), xI 0 8 (fun _ => 0), xI 0 8 (fun _ => 0), xO 9 [.ref 81, .ref 82, .ref 88, .ref 89, .ref 96], xI 0 5 (fun _ => 0), xV 4 5 (fun j => .ref (82 + 1 + j)), xI 0 3 (fun _ => 0), xI 0 3 (fun _ => 0), xI 0 3 (fun _ => 0), xI 0 3 (fun _ => 0), xI 0 3 (fun _ => 0), xI 0 6 (fun _ => 0), xV 4 6 (fun j => .ref (89 + 1 + j)), xI 0 2 (fun _ => 0), xI 0 2 (fun _ => 0), xI 0 2 (fun _ => 0), xI 0 2 (fun _ => 0), xI 0 2 (fun _ => 0), xI 0 2 (fun _ => 0), xI 2 6 (fun _ => 0)])) := by
  refine XE (pl := [some (.ref 80)]) xg9 rfl ?_
  refine x_step rfl ?_
  refine x_objInit rfl (by omega) (Nat.le_of_ble_eq_true rfl) ?_
  refine x_step rfl ?_
  refine x_step rfl ?_
  refine x_newaI (a := 81) (N := 5) rfl rfl (by decide) rfl (by decide) rfl (by omega) (by omega) ?_
  refine x_step rfl ?_
  refine xm_hs (hp' := hz L xs ++ [xO 0 [.ref 33, .ref 35, .ref 55, .ref 66, .null, .null], xO 1 [.ref 34, .int 0], xI 0 501 (fun _ => 0), xO 2 [.ref 36, .ref 37, .int 0, .int 0, .int 0, .int 0], xV 3 8 (updV (updV (updV (updV (updV (updV (updV (updV (fun _ => .null) 0 (.ref 39)) 1 (.ref 41)) 2 (.ref 43)) 3 (.ref 45)) 4 (.ref 47)) 5 (.ref 49)) 6 (.ref 51)) 7 (.ref 53)), xO 3 [.ref 38, .int 0], xI 0 120 (fun _ => 0), xO 4 [.ref 40, .int 0, .int 0], xI 0 130 (fun _ => 0), xO 4 [.ref 42, .int 0, .int 0], xI 0 130 (fun _ => 0), xO 4 [.ref 44, .int 0, .int 0], xI 0 130 (fun _ => 0), xO 4 [.ref 46, .int 0, .int 0], xI 0 130 (fun _ => 0), xO 4 [.ref 48, .int 0, .int 0], xI 0 130 (fun _ => 0), xO 4 [.ref 50, .int 0, .int 0], xI 0 130 (fun _ => 0), xO 4 [.ref 52, .int 0, .int 0], xI 0 130 (fun _ => 0), xO 4 [.ref 54, .int 0, .int 0], xI 0 130 (fun _ => 0), xO 5 [.ref 56, .ref 65, .int 0], xV 4 8 (fun j => .ref (56 + 1 + j)), xI 0 10 (fun _ => 0), xI 0 10 (fun _ => 0), xI 0 10 (fun _ => 0), xI 0 10 (fun _ => 0), xI 0 10 (fun _ => 0), xI 0 10 (fun _ => 0), xI 0 10 (fun _ => 0), xI 0 10 (fun _ => 0), xI 0 8 (fun _ => 0), xO 6 [.ref 33, .ref 35, .ref 55, .ref 67, .int 0, .int 0, .int 0, .int 0, .int 0], xO 4 [.ref 68, .int 0, .int 0], xI 0 130 (fun _ => 0), xO 7 [.null, .ref 70, .null, .int 0, .int 0, .int 0, .int 0], xO 8 [.ref 71, .ref 72, .ref 73], xI 0 6 (upd (upd (upd (upd (upd (upd (fun _ => 0) 0 41) 1 41) 2 41) 3 41) 4 41) 5 41), xI 0 6 (upd (upd (upd (upd (upd (upd (fun _ => 0) 0 1) 1 1) 2 1) 3 1) 4 1) 5 1), xV 4 6 (fun j => .ref (73 + 1 + j)), xI 0 8 (fun _ => 0), xI 0 8 (fun _ => 0), xI 0 8 (fun _ => 0), xI 0 8 (fun _ => 0), xI 0 8 (fun _ => 0), xI 0 8 (fun _ => 0), xO 9 [.ref 81, .null, .null, .null, .null], xI 0 5 (fun _ => 0)]) rfl ?_
  refine x_step rfl ?_
  refine x_step rfl ?_
  refine x_step rfl ?_
  refine x_mna (a := 82) (N := 5) (M := 3) rfl rfl (by decide) (by decide) rfl rfl (by decide) (by decide) rfl (by omega) (by omega) ?_
  refine x_step rfl ?_
  refine xm_hs (hp' := hz L xs ++ [xO 0 [.ref 33, .ref 35, .ref 55, .ref 66, .null, .null], xO 1 [.ref 34, .int 0], xI 0 501 (fun _ => 0), xO 2 [.ref 36, .ref 37, .int 0, .int 0, .int 0, .int 0], xV 3 8 (updV (updV (updV (updV (updV (updV (updV (updV (fun _ => .null) 0 (.ref 39)) 1 (.ref 41)) 2 (.ref 43)) 3 (.ref 45)) 4 (.ref 47)) 5 (.ref 49)) 6 (.ref 51)) 7 (.ref 53)), xO 3 [.ref 38, .int 0], xI 0 120 (fun _ => 0), xO 4 [.ref 40, .int 0, .int 0], xI 0 130 (fun _ => 0), xO 4 [.ref 42, .int 0, .int 0], xI 0 130 (fun _ => 0), xO 4 [.ref 44, .int 0, .int 0], xI 0 130 (fun _ => 0), xO 4 [.ref 46, .int 0, .int 0], xI 0 130 (fun _ => 0), xO 4 [.ref 48, .int 0, .int 0], xI 0 130 (fun _ => 0), xO 4 [.ref 50, .int 0, .int 0], xI 0 130 (fun _ => 0), xO 4 [.ref 52, .int 0, .int 0], xI 0 130 (fun _ => 0), xO 4 [.ref 54, .int 0, .int 0], xI 0 130 (fun _ => 0), xO 5 [.ref 56, .ref 65, .int 0], xV 4 8 (fun j => .ref (56 + 1 + j)), xI 0 10 (fun _ => 0), xI 0 10 (fun _ => 0), xI 0 10 (fun _ => 0), xI 0 10 (fun _ => 0), xI 0 10 (fun _ => 0), xI 0 10 (fun _ => 0), xI 0 10 (fun _ => 0), xI 0 10 (fun _ => 0), xI 0 8 (fun _ => 0), xO 6 [.ref 33, .ref 35, .ref 55, .ref 67, .int 0, .int 0, .int 0, .int 0, .int 0], xO 4 [.ref 68, .int 0, .int 0], xI 0 130 (fun _ => 0), xO 7 [.null, .ref 70, .null, .int 0, .int 0, .int 0, .int 0], xO 8 [.ref 71, .ref 72, .ref 73], xI 0 6 (upd (upd (upd (upd (upd (upd (fun _ => 0) 0 41) 1 41) 2 41) 3 41) 4 41) 5 41), xI 0 6 (upd (upd (upd (upd (upd (upd (fun _ => 0) 0 1) 1 1) 2 1) 3 1) 4 1) 5 1), xV 4 6 (fun j => .ref (73 + 1 + j)), xI 0 8 (fun _ => 0), xI 0 8 (fun _ => 0), xI 0 8 (fun _ => 0), xI 0 8 (fun _ => 0), xI 0 8 (fun _ => 0), xI 0 8 (fun _ => 0), xO 9 [.ref 81, .ref 82, .null, .null, .null], xI 0 5 (fun _ => 0), xV 4 5 (fun j => .ref (82 + 1 + j)), xI 0 3 (fun _ => 0), xI 0 3 (fun _ => 0), xI 0 3 (fun _ => 0), xI 0 3 (fun _ => 0), xI 0 3 (fun _ => 0)]) rfl ?_
  refine x_step rfl ?_
  refine x_step rfl ?_
  refine x_newaI (a := 88) (N := 6) rfl rfl (by decide) rfl (by decide) rfl (by omega) (by omega) ?_
  refine x_step rfl ?_
  refine xm_hs (hp' := hz L xs ++ [xO 0 [.ref 33, .ref 35, .ref 55, .ref 66, .null, .null], xO 1 [.ref 34, .int 0], xI 0 501 (fun _ => 0), xO 2 [.ref 36, .ref 37, .int 0, .int 0, .int 0, .int 0], xV 3 8 (updV (updV (updV (updV (updV (updV (updV (updV (fun _ => .null) 0 (.ref 39)) 1 (.ref 41)) 2 (.ref 43)) 3 (.ref 45)) 4 (.ref 47)) 5 (.ref 49)) 6 (.ref 51)) 7 (.ref 53)), xO 3 [.ref 38, .int 0], xI 0 120 (fun _ => 0), xO 4 [.ref 40, .int 0, .int 0], xI 0 130 (fun _ => 0), xO 4 [.ref 42, .int 0, .int 0], xI 0 130 (fun _ => 0), xO 4 [.ref 44, .int 0, .int 0], xI 0 130 (fun _ => 0), xO 4 [.ref 46, .int 0, .int 0], xI 0 130 (fun _ => 0), xO 4 [.ref 48, .int 0, .int 0], xI 0 130 (fun _ => 0), xO 4 [.ref 50, .int 0, .int 0], xI 0 130 (fun _ => 0), xO 4 [.ref 52, .int 0, .int 0], xI 0 130 (fun _ => 0), xO 4 [.ref 54, .int 0, .int 0], xI 0 130 (fun _ => 0), xO 5 [.ref 56, .ref 65, .int 0], xV 4 8 (fun j => .ref (56 + 1 + j)), xI 0 10 (fun _ => 0), xI 0 10 (fun _ => 0), xI 0 10 (fun _ => 0), xI 0 10 (fun _ => 0), xI 0 10 (fun _ => 0), xI 0 10 (fun _ => 0), xI 0 10 (fun _ => 0), xI 0 10 (fun _ => 0), xI 0 8 (fun _ => 0), xO 6 [.ref 33, .ref 35, .ref 55, .ref 67, .int 0, .int 0, .int 0, .int 0, .int 0], xO 4 [.ref 68, .int 0, .int 0], xI 0 130 (fun _ => 0), xO 7 [.null, .ref 70, .null, .int 0, .int 0, .int 0, .int 0], xO 8 [.ref 71, .ref 72, .ref 73], xI 0 6 (upd (upd (upd (upd (upd (upd (fun _ => 0) 0 41) 1 41) 2 41) 3 41) 4 41) 5 41), xI 0 6 (upd (upd (upd (upd (upd (upd (fun _ => 0) 0 1) 1 1) 2 1) 3 1) 4 1) 5 1), xV 4 6 (fun j => .ref (73 + 1 + j)), xI 0 8 (fun _ => 0), xI 0 8 (fun _ => 0), xI 0 8 (fun _ => 0), xI 0 8 (fun _ => 0), xI 0 8 (fun _ => 0), xI 0 8 (fun _ => 0), xO 9 [.ref 81, .ref 82, .ref 88, .null, .null], xI 0 5 (fun _ => 0), xV 4 5 (fun j => .ref (82 + 1 + j)), xI 0 3 (fun _ => 0), xI 0 3 (fun _ => 0), xI 0 3 (fun _ => 0), xI 0 3 (fun _ => 0), xI 0 3 (fun _ => 0), xI 0 6 (fun _ => 0)]) rfl ?_
  refine x_step rfl ?_
  refine x_step rfl ?_
  refine x_step rfl ?_
  refine x_mna (a := 89) (N := 6) (M := 2) rfl rfl (by decide) (by decide) rfl rfl (by decide) (by decide) rfl (by omega) (by omega) ?_
  refine x_step rfl ?_
  refine xm_hs (hp' := hz L xs ++ [xO 0 [.ref 33, .ref 35, .ref 55, .ref 66, .null, .null], xO 1 [.ref 34, .int 0], xI 0 501 (fun _ => 0), xO 2 [.ref 36, .ref 37, .int 0, .int 0, .int 0, .int 0], xV 3 8 (updV (updV (updV (updV (updV (updV (updV (updV (fun _ => .null) 0 (.ref 39)) 1 (.ref 41)) 2 (.ref 43)) 3 (.ref 45)) 4 (.ref 47)) 5 (.ref 49)) 6 (.ref 51)) 7 (.ref 53)), xO 3 [.ref 38, .int 0], xI 0 120 (fun _ => 0), xO 4 [.ref 40, .int 0, .int 0], xI 0 130 (fun _ => 0), xO 4 [.ref 42, .int 0, .int 0], xI 0 130 (fun _ => 0), xO 4 [.ref 44, .int 0, .int 0], xI 0 130 (fun _ => 0), xO 4 [.ref 46, .int 0, .int 0], xI 0 130 (fun _ => 0), xO 4 [.ref 48, .int 0, .int 0], xI 0 130 (fun _ => 0), xO 4 [.ref 50, .int 0, .int 0], xI 0 130 (fun _ => 0), xO 4 [.ref 52, .int 0, .int 0], xI 0 130 (fun _ => 0), xO 4 [.ref 54, .int 0, .int 0], xI 0 130 (fun _ => 0), xO 5 [.ref 56, .ref 65, .int 0], xV 4 8 (fun j => .ref (56 + 1 + j)), xI 0 10 (fun _ => 0), xI 0 10 (fun _ => 0), xI 0 10 (fun _ => 0), xI 0 10 (fun _ => 0), xI 0 10 (fun _ => 0), xI 0 10 (fun _ => 0), xI 0 10 (fun _ => 0), xI 0 10 (fun _ => 0), xI 0 8 (fun _ => 0), xO 6 [.ref 33, .ref 35, .ref 55, .ref 67, .int 0, .int 0, .int 0, .int 0, .int 0], xO 4 [.ref 68, .int 0, .int 0], xI 0 130 (fun _ => 0), xO 7 [.null, .ref 70, .null, .int 0, .int 0, .int 0, .int 0], xO 8 [.ref 71, .ref 72, .ref 73], xI 0 6 (upd (upd (upd (upd (upd (upd (fun _ => 0) 0 41) 1 41) 2 41) 3 41) 4 41) 5 41), xI 0 6 (upd (upd (upd (upd (upd (upd (fun _ => 0) 0 1) 1 1) 2 1) 3 1) 4 1) 5 1), xV 4 6 (fun j => .ref (73 + 1 + j)), xI 0 8 (fun _ => 0), xI 0 8 (fun _ => 0), xI 0 8 (fun _ => 0), xI 0 8 (fun _ => 0), xI 0 8 (fun _ => 0), xI 0 8 (fun _ => 0), xO 9 [.ref 81, .ref 82, .ref 88, .ref 89, .null], xI 0 5 (fun _ => 0), xV 4 5 (fun j => .ref (82 + 1 + j)), xI 0 3 (fun _ => 0), xI 0 3 (fun _ => 0), xI 0 3 (fun _ => 0), xI 0 3 (fun _ => 0), xI 0 3 (fun _ => 0), xI 0 6 (fun _ => 0), xV 4 6 (fun j => .ref (89 + 1 + j)), xI 0 2 (fun _ => 0), xI 0 2 (fun _ => 0), xI 0 2 (fun _ => 0), xI 0 2 (fun _ => 0), xI 0 2 (fun _ => 0), xI 0 2 (fun _ => 0)]) rfl ?_
  refine x_step rfl ?_
  refine x_step rfl ?_
  refine x_newaI (a := 96) (N := 6) rfl rfl (by decide) rfl (by decide) rfl (by omega) (by omega) ?_
  refine x_step rfl ?_
  refine xm_hs (hp' := hz L xs ++ [xO 0 [.ref 33, .ref 35, .ref 55, .ref 66, .null, .null], xO 1 [.ref 34, .int 0], xI 0 501 (fun _ => 0), xO 2 [.ref 36, .ref 37, .int 0, .int 0, .int 0, .int 0], xV 3 8 (updV (updV (updV (updV (updV (updV (updV (updV (fun _ => .null) 0 (.ref 39)) 1 (.ref 41)) 2 (.ref 43)) 3 (.ref 45)) 4 (.ref 47)) 5 (.ref 49)) 6 (.ref 51)) 7 (.ref 53)), xO 3 [.ref 38, .int 0], xI 0 120 (fun _ => 0), xO 4 [.ref 40, .int 0, .int 0], xI 0 130 (fun _ => 0), xO 4 [.ref 42, .int 0, .int 0], xI 0 130 (fun _ => 0), xO 4 [.ref 44, .int 0, .int 0], xI 0 130 (fun _ => 0), xO 4 [.ref 46, .int 0, .int 0], xI 0 130 (fun _ => 0), xO 4 [.ref 48, .int 0, .int 0], xI 0 130 (fun _ => 0), xO 4 [.ref 50, .int 0, .int 0], xI 0 130 (fun _ => 0), xO 4 [.ref 52, .int 0, .int 0], xI 0 130 (fun _ => 0), xO 4 [.ref 54, .int 0, .int 0], xI 0 130 (fun _ => 0), xO 5 [.ref 56, .ref 65, .int 0], xV 4 8 (fun j => .ref (56 + 1 + j)), xI 0 10 (fun _ => 0), xI 0 10 (fun _ => 0), xI 0 10 (fun _ => 0), xI 0 10 (fun _ => 0), xI 0 10 (fun _ => 0), xI 0 10 (fun _ => 0), xI 0 10 (fun _ => 0), xI 0 10 (fun _ => 0), xI 0 8 (fun _ => 0), xO 6 [.ref 33, .ref 35, .ref 55, .ref 67, .int 0, .int 0, .int 0, .int 0, .int 0], xO 4 [.ref 68, .int 0, .int 0], xI 0 130 (fun _ => 0), xO 7 [.null, .ref 70, .null, .int 0, .int 0, .int 0, .int 0], xO 8 [.ref 71, .ref 72, .ref 73], xI 0 6 (upd (upd (upd (upd (upd (upd (fun _ => 0) 0 41) 1 41) 2 41) 3 41) 4 41) 5 41), xI 0 6 (upd (upd (upd (upd (upd (upd (fun _ => 0) 0 1) 1 1) 2 1) 3 1) 4 1) 5 1), xV 4 6 (fun j => .ref (73 + 1 + j)), xI 0 8 (fun _ => 0), xI 0 8 (fun _ => 0), xI 0 8 (fun _ => 0), xI 0 8 (fun _ => 0), xI 0 8 (fun _ => 0), xI 0 8 (fun _ => 0), xO 9 [.ref 81, .ref 82, .ref 88, .ref 89, .ref 96], xI 0 5 (fun _ => 0), xV 4 5 (fun j => .ref (82 + 1 + j)), xI 0 3 (fun _ => 0), xI 0 3 (fun _ => 0), xI 0 3 (fun _ => 0), xI 0 3 (fun _ => 0), xI 0 3 (fun _ => 0), xI 0 6 (fun _ => 0), xV 4 6 (fun j => .ref (89 + 1 + j)), xI 0 2 (fun _ => 0), xI 0 2 (fun _ => 0), xI 0 2 (fun _ => 0), xI 0 2 (fun _ => 0), xI 0 2 (fun _ => 0), xI 0 2 (fun _ => 0), xI 2 6 (fun _ => 0)]) rfl ?_
  exact x_ret rfl rfl ⟨rfl, rfl⟩
set_option maxRecDepth 10000 in
/-- FabLink$Machine.<init> -/
theorem ct16 : XM l 7 2 27 129 [.ref 69, .ref 35] (hz L xs ++ [xO 0 [.ref 33, .ref 35, .ref 55, .ref 66, .null, .null], xO 1 [.ref 34, .int 0], xI 0 501 (fun _ => 0), xO 2 [.ref 36, .ref 37, .int 0, .int 0, .int 0, .int 0], xV 3 8 (updV (updV (updV (updV (updV (updV (updV (updV (fun _ => .null) 0 (.ref 39)) 1 (.ref 41)) 2 (.ref 43)) 3 (.ref 45)) 4 (.ref 47)) 5 (.ref 49)) 6 (.ref 51)) 7 (.ref 53)), xO 3 [.ref 38, .int 0], xI 0 120 (fun _ => 0), xO 4 [.ref 40, .int 0, .int 0], xI 0 130 (fun _ => 0), xO 4 [.ref 42, .int 0, .int 0], xI 0 130 (fun _ => 0), xO 4 [.ref 44, .int 0, .int 0], xI 0 130 (fun _ => 0), xO 4 [.ref 46, .int 0, .int 0], xI 0 130 (fun _ => 0), xO 4 [.ref 48, .int 0, .int 0], xI 0 130 (fun _ => 0), xO 4 [.ref 50, .int 0, .int 0], xI 0 130 (fun _ => 0), xO 4 [.ref 52, .int 0, .int 0], xI 0 130 (fun _ => 0), xO 4 [.ref 54, .int 0, .int 0], xI 0 130 (fun _ => 0), xO 5 [.ref 56, .ref 65, .int 0], xV 4 8 (fun j => .ref (56 + 1 + j)), xI 0 10 (fun _ => 0), xI 0 10 (fun _ => 0), xI 0 10 (fun _ => 0), xI 0 10 (fun _ => 0), xI 0 10 (fun _ => 0), xI 0 10 (fun _ => 0), xI 0 10 (fun _ => 0), xI 0 10 (fun _ => 0), xI 0 8 (fun _ => 0), xO 6 [.ref 33, .ref 35, .ref 55, .ref 67, .int 0, .int 0, .int 0, .int 0, .int 0], xO 4 [.ref 68, .int 0, .int 0], xI 0 130 (fun _ => 0), xO 7 [.null, .null, .null, .int 0, .int 0, .int 0, .int 0]]) (xm_is none (hz L xs ++ [xO 0 [.ref 33, .ref 35, .ref 55, .ref 66, .null, .null], xO 1 [.ref 34, .int 0], xI 0 501 (fun _ => 0), xO 2 [.ref 36, .ref 37, .int 0, .int 0, .int 0, .int 0], xV 3 8 (updV (updV (updV (updV (updV (updV (updV (updV (fun _ => .null) 0 (.ref 39)) 1 (.ref 41)) 2 (.ref 43)) 3 (.ref 45)) 4 (.ref 47)) 5 (.ref 49)) 6 (.ref 51)) 7 (.ref 53)), xO 3 [.ref 38, .int 0], xI 0 120 (fun _ => 0), xO 4 [.ref 40, .int 0, .int 0], xI 0 130 (fun _ => 0), xO 4 [.ref 42, .int 0, .int 0], xI 0 130 (fun _ => 0), xO 4 [.ref 44, .int 0, .int 0], xI 0 130 (fun _ => 0), xO 4 [.ref 46, .int 0, .int 0], xI 0 130 (fun _ => 0), xO 4 [.ref 48, .int 0, .int 0], xI 0 130 (fun _ => 0), xO 4 [.ref 50, .int 0, .int 0], xI 0 130 (fun _ => 0), xO 4 [.ref 52, .int 0, .int 0], xI 0 130 (fun _ => 0), xO 4 [.ref 54, .int 0, .int 0], xI 0 130 (fun _ => 0), xO 5 [.ref 56, .ref 65, .int 0], xV 4 8 (fun j => .ref (56 + 1 + j)), xI 0 10 (fun _ => 0), xI 0 10 (fun _ => 0), xI 0 10 (fun _ => 0), xI 0 10 (fun _ => 0), xI 0 10 (fun _ => 0), xI 0 10 (fun _ => 0), xI 0 10 (fun _ => 0), xI 0 10 (fun _ => 0), xI 0 8 (fun _ => 0), xO 6 [.ref 33, .ref 35, .ref 55, .ref 67, .int 0, .int 0, .int 0, .int 0, .int 0], xO 4 [.ref 68, .int 0, .int 0], xI 0 130 (fun _ => 0), xO 7 [.ref 35, .ref 70, .ref 80, .int 0, .int 0, .int 3, .int 0], xO 8 [.ref 71, .ref 72, .ref 73], xI 0 6 (upd (upd (upd (upd (upd (upd (fun _ => 0) 0 41) 1 41) 2 41) 3 41) 4 41) 5 41), xI 0 6 (upd (upd (upd (upd (upd (upd (fun _ => 0) 0 1) 1 1) 2 1) 3 1) 4 1) 5 1), xV 4 6 (fun j => .ref (73 + 1 + j)), xI 0 8 (fun _ => 0), xI 0 8 (fun _ => 0), xI 0 8 (fun _ => 0), xI 0 8 (fun _ => 0), xI 0 8 (fun _ => 0), xI 0 8 (fun _ => 0), xO 9 [.ref 81, .ref 82, .ref 88, .ref 89, .ref 96], xI 0 5 (fun _ => 0), xV 4 5 (fun j => .ref (82 + 1 + j)), xI 0 3 (fun _ => 0), xI 0 3 (fun _ => 0), xI 0 3 (fun _ => 0), xI 0 3 (fun _ => 0), xI 0 3 (fun _ => 0), xI 0 6 (fun _ => 0), xV 4 6 (fun j => .ref (89 + 1 + j)), xI 0 2 (fun _ => 0), xI 0 2 (fun _ => 0), xI 0 2 (fun _ => 0), xI 0 2 (fun _ => 0), xI 0 2 (fun _ => 0), xI 0 2 (fun _ => 0), xI 2 6 (fun _ => 0)])) := by
  refine XE (pl := [some (.ref 69), some (.ref 35)]) xg7 rfl ?_
  refine x_step rfl ?_
  refine x_objInit rfl (by omega) (Nat.le_of_ble_eq_true rfl) ?_
  refine x_step rfl ?_
  refine x_new (a := 70) rfl rfl rfl rfl (by omega) (by omega) ?_
  refine x_step rfl ?_
  refine xm_hs (hp' := hz L xs ++ [xO 0 [.ref 33, .ref 35, .ref 55, .ref 66, .null, .null], xO 1 [.ref 34, .int 0], xI 0 501 (fun _ => 0), xO 2 [.ref 36, .ref 37, .int 0, .int 0, .int 0, .int 0], xV 3 8 (updV (updV (updV (updV (updV (updV (updV (updV (fun _ => .null) 0 (.ref 39)) 1 (.ref 41)) 2 (.ref 43)) 3 (.ref 45)) 4 (.ref 47)) 5 (.ref 49)) 6 (.ref 51)) 7 (.ref 53)), xO 3 [.ref 38, .int 0], xI 0 120 (fun _ => 0), xO 4 [.ref 40, .int 0, .int 0], xI 0 130 (fun _ => 0), xO 4 [.ref 42, .int 0, .int 0], xI 0 130 (fun _ => 0), xO 4 [.ref 44, .int 0, .int 0], xI 0 130 (fun _ => 0), xO 4 [.ref 46, .int 0, .int 0], xI 0 130 (fun _ => 0), xO 4 [.ref 48, .int 0, .int 0], xI 0 130 (fun _ => 0), xO 4 [.ref 50, .int 0, .int 0], xI 0 130 (fun _ => 0), xO 4 [.ref 52, .int 0, .int 0], xI 0 130 (fun _ => 0), xO 4 [.ref 54, .int 0, .int 0], xI 0 130 (fun _ => 0), xO 5 [.ref 56, .ref 65, .int 0], xV 4 8 (fun j => .ref (56 + 1 + j)), xI 0 10 (fun _ => 0), xI 0 10 (fun _ => 0), xI 0 10 (fun _ => 0), xI 0 10 (fun _ => 0), xI 0 10 (fun _ => 0), xI 0 10 (fun _ => 0), xI 0 10 (fun _ => 0), xI 0 10 (fun _ => 0), xI 0 8 (fun _ => 0), xO 6 [.ref 33, .ref 35, .ref 55, .ref 67, .int 0, .int 0, .int 0, .int 0, .int 0], xO 4 [.ref 68, .int 0, .int 0], xI 0 130 (fun _ => 0), xO 7 [.null, .null, .null, .int 0, .int 0, .int 0, .int 0], xO 8 [.null, .null, .null]]) rfl ?_
  refine x_calliE rfl ct14 rfl rfl ?_
  refine x_step rfl ?_
  refine xm_hs (hp' := hz L xs ++ [xO 0 [.ref 33, .ref 35, .ref 55, .ref 66, .null, .null], xO 1 [.ref 34, .int 0], xI 0 501 (fun _ => 0), xO 2 [.ref 36, .ref 37, .int 0, .int 0, .int 0, .int 0], xV 3 8 (updV (updV (updV (updV (updV (updV (updV (updV (fun _ => .null) 0 (.ref 39)) 1 (.ref 41)) 2 (.ref 43)) 3 (.ref 45)) 4 (.ref 47)) 5 (.ref 49)) 6 (.ref 51)) 7 (.ref 53)), xO 3 [.ref 38, .int 0], xI 0 120 (fun _ => 0), xO 4 [.ref 40, .int 0, .int 0], xI 0 130 (fun _ => 0), xO 4 [.ref 42, .int 0, .int 0], xI 0 130 (fun _ => 0), xO 4 [.ref 44, .int 0, .int 0], xI 0 130 (fun _ => 0), xO 4 [.ref 46, .int 0, .int 0], xI 0 130 (fun _ => 0), xO 4 [.ref 48, .int 0, .int 0], xI 0 130 (fun _ => 0), xO 4 [.ref 50, .int 0, .int 0], xI 0 130 (fun _ => 0), xO 4 [.ref 52, .int 0, .int 0], xI 0 130 (fun _ => 0), xO 4 [.ref 54, .int 0, .int 0], xI 0 130 (fun _ => 0), xO 5 [.ref 56, .ref 65, .int 0], xV 4 8 (fun j => .ref (56 + 1 + j)), xI 0 10 (fun _ => 0), xI 0 10 (fun _ => 0), xI 0 10 (fun _ => 0), xI 0 10 (fun _ => 0), xI 0 10 (fun _ => 0), xI 0 10 (fun _ => 0), xI 0 10 (fun _ => 0), xI 0 10 (fun _ => 0), xI 0 8 (fun _ => 0), xO 6 [.ref 33, .ref 35, .ref 55, .ref 67, .int 0, .int 0, .int 0, .int 0, .int 0], xO 4 [.ref 68, .int 0, .int 0], xI 0 130 (fun _ => 0), xO 7 [.null, .ref 70, .null, .int 0, .int 0, .int 0, .int 0], xO 8 [.ref 71, .ref 72, .ref 73], xI 0 6 (upd (upd (upd (upd (upd (upd (fun _ => 0) 0 41) 1 41) 2 41) 3 41) 4 41) 5 41), xI 0 6 (upd (upd (upd (upd (upd (upd (fun _ => 0) 0 1) 1 1) 2 1) 3 1) 4 1) 5 1), xV 4 6 (fun j => .ref (73 + 1 + j)), xI 0 8 (fun _ => 0), xI 0 8 (fun _ => 0), xI 0 8 (fun _ => 0), xI 0 8 (fun _ => 0), xI 0 8 (fun _ => 0), xI 0 8 (fun _ => 0)]) rfl ?_
  refine x_step rfl ?_
  refine x_new (a := 80) rfl rfl rfl rfl (by omega) (by omega) ?_
  refine x_step rfl ?_
  refine xm_hs (hp' := hz L xs ++ [xO 0 [.ref 33, .ref 35, .ref 55, .ref 66, .null, .null], xO 1 [.ref 34, .int 0], xI 0 501 (fun _ => 0), xO 2 [.ref 36, .ref 37, .int 0, .int 0, .int 0, .int 0], xV 3 8 (updV (updV (updV (updV (updV (updV (updV (updV (fun _ => .null) 0 (.ref 39)) 1 (.ref 41)) 2 (.ref 43)) 3 (.ref 45)) 4 (.ref 47)) 5 (.ref 49)) 6 (.ref 51)) 7 (.ref 53)), xO 3 [.ref 38, .int 0], xI 0 120 (fun _ => 0), xO 4 [.ref 40, .int 0, .int 0], xI 0 130 (fun _ => 0), xO 4 [.ref 42, .int 0, .int 0], xI 0 130 (fun _ => 0), xO 4 [.ref 44, .int 0, .int 0], xI 0 130 (fun _ => 0), xO 4 [.ref 46, .int 0, .int 0], xI 0 130 (fun _ => 0), xO 4 [.ref 48, .int 0, .int 0], xI 0 130 (fun _ => 0), xO 4 [.ref 50, .int 0, .int 0], xI 0 130 (fun _ => 0), xO 4 [.ref 52, .int 0, .int 0], xI 0 130 (fun _ => 0), xO 4 [.ref 54, .int 0, .int 0], xI 0 130 (fun _ => 0), xO 5 [.ref 56, .ref 65, .int 0], xV 4 8 (fun j => .ref (56 + 1 + j)), xI 0 10 (fun _ => 0), xI 0 10 (fun _ => 0), xI 0 10 (fun _ => 0), xI 0 10 (fun _ => 0), xI 0 10 (fun _ => 0), xI 0 10 (fun _ => 0), xI 0 10 (fun _ => 0), xI 0 10 (fun _ => 0), xI 0 8 (fun _ => 0), xO 6 [.ref 33, .ref 35, .ref 55, .ref 67, .int 0, .int 0, .int 0, .int 0, .int 0], xO 4 [.ref 68, .int 0, .int 0], xI 0 130 (fun _ => 0), xO 7 [.null, .ref 70, .null, .int 0, .int 0, .int 0, .int 0], xO 8 [.ref 71, .ref 72, .ref 73], xI 0 6 (upd (upd (upd (upd (upd (upd (fun _ => 0) 0 41) 1 41) 2 41) 3 41) 4 41) 5 41), xI 0 6 (upd (upd (upd (upd (upd (upd (fun _ => 0) 0 1) 1 1) 2 1) 3 1) 4 1) 5 1), xV 4 6 (fun j => .ref (73 + 1 + j)), xI 0 8 (fun _ => 0), xI 0 8 (fun _ => 0), xI 0 8 (fun _ => 0), xI 0 8 (fun _ => 0), xI 0 8 (fun _ => 0), xI 0 8 (fun _ => 0), xO 9 [.null, .null, .null, .null, .null]]) rfl ?_
  refine x_calliE rfl ct15 rfl rfl ?_
  refine x_step rfl ?_
  refine xm_hs (hp' := hz L xs ++ [xO 0 [.ref 33, .ref 35, .ref 55, .ref 66, .null, .null], xO 1 [.ref 34, .int 0], xI 0 501 (fun _ => 0), xO 2 [.ref 36, .ref 37, .int 0, .int 0, .int 0, .int 0], xV 3 8 (updV (updV (updV (updV (updV (updV (updV (updV (fun _ => .null) 0 (.ref 39)) 1 (.ref 41)) 2 (.ref 43)) 3 (.ref 45)) 4 (.ref 47)) 5 (.ref 49)) 6 (.ref 51)) 7 (.ref 53)), xO 3 [.ref 38, .int 0], xI 0 120 (fun _ => 0), xO 4 [.ref 40, .int 0, .int 0], xI 0 130 (fun _ => 0), xO 4 [.ref 42, .int 0, .int 0], xI 0 130 (fun _ => 0), xO 4 [.ref 44, .int 0, .int 0], xI 0 130 (fun _ => 0), xO 4 [.ref 46, .int 0, .int 0], xI 0 130 (fun _ => 0), xO 4 [.ref 48, .int 0, .int 0], xI 0 130 (fun _ => 0), xO 4 [.ref 50, .int 0, .int 0], xI 0 130 (fun _ => 0), xO 4 [.ref 52, .int 0, .int 0], xI 0 130 (fun _ => 0), xO 4 [.ref 54, .int 0, .int 0], xI 0 130 (fun _ => 0), xO 5 [.ref 56, .ref 65, .int 0], xV 4 8 (fun j => .ref (56 + 1 + j)), xI 0 10 (fun _ => 0), xI 0 10 (fun _ => 0), xI 0 10 (fun _ => 0), xI 0 10 (fun _ => 0), xI 0 10 (fun _ => 0), xI 0 10 (fun _ => 0), xI 0 10 (fun _ => 0), xI 0 10 (fun _ => 0), xI 0 8 (fun _ => 0), xO 6 [.ref 33, .ref 35, .ref 55, .ref 67, .int 0, .int 0, .int 0, .int 0, .int 0], xO 4 [.ref 68, .int 0, .int 0], xI 0 130 (fun _ => 0), xO 7 [.null, .ref 70, .ref 80, .int 0, .int 0, .int 0, .int 0], xO 8 [.ref 71, .ref 72, .ref 73], xI 0 6 (upd (upd (upd (upd (upd (upd (fun _ => 0) 0 41) 1 41) 2 41) 3 41) 4 41) 5 41), xI 0 6 (upd (upd (upd (upd (upd (upd (fun _ => 0) 0 1) 1 1) 2 1) 3 1) 4 1) 5 1), xV 4 6 (fun j => .ref (73 + 1 + j)), xI 0 8 (fun _ => 0), xI 0 8 (fun _ => 0), xI 0 8 (fun _ => 0), xI 0 8 (fun _ => 0), xI 0 8 (fun _ => 0), xI 0 8 (fun _ => 0), xO 9 [.ref 81, .ref 82, .ref 88, .ref 89, .ref 96], xI 0 5 (fun _ => 0), xV 4 5 (fun j => .ref (82 + 1 + j)), xI 0 3 (fun _ => 0), xI 0 3 (fun _ => 0), xI 0 3 (fun _ => 0), xI 0 3 (fun _ => 0), xI 0 3 (fun _ => 0), xI 0 6 (fun _ => 0), xV 4 6 (fun j => .ref (89 + 1 + j)), xI 0 2 (fun _ => 0), xI 0 2 (fun _ => 0), xI 0 2 (fun _ => 0), xI 0 2 (fun _ => 0), xI 0 2 (fun _ => 0), xI 0 2 (fun _ => 0), xI 2 6 (fun _ => 0)]) rfl ?_
  refine x_step rfl ?_
  refine x_step rfl ?_
  refine x_step rfl ?_
  refine xm_hs (hp' := hz L xs ++ [xO 0 [.ref 33, .ref 35, .ref 55, .ref 66, .null, .null], xO 1 [.ref 34, .int 0], xI 0 501 (fun _ => 0), xO 2 [.ref 36, .ref 37, .int 0, .int 0, .int 0, .int 0], xV 3 8 (updV (updV (updV (updV (updV (updV (updV (updV (fun _ => .null) 0 (.ref 39)) 1 (.ref 41)) 2 (.ref 43)) 3 (.ref 45)) 4 (.ref 47)) 5 (.ref 49)) 6 (.ref 51)) 7 (.ref 53)), xO 3 [.ref 38, .int 0], xI 0 120 (fun _ => 0), xO 4 [.ref 40, .int 0, .int 0], xI 0 130 (fun _ => 0), xO 4 [.ref 42, .int 0, .int 0], xI 0 130 (fun _ => 0), xO 4 [.ref 44, .int 0, .int 0], xI 0 130 (fun _ => 0), xO 4 [.ref 46, .int 0, .int 0], xI 0 130 (fun _ => 0), xO 4 [.ref 48, .int 0, .int 0], xI 0 130 (fun _ => 0), xO 4 [.ref 50, .int 0, .int 0], xI 0 130 (fun _ => 0), xO 4 [.ref 52, .int 0, .int 0], xI 0 130 (fun _ => 0), xO 4 [.ref 54, .int 0, .int 0], xI 0 130 (fun _ => 0), xO 5 [.ref 56, .ref 65, .int 0], xV 4 8 (fun j => .ref (56 + 1 + j)), xI 0 10 (fun _ => 0), xI 0 10 (fun _ => 0), xI 0 10 (fun _ => 0), xI 0 10 (fun _ => 0), xI 0 10 (fun _ => 0), xI 0 10 (fun _ => 0), xI 0 10 (fun _ => 0), xI 0 10 (fun _ => 0), xI 0 8 (fun _ => 0), xO 6 [.ref 33, .ref 35, .ref 55, .ref 67, .int 0, .int 0, .int 0, .int 0, .int 0], xO 4 [.ref 68, .int 0, .int 0], xI 0 130 (fun _ => 0), xO 7 [.null, .ref 70, .ref 80, .int 0, .int 0, .int 3, .int 0], xO 8 [.ref 71, .ref 72, .ref 73], xI 0 6 (upd (upd (upd (upd (upd (upd (fun _ => 0) 0 41) 1 41) 2 41) 3 41) 4 41) 5 41), xI 0 6 (upd (upd (upd (upd (upd (upd (fun _ => 0) 0 1) 1 1) 2 1) 3 1) 4 1) 5 1), xV 4 6 (fun j => .ref (73 + 1 + j)), xI 0 8 (fun _ => 0), xI 0 8 (fun _ => 0), xI 0 8 (fun _ => 0), xI 0 8 (fun _ => 0), xI 0 8 (fun _ => 0), xI 0 8 (fun _ => 0), xO 9 [.ref 81, .ref 82, .ref 88, .ref 89, .ref 96], xI 0 5 (fun _ => 0), xV 4 5 (fun j => .ref (82 + 1 + j)), xI 0 3 (fun _ => 0), xI 0 3 (fun _ => 0), xI 0 3 (fun _ => 0), xI 0 3 (fun _ => 0), xI 0 3 (fun _ => 0), xI 0 6 (fun _ => 0), xV 4 6 (fun j => .ref (89 + 1 + j)), xI 0 2 (fun _ => 0), xI 0 2 (fun _ => 0), xI 0 2 (fun _ => 0), xI 0 2 (fun _ => 0), xI 0 2 (fun _ => 0), xI 0 2 (fun _ => 0), xI 2 6 (fun _ => 0)]) rfl ?_
  refine x_step rfl ?_
  refine x_step rfl ?_
  refine x_step rfl ?_
  refine xm_hs (hp' := hz L xs ++ [xO 0 [.ref 33, .ref 35, .ref 55, .ref 66, .null, .null], xO 1 [.ref 34, .int 0], xI 0 501 (fun _ => 0), xO 2 [.ref 36, .ref 37, .int 0, .int 0, .int 0, .int 0], xV 3 8 (updV (updV (updV (updV (updV (updV (updV (updV (fun _ => .null) 0 (.ref 39)) 1 (.ref 41)) 2 (.ref 43)) 3 (.ref 45)) 4 (.ref 47)) 5 (.ref 49)) 6 (.ref 51)) 7 (.ref 53)), xO 3 [.ref 38, .int 0], xI 0 120 (fun _ => 0), xO 4 [.ref 40, .int 0, .int 0], xI 0 130 (fun _ => 0), xO 4 [.ref 42, .int 0, .int 0], xI 0 130 (fun _ => 0), xO 4 [.ref 44, .int 0, .int 0], xI 0 130 (fun _ => 0), xO 4 [.ref 46, .int 0, .int 0], xI 0 130 (fun _ => 0), xO 4 [.ref 48, .int 0, .int 0], xI 0 130 (fun _ => 0), xO 4 [.ref 50, .int 0, .int 0], xI 0 130 (fun _ => 0), xO 4 [.ref 52, .int 0, .int 0], xI 0 130 (fun _ => 0), xO 4 [.ref 54, .int 0, .int 0], xI 0 130 (fun _ => 0), xO 5 [.ref 56, .ref 65, .int 0], xV 4 8 (fun j => .ref (56 + 1 + j)), xI 0 10 (fun _ => 0), xI 0 10 (fun _ => 0), xI 0 10 (fun _ => 0), xI 0 10 (fun _ => 0), xI 0 10 (fun _ => 0), xI 0 10 (fun _ => 0), xI 0 10 (fun _ => 0), xI 0 10 (fun _ => 0), xI 0 8 (fun _ => 0), xO 6 [.ref 33, .ref 35, .ref 55, .ref 67, .int 0, .int 0, .int 0, .int 0, .int 0], xO 4 [.ref 68, .int 0, .int 0], xI 0 130 (fun _ => 0), xO 7 [.ref 35, .ref 70, .ref 80, .int 0, .int 0, .int 3, .int 0], xO 8 [.ref 71, .ref 72, .ref 73], xI 0 6 (upd (upd (upd (upd (upd (upd (fun _ => 0) 0 41) 1 41) 2 41) 3 41) 4 41) 5 41), xI 0 6 (upd (upd (upd (upd (upd (upd (fun _ => 0) 0 1) 1 1) 2 1) 3 1) 4 1) 5 1), xV 4 6 (fun j => .ref (73 + 1 + j)), xI 0 8 (fun _ => 0), xI 0 8 (fun _ => 0), xI 0 8 (fun _ => 0), xI 0 8 (fun _ => 0), xI 0 8 (fun _ => 0), xI 0 8 (fun _ => 0), xO 9 [.ref 81, .ref 82, .ref 88, .ref 89, .ref 96], xI 0 5 (fun _ => 0), xV 4 5 (fun j => .ref (82 + 1 + j)), xI 0 3 (fun _ => 0), xI 0 3 (fun _ => 0), xI 0 3 (fun _ => 0), xI 0 3 (fun _ => 0), xI 0 3 (fun _ => 0), xI 0 6 (fun _ => 0), xV 4 6 (fun j => .ref (89 + 1 + j)), xI 0 2 (fun _ => 0), xI 0 2 (fun _ => 0), xI 0 2 (fun _ => 0), xI 0 2 (fun _ => 0), xI 0 2 (fun _ => 0), xI 0 2 (fun _ => 0), xI 2 6 (fun _ => 0)]) rfl ?_
  exact x_ret rfl rfl ⟨rfl, rfl⟩
theorem ct17 : XM l 10 2 0 0 [.ref 66] (hz L xs ++ [xO 0 [.ref 33, .ref 35, .ref 55, .ref 66, .ref 69, .null], xO 1 [.ref 34, .int 0], xI 0 501 (fun _ => 0), xO 2 [.ref 36, .ref 37, .int 0, .int 0, .int 0, .int 0], xV 3 8 (updV (updV (updV (updV (updV (updV (updV (updV (fun _ => .null) 0 (.ref 39)) 1 (.ref 41)) 2 (.ref 43)) 3 (.ref 45)) 4 (.ref 47)) 5 (.ref 49)) 6 (.ref 51)) 7 (.ref 53)), xO 3 [.ref 38, .int 0], xI 0 120 (fun _ => 0), xO 4 [.ref 40, .int 0, .int 0], xI 0 130 (fun _ => 0), xO 4 [.ref 42, .int 0, .int 0], xI 0 130 (fun _ => 0), xO 4 [.ref 44, .int 0, .int 0], xI 0 130 (fun _ => 0), xO 4 [.ref 46, .int 0, .int 0], xI 0 130 (fun _ => 0), xO 4 [.ref 48, .int 0, .int 0], xI 0 130 (fun _ => 0), xO 4 [.ref 50, .int 0, .int 0], xI 0 130 (fun _ => 0), xO 4 [.ref 52, .int 0, .int 0], xI 0 130 (fun _ => 0), xO 4 [.ref 54, .int 0, .int 0], xI 0 130 (fun _ => 0), xO 5 [.ref 56, .ref 65, .int 0], xV 4 8 (fun j => .ref (56 + 1 + j)), xI 0 10 (fun _ => 0), xI 0 10 (fun _ => 0), xI 0 10 (fun _ => 0), xI 0 10 (fun _ => 0), xI 0 10 (fun _ => 0), xI 0 10 (fun _ => 0), xI 0 10 (fun _ => 0), xI 0 10 (fun _ => 0), xI 0 8 (fun _ => 0), xO 6 [.ref 33, .ref 35, .ref 55, .ref 67, .int 0, .int 0, .int 0, .int 0, .int 0], xO 4 [.ref 68, .int 0, .int 0], xI 0 130 (fun _ => 0), xO 7 [.ref 35, .ref 70, .ref 80, .int 0, .int 0, .int 3, .int 0], xO 8 [.ref 71, .ref 72, .ref 73], xI 0 6 (upd (upd (upd (upd (upd (upd (fun _ => 0) 0 41) 1 41) 2 41) 3 41) 4 41) 5 41), xI 0 6 (upd (upd (upd (upd (upd (upd (fun _ => 0) 0 1) 1 1) 2 1) 3 1) 4 1) 5 1), xV 4 6 (fun j => .ref (73 + 1 + j)), xI 0 8 (fun _ => 0), xI 0 8 (fun _ => 0), xI 0 8 (fun _ => 0), xI 0 8 (fun _ => 0), xI 0 8 (fun _ => 0), xI 0 8 (fun _ => 0), xO 9 [.ref 81, .ref 82, .ref 88, .ref 89, .ref 96], xI 0 5 (fun _ => 0), xV 4 5 (fun j => .ref (82 + 1 + j)), xI 0 3 (fun _ => 0), xI 0 3 (fun _ => 0), xI 0 3 (fun _ => 0), xI 0 3 (fun _ => 0), xI 0 3 (fun _ => 0), xI 0 6 (fun _ => 0), xV 4 6 (fun j => .ref (89 + 1 + j)), xI 0 2 (fun _ => 0), xI 0 2 (fun _ => 0), xI 0 2 (fun _ => 0), xI 0 2 (fun _ => 0), xI 0 2 (fun _ => 0), xI 0 2 (fun _ => 0), xI 2 6 (fun _ => 0), xO 10 [.null, .null, .null, .null, .null]]) (xm_is (some (.ref 67)) (hz L xs ++ [xO 0 [.ref 33, .ref 35, .ref 55, .ref 66, .ref 69, .null], xO 1 [.ref 34, .int 0], xI 0 501 (fun _ => 0), xO 2 [.ref 36, .ref 37, .int 0, .int 0, .int 0, .int 0], xV 3 8 (updV (updV (updV (updV (updV (updV (updV (updV (fun _ => .null) 0 (.ref 39)) 1 (.ref 41)) 2 (.ref 43)) 3 (.ref 45)) 4 (.ref 47)) 5 (.ref 49)) 6 (.ref 51)) 7 (.ref 53)), xO 3 [.ref 38, .int 0], xI 0 120 (fun _ => 0), xO 4 [.ref 40, .int 0, .int 0], xI 0 130 (fun _ => 0), xO 4 [.ref 42, .int 0, .int 0], xI 0 130 (fun _ => 0), xO 4 [.ref 44, .int 0, .int 0], xI 0 130 (fun _ => 0), xO 4 [.ref 46, .int 0, .int 0], xI 0 130 (fun _ => 0), xO 4 [.ref 48, .int 0, .int 0], xI 0 130 (fun _ => 0), xO 4 [.ref 50, .int 0, .int 0], xI 0 130 (fun _ => 0), xO 4 [.ref 52, .int 0, .int 0], xI 0 130 (fun _ => 0), xO 4 [.ref 54, .int 0, .int 0], xI 0 130 (fun _ => 0), xO 5 [.ref 56, .ref 65, .int 0], xV 4 8 (fun j => .ref (56 + 1 + j)), xI 0 10 (fun _ => 0), xI 0 10 (fun _ => 0), xI 0 10 (fun _ => 0), xI 0 10 (fun _ => 0), xI 0 10 (fun _ => 0), xI 0 10 (fun _ => 0), xI 0 10 (fun _ => 0), xI 0 10 (fun _ => 0), xI 0 8 (fun _ => 0), xO 6 [.ref 33, .ref 35, .ref 55, .ref 67, .int 0, .int 0, .int 0, .int 0, .int 0], xO 4 [.ref 68, .int 0, .int 0], xI 0 130 (fun _ => 0), xO 7 [.ref 35, .ref 70, .ref 80, .int 0, .int 0, .int 3, .int 0], xO 8 [.ref 71, .ref 72, .ref 73], xI 0 6 (upd (upd (upd (upd (upd (upd (fun _ => 0) 0 41) 1 41) 2 41) 3 41) 4 41) 5 41), xI 0 6 (upd (upd (upd (upd (upd (upd (fun _ => 0) 0 1) 1 1) 2 1) 3 1) 4 1) 5 1), xV 4 6 (fun j => .ref (73 + 1 + j)), xI 0 8 (fun _ => 0), xI 0 8 (fun _ => 0), xI 0 8 (fun _ => 0), xI 0 8 (fun _ => 0), xI 0 8 (fun _ => 0), xI 0 8 (fun _ => 0), xO 9 [.ref 81, .ref 82, .ref 88, .ref 89, .ref 96], xI 0 5 (fun _ => 0), xV 4 5 (fun j => .ref (82 + 1 + j)), xI 0 3 (fun _ => 0), xI 0 3 (fun _ => 0), xI 0 3 (fun _ => 0), xI 0 3 (fun _ => 0), xI 0 3 (fun _ => 0), xI 0 6 (fun _ => 0), xV 4 6 (fun j => .ref (89 + 1 + j)), xI 0 2 (fun _ => 0), xI 0 2 (fun _ => 0), xI 0 2 (fun _ => 0), xI 0 2 (fun _ => 0), xI 0 2 (fun _ => 0), xI 0 2 (fun _ => 0), xI 2 6 (fun _ => 0), xO 10 [.null, .null, .null, .null, .null]])) := by
  refine XE (pl := [some (.ref 66)]) xg10 rfl ?_
  iterate 2 refine x_step rfl ?_
  exact x_aret rfl rfl rfl ⟨rfl, rfl⟩
set_option maxRecDepth 10000 in
/-- FabLink$Items.<init> -/
theorem ct18 : XM l 12 1 4 240 [.ref 98, .ref 67] (hz L xs ++ [xO 0 [.ref 33, .ref 35, .ref 55, .ref 66, .ref 69, .null], xO 1 [.ref 34, .int 0], xI 0 501 (fun _ => 0), xO 2 [.ref 36, .ref 37, .int 0, .int 0, .int 0, .int 0], xV 3 8 (updV (updV (updV (updV (updV (updV (updV (updV (fun _ => .null) 0 (.ref 39)) 1 (.ref 41)) 2 (.ref 43)) 3 (.ref 45)) 4 (.ref 47)) 5 (.ref 49)) 6 (.ref 51)) 7 (.ref 53)), xO 3 [.ref 38, .int 0], xI 0 120 (fun _ => 0), xO 4 [.ref 40, .int 0, .int 0], xI 0 130 (fun _ => 0), xO 4 [.ref 42, .int 0, .int 0], xI 0 130 (fun _ => 0), xO 4 [.ref 44, .int 0, .int 0], xI 0 130 (fun _ => 0), xO 4 [.ref 46, .int 0, .int 0], xI 0 130 (fun _ => 0), xO 4 [.ref 48, .int 0, .int 0], xI 0 130 (fun _ => 0), xO 4 [.ref 50, .int 0, .int 0], xI 0 130 (fun _ => 0), xO 4 [.ref 52, .int 0, .int 0], xI 0 130 (fun _ => 0), xO 4 [.ref 54, .int 0, .int 0], xI 0 130 (fun _ => 0), xO 5 [.ref 56, .ref 65, .int 0], xV 4 8 (fun j => .ref (56 + 1 + j)), xI 0 10 (fun _ => 0), xI 0 10 (fun _ => 0), xI 0 10 (fun _ => 0), xI 0 10 (fun _ => 0), xI 0 10 (fun _ => 0), xI 0 10 (fun _ => 0), xI 0 10 (fun _ => 0), xI 0 10 (fun _ => 0), xI 0 8 (fun _ => 0), xO 6 [.ref 33, .ref 35, .ref 55, .ref 67, .int 0, .int 0, .int 0, .int 0, .int 0], xO 4 [.ref 68, .int 0, .int 0], xI 0 130 (fun _ => 0), xO 7 [.ref 35, .ref 70, .ref 80, .int 0, .int 0, .int 3, .int 0], xO 8 [.ref 71, .ref 72, .ref 73], xI 0 6 (upd (upd (upd (upd (upd (upd (fun _ => 0) 0 41) 1 41) 2 41) 3 41) 4 41) 5 41), xI 0 6 (upd (upd (upd (upd (upd (upd (fun _ => 0) 0 1) 1 1) 2 1) 3 1) 4 1) 5 1), xV 4 6 (fun j => .ref (73 + 1 + j)), xI 0 8 (fun _ => 0), xI 0 8 (fun _ => 0), xI 0 8 (fun _ => 0), xI 0 8 (fun _ => 0), xI 0 8 (fun _ => 0), xI 0 8 (fun _ => 0), xO 9 [.ref 81, .ref 82, .ref 88, .ref 89, .ref 96], xI 0 5 (fun _ => 0), xV 4 5 (fun j => .ref (82 + 1 + j)), xI 0 3 (fun _ => 0), xI 0 3 (fun _ => 0), xI 0 3 (fun _ => 0), xI 0 3 (fun _ => 0), xI 0 3 (fun _ => 0), xI 0 6 (fun _ => 0), xV 4 6 (fun j => .ref (89 + 1 + j)), xI 0 2 (fun _ => 0), xI 0 2 (fun _ => 0), xI 0 2 (fun _ => 0), xI 0 2 (fun _ => 0), xI 0 2 (fun _ => 0), xI 0 2 (fun _ => 0), xI 2 6 (fun _ => 0), xO 10 [.ref 67, .ref 69, .ref 35, .ref 55, .null], xO 11 [.null, .null, .null, .null, .null, .int 0]]) (xm_is none (hz L xs ++ [xO 0 [.ref 33, .ref 35, .ref 55, .ref 66, .ref 69, .null], xO 1 [.ref 34, .int 0], xI 0 501 (fun _ => 0), xO 2 [.ref 36, .ref 37, .int 0, .int 0, .int 0, .int 0], xV 3 8 (updV (updV (updV (updV (updV (updV (updV (updV (fun _ => .null) 0 (.ref 39)) 1 (.ref 41)) 2 (.ref 43)) 3 (.ref 45)) 4 (.ref 47)) 5 (.ref 49)) 6 (.ref 51)) 7 (.ref 53)), xO 3 [.ref 38, .int 0], xI 0 120 (fun _ => 0), xO 4 [.ref 40, .int 0, .int 0], xI 0 130 (fun _ => 0), xO 4 [.ref 42, .int 0, .int 0], xI 0 130 (fun _ => 0), xO 4 [.ref 44, .int 0, .int 0], xI 0 130 (fun _ => 0), xO 4 [.ref 46, .int 0, .int 0], xI 0 130 (fun _ => 0), xO 4 [.ref 48, .int 0, .int 0], xI 0 130 (fun _ => 0), xO 4 [.ref 50, .int 0, .int 0], xI 0 130 (fun _ => 0), xO 4 [.ref 52, .int 0, .int 0], xI 0 130 (fun _ => 0), xO 4 [.ref 54, .int 0, .int 0], xI 0 130 (fun _ => 0), xO 5 [.ref 56, .ref 65, .int 0], xV 4 8 (fun j => .ref (56 + 1 + j)), xI 0 10 (fun _ => 0), xI 0 10 (fun _ => 0), xI 0 10 (fun _ => 0), xI 0 10 (fun _ => 0), xI 0 10 (fun _ => 0), xI 0 10 (fun _ => 0), xI 0 10 (fun _ => 0), xI 0 10 (fun _ => 0), xI 0 8 (fun _ => 0), xO 6 [.ref 33, .ref 35, .ref 55, .ref 67, .int 0, .int 0, .int 0, .int 0, .int 0], xO 4 [.ref 68, .int 0, .int 0], xI 0 130 (fun _ => 0), xO 7 [.ref 35, .ref 70, .ref 80, .int 0, .int 0, .int 3, .int 0], xO 8 [.ref 71, .ref 72, .ref 73], xI 0 6 (upd (upd (upd (upd (upd (upd (fun _ => 0) 0 41) 1 41) 2 41) 3 41) 4 41) 5 41), xI 0 6 (upd (upd (upd (upd (upd (upd (fun _ => 0) 0 1) 1 1) 2 1) 3 1) 4 1) 5 1), xV 4 6 (fun j => .ref (73 + 1 + j)), xI 0 8 (fun _ => 0), xI 0 8 (fun _ => 0), xI 0 8 (fun _ => 0), xI 0 8 (fun _ => 0), xI 0 8 (fun _ => 0), xI 0 8 (fun _ => 0), xO 9 [.ref 81, .ref 82, .ref 88, .ref 89, .ref 96], xI 0 5 (fun _ => 0), xV 4 5 (fun j => .ref (82 + 1 + j)), xI 0 3 (fun _ => 0), xI 0 3 (fun _ => 0), xI 0 3 (fun _ => 0), xI 0 3 (fun _ => 0), xI 0 3 (fun _ => 0), xI 0 6 (fun _ => 0), xV 4 6 (fun j => .ref (89 + 1 + j)), xI 0 2 (fun _ => 0), xI 0 2 (fun _ => 0), xI 0 2 (fun _ => 0), xI 0 2 (fun _ => 0), xI 0 2 (fun _ => 0), xI 0 2 (fun _ => 0), xI 2 6 (fun _ => 0), xO 10 [.ref 67, .ref 69, .ref 35, .ref 55, .null], xO 11 [.ref 99, .ref 100, .ref 101, .ref 102, .ref 67, .int 0], xI 0 60 (fun _ => 0), xI 0 60 (fun _ => 0), xI 0 60 (fun _ => 0), xI 0 60 (fun _ => 0)])) := by
  refine XE (pl := [some (.ref 98), some (.ref 67)]) xg12 rfl ?_
  refine x_step rfl ?_
  refine x_objInit rfl (by omega) (Nat.le_of_ble_eq_true rfl) ?_
  refine x_step rfl ?_
  refine x_step rfl ?_
  refine x_newaI (a := 99) (N := 60) rfl rfl (by decide) rfl (by decide) rfl (by omega) (by omega) ?_
  refine x_step rfl ?_
  refine xm_hs (hp' := hz L xs ++ [xO 0 [.ref 33, .ref 35, .ref 55, .ref 66, .ref 69, .null], xO 1 [.ref 34, .int 0], xI 0 501 (fun _ => 0), xO 2 [.ref 36, .ref 37, .int 0, .int 0, .int 0, .int 0], xV 3 8 (updV (updV (updV (updV (updV (updV (updV (updV (fun _ => .null) 0 (.ref 39)) 1 (.ref 41)) 2 (.ref 43)) 3 (.ref 45)) 4 (.ref 47)) 5 (.ref 49)) 6 (.ref 51)) 7 (.ref 53)), xO 3 [.ref 38, .int 0], xI 0 120 (fun _ => 0), xO 4 [.ref 40, .int 0, .int 0], xI 0 130 (fun _ => 0), xO 4 [.ref 42, .int 0, .int 0], xI 0 130 (fun _ => 0), xO 4 [.ref 44, .int 0, .int 0], xI 0 130 (fun _ => 0), xO 4 [.ref 46, .int 0, .int 0], xI 0 130 (fun _ => 0), xO 4 [.ref 48, .int 0, .int 0], xI 0 130 (fun _ => 0), xO 4 [.ref 50, .int 0, .int 0], xI 0 130 (fun _ => 0), xO 4 [.ref 52, .int 0, .int 0], xI 0 130 (fun _ => 0), xO 4 [.ref 54, .int 0, .int 0], xI 0 130 (fun _ => 0), xO 5 [.ref 56, .ref 65, .int 0], xV 4 8 (fun j => .ref (56 + 1 + j)), xI 0 10 (fun _ => 0), xI 0 10 (fun _ => 0), xI 0 10 (fun _ => 0), xI 0 10 (fun _ => 0), xI 0 10 (fun _ => 0), xI 0 10 (fun _ => 0), xI 0 10 (fun _ => 0), xI 0 10 (fun _ => 0), xI 0 8 (fun _ => 0), xO 6 [.ref 33, .ref 35, .ref 55, .ref 67, .int 0, .int 0, .int 0, .int 0, .int 0], xO 4 [.ref 68, .int 0, .int 0], xI 0 130 (fun _ => 0), xO 7 [.ref 35, .ref 70, .ref 80, .int 0, .int 0, .int 3, .int 0], xO 8 [.ref 71, .ref 72, .ref 73], xI 0 6 (upd (upd (upd (upd (upd (upd (fun _ => 0) 0 41) 1 41) 2 41) 3 41) 4 41) 5 41), xI 0 6 (upd (upd (upd (upd (upd (upd (fun _ => 0) 0 1) 1 1) 2 1) 3 1) 4 1) 5 1), xV 4 6 (fun j => .ref (73 + 1 + j)), xI 0 8 (fun _ => 0), xI 0 8 (fun _ => 0), xI 0 8 (fun _ => 0), xI 0 8 (fun _ => 0), xI 0 8 (fun _ => 0), xI 0 8 (fun _ => 0), xO 9 [.ref 81, .ref 82, .ref 88, .ref 89, .ref 96], xI 0 5 (fun _ => 0), xV 4 5 (fun j => .ref (82 + 1 + j)), xI 0 3 (fun _ => 0), xI 0 3 (fun _ => 0), xI 0 3 (fun _ => 0), xI 0 3 (fun _ => 0), xI 0 3 (fun _ => 0), xI 0 6 (fun _ => 0), xV 4 6 (fun j => .ref (89 + 1 + j)), xI 0 2 (fun _ => 0), xI 0 2 (fun _ => 0), xI 0 2 (fun _ => 0), xI 0 2 (fun _ => 0), xI 0 2 (fun _ => 0), xI 0 2 (fun _ => 0), xI 2 6 (fun _ => 0), xO 10 [.ref 67, .ref 69, .ref 35, .ref 55, .null], xO 11 [.ref 99, .null, .null, .null, .null, .int 0], xI 0 60 (fun _ => 0)]) rfl ?_
  refine x_step rfl ?_
  refine x_step rfl ?_
  refine x_newaI (a := 100) (N := 60) rfl rfl (by decide) rfl (by decide) rfl (by omega) (by omega) ?_
  refine x_step rfl ?_
  refine xm_hs (hp' := hz L xs ++ [xO 0 [.ref 33, .ref 35, .ref 55, .ref 66, .ref 69, .null], xO 1 [.ref 34, .int 0], xI 0 501 (fun _ => 0), xO 2 [.ref 36, .ref 37, .int 0, .int 0, .int 0, .int 0], xV 3 8 (updV (updV (updV (updV (updV (updV (updV (updV (fun _ => .null) 0 (.ref 39)) 1 (.ref 41)) 2 (.ref 43)) 3 (.ref 45)) 4 (.ref 47)) 5 (.ref 49)) 6 (.ref 51)) 7 (.ref 53)), xO 3 [.ref 38, .int 0], xI 0 120 (fun _ => 0), xO 4 [.ref 40, .int 0, .int 0], xI 0 130 (fun _ => 0), xO 4 [.ref 42, .int 0, .int 0], xI 0 130 (fun _ => 0), xO 4 [.ref 44, .int 0, .int 0], xI 0 130 (fun _ => 0), xO 4 [.ref 46, .int 0, .int 0], xI 0 130 (fun _ => 0), xO 4 [.ref 48, .int 0, .int 0], xI 0 130 (fun _ => 0), xO 4 [.ref 50, .int 0, .int 0], xI 0 130 (fun _ => 0), xO 4 [.ref 52, .int 0, .int 0], xI 0 130 (fun _ => 0), xO 4 [.ref 54, .int 0, .int 0], xI 0 130 (fun _ => 0), xO 5 [.ref 56, .ref 65, .int 0], xV 4 8 (fun j => .ref (56 + 1 + j)), xI 0 10 (fun _ => 0), xI 0 10 (fun _ => 0), xI 0 10 (fun _ => 0), xI 0 10 (fun _ => 0), xI 0 10 (fun _ => 0), xI 0 10 (fun _ => 0), xI 0 10 (fun _ => 0), xI 0 10 (fun _ => 0), xI 0 8 (fun _ => 0), xO 6 [.ref 33, .ref 35, .ref 55, .ref 67, .int 0, .int 0, .int 0, .int 0, .int 0], xO 4 [.ref 68, .int 0, .int 0], xI 0 130 (fun _ => 0), xO 7 [.ref 35, .ref 70, .ref 80, .int 0, .int 0, .int 3, .int 0], xO 8 [.ref 71, .ref 72, .ref 73], xI 0 6 (upd (upd (upd (upd (upd (upd (fun _ => 0) 0 41) 1 41) 2 41) 3 41) 4 41) 5 41), xI 0 6 (upd (upd (upd (upd (upd (upd (fun _ => 0) 0 1) 1 1) 2 1) 3 1) 4 1) 5 1), xV 4 6 (fun j => .ref (73 + 1 + j)), xI 0 8 (fun _ => 0), xI 0 8 (fun _ => 0), xI 0 8 (fun _ => 0), xI 0 8 (fun _ => 0), xI 0 8 (fun _ => 0), xI 0 8 (fun _ => 0), xO 9 [.ref 81, .ref 82, .ref 88, .ref 89, .ref 96], xI 0 5 (fun _ => 0), xV 4 5 (fun j => .ref (82 + 1 + j)), xI 0 3 (fun _ => 0), xI 0 3 (fun _ => 0), xI 0 3 (fun _ => 0), xI 0 3 (fun _ => 0), xI 0 3 (fun _ => 0), xI 0 6 (fun _ => 0), xV 4 6 (fun j => .ref (89 + 1 + j)), xI 0 2 (fun _ => 0), xI 0 2 (fun _ => 0), xI 0 2 (fun _ => 0), xI 0 2 (fun _ => 0), xI 0 2 (fun _ => 0), xI 0 2 (fun _ => 0), xI 2 6 (fun _ => 0), xO 10 [.ref 67, .ref 69, .ref 35, .ref 55, .null], xO 11 [.ref 99, .ref 100, .null, .null, .null, .int 0], xI 0 60 (fun _ => 0), xI 0 60 (fun _ => 0)]) rfl ?_
  refine x_step rfl ?_
  refine x_step rfl ?_
  refine x_newaI (a := 101) (N := 60) rfl rfl (by decide) rfl (by decide) rfl (by omega) (by omega) ?_
  refine x_step rfl ?_
  refine xm_hs (hp' := hz L xs ++ [xO 0 [.ref 33, .ref 35, .ref 55, .ref 66, .ref 69, .null], xO 1 [.ref 34, .int 0], xI 0 501 (fun _ => 0), xO 2 [.ref 36, .ref 37, .int 0, .int 0, .int 0, .int 0], xV 3 8 (updV (updV (updV (updV (updV (updV (updV (updV (fun _ => .null) 0 (.ref 39)) 1 (.ref 41)) 2 (.ref 43)) 3 (.ref 45)) 4 (.ref 47)) 5 (.ref 49)) 6 (.ref 51)) 7 (.ref 53)), xO 3 [.ref 38, .int 0], xI 0 120 (fun _ => 0), xO 4 [.ref 40, .int 0, .int 0], xI 0 130 (fun _ => 0), xO 4 [.ref 42, .int 0, .int 0], xI 0 130 (fun _ => 0), xO 4 [.ref 44, .int 0, .int 0], xI 0 130 (fun _ => 0), xO 4 [.ref 46, .int 0, .int 0], xI 0 130 (fun _ => 0), xO 4 [.ref 48, .int 0, .int 0], xI 0 130 (fun _ => 0), xO 4 [.ref 50, .int 0, .int 0], xI 0 130 (fun _ => 0), xO 4 [.ref 52, .int 0, .int 0], xI 0 130 (fun _ => 0), xO 4 [.ref 54, .int 0, .int 0], xI 0 130 (fun _ => 0), xO 5 [.ref 56, .ref 65, .int 0], xV 4 8 (fun j => .ref (56 + 1 + j)), xI 0 10 (fun _ => 0), xI 0 10 (fun _ => 0), xI 0 10 (fun _ => 0), xI 0 10 (fun _ => 0), xI 0 10 (fun _ => 0), xI 0 10 (fun _ => 0), xI 0 10 (fun _ => 0), xI 0 10 (fun _ => 0), xI 0 8 (fun _ => 0), xO 6 [.ref 33, .ref 35, .ref 55, .ref 67, .int 0, .int 0, .int 0, .int 0, .int 0], xO 4 [.ref 68, .int 0, .int 0], xI 0 130 (fun _ => 0), xO 7 [.ref 35, .ref 70, .ref 80, .int 0, .int 0, .int 3, .int 0], xO 8 [.ref 71, .ref 72, .ref 73], xI 0 6 (upd (upd (upd (upd (upd (upd (fun _ => 0) 0 41) 1 41) 2 41) 3 41) 4 41) 5 41), xI 0 6 (upd (upd (upd (upd (upd (upd (fun _ => 0) 0 1) 1 1) 2 1) 3 1) 4 1) 5 1), xV 4 6 (fun j => .ref (73 + 1 + j)), xI 0 8 (fun _ => 0), xI 0 8 (fun _ => 0), xI 0 8 (fun _ => 0), xI 0 8 (fun _ => 0), xI 0 8 (fun _ => 0), xI 0 8 (fun _ => 0), xO 9 [.ref 81, .ref 82, .ref 88, .ref 89, .ref 96], xI 0 5 (fun _ => 0), xV 4 5 (fun j => .ref (82 + 1 + j)), xI 0 3 (fun _ => 0), xI 0 3 (fun _ => 0), xI 0 3 (fun _ => 0), xI 0 3 (fun _ => 0), xI 0 3 (fun _ => 0), xI 0 6 (fun _ => 0), xV 4 6 (fun j => .ref (89 + 1 + j)), xI 0 2 (fun _ => 0), xI 0 2 (fun _ => 0), xI 0 2 (fun _ => 0), xI 0 2 (fun _ => 0), xI 0 2 (fun _ => 0), xI 0 2 (fun _ => 0), xI 2 6 (fun _ => 0), xO 10 [.ref 67, .ref 69, .ref 35, .ref 55, .null], xO 11 [.ref 99, .ref 100, .ref 101, .null, .null, .int 0], xI 0 60 (fun _ => 0), xI 0 60 (fun _ => 0), xI 0 60 (fun _ => 0)]) rfl ?_
  refine x_step rfl ?_
  refine x_step rfl ?_
  refine x_newaI (a := 102) (N := 60) rfl rfl (by decide) rfl (by decide) rfl (by omega) (by omega) ?_
  refine x_step rfl ?_
  refine xm_hs (hp' := hz L xs ++ [xO 0 [.ref 33, .ref 35, .ref 55, .ref 66, .ref 69, .null], xO 1 [.ref 34, .int 0], xI 0 501 (fun _ => 0), xO 2 [.ref 36, .ref 37, .int 0, .int 0, .int 0, .int 0], xV 3 8 (updV (updV (updV (updV (updV (updV (updV (updV (fun _ => .null) 0 (.ref 39)) 1 (.ref 41)) 2 (.ref 43)) 3 (.ref 45)) 4 (.ref 47)) 5 (.ref 49)) 6 (.ref 51)) 7 (.ref 53)), xO 3 [.ref 38, .int 0], xI 0 120 (fun _ => 0), xO 4 [.ref 40, .int 0, .int 0], xI 0 130 (fun _ => 0), xO 4 [.ref 42, .int 0, .int 0], xI 0 130 (fun _ => 0), xO 4 [.ref 44, .int 0, .int 0], xI 0 130 (fun _ => 0), xO 4 [.ref 46, .int 0, .int 0], xI 0 130 (fun _ => 0), xO 4 [.ref 48, .int 0, .int 0], xI 0 130 (fun _ => 0), xO 4 [.ref 50, .int 0, .int 0], xI 0 130 (fun _ => 0), xO 4 [.ref 52, .int 0, .int 0], xI 0 130 (fun _ => 0), xO 4 [.ref 54, .int 0, .int 0], xI 0 130 (fun _ => 0), xO 5 [.ref 56, .ref 65, .int 0], xV 4 8 (fun j => .ref (56 + 1 + j)), xI 0 10 (fun _ => 0), xI 0 10 (fun _ => 0), xI 0 10 (fun _ => 0), xI 0 10 (fun _ => 0), xI 0 10 (fun _ => 0), xI 0 10 (fun _ => 0), xI 0 10 (fun _ => 0), xI 0 10 (fun _ => 0), xI 0 8 (fun _ => 0), xO 6 [.ref 33, .ref 35, .ref 55, .ref 67, .int 0, .int 0, .int 0, .int 0, .int 0], xO 4 [.ref 68, .int 0, .int 0], xI 0 130 (fun _ => 0), xO 7 [.ref 35, .ref 70, .ref 80, .int 0, .int 0, .int 3, .int 0], xO 8 [.ref 71, .ref 72, .ref 73], xI 0 6 (upd (upd (upd (upd (upd (upd (fun _ => 0) 0 41) 1 41) 2 41) 3 41) 4 41) 5 41), xI 0 6 (upd (upd (upd (upd (upd (upd (fun _ => 0) 0 1) 1 1) 2 1) 3 1) 4 1) 5 1), xV 4 6 (fun j => .ref (73 + 1 + j)), xI 0 8 (fun _ => 0), xI 0 8 (fun _ => 0), xI 0 8 (fun _ => 0), xI 0 8 (fun _ => 0), xI 0 8 (fun _ => 0), xI 0 8 (fun _ => 0), xO 9 [.ref 81, .ref 82, .ref 88, .ref 89, .ref 96], xI 0 5 (fun _ => 0), xV 4 5 (fun j => .ref (82 + 1 + j)), xI 0 3 (fun _ => 0), xI 0 3 (fun _ => 0), xI 0 3 (fun _ => 0), xI 0 3 (fun _ => 0), xI 0 3 (fun _ => 0), xI 0 6 (fun _ => 0), xV 4 6 (fun j => .ref (89 + 1 + j)), xI 0 2 (fun _ => 0), xI 0 2 (fun _ => 0), xI 0 2 (fun _ => 0), xI 0 2 (fun _ => 0), xI 0 2 (fun _ => 0), xI 0 2 (fun _ => 0), xI 2 6 (fun _ => 0), xO 10 [.ref 67, .ref 69, .ref 35, .ref 55, .null], xO 11 [.ref 99, .ref 100, .ref 101, .ref 102, .null, .int 0], xI 0 60 (fun _ => 0), xI 0 60 (fun _ => 0), xI 0 60 (fun _ => 0), xI 0 60 (fun _ => 0)]) rfl ?_
  refine x_step rfl ?_
  refine x_step rfl ?_
  refine x_step rfl ?_
  refine xm_hs (hp' := hz L xs ++ [xO 0 [.ref 33, .ref 35, .ref 55, .ref 66, .ref 69, .null], xO 1 [.ref 34, .int 0], xI 0 501 (fun _ => 0), xO 2 [.ref 36, .ref 37, .int 0, .int 0, .int 0, .int 0], xV 3 8 (updV (updV (updV (updV (updV (updV (updV (updV (fun _ => .null) 0 (.ref 39)) 1 (.ref 41)) 2 (.ref 43)) 3 (.ref 45)) 4 (.ref 47)) 5 (.ref 49)) 6 (.ref 51)) 7 (.ref 53)), xO 3 [.ref 38, .int 0], xI 0 120 (fun _ => 0), xO 4 [.ref 40, .int 0, .int 0], xI 0 130 (fun _ => 0), xO 4 [.ref 42, .int 0, .int 0], xI 0 130 (fun _ => 0), xO 4 [.ref 44, .int 0, .int 0], xI 0 130 (fun _ => 0), xO 4 [.ref 46, .int 0, .int 0], xI 0 130 (fun _ => 0), xO 4 [.ref 48, .int 0, .int 0], xI 0 130 (fun _ => 0), xO 4 [.ref 50, .int 0, .int 0], xI 0 130 (fun _ => 0), xO 4 [.ref 52, .int 0, .int 0], xI 0 130 (fun _ => 0), xO 4 [.ref 54, .int 0, .int 0], xI 0 130 (fun _ => 0), xO 5 [.ref 56, .ref 65, .int 0], xV 4 8 (fun j => .ref (56 + 1 + j)), xI 0 10 (fun _ => 0), xI 0 10 (fun _ => 0), xI 0 10 (fun _ => 0), xI 0 10 (fun _ => 0), xI 0 10 (fun _ => 0), xI 0 10 (fun _ => 0), xI 0 10 (fun _ => 0), xI 0 10 (fun _ => 0), xI 0 8 (fun _ => 0), xO 6 [.ref 33, .ref 35, .ref 55, .ref 67, .int 0, .int 0, .int 0, .int 0, .int 0], xO 4 [.ref 68, .int 0, .int 0], xI 0 130 (fun _ => 0), xO 7 [.ref 35, .ref 70, .ref 80, .int 0, .int 0, .int 3, .int 0], xO 8 [.ref 71, .ref 72, .ref 73], xI 0 6 (upd (upd (upd (upd (upd (upd (fun _ => 0) 0 41) 1 41) 2 41) 3 41) 4 41) 5 41), xI 0 6 (upd (upd (upd (upd (upd (upd (fun _ => 0) 0 1) 1 1) 2 1) 3 1) 4 1) 5 1), xV 4 6 (fun j => .ref (73 + 1 + j)), xI 0 8 (fun _ => 0), xI 0 8 (fun _ => 0), xI 0 8 (fun _ => 0), xI 0 8 (fun _ => 0), xI 0 8 (fun _ => 0), xI 0 8 (fun _ => 0), xO 9 [.ref 81, .ref 82, .ref 88, .ref 89, .ref 96], xI 0 5 (fun _ => 0), xV 4 5 (fun j => .ref (82 + 1 + j)), xI 0 3 (fun _ => 0), xI 0 3 (fun _ => 0), xI 0 3 (fun _ => 0), xI 0 3 (fun _ => 0), xI 0 3 (fun _ => 0), xI 0 6 (fun _ => 0), xV 4 6 (fun j => .ref (89 + 1 + j)), xI 0 2 (fun _ => 0), xI 0 2 (fun _ => 0), xI 0 2 (fun _ => 0), xI 0 2 (fun _ => 0), xI 0 2 (fun _ => 0), xI 0 2 (fun _ => 0), xI 2 6 (fun _ => 0), xO 10 [.ref 67, .ref 69, .ref 35, .ref 55, .null], xO 11 [.ref 99, .ref 100, .ref 101, .ref 102, .ref 67, .int 0], xI 0 60 (fun _ => 0), xI 0 60 (fun _ => 0), xI 0 60 (fun _ => 0), xI 0 60 (fun _ => 0)]) rfl ?_
  exact x_ret rfl rfl ⟨rfl, rfl⟩
set_option maxRecDepth 10000 in
/-- FabLink$Desk.<init> -/
theorem ct19 : XM l 11 2 5 246 [.ref 97, .ref 67, .ref 69, .ref 35, .ref 55] (hz L xs ++ [xO 0 [.ref 33, .ref 35, .ref 55, .ref 66, .ref 69, .null], xO 1 [.ref 34, .int 0], xI 0 501 (fun _ => 0), xO 2 [.ref 36, .ref 37, .int 0, .int 0, .int 0, .int 0], xV 3 8 (updV (updV (updV (updV (updV (updV (updV (updV (fun _ => .null) 0 (.ref 39)) 1 (.ref 41)) 2 (.ref 43)) 3 (.ref 45)) 4 (.ref 47)) 5 (.ref 49)) 6 (.ref 51)) 7 (.ref 53)), xO 3 [.ref 38, .int 0], xI 0 120 (fun _ => 0), xO 4 [.ref 40, .int 0, .int 0], xI 0 130 (fun _ => 0), xO 4 [.ref 42, .int 0, .int 0], xI 0 130 (fun _ => 0), xO 4 [.ref 44, .int 0, .int 0], xI 0 130 (fun _ => 0), xO 4 [.ref 46, .int 0, .int 0], xI 0 130 (fun _ => 0), xO 4 [.ref 48, .int 0, .int 0], xI 0 130 (fun _ => 0), xO 4 [.ref 50, .int 0, .int 0], xI 0 130 (fun _ => 0), xO 4 [.ref 52, .int 0, .int 0], xI 0 130 (fun _ => 0), xO 4 [.ref 54, .int 0, .int 0], xI 0 130 (fun _ => 0), xO 5 [.ref 56, .ref 65, .int 0], xV 4 8 (fun j => .ref (56 + 1 + j)), xI 0 10 (fun _ => 0), xI 0 10 (fun _ => 0), xI 0 10 (fun _ => 0), xI 0 10 (fun _ => 0), xI 0 10 (fun _ => 0), xI 0 10 (fun _ => 0), xI 0 10 (fun _ => 0), xI 0 10 (fun _ => 0), xI 0 8 (fun _ => 0), xO 6 [.ref 33, .ref 35, .ref 55, .ref 67, .int 0, .int 0, .int 0, .int 0, .int 0], xO 4 [.ref 68, .int 0, .int 0], xI 0 130 (fun _ => 0), xO 7 [.ref 35, .ref 70, .ref 80, .int 0, .int 0, .int 3, .int 0], xO 8 [.ref 71, .ref 72, .ref 73], xI 0 6 (upd (upd (upd (upd (upd (upd (fun _ => 0) 0 41) 1 41) 2 41) 3 41) 4 41) 5 41), xI 0 6 (upd (upd (upd (upd (upd (upd (fun _ => 0) 0 1) 1 1) 2 1) 3 1) 4 1) 5 1), xV 4 6 (fun j => .ref (73 + 1 + j)), xI 0 8 (fun _ => 0), xI 0 8 (fun _ => 0), xI 0 8 (fun _ => 0), xI 0 8 (fun _ => 0), xI 0 8 (fun _ => 0), xI 0 8 (fun _ => 0), xO 9 [.ref 81, .ref 82, .ref 88, .ref 89, .ref 96], xI 0 5 (fun _ => 0), xV 4 5 (fun j => .ref (82 + 1 + j)), xI 0 3 (fun _ => 0), xI 0 3 (fun _ => 0), xI 0 3 (fun _ => 0), xI 0 3 (fun _ => 0), xI 0 3 (fun _ => 0), xI 0 6 (fun _ => 0), xV 4 6 (fun j => .ref (89 + 1 + j)), xI 0 2 (fun _ => 0), xI 0 2 (fun _ => 0), xI 0 2 (fun _ => 0), xI 0 2 (fun _ => 0), xI 0 2 (fun _ => 0), xI 0 2 (fun _ => 0), xI 2 6 (fun _ => 0), xO 10 [.null, .null, .null, .null, .null]]) (xm_is none (hz L xs ++ [xO 0 [.ref 33, .ref 35, .ref 55, .ref 66, .ref 69, .null], xO 1 [.ref 34, .int 0], xI 0 501 (fun _ => 0), xO 2 [.ref 36, .ref 37, .int 0, .int 0, .int 0, .int 0], xV 3 8 (updV (updV (updV (updV (updV (updV (updV (updV (fun _ => .null) 0 (.ref 39)) 1 (.ref 41)) 2 (.ref 43)) 3 (.ref 45)) 4 (.ref 47)) 5 (.ref 49)) 6 (.ref 51)) 7 (.ref 53)), xO 3 [.ref 38, .int 0], xI 0 120 (fun _ => 0), xO 4 [.ref 40, .int 0, .int 0], xI 0 130 (fun _ => 0), xO 4 [.ref 42, .int 0, .int 0], xI 0 130 (fun _ => 0), xO 4 [.ref 44, .int 0, .int 0], xI 0 130 (fun _ => 0), xO 4 [.ref 46, .int 0, .int 0], xI 0 130 (fun _ => 0), xO 4 [.ref 48, .int 0, .int 0], xI 0 130 (fun _ => 0), xO 4 [.ref 50, .int 0, .int 0], xI 0 130 (fun _ => 0), xO 4 [.ref 52, .int 0, .int 0], xI 0 130 (fun _ => 0), xO 4 [.ref 54, .int 0, .int 0], xI 0 130 (fun _ => 0), xO 5 [.ref 56, .ref 65, .int 0], xV 4 8 (fun j => .ref (56 + 1 + j)), xI 0 10 (fun _ => 0), xI 0 10 (fun _ => 0), xI 0 10 (fun _ => 0), xI 0 10 (fun _ => 0), xI 0 10 (fun _ => 0), xI 0 10 (fun _ => 0), xI 0 10 (fun _ => 0), xI 0 10 (fun _ => 0), xI 0 8 (fun _ => 0), xO 6 [.ref 33, .ref 35, .ref 55, .ref 67, .int 0, .int 0, .int 0, .int 0, .int 0], xO 4 [.ref 68, .int 0, .int 0], xI 0 130 (fun _ => 0), xO 7 [.ref 35, .ref 70, .ref 80, .int 0, .int 0, .int 3, .int 0], xO 8 [.ref 71, .ref 72, .ref 73], xI 0 6 (upd (upd (upd (upd (upd (upd (fun _ => 0) 0 41) 1 41) 2 41) 3 41) 4 41) 5 41), xI 0 6 (upd (upd (upd (upd (upd (upd (fun _ => 0) 0 1) 1 1) 2 1) 3 1) 4 1) 5 1), xV 4 6 (fun j => .ref (73 + 1 + j)), xI 0 8 (fun _ => 0), xI 0 8 (fun _ => 0), xI 0 8 (fun _ => 0), xI 0 8 (fun _ => 0), xI 0 8 (fun _ => 0), xI 0 8 (fun _ => 0), xO 9 [.ref 81, .ref 82, .ref 88, .ref 89, .ref 96], xI 0 5 (fun _ => 0), xV 4 5 (fun j => .ref (82 + 1 + j)), xI 0 3 (fun _ => 0), xI 0 3 (fun _ => 0), xI 0 3 (fun _ => 0), xI 0 3 (fun _ => 0), xI 0 3 (fun _ => 0), xI 0 6 (fun _ => 0), xV 4 6 (fun j => .ref (89 + 1 + j)), xI 0 2 (fun _ => 0), xI 0 2 (fun _ => 0), xI 0 2 (fun _ => 0), xI 0 2 (fun _ => 0), xI 0 2 (fun _ => 0), xI 0 2 (fun _ => 0), xI 2 6 (fun _ => 0), xO 10 [.ref 67, .ref 69, .ref 35, .ref 55, .ref 98], xO 11 [.ref 99, .ref 100, .ref 101, .ref 102, .ref 67, .int 0], xI 0 60 (fun _ => 0), xI 0 60 (fun _ => 0), xI 0 60 (fun _ => 0), xI 0 60 (fun _ => 0)])) := by
  refine XE (pl := [some (.ref 97), some (.ref 67), some (.ref 69), some (.ref 35), some (.ref 55)]) xg11 rfl ?_
  refine x_step rfl ?_
  refine x_objInit rfl (by omega) (Nat.le_of_ble_eq_true rfl) ?_
  refine x_step rfl ?_
  refine x_step rfl ?_
  refine x_step rfl ?_
  refine xm_hs (hp' := hz L xs ++ [xO 0 [.ref 33, .ref 35, .ref 55, .ref 66, .ref 69, .null], xO 1 [.ref 34, .int 0], xI 0 501 (fun _ => 0), xO 2 [.ref 36, .ref 37, .int 0, .int 0, .int 0, .int 0], xV 3 8 (updV (updV (updV (updV (updV (updV (updV (updV (fun _ => .null) 0 (.ref 39)) 1 (.ref 41)) 2 (.ref 43)) 3 (.ref 45)) 4 (.ref 47)) 5 (.ref 49)) 6 (.ref 51)) 7 (.ref 53)), xO 3 [.ref 38, .int 0], xI 0 120 (fun _ => 0), xO 4 [.ref 40, .int 0, .int 0], xI 0 130 (fun _ => 0), xO 4 [.ref 42, .int 0, .int 0], xI 0 130 (fun _ => 0), xO 4 [.ref 44, .int 0, .int 0], xI 0 130 (fun _ => 0), xO 4 [.ref 46, .int 0, .int 0], xI 0 130 (fun _ => 0), xO 4 [.ref 48, .int 0, .int 0], xI 0 130 (fun _ => 0), xO 4 [.ref 50, .int 0, .int 0], xI 0 130 (fun _ => 0), xO 4 [.ref 52, .int 0, .int 0], xI 0 130 (fun _ => 0), xO 4 [.ref 54, .int 0, .int 0], xI 0 130 (fun _ => 0), xO 5 [.ref 56, .ref 65, .int 0], xV 4 8 (fun j => .ref (56 + 1 + j)), xI 0 10 (fun _ => 0), xI 0 10 (fun _ => 0), xI 0 10 (fun _ => 0), xI 0 10 (fun _ => 0), xI 0 10 (fun _ => 0), xI 0 10 (fun _ => 0), xI 0 10 (fun _ => 0), xI 0 10 (fun _ => 0), xI 0 8 (fun _ => 0), xO 6 [.ref 33, .ref 35, .ref 55, .ref 67, .int 0, .int 0, .int 0, .int 0, .int 0], xO 4 [.ref 68, .int 0, .int 0], xI 0 130 (fun _ => 0), xO 7 [.ref 35, .ref 70, .ref 80, .int 0, .int 0, .int 3, .int 0], xO 8 [.ref 71, .ref 72, .ref 73], xI 0 6 (upd (upd (upd (upd (upd (upd (fun _ => 0) 0 41) 1 41) 2 41) 3 41) 4 41) 5 41), xI 0 6 (upd (upd (upd (upd (upd (upd (fun _ => 0) 0 1) 1 1) 2 1) 3 1) 4 1) 5 1), xV 4 6 (fun j => .ref (73 + 1 + j)), xI 0 8 (fun _ => 0), xI 0 8 (fun _ => 0), xI 0 8 (fun _ => 0), xI 0 8 (fun _ => 0), xI 0 8 (fun _ => 0), xI 0 8 (fun _ => 0), xO 9 [.ref 81, .ref 82, .ref 88, .ref 89, .ref 96], xI 0 5 (fun _ => 0), xV 4 5 (fun j => .ref (82 + 1 + j)), xI 0 3 (fun _ => 0), xI 0 3 (fun _ => 0), xI 0 3 (fun _ => 0), xI 0 3 (fun _ => 0), xI 0 3 (fun _ => 0), xI 0 6 (fun _ => 0), xV 4 6 (fun j => .ref (89 + 1 + j)), xI 0 2 (fun _ => 0), xI 0 2 (fun _ => 0), xI 0 2 (fun _ => 0), xI 0 2 (fun _ => 0), xI 0 2 (fun _ => 0), xI 0 2 (fun _ => 0), xI 2 6 (fun _ => 0), xO 10 [.ref 67, .null, .null, .null, .null]]) rfl ?_
  refine x_step rfl ?_
  refine x_step rfl ?_
  refine x_step rfl ?_
  refine xm_hs (hp' := hz L xs ++ [xO 0 [.ref 33, .ref 35, .ref 55, .ref 66, .ref 69, .null], xO 1 [.ref 34, .int 0], xI 0 501 (fun _ => 0), xO 2 [.ref 36, .ref 37, .int 0, .int 0, .int 0, .int 0], xV 3 8 (updV (updV (updV (updV (updV (updV (updV (updV (fun _ => .null) 0 (.ref 39)) 1 (.ref 41)) 2 (.ref 43)) 3 (.ref 45)) 4 (.ref 47)) 5 (.ref 49)) 6 (.ref 51)) 7 (.ref 53)), xO 3 [.ref 38, .int 0], xI 0 120 (fun _ => 0), xO 4 [.ref 40, .int 0, .int 0], xI 0 130 (fun _ => 0), xO 4 [.ref 42, .int 0, .int 0], xI 0 130 (fun _ => 0), xO 4 [.ref 44, .int 0, .int 0], xI 0 130 (fun _ => 0), xO 4 [.ref 46, .int 0, .int 0], xI 0 130 (fun _ => 0), xO 4 [.ref 48, .int 0, .int 0], xI 0 130 (fun _ => 0), xO 4 [.ref 50, .int 0, .int 0], xI 0 130 (fun _ => 0), xO 4 [.ref 52, .int 0, .int 0], xI 0 130 (fun _ => 0), xO 4 [.ref 54, .int 0, .int 0], xI 0 130 (fun _ => 0), xO 5 [.ref 56, .ref 65, .int 0], xV 4 8 (fun j => .ref (56 + 1 + j)), xI 0 10 (fun _ => 0), xI 0 10 (fun _ => 0), xI 0 10 (fun _ => 0), xI 0 10 (fun _ => 0), xI 0 10 (fun _ => 0), xI 0 10 (fun _ => 0), xI 0 10 (fun _ => 0), xI 0 10 (fun _ => 0), xI 0 8 (fun _ => 0), xO 6 [.ref 33, .ref 35, .ref 55, .ref 67, .int 0, .int 0, .int 0, .int 0, .int 0], xO 4 [.ref 68, .int 0, .int 0], xI 0 130 (fun _ => 0), xO 7 [.ref 35, .ref 70, .ref 80, .int 0, .int 0, .int 3, .int 0], xO 8 [.ref 71, .ref 72, .ref 73], xI 0 6 (upd (upd (upd (upd (upd (upd (fun _ => 0) 0 41) 1 41) 2 41) 3 41) 4 41) 5 41), xI 0 6 (upd (upd (upd (upd (upd (upd (fun _ => 0) 0 1) 1 1) 2 1) 3 1) 4 1) 5 1), xV 4 6 (fun j => .ref (73 + 1 + j)), xI 0 8 (fun _ => 0), xI 0 8 (fun _ => 0), xI 0 8 (fun _ => 0), xI 0 8 (fun _ => 0), xI 0 8 (fun _ => 0), xI 0 8 (fun _ => 0), xO 9 [.ref 81, .ref 82, .ref 88, .ref 89, .ref 96], xI 0 5 (fun _ => 0), xV 4 5 (fun j => .ref (82 + 1 + j)), xI 0 3 (fun _ => 0), xI 0 3 (fun _ => 0), xI 0 3 (fun _ => 0), xI 0 3 (fun _ => 0), xI 0 3 (fun _ => 0), xI 0 6 (fun _ => 0), xV 4 6 (fun j => .ref (89 + 1 + j)), xI 0 2 (fun _ => 0), xI 0 2 (fun _ => 0), xI 0 2 (fun _ => 0), xI 0 2 (fun _ => 0), xI 0 2 (fun _ => 0), xI 0 2 (fun _ => 0), xI 2 6 (fun _ => 0), xO 10 [.ref 67, .ref 69, .null, .null, .null]]) rfl ?_
  refine x_step rfl ?_
  refine x_step rfl ?_
  refine x_step rfl ?_
  refine xm_hs (hp' := hz L xs ++ [xO 0 [.ref 33, .ref 35, .ref 55, .ref 66, .ref 69, .null], xO 1 [.ref 34, .int 0], xI 0 501 (fun _ => 0), xO 2 [.ref 36, .ref 37, .int 0, .int 0, .int 0, .int 0], xV 3 8 (updV (updV (updV (updV (updV (updV (updV (updV (fun _ => .null) 0 (.ref 39)) 1 (.ref 41)) 2 (.ref 43)) 3 (.ref 45)) 4 (.ref 47)) 5 (.ref 49)) 6 (.ref 51)) 7 (.ref 53)), xO 3 [.ref 38, .int 0], xI 0 120 (fun _ => 0), xO 4 [.ref 40, .int 0, .int 0], xI 0 130 (fun _ => 0), xO 4 [.ref 42, .int 0, .int 0], xI 0 130 (fun _ => 0), xO 4 [.ref 44, .int 0, .int 0], xI 0 130 (fun _ => 0), xO 4 [.ref 46, .int 0, .int 0], xI 0 130 (fun _ => 0), xO 4 [.ref 48, .int 0, .int 0], xI 0 130 (fun _ => 0), xO 4 [.ref 50, .int 0, .int 0], xI 0 130 (fun _ => 0), xO 4 [.ref 52, .int 0, .int 0], xI 0 130 (fun _ => 0), xO 4 [.ref 54, .int 0, .int 0], xI 0 130 (fun _ => 0), xO 5 [.ref 56, .ref 65, .int 0], xV 4 8 (fun j => .ref (56 + 1 + j)), xI 0 10 (fun _ => 0), xI 0 10 (fun _ => 0), xI 0 10 (fun _ => 0), xI 0 10 (fun _ => 0), xI 0 10 (fun _ => 0), xI 0 10 (fun _ => 0), xI 0 10 (fun _ => 0), xI 0 10 (fun _ => 0), xI 0 8 (fun _ => 0), xO 6 [.ref 33, .ref 35, .ref 55, .ref 67, .int 0, .int 0, .int 0, .int 0, .int 0], xO 4 [.ref 68, .int 0, .int 0], xI 0 130 (fun _ => 0), xO 7 [.ref 35, .ref 70, .ref 80, .int 0, .int 0, .int 3, .int 0], xO 8 [.ref 71, .ref 72, .ref 73], xI 0 6 (upd (upd (upd (upd (upd (upd (fun _ => 0) 0 41) 1 41) 2 41) 3 41) 4 41) 5 41), xI 0 6 (upd (upd (upd (upd (upd (upd (fun _ => 0) 0 1) 1 1) 2 1) 3 1) 4 1) 5 1), xV 4 6 (fun j => .ref (73 + 1 + j)), xI 0 8 (fun _ => 0), xI 0 8 (fun _ => 0), xI 0 8 (fun _ => 0), xI 0 8 (fun _ => 0), xI 0 8 (fun _ => 0), xI 0 8 (fun _ => 0), xO 9 [.ref 81, .ref 82, .ref 88, .ref 89, .ref 96], xI 0 5 (fun _ => 0), xV 4 5 (fun j => .ref (82 + 1 + j)), xI 0 3 (fun _ => 0), xI 0 3 (fun _ => 0), xI 0 3 (fun _ => 0), xI 0 3 (fun _ => 0), xI 0 3 (fun _ => 0), xI 0 6 (fun _ => 0), xV 4 6 (fun j => .ref (89 + 1 + j)), xI 0 2 (fun _ => 0), xI 0 2 (fun _ => 0), xI 0 2 (fun _ => 0), xI 0 2 (fun _ => 0), xI 0 2 (fun _ => 0), xI 0 2 (fun _ => 0), xI 2 6 (fun _ => 0), xO 10 [.ref 67, .ref 69, .ref 35, .null, .null]]) rfl ?_
  refine x_step rfl ?_
  refine x_step rfl ?_
  refine x_step rfl ?_
  refine xm_hs (hp' := hz L xs ++ [xO 0 [.ref 33, .ref 35, .ref 55, .ref 66, .ref 69, .null], xO 1 [.ref 34, .int 0], xI 0 501 (fun _ => 0), xO 2 [.ref 36, .ref 37, .int 0, .int 0, .int 0, .int 0], xV 3 8 (updV (updV (updV (updV (updV (updV (updV (updV (fun _ => .null) 0 (.ref 39)) 1 (.ref 41)) 2 (.ref 43)) 3 (.ref 45)) 4 (.ref 47)) 5 (.ref 49)) 6 (.ref 51)) 7 (.ref 53)), xO 3 [.ref 38, .int 0], xI 0 120 (fun _ => 0), xO 4 [.ref 40, .int 0, .int 0], xI 0 130 (fun _ => 0), xO 4 [.ref 42, .int 0, .int 0], xI 0 130 (fun _ => 0), xO 4 [.ref 44, .int 0, .int 0], xI 0 130 (fun _ => 0), xO 4 [.ref 46, .int 0, .int 0], xI 0 130 (fun _ => 0), xO 4 [.ref 48, .int 0, .int 0], xI 0 130 (fun _ => 0), xO 4 [.ref 50, .int 0, .int 0], xI 0 130 (fun _ => 0), xO 4 [.ref 52, .int 0, .int 0], xI 0 130 (fun _ => 0), xO 4 [.ref 54, .int 0, .int 0], xI 0 130 (fun _ => 0), xO 5 [.ref 56, .ref 65, .int 0], xV 4 8 (fun j => .ref (56 + 1 + j)), xI 0 10 (fun _ => 0), xI 0 10 (fun _ => 0), xI 0 10 (fun _ => 0), xI 0 10 (fun _ => 0), xI 0 10 (fun _ => 0), xI 0 10 (fun _ => 0), xI 0 10 (fun _ => 0), xI 0 10 (fun _ => 0), xI 0 8 (fun _ => 0), xO 6 [.ref 33, .ref 35, .ref 55, .ref 67, .int 0, .int 0, .int 0, .int 0, .int 0], xO 4 [.ref 68, .int 0, .int 0], xI 0 130 (fun _ => 0), xO 7 [.ref 35, .ref 70, .ref 80, .int 0, .int 0, .int 3, .int 0], xO 8 [.ref 71, .ref 72, .ref 73], xI 0 6 (upd (upd (upd (upd (upd (upd (fun _ => 0) 0 41) 1 41) 2 41) 3 41) 4 41) 5 41), xI 0 6 (upd (upd (upd (upd (upd (upd (fun _ => 0) 0 1) 1 1) 2 1) 3 1) 4 1) 5 1), xV 4 6 (fun j => .ref (73 + 1 + j)), xI 0 8 (fun _ => 0), xI 0 8 (fun _ => 0), xI 0 8 (fun _ => 0), xI 0 8 (fun _ => 0), xI 0 8 (fun _ => 0), xI 0 8 (fun _ => 0), xO 9 [.ref 81, .ref 82, .ref 88, .ref 89, .ref 96], xI 0 5 (fun _ => 0), xV 4 5 (fun j => .ref (82 + 1 + j)), xI 0 3 (fun _ => 0), xI 0 3 (fun _ => 0), xI 0 3 (fun _ => 0), xI 0 3 (fun _ => 0), xI 0 3 (fun _ => 0), xI 0 6 (fun _ => 0), xV 4 6 (fun j => .ref (89 + 1 + j)), xI 0 2 (fun _ => 0), xI 0 2 (fun _ => 0), xI 0 2 (fun _ => 0), xI 0 2 (fun _ => 0), xI 0 2 (fun _ => 0), xI 0 2 (fun _ => 0), xI 2 6 (fun _ => 0), xO 10 [.ref 67, .ref 69, .ref 35, .ref 55, .null]]) rfl ?_
  refine x_step rfl ?_
  refine x_new (a := 98) rfl rfl rfl rfl (by omega) (by omega) ?_
  refine x_step rfl ?_
  refine x_step rfl ?_
  refine xm_hs (hp' := hz L xs ++ [xO 0 [.ref 33, .ref 35, .ref 55, .ref 66, .ref 69, .null], xO 1 [.ref 34, .int 0], xI 0 501 (fun _ => 0), xO 2 [.ref 36, .ref 37, .int 0, .int 0, .int 0, .int 0], xV 3 8 (updV (updV (updV (updV (updV (updV (updV (updV (fun _ => .null) 0 (.ref 39)) 1 (.ref 41)) 2 (.ref 43)) 3 (.ref 45)) 4 (.ref 47)) 5 (.ref 49)) 6 (.ref 51)) 7 (.ref 53)), xO 3 [.ref 38, .int 0], xI 0 120 (fun _ => 0), xO 4 [.ref 40, .int 0, .int 0], xI 0 130 (fun _ => 0), xO 4 [.ref 42, .int 0, .int 0], xI 0 130 (fun _ => 0), xO 4 [.ref 44, .int 0, .int 0], xI 0 130 (fun _ => 0), xO 4 [.ref 46, .int 0, .int 0], xI 0 130 (fun _ => 0), xO 4 [.ref 48, .int 0, .int 0], xI 0 130 (fun _ => 0), xO 4 [.ref 50, .int 0, .int 0], xI 0 130 (fun _ => 0), xO 4 [.ref 52, .int 0, .int 0], xI 0 130 (fun _ => 0), xO 4 [.ref 54, .int 0, .int 0], xI 0 130 (fun _ => 0), xO 5 [.ref 56, .ref 65, .int 0], xV 4 8 (fun j => .ref (56 + 1 + j)), xI 0 10 (fun _ => 0), xI 0 10 (fun _ => 0), xI 0 10 (fun _ => 0), xI 0 10 (fun _ => 0), xI 0 10 (fun _ => 0), xI 0 10 (fun _ => 0), xI 0 10 (fun _ => 0), xI 0 10 (fun _ => 0), xI 0 8 (fun _ => 0), xO 6 [.ref 33, .ref 35, .ref 55, .ref 67, .int 0, .int 0, .int 0, .int 0, .int 0], xO 4 [.ref 68, .int 0, .int 0], xI 0 130 (fun _ => 0), xO 7 [.ref 35, .ref 70, .ref 80, .int 0, .int 0, .int 3, .int 0], xO 8 [.ref 71, .ref 72, .ref 73], xI 0 6 (upd (upd (upd (upd (upd (upd (fun _ => 0) 0 41) 1 41) 2 41) 3 41) 4 41) 5 41), xI 0 6 (upd (upd (upd (upd (upd (upd (fun _ => 0) 0 1) 1 1) 2 1) 3 1) 4 1) 5 1), xV 4 6 (fun j => .ref (73 + 1 + j)), xI 0 8 (fun _ => 0), xI 0 8 (fun _ => 0), xI 0 8 (fun _ => 0), xI 0 8 (fun _ => 0), xI 0 8 (fun _ => 0), xI 0 8 (fun _ => 0), xO 9 [.ref 81, .ref 82, .ref 88, .ref 89, .ref 96], xI 0 5 (fun _ => 0), xV 4 5 (fun j => .ref (82 + 1 + j)), xI 0 3 (fun _ => 0), xI 0 3 (fun _ => 0), xI 0 3 (fun _ => 0), xI 0 3 (fun _ => 0), xI 0 3 (fun _ => 0), xI 0 6 (fun _ => 0), xV 4 6 (fun j => .ref (89 + 1 + j)), xI 0 2 (fun _ => 0), xI 0 2 (fun _ => 0), xI 0 2 (fun _ => 0), xI 0 2 (fun _ => 0), xI 0 2 (fun _ => 0), xI 0 2 (fun _ => 0), xI 2 6 (fun _ => 0), xO 10 [.ref 67, .ref 69, .ref 35, .ref 55, .null], xO 11 [.null, .null, .null, .null, .null, .int 0]]) rfl ?_
  refine x_calliE rfl ct18 rfl rfl ?_
  refine x_step rfl ?_
  refine xm_hs (hp' := hz L xs ++ [xO 0 [.ref 33, .ref 35, .ref 55, .ref 66, .ref 69, .null], xO 1 [.ref 34, .int 0], xI 0 501 (fun _ => 0), xO 2 [.ref 36, .ref 37, .int 0, .int 0, .int 0, .int 0], xV 3 8 (updV (updV (updV (updV (updV (updV (updV (updV (fun _ => .null) 0 (.ref 39)) 1 (.ref 41)) 2 (.ref 43)) 3 (.ref 45)) 4 (.ref 47)) 5 (.ref 49)) 6 (.ref 51)) 7 (.ref 53)), xO 3 [.ref 38, .int 0], xI 0 120 (fun _ => 0), xO 4 [.ref 40, .int 0, .int 0], xI 0 130 (fun _ => 0), xO 4 [.ref 42, .int 0, .int 0], xI 0 130 (fun _ => 0), xO 4 [.ref 44, .int 0, .int 0], xI 0 130 (fun _ => 0), xO 4 [.ref 46, .int 0, .int 0], xI 0 130 (fun _ => 0), xO 4 [.ref 48, .int 0, .int 0], xI 0 130 (fun _ => 0), xO 4 [.ref 50, .int 0, .int 0], xI 0 130 (fun _ => 0), xO 4 [.ref 52, .int 0, .int 0], xI 0 130 (fun _ => 0), xO 4 [.ref 54, .int 0, .int 0], xI 0 130 (fun _ => 0), xO 5 [.ref 56, .ref 65, .int 0], xV 4 8 (fun j => .ref (56 + 1 + j)), xI 0 10 (fun _ => 0), xI 0 10 (fun _ => 0), xI 0 10 (fun _ => 0), xI 0 10 (fun _ => 0), xI 0 10 (fun _ => 0), xI 0 10 (fun _ => 0), xI 0 10 (fun _ => 0), xI 0 10 (fun _ => 0), xI 0 8 (fun _ => 0), xO 6 [.ref 33, .ref 35, .ref 55, .ref 67, .int 0, .int 0, .int 0, .int 0, .int 0], xO 4 [.ref 68, .int 0, .int 0], xI 0 130 (fun _ => 0), xO 7 [.ref 35, .ref 70, .ref 80, .int 0, .int 0, .int 3, .int 0], xO 8 [.ref 71, .ref 72, .ref 73], xI 0 6 (upd (upd (upd (upd (upd (upd (fun _ => 0) 0 41) 1 41) 2 41) 3 41) 4 41) 5 41), xI 0 6 (upd (upd (upd (upd (upd (upd (fun _ => 0) 0 1) 1 1) 2 1) 3 1) 4 1) 5 1), xV 4 6 (fun j => .ref (73 + 1 + j)), xI 0 8 (fun _ => 0), xI 0 8 (fun _ => 0), xI 0 8 (fun _ => 0), xI 0 8 (fun _ => 0), xI 0 8 (fun _ => 0), xI 0 8 (fun _ => 0), xO 9 [.ref 81, .ref 82, .ref 88, .ref 89, .ref 96], xI 0 5 (fun _ => 0), xV 4 5 (fun j => .ref (82 + 1 + j)), xI 0 3 (fun _ => 0), xI 0 3 (fun _ => 0), xI 0 3 (fun _ => 0), xI 0 3 (fun _ => 0), xI 0 3 (fun _ => 0), xI 0 6 (fun _ => 0), xV 4 6 (fun j => .ref (89 + 1 + j)), xI 0 2 (fun _ => 0), xI 0 2 (fun _ => 0), xI 0 2 (fun _ => 0), xI 0 2 (fun _ => 0), xI 0 2 (fun _ => 0), xI 0 2 (fun _ => 0), xI 2 6 (fun _ => 0), xO 10 [.ref 67, .ref 69, .ref 35, .ref 55, .ref 98], xO 11 [.ref 99, .ref 100, .ref 101, .ref 102, .ref 67, .int 0], xI 0 60 (fun _ => 0), xI 0 60 (fun _ => 0), xI 0 60 (fun _ => 0), xI 0 60 (fun _ => 0)]) rfl ?_
  exact x_ret rfl rfl ⟨rfl, rfl⟩
set_option maxRecDepth 10000 in
/-- FabLink.<init> -/
theorem ct20 : XM l 0 3 70 2331 [.ref 32] (hz L xs ++ [xO 0 [.null, .null, .null, .null, .null, .null]]) (xm_is none (hz L xs ++ [xO 0 [.ref 33, .ref 35, .ref 55, .ref 66, .ref 69, .ref 97], xO 1 [.ref 34, .int 0], xI 0 501 (fun _ => 0), xO 2 [.ref 36, .ref 37, .int 0, .int 0, .int 0, .int 0], xV 3 8 (updV (updV (updV (updV (updV (updV (updV (updV (fun _ => .null) 0 (.ref 39)) 1 (.ref 41)) 2 (.ref 43)) 3 (.ref 45)) 4 (.ref 47)) 5 (.ref 49)) 6 (.ref 51)) 7 (.ref 53)), xO 3 [.ref 38, .int 0], xI 0 120 (fun _ => 0), xO 4 [.ref 40, .int 0, .int 0], xI 0 130 (fun _ => 0), xO 4 [.ref 42, .int 0, .int 0], xI 0 130 (fun _ => 0), xO 4 [.ref 44, .int 0, .int 0], xI 0 130 (fun _ => 0), xO 4 [.ref 46, .int 0, .int 0], xI 0 130 (fun _ => 0), xO 4 [.ref 48, .int 0, .int 0], xI 0 130 (fun _ => 0), xO 4 [.ref 50, .int 0, .int 0], xI 0 130 (fun _ => 0), xO 4 [.ref 52, .int 0, .int 0], xI 0 130 (fun _ => 0), xO 4 [.ref 54, .int 0, .int 0], xI 0 130 (fun _ => 0), xO 5 [.ref 56, .ref 65, .int 0], xV 4 8 (fun j => .ref (56 + 1 + j)), xI 0 10 (fun _ => 0), xI 0 10 (fun _ => 0), xI 0 10 (fun _ => 0), xI 0 10 (fun _ => 0), xI 0 10 (fun _ => 0), xI 0 10 (fun _ => 0), xI 0 10 (fun _ => 0), xI 0 10 (fun _ => 0), xI 0 8 (fun _ => 0), xO 6 [.ref 33, .ref 35, .ref 55, .ref 67, .int 0, .int 0, .int 0, .int 0, .int 0], xO 4 [.ref 68, .int 0, .int 0], xI 0 130 (fun _ => 0), xO 7 [.ref 35, .ref 70, .ref 80, .int 0, .int 0, .int 3, .int 0], xO 8 [.ref 71, .ref 72, .ref 73], xI 0 6 (upd (upd (upd (upd (upd (upd (fun _ => 0) 0 41) 1 41) 2 41) 3 41) 4 41) 5 41), xI 0 6 (upd (upd (upd (upd (upd (upd (fun _ => 0) 0 1) 1 1) 2 1) 3 1) 4 1) 5 1), xV 4 6 (fun j => .ref (73 + 1 + j)), xI 0 8 (fun _ => 0), xI 0 8 (fun _ => 0), xI 0 8 (fun _ => 0), xI 0 8 (fun _ => 0), xI 0 8 (fun _ => 0), xI 0 8 (fun _ => 0), xO 9 [.ref 81, .ref 82, .ref 88, .ref 89, .ref 96], xI 0 5 (fun _ => 0), xV 4 5 (fun j => .ref (82 + 1 + j)), xI 0 3 (fun _ => 0), xI 0 3 (fun _ => 0), xI 0 3 (fun _ => 0), xI 0 3 (fun _ => 0), xI 0 3 (fun _ => 0), xI 0 6 (fun _ => 0), xV 4 6 (fun j => .ref (89 + 1 + j)), xI 0 2 (fun _ => 0), xI 0 2 (fun _ => 0), xI 0 2 (fun _ => 0), xI 0 2 (fun _ => 0), xI 0 2 (fun _ => 0), xI 0 2 (fun _ => 0), xI 2 6 (fun _ => 0), xO 10 [.ref 67, .ref 69, .ref 35, .ref 55, .ref 98], xO 11 [.ref 99, .ref 100, .ref 101, .ref 102, .ref 67, .int 0], xI 0 60 (fun _ => 0), xI 0 60 (fun _ => 0), xI 0 60 (fun _ => 0), xI 0 60 (fun _ => 0)])) := by
  refine XE (pl := [some (.ref 32)]) xg0 rfl ?_
  refine x_step rfl ?_
  refine x_objInit rfl (by omega) (Nat.le_of_ble_eq_true rfl) ?_
  refine x_step rfl ?_
  refine x_new (a := 33) rfl rfl rfl rfl (by omega) (by omega) ?_
  refine x_step rfl ?_
  refine xm_hs (hp' := hz L xs ++ [xO 0 [.null, .null, .null, .null, .null, .null], xO 1 [.null, .int 0]]) rfl ?_
  refine x_calliE rfl ct0 rfl rfl ?_
  refine x_step rfl ?_
  refine xm_hs (hp' := hz L xs ++ [xO 0 [.ref 33, .null, .null, .null, .null, .null], xO 1 [.ref 34, .int 0], xI 0 501 (fun _ => 0)]) rfl ?_
  refine x_step rfl ?_
  refine x_new (a := 35) rfl rfl rfl rfl (by omega) (by omega) ?_
  refine x_step rfl ?_
  refine xm_hs (hp' := hz L xs ++ [xO 0 [.ref 33, .null, .null, .null, .null, .null], xO 1 [.ref 34, .int 0], xI 0 501 (fun _ => 0), xO 2 [.null, .null, .int 0, .int 0, .int 0, .int 0]]) rfl ?_
  refine x_calliE rfl ct10 rfl rfl ?_
  refine x_step rfl ?_
  refine xm_hs (hp' := hz L xs ++ [xO 0 [.ref 33, .ref 35, .null, .null, .null, .null], xO 1 [.ref 34, .int 0], xI 0 501 (fun _ => 0), xO 2 [.ref 36, .ref 37, .int 0, .int 0, .int 0, .int 0], xV 3 8 (updV (updV (updV (updV (updV (updV (updV (updV (fun _ => .null) 0 (.ref 39)) 1 (.ref 41)) 2 (.ref 43)) 3 (.ref 45)) 4 (.ref 47)) 5 (.ref 49)) 6 (.ref 51)) 7 (.ref 53)), xO 3 [.ref 38, .int 0], xI 0 120 (fun _ => 0), xO 4 [.ref 40, .int 0, .int 0], xI 0 130 (fun _ => 0), xO 4 [.ref 42, .int 0, .int 0], xI 0 130 (fun _ => 0), xO 4 [.ref 44, .int 0, .int 0], xI 0 130 (fun _ => 0), xO 4 [.ref 46, .int 0, .int 0], xI 0 130 (fun _ => 0), xO 4 [.ref 48, .int 0, .int 0], xI 0 130 (fun _ => 0), xO 4 [.ref 50, .int 0, .int 0], xI 0 130 (fun _ => 0), xO 4 [.ref 52, .int 0, .int 0], xI 0 130 (fun _ => 0), xO 4 [.ref 54, .int 0, .int 0], xI 0 130 (fun _ => 0)]) rfl ?_
  refine x_step rfl ?_
  refine x_new (a := 55) rfl rfl rfl rfl (by omega) (by omega) ?_
  refine x_step rfl ?_
  refine xm_hs (hp' := hz L xs ++ [xO 0 [.ref 33, .ref 35, .null, .null, .null, .null], xO 1 [.ref 34, .int 0], xI 0 501 (fun _ => 0), xO 2 [.ref 36, .ref 37, .int 0, .int 0, .int 0, .int 0], xV 3 8 (updV (updV (updV (updV (updV (updV (updV (updV (fun _ => .null) 0 (.ref 39)) 1 (.ref 41)) 2 (.ref 43)) 3 (.ref 45)) 4 (.ref 47)) 5 (.ref 49)) 6 (.ref 51)) 7 (.ref 53)), xO 3 [.ref 38, .int 0], xI 0 120 (fun _ => 0), xO 4 [.ref 40, .int 0, .int 0], xI 0 130 (fun _ => 0), xO 4 [.ref 42, .int 0, .int 0], xI 0 130 (fun _ => 0), xO 4 [.ref 44, .int 0, .int 0], xI 0 130 (fun _ => 0), xO 4 [.ref 46, .int 0, .int 0], xI 0 130 (fun _ => 0), xO 4 [.ref 48, .int 0, .int 0], xI 0 130 (fun _ => 0), xO 4 [.ref 50, .int 0, .int 0], xI 0 130 (fun _ => 0), xO 4 [.ref 52, .int 0, .int 0], xI 0 130 (fun _ => 0), xO 4 [.ref 54, .int 0, .int 0], xI 0 130 (fun _ => 0), xO 5 [.null, .null, .int 0]]) rfl ?_
  refine x_calliE rfl ct11 rfl rfl ?_
  refine x_step rfl ?_
  refine xm_hs (hp' := hz L xs ++ [xO 0 [.ref 33, .ref 35, .ref 55, .null, .null, .null], xO 1 [.ref 34, .int 0], xI 0 501 (fun _ => 0), xO 2 [.ref 36, .ref 37, .int 0, .int 0, .int 0, .int 0], xV 3 8 (updV (updV (updV (updV (updV (updV (updV (updV (fun _ => .null) 0 (.ref 39)) 1 (.ref 41)) 2 (.ref 43)) 3 (.ref 45)) 4 (.ref 47)) 5 (.ref 49)) 6 (.ref 51)) 7 (.ref 53)), xO 3 [.ref 38, .int 0], xI 0 120 (fun _ => 0), xO 4 [.ref 40, .int 0, .int 0], xI 0 130 (fun _ => 0), xO 4 [.ref 42, .int 0, .int 0], xI 0 130 (fun _ => 0), xO 4 [.ref 44, .int 0, .int 0], xI 0 130 (fun _ => 0), xO 4 [.ref 46, .int 0, .int 0], xI 0 130 (fun _ => 0), xO 4 [.ref 48, .int 0, .int 0], xI 0 130 (fun _ => 0), xO 4 [.ref 50, .int 0, .int 0], xI 0 130 (fun _ => 0), xO 4 [.ref 52, .int 0, .int 0], xI 0 130 (fun _ => 0), xO 4 [.ref 54, .int 0, .int 0], xI 0 130 (fun _ => 0), xO 5 [.ref 56, .ref 65, .int 0], xV 4 8 (fun j => .ref (56 + 1 + j)), xI 0 10 (fun _ => 0), xI 0 10 (fun _ => 0), xI 0 10 (fun _ => 0), xI 0 10 (fun _ => 0), xI 0 10 (fun _ => 0), xI 0 10 (fun _ => 0), xI 0 10 (fun _ => 0), xI 0 10 (fun _ => 0), xI 0 8 (fun _ => 0)]) rfl ?_
  refine x_step rfl ?_
  refine x_new (a := 66) rfl rfl rfl rfl (by omega) (by omega) ?_
  refine x_step rfl ?_
  refine x_step rfl ?_
  refine x_step rfl ?_
  refine x_step rfl ?_
  refine x_step rfl ?_
  refine x_step rfl ?_
  refine x_step rfl ?_
  refine xm_hs (hp' := hz L xs ++ [xO 0 [.ref 33, .ref 35, .ref 55, .null, .null, .null], xO 1 [.ref 34, .int 0], xI 0 501 (fun _ => 0), xO 2 [.ref 36, .ref 37, .int 0, .int 0, .int 0, .int 0], xV 3 8 (updV (updV (updV (updV (updV (updV (updV (updV (fun _ => .null) 0 (.ref 39)) 1 (.ref 41)) 2 (.ref 43)) 3 (.ref 45)) 4 (.ref 47)) 5 (.ref 49)) 6 (.ref 51)) 7 (.ref 53)), xO 3 [.ref 38, .int 0], xI 0 120 (fun _ => 0), xO 4 [.ref 40, .int 0, .int 0], xI 0 130 (fun _ => 0), xO 4 [.ref 42, .int 0, .int 0], xI 0 130 (fun _ => 0), xO 4 [.ref 44, .int 0, .int 0], xI 0 130 (fun _ => 0), xO 4 [.ref 46, .int 0, .int 0], xI 0 130 (fun _ => 0), xO 4 [.ref 48, .int 0, .int 0], xI 0 130 (fun _ => 0), xO 4 [.ref 50, .int 0, .int 0], xI 0 130 (fun _ => 0), xO 4 [.ref 52, .int 0, .int 0], xI 0 130 (fun _ => 0), xO 4 [.ref 54, .int 0, .int 0], xI 0 130 (fun _ => 0), xO 5 [.ref 56, .ref 65, .int 0], xV 4 8 (fun j => .ref (56 + 1 + j)), xI 0 10 (fun _ => 0), xI 0 10 (fun _ => 0), xI 0 10 (fun _ => 0), xI 0 10 (fun _ => 0), xI 0 10 (fun _ => 0), xI 0 10 (fun _ => 0), xI 0 10 (fun _ => 0), xI 0 10 (fun _ => 0), xI 0 8 (fun _ => 0), xO 6 [.null, .null, .null, .null, .int 0, .int 0, .int 0, .int 0, .int 0]]) rfl ?_
  refine x_calliE rfl ct13 rfl rfl ?_
  refine x_step rfl ?_
  refine xm_hs (hp' := hz L xs ++ [xO 0 [.ref 33, .ref 35, .ref 55, .ref 66, .null, .null], xO 1 [.ref 34, .int 0], xI 0 501 (fun _ => 0), xO 2 [.ref 36, .ref 37, .int 0, .int 0, .int 0, .int 0], xV 3 8 (updV (updV (updV (updV (updV (updV (updV (updV (fun _ => .null) 0 (.ref 39)) 1 (.ref 41)) 2 (.ref 43)) 3 (.ref 45)) 4 (.ref 47)) 5 (.ref 49)) 6 (.ref 51)) 7 (.ref 53)), xO 3 [.ref 38, .int 0], xI 0 120 (fun _ => 0), xO 4 [.ref 40, .int 0, .int 0], xI 0 130 (fun _ => 0), xO 4 [.ref 42, .int 0, .int 0], xI 0 130 (fun _ => 0), xO 4 [.ref 44, .int 0, .int 0], xI 0 130 (fun _ => 0), xO 4 [.ref 46, .int 0, .int 0], xI 0 130 (fun _ => 0), xO 4 [.ref 48, .int 0, .int 0], xI 0 130 (fun _ => 0), xO 4 [.ref 50, .int 0, .int 0], xI 0 130 (fun _ => 0), xO 4 [.ref 52, .int 0, .int 0], xI 0 130 (fun _ => 0), xO 4 [.ref 54, .int 0, .int 0], xI 0 130 (fun _ => 0), xO 5 [.ref 56, .ref 65, .int 0], xV 4 8 (fun j => .ref (56 + 1 + j)), xI 0 10 (fun _ => 0), xI 0 10 (fun _ => 0), xI 0 10 (fun _ => 0), xI 0 10 (fun _ => 0), xI 0 10 (fun _ => 0), xI 0 10 (fun _ => 0), xI 0 10 (fun _ => 0), xI 0 10 (fun _ => 0), xI 0 8 (fun _ => 0), xO 6 [.ref 33, .ref 35, .ref 55, .ref 67, .int 0, .int 0, .int 0, .int 0, .int 0], xO 4 [.ref 68, .int 0, .int 0], xI 0 130 (fun _ => 0)]) rfl ?_
  refine x_step rfl ?_
  refine x_new (a := 69) rfl rfl rfl rfl (by omega) (by omega) ?_
  refine x_step rfl ?_
  refine x_step rfl ?_
  refine x_step rfl ?_
  refine xm_hs (hp' := hz L xs ++ [xO 0 [.ref 33, .ref 35, .ref 55, .ref 66, .null, .null], xO 1 [.ref 34, .int 0], xI 0 501 (fun _ => 0), xO 2 [.ref 36, .ref 37, .int 0, .int 0, .int 0, .int 0], xV 3 8 (updV (updV (updV (updV (updV (updV (updV (updV (fun _ => .null) 0 (.ref 39)) 1 (.ref 41)) 2 (.ref 43)) 3 (.ref 45)) 4 (.ref 47)) 5 (.ref 49)) 6 (.ref 51)) 7 (.ref 53)), xO 3 [.ref 38, .int 0], xI 0 120 (fun _ => 0), xO 4 [.ref 40, .int 0, .int 0], xI 0 130 (fun _ => 0), xO 4 [.ref 42, .int 0, .int 0], xI 0 130 (fun _ => 0), xO 4 [.ref 44, .int 0, .int 0], xI 0 130 (fun _ => 0), xO 4 [.ref 46, .int 0, .int 0], xI 0 130 (fun _ => 0), xO 4 [.ref 48, .int 0, .int 0], xI 0 130 (fun _ => 0), xO 4 [.ref 50, .int 0, .int 0], xI 0 130 (fun _ => 0), xO 4 [.ref 52, .int 0, .int 0], xI 0 130 (fun _ => 0), xO 4 [.ref 54, .int 0, .int 0], xI 0 130 (fun _ => 0), xO 5 [.ref 56, .ref 65, .int 0], xV 4 8 (fun j => .ref (56 + 1 + j)), xI 0 10 (fun _ => 0), xI 0 10 (fun _ => 0), xI 0 10 (fun _ => 0), xI 0 10 (fun _ => 0), xI 0 10 (fun _ => 0), xI 0 10 (fun _ => 0), xI 0 10 (fun _ => 0), xI 0 10 (fun _ => 0), xI 0 8 (fun _ => 0), xO 6 [.ref 33, .ref 35, .ref 55, .ref 67, .int 0, .int 0, .int 0, .int 0, .int 0], xO 4 [.ref 68, .int 0, .int 0], xI 0 130 (fun _ => 0), xO 7 [.null, .null, .null, .int 0, .int 0, .int 0, .int 0]]) rfl ?_
  refine x_calliE rfl ct16 rfl rfl ?_
  refine x_step rfl ?_
  refine xm_hs (hp' := hz L xs ++ [xO 0 [.ref 33, .ref 35, .ref 55, .ref 66, .ref 69, .null], xO 1 [.ref 34, .int 0], xI 0 501 (fun _ => 0), xO 2 [.ref 36, .ref 37, .int 0, .int 0, .int 0, .int 0], xV 3 8 (updV (updV (updV (updV (updV (updV (updV (updV (fun _ => .null) 0 (.ref 39)) 1 (.ref 41)) 2 (.ref 43)) 3 (.ref 45)) 4 (.ref 47)) 5 (.ref 49)) 6 (.ref 51)) 7 (.ref 53)), xO 3 [.ref 38, .int 0], xI 0 120 (fun _ => 0), xO 4 [.ref 40, .int 0, .int 0], xI 0 130 (fun _ => 0), xO 4 [.ref 42, .int 0, .int 0], xI 0 130 (fun _ => 0), xO 4 [.ref 44, .int 0, .int 0], xI 0 130 (fun _ => 0), xO 4 [.ref 46, .int 0, .int 0], xI 0 130 (fun _ => 0), xO 4 [.ref 48, .int 0, .int 0], xI 0 130 (fun _ => 0), xO 4 [.ref 50, .int 0, .int 0], xI 0 130 (fun _ => 0), xO 4 [.ref 52, .int 0, .int 0], xI 0 130 (fun _ => 0), xO 4 [.ref 54, .int 0, .int 0], xI 0 130 (fun _ => 0), xO 5 [.ref 56, .ref 65, .int 0], xV 4 8 (fun j => .ref (56 + 1 + j)), xI 0 10 (fun _ => 0), xI 0 10 (fun _ => 0), xI 0 10 (fun _ => 0), xI 0 10 (fun _ => 0), xI 0 10 (fun _ => 0), xI 0 10 (fun _ => 0), xI 0 10 (fun _ => 0), xI 0 10 (fun _ => 0), xI 0 8 (fun _ => 0), xO 6 [.ref 33, .ref 35, .ref 55, .ref 67, .int 0, .int 0, .int 0, .int 0, .int 0], xO 4 [.ref 68, .int 0, .int 0], xI 0 130 (fun _ => 0), xO 7 [.ref 35, .ref 70, .ref 80, .int 0, .int 0, .int 3, .int 0], xO 8 [.ref 71, .ref 72, .ref 73], xI 0 6 (upd (upd (upd (upd (upd (upd (fun _ => 0) 0 41) 1 41) 2 41) 3 41) 4 41) 5 41), xI 0 6 (upd (upd (upd (upd (upd (upd (fun _ => 0) 0 1) 1 1) 2 1) 3 1) 4 1) 5 1), xV 4 6 (fun j => .ref (73 + 1 + j)), xI 0 8 (fun _ => 0), xI 0 8 (fun _ => 0), xI 0 8 (fun _ => 0), xI 0 8 (fun _ => 0), xI 0 8 (fun _ => 0), xI 0 8 (fun _ => 0), xO 9 [.ref 81, .ref 82, .ref 88, .ref 89, .ref 96], xI 0 5 (fun _ => 0), xV 4 5 (fun j => .ref (82 + 1 + j)), xI 0 3 (fun _ => 0), xI 0 3 (fun _ => 0), xI 0 3 (fun _ => 0), xI 0 3 (fun _ => 0), xI 0 3 (fun _ => 0), xI 0 6 (fun _ => 0), xV 4 6 (fun j => .ref (89 + 1 + j)), xI 0 2 (fun _ => 0), xI 0 2 (fun _ => 0), xI 0 2 (fun _ => 0), xI 0 2 (fun _ => 0), xI 0 2 (fun _ => 0), xI 0 2 (fun _ => 0), xI 2 6 (fun _ => 0)]) rfl ?_
  refine x_step rfl ?_
  refine x_new (a := 97) rfl rfl rfl rfl (by omega) (by omega) ?_
  refine x_step rfl ?_
  refine x_step rfl ?_
  refine x_step rfl ?_
  refine xm_hs (hp' := hz L xs ++ [xO 0 [.ref 33, .ref 35, .ref 55, .ref 66, .ref 69, .null], xO 1 [.ref 34, .int 0], xI 0 501 (fun _ => 0), xO 2 [.ref 36, .ref 37, .int 0, .int 0, .int 0, .int 0], xV 3 8 (updV (updV (updV (updV (updV (updV (updV (updV (fun _ => .null) 0 (.ref 39)) 1 (.ref 41)) 2 (.ref 43)) 3 (.ref 45)) 4 (.ref 47)) 5 (.ref 49)) 6 (.ref 51)) 7 (.ref 53)), xO 3 [.ref 38, .int 0], xI 0 120 (fun _ => 0), xO 4 [.ref 40, .int 0, .int 0], xI 0 130 (fun _ => 0), xO 4 [.ref 42, .int 0, .int 0], xI 0 130 (fun _ => 0), xO 4 [.ref 44, .int 0, .int 0], xI 0 130 (fun _ => 0), xO 4 [.ref 46, .int 0, .int 0], xI 0 130 (fun _ => 0), xO 4 [.ref 48, .int 0, .int 0], xI 0 130 (fun _ => 0), xO 4 [.ref 50, .int 0, .int 0], xI 0 130 (fun _ => 0), xO 4 [.ref 52, .int 0, .int 0], xI 0 130 (fun _ => 0), xO 4 [.ref 54, .int 0, .int 0], xI 0 130 (fun _ => 0), xO 5 [.ref 56, .ref 65, .int 0], xV 4 8 (fun j => .ref (56 + 1 + j)), xI 0 10 (fun _ => 0), xI 0 10 (fun _ => 0), xI 0 10 (fun _ => 0), xI 0 10 (fun _ => 0), xI 0 10 (fun _ => 0), xI 0 10 (fun _ => 0), xI 0 10 (fun _ => 0), xI 0 10 (fun _ => 0), xI 0 8 (fun _ => 0), xO 6 [.ref 33, .ref 35, .ref 55, .ref 67, .int 0, .int 0, .int 0, .int 0, .int 0], xO 4 [.ref 68, .int 0, .int 0], xI 0 130 (fun _ => 0), xO 7 [.ref 35, .ref 70, .ref 80, .int 0, .int 0, .int 3, .int 0], xO 8 [.ref 71, .ref 72, .ref 73], xI 0 6 (upd (upd (upd (upd (upd (upd (fun _ => 0) 0 41) 1 41) 2 41) 3 41) 4 41) 5 41), xI 0 6 (upd (upd (upd (upd (upd (upd (fun _ => 0) 0 1) 1 1) 2 1) 3 1) 4 1) 5 1), xV 4 6 (fun j => .ref (73 + 1 + j)), xI 0 8 (fun _ => 0), xI 0 8 (fun _ => 0), xI 0 8 (fun _ => 0), xI 0 8 (fun _ => 0), xI 0 8 (fun _ => 0), xI 0 8 (fun _ => 0), xO 9 [.ref 81, .ref 82, .ref 88, .ref 89, .ref 96], xI 0 5 (fun _ => 0), xV 4 5 (fun j => .ref (82 + 1 + j)), xI 0 3 (fun _ => 0), xI 0 3 (fun _ => 0), xI 0 3 (fun _ => 0), xI 0 3 (fun _ => 0), xI 0 3 (fun _ => 0), xI 0 6 (fun _ => 0), xV 4 6 (fun j => .ref (89 + 1 + j)), xI 0 2 (fun _ => 0), xI 0 2 (fun _ => 0), xI 0 2 (fun _ => 0), xI 0 2 (fun _ => 0), xI 0 2 (fun _ => 0), xI 0 2 (fun _ => 0), xI 2 6 (fun _ => 0), xO 10 [.null, .null, .null, .null, .null]]) rfl ?_
  refine x_callvE rfl ct17 rfl rfl rfl ?_
  refine x_step rfl ?_
  refine x_step rfl ?_
  refine x_step rfl ?_
  refine x_step rfl ?_
  refine x_step rfl ?_
  refine x_step rfl ?_
  refine xm_hs (hp' := hz L xs ++ [xO 0 [.ref 33, .ref 35, .ref 55, .ref 66, .ref 69, .null], xO 1 [.ref 34, .int 0], xI 0 501 (fun _ => 0), xO 2 [.ref 36, .ref 37, .int 0, .int 0, .int 0, .int 0], xV 3 8 (updV (updV (updV (updV (updV (updV (updV (updV (fun _ => .null) 0 (.ref 39)) 1 (.ref 41)) 2 (.ref 43)) 3 (.ref 45)) 4 (.ref 47)) 5 (.ref 49)) 6 (.ref 51)) 7 (.ref 53)), xO 3 [.ref 38, .int 0], xI 0 120 (fun _ => 0), xO 4 [.ref 40, .int 0, .int 0], xI 0 130 (fun _ => 0), xO 4 [.ref 42, .int 0, .int 0], xI 0 130 (fun _ => 0), xO 4 [.ref 44, .int 0, .int 0], xI 0 130 (fun _ => 0), xO 4 [.ref 46, .int 0, .int 0], xI 0 130 (fun _ => 0), xO 4 [.ref 48, .int 0, .int 0], xI 0 130 (fun _ => 0), xO 4 [.ref 50, .int 0, .int 0], xI 0 130 (fun _ => 0), xO 4 [.ref 52, .int 0, .int 0], xI 0 130 (fun _ => 0), xO 4 [.ref 54, .int 0, .int 0], xI 0 130 (fun _ => 0), xO 5 [.ref 56, .ref 65, .int 0], xV 4 8 (fun j => .ref (56 + 1 + j)), xI 0 10 (fun _ => 0), xI 0 10 (fun _ => 0), xI 0 10 (fun _ => 0), xI 0 10 (fun _ => 0), xI 0 10 (fun _ => 0), xI 0 10 (fun _ => 0), xI 0 10 (fun _ => 0), xI 0 10 (fun _ => 0), xI 0 8 (fun _ => 0), xO 6 [.ref 33, .ref 35, .ref 55, .ref 67, .int 0, .int 0, .int 0, .int 0, .int 0], xO 4 [.ref 68, .int 0, .int 0], xI 0 130 (fun _ => 0), xO 7 [.ref 35, .ref 70, .ref 80, .int 0, .int 0, .int 3, .int 0], xO 8 [.ref 71, .ref 72, .ref 73], xI 0 6 (upd (upd (upd (upd (upd (upd (fun _ => 0) 0 41) 1 41) 2 41) 3 41) 4 41) 5 41), xI 0 6 (upd (upd (upd (upd (upd (upd (fun _ => 0) 0 1) 1 1) 2 1) 3 1) 4 1) 5 1), xV 4 6 (fun j => .ref (73 + 1 + j)), xI 0 8 (fun _ => 0), xI 0 8 (fun _ => 0), xI 0 8 (fun _ => 0), xI 0 8 (fun _ => 0), xI 0 8 (fun _ => 0), xI 0 8 (fun _ => 0), xO 9 [.ref 81, .ref 82, .ref 88, .ref 89, .ref 96], xI 0 5 (fun _ => 0), xV 4 5 (fun j => .ref (82 + 1 + j)), xI 0 3 (fun _ => 0), xI 0 3 (fun _ => 0), xI 0 3 (fun _ => 0), xI 0 3 (fun _ => 0), xI 0 3 (fun _ => 0), xI 0 6 (fun _ => 0), xV 4 6 (fun j => .ref (89 + 1 + j)), xI 0 2 (fun _ => 0), xI 0 2 (fun _ => 0), xI 0 2 (fun _ => 0), xI 0 2 (fun _ => 0), xI 0 2 (fun _ => 0), xI 0 2 (fun _ => 0), xI 2 6 (fun _ => 0), xO 10 [.null, .null, .null, .null, .null]]) rfl ?_
  refine x_calliE rfl ct19 rfl rfl ?_
  refine x_step rfl ?_
  refine xm_hs (hp' := hz L xs ++ [xO 0 [.ref 33, .ref 35, .ref 55, .ref 66, .ref 69, .ref 97], xO 1 [.ref 34, .int 0], xI 0 501 (fun _ => 0), xO 2 [.ref 36, .ref 37, .int 0, .int 0, .int 0, .int 0], xV 3 8 (updV (updV (updV (updV (updV (updV (updV (updV (fun _ => .null) 0 (.ref 39)) 1 (.ref 41)) 2 (.ref 43)) 3 (.ref 45)) 4 (.ref 47)) 5 (.ref 49)) 6 (.ref 51)) 7 (.ref 53)), xO 3 [.ref 38, .int 0], xI 0 120 (fun _ => 0), xO 4 [.ref 40, .int 0, .int 0], xI 0 130 (fun _ => 0), xO 4 [.ref 42, .int 0, .int 0], xI 0 130 (fun _ => 0), xO 4 [.ref 44, .int 0, .int 0], xI 0 130 (fun _ => 0), xO 4 [.ref 46, .int 0, .int 0], xI 0 130 (fun _ => 0), xO 4 [.ref 48, .int 0, .int 0], xI 0 130 (fun _ => 0), xO 4 [.ref 50, .int 0, .int 0], xI 0 130 (fun _ => 0), xO 4 [.ref 52, .int 0, .int 0], xI 0 130 (fun _ => 0), xO 4 [.ref 54, .int 0, .int 0], xI 0 130 (fun _ => 0), xO 5 [.ref 56, .ref 65, .int 0], xV 4 8 (fun j => .ref (56 + 1 + j)), xI 0 10 (fun _ => 0), xI 0 10 (fun _ => 0), xI 0 10 (fun _ => 0), xI 0 10 (fun _ => 0), xI 0 10 (fun _ => 0), xI 0 10 (fun _ => 0), xI 0 10 (fun _ => 0), xI 0 10 (fun _ => 0), xI 0 8 (fun _ => 0), xO 6 [.ref 33, .ref 35, .ref 55, .ref 67, .int 0, .int 0, .int 0, .int 0, .int 0], xO 4 [.ref 68, .int 0, .int 0], xI 0 130 (fun _ => 0), xO 7 [.ref 35, .ref 70, .ref 80, .int 0, .int 0, .int 3, .int 0], xO 8 [.ref 71, .ref 72, .ref 73], xI 0 6 (upd (upd (upd (upd (upd (upd (fun _ => 0) 0 41) 1 41) 2 41) 3 41) 4 41) 5 41), xI 0 6 (upd (upd (upd (upd (upd (upd (fun _ => 0) 0 1) 1 1) 2 1) 3 1) 4 1) 5 1), xV 4 6 (fun j => .ref (73 + 1 + j)), xI 0 8 (fun _ => 0), xI 0 8 (fun _ => 0), xI 0 8 (fun _ => 0), xI 0 8 (fun _ => 0), xI 0 8 (fun _ => 0), xI 0 8 (fun _ => 0), xO 9 [.ref 81, .ref 82, .ref 88, .ref 89, .ref 96], xI 0 5 (fun _ => 0), xV 4 5 (fun j => .ref (82 + 1 + j)), xI 0 3 (fun _ => 0), xI 0 3 (fun _ => 0), xI 0 3 (fun _ => 0), xI 0 3 (fun _ => 0), xI 0 3 (fun _ => 0), xI 0 6 (fun _ => 0), xV 4 6 (fun j => .ref (89 + 1 + j)), xI 0 2 (fun _ => 0), xI 0 2 (fun _ => 0), xI 0 2 (fun _ => 0), xI 0 2 (fun _ => 0), xI 0 2 (fun _ => 0), xI 0 2 (fun _ => 0), xI 2 6 (fun _ => 0), xO 10 [.ref 67, .ref 69, .ref 35, .ref 55, .ref 98], xO 11 [.ref 99, .ref 100, .ref 101, .ref 102, .ref 67, .int 0], xI 0 60 (fun _ => 0), xI 0 60 (fun _ => 0), xI 0 60 (fun _ => 0), xI 0 60 (fun _ => 0)]) rfl ?_
  exact x_ret rfl rfl ⟨rfl, rfl⟩
end CT
end
section
section CU
variable {l : Launch} {L : Nat} {xs : Nat → Int32}
set_option maxRecDepth 10000 in
/-- FabLinkModel.<init> -/
theorem ct21 : XM l 170 1 17 2408 [.ref 103] (hz L xs ++ [xO 0 [.ref 33, .ref 35, .ref 55, .ref 66, .ref 69, .ref 97], xO 1 [.ref 34, .int 0], xI 0 501 (fun _ => 0), xO 2 [.ref 36, .ref 37, .int 0, .int 0, .int 0, .int 0], xV 3 8 (updV (updV (updV (updV (updV (updV (updV (updV (fun _ => .null) 0 (.ref 39)) 1 (.ref 41)) 2 (.ref 43)) 3 (.ref 45)) 4 (.ref 47)) 5 (.ref 49)) 6 (.ref 51)) 7 (.ref 53)), xO 3 [.ref 38, .int 0], xI 0 120 (fun _ => 0), xO 4 [.ref 40, .int 0, .int 0], xI 0 130 (fun _ => 0), xO 4 [.ref 42, .int 0, .int 0], xI 0 130 (fun _ => 0), xO 4 [.ref 44, .int 0, .int 0], xI 0 130 (fun _ => 0), xO 4 [.ref 46, .int 0, .int 0], xI 0 130 (fun _ => 0), xO 4 [.ref 48, .int 0, .int 0], xI 0 130 (fun _ => 0), xO 4 [.ref 50, .int 0, .int 0], xI 0 130 (fun _ => 0), xO 4 [.ref 52, .int 0, .int 0], xI 0 130 (fun _ => 0), xO 4 [.ref 54, .int 0, .int 0], xI 0 130 (fun _ => 0), xO 5 [.ref 56, .ref 65, .int 0], xV 4 8 (fun j => .ref (56 + 1 + j)), xI 0 10 (fun _ => 0), xI 0 10 (fun _ => 0), xI 0 10 (fun _ => 0), xI 0 10 (fun _ => 0), xI 0 10 (fun _ => 0), xI 0 10 (fun _ => 0), xI 0 10 (fun _ => 0), xI 0 10 (fun _ => 0), xI 0 8 (fun _ => 0), xO 6 [.ref 33, .ref 35, .ref 55, .ref 67, .int 0, .int 0, .int 0, .int 0, .int 0], xO 4 [.ref 68, .int 0, .int 0], xI 0 130 (fun _ => 0), xO 7 [.ref 35, .ref 70, .ref 80, .int 0, .int 0, .int 3, .int 0], xO 8 [.ref 71, .ref 72, .ref 73], xI 0 6 (upd (upd (upd (upd (upd (upd (fun _ => 0) 0 41) 1 41) 2 41) 3 41) 4 41) 5 41), xI 0 6 (upd (upd (upd (upd (upd (upd (fun _ => 0) 0 1) 1 1) 2 1) 3 1) 4 1) 5 1), xV 4 6 (fun j => .ref (73 + 1 + j)), xI 0 8 (fun _ => 0), xI 0 8 (fun _ => 0), xI 0 8 (fun _ => 0), xI 0 8 (fun _ => 0), xI 0 8 (fun _ => 0), xI 0 8 (fun _ => 0), xO 9 [.ref 81, .ref 82, .ref 88, .ref 89, .ref 96], xI 0 5 (fun _ => 0), xV 4 5 (fun j => .ref (82 + 1 + j)), xI 0 3 (fun _ => 0), xI 0 3 (fun _ => 0), xI 0 3 (fun _ => 0), xI 0 3 (fun _ => 0), xI 0 3 (fun _ => 0), xI 0 6 (fun _ => 0), xV 4 6 (fun j => .ref (89 + 1 + j)), xI 0 2 (fun _ => 0), xI 0 2 (fun _ => 0), xI 0 2 (fun _ => 0), xI 0 2 (fun _ => 0), xI 0 2 (fun _ => 0), xI 0 2 (fun _ => 0), xI 2 6 (fun _ => 0), xO 10 [.ref 67, .ref 69, .ref 35, .ref 55, .ref 98], xO 11 [.ref 99, .ref 100, .ref 101, .ref 102, .ref 67, .int 0], xI 0 60 (fun _ => 0), xI 0 60 (fun _ => 0), xI 0 60 (fun _ => 0), xI 0 60 (fun _ => 0), xO 12 [.int 0, .int 0, .int 0, .int 0, .null, .int 0, .null, .int 0, .null, .null, .null, .int 0, .int 0, .int 0, .null, .null, .int 0, .null, .int 0, .int 0, .int 0, .int 0, .int 0, .int 0, .null, .null, .null, .null, .null, .null, .null, .null, .int 0, .null]]) (xm_is none (hz L xs ++ [xO 0 [.ref 33, .ref 35, .ref 55, .ref 66, .ref 69, .ref 97], xO 1 [.ref 34, .int 0], xI 0 501 (fun _ => 0), xO 2 [.ref 36, .ref 37, .int 0, .int 0, .int 0, .int 0], xV 3 8 (updV (updV (updV (updV (updV (updV (updV (updV (fun _ => .null) 0 (.ref 39)) 1 (.ref 41)) 2 (.ref 43)) 3 (.ref 45)) 4 (.ref 47)) 5 (.ref 49)) 6 (.ref 51)) 7 (.ref 53)), xO 3 [.ref 38, .int 0], xI 0 120 (fun _ => 0), xO 4 [.ref 40, .int 0, .int 0], xI 0 130 (fun _ => 0), xO 4 [.ref 42, .int 0, .int 0], xI 0 130 (fun _ => 0), xO 4 [.ref 44, .int 0, .int 0], xI 0 130 (fun _ => 0), xO 4 [.ref 46, .int 0, .int 0], xI 0 130 (fun _ => 0), xO 4 [.ref 48, .int 0, .int 0], xI 0 130 (fun _ => 0), xO 4 [.ref 50, .int 0, .int 0], xI 0 130 (fun _ => 0), xO 4 [.ref 52, .int 0, .int 0], xI 0 130 (fun _ => 0), xO 4 [.ref 54, .int 0, .int 0], xI 0 130 (fun _ => 0), xO 5 [.ref 56, .ref 65, .int 0], xV 4 8 (fun j => .ref (56 + 1 + j)), xI 0 10 (fun _ => 0), xI 0 10 (fun _ => 0), xI 0 10 (fun _ => 0), xI 0 10 (fun _ => 0), xI 0 10 (fun _ => 0), xI 0 10 (fun _ => 0), xI 0 10 (fun _ => 0), xI 0 10 (fun _ => 0), xI 0 8 (fun _ => 0), xO 6 [.ref 33, .ref 35, .ref 55, .ref 67, .int 0, .int 0, .int 0, .int 0, .int 0], xO 4 [.ref 68, .int 0, .int 0], xI 0 130 (fun _ => 0), xO 7 [.ref 35, .ref 70, .ref 80, .int 0, .int 0, .int 3, .int 0], xO 8 [.ref 71, .ref 72, .ref 73], xI 0 6 (upd (upd (upd (upd (upd (upd (fun _ => 0) 0 41) 1 41) 2 41) 3 41) 4 41) 5 41), xI 0 6 (upd (upd (upd (upd (upd (upd (fun _ => 0) 0 1) 1 1) 2 1) 3 1) 4 1) 5 1), xV 4 6 (fun j => .ref (73 + 1 + j)), xI 0 8 (fun _ => 0), xI 0 8 (fun _ => 0), xI 0 8 (fun _ => 0), xI 0 8 (fun _ => 0), xI 0 8 (fun _ => 0), xI 0 8 (fun _ => 0), xO 9 [.ref 81, .ref 82, .ref 88, .ref 89, .ref 96], xI 0 5 (fun _ => 0), xV 4 5 (fun j => .ref (82 + 1 + j)), xI 0 3 (fun _ => 0), xI 0 3 (fun _ => 0), xI 0 3 (fun _ => 0), xI 0 3 (fun _ => 0), xI 0 3 (fun _ => 0), xI 0 6 (fun _ => 0), xV 4 6 (fun j => .ref (89 + 1 + j)), xI 0 2 (fun _ => 0), xI 0 2 (fun _ => 0), xI 0 2 (fun _ => 0), xI 0 2 (fun _ => 0), xI 0 2 (fun _ => 0), xI 0 2 (fun _ => 0), xI 2 6 (fun _ => 0), xO 10 [.ref 67, .ref 69, .ref 35, .ref 55, .ref 98], xO 11 [.ref 99, .ref 100, .ref 101, .ref 102, .ref 67, .int 0], xI 0 60 (fun _ => 0), xI 0 60 (fun _ => 0), xI 0 60 (fun _ => 0), xI 0 60 (fun _ => 0), xO 12 [.int 0, .int 0, .int 0, .int 0, .ref 104, .int 0, .ref 105, .int 0, .ref 106, .ref 107, .ref 108, .int 0, .int 0, .int 0, .ref 109, .ref 110, .int 0, .ref 111, .int 0, .int 0, .int 0, .int 3, .int 0, .int 0, .ref 112, .ref 113, .ref 114, .ref 115, .ref 116, .ref 117, .ref 118, .ref 119, .int 0, .ref 120], xI 0 140 (fun _ => 0), xI 0 512 (fun _ => 0), xI 0 1040 (fun _ => 0), xI 0 8 (fun _ => 0), xI 0 8 (fun _ => 0), xI 0 80 (fun _ => 0), xI 0 8 (fun _ => 0), xI 0 500 (fun _ => 0), xI 0 6 (upd (upd (upd (upd (upd (upd (fun _ => 0) 0 41) 1 41) 2 41) 3 41) 4 41) 5 41), xI 0 6 (upd (upd (upd (upd (upd (upd (fun _ => 0) 0 1) 1 1) 2 1) 3 1) 4 1) 5 1), xI 0 48 (fun _ => 0), xI 0 5 (fun _ => 0), xI 0 15 (fun _ => 0), xI 0 6 (fun _ => 0), xI 0 12 (fun _ => 0), xI 2 6 (fun _ => 0), xI 0 8 (fun _ => 0)])) := by
  refine XE (pl := [some (.ref 103), none]) xg170 rfl ?_
  refine x_step rfl ?_
  refine x_objInit rfl (by omega) (Nat.le_of_ble_eq_true rfl) ?_
  refine x_step rfl ?_
  refine x_step rfl ?_
  refine x_newaI (a := 104) (N := 140) rfl rfl (by decide) rfl (by decide) rfl (by omega) (by omega) ?_
  refine x_step rfl ?_
  refine xm_hs (hp' := hz L xs ++ [xO 0 [.ref 33, .ref 35, .ref 55, .ref 66, .ref 69, .ref 97], xO 1 [.ref 34, .int 0], xI 0 501 (fun _ => 0), xO 2 [.ref 36, .ref 37, .int 0, .int 0, .int 0, .int 0], xV 3 8 (updV (updV (updV (updV (updV (updV (updV (updV (fun _ => .null) 0 (.ref 39)) 1 (.ref 41)) 2 (.ref 43)) 3 (.ref 45)) 4 (.ref 47)) 5 (.ref 49)) 6 (.ref 51)) 7 (.ref 53)), xO 3 [.ref 38, .int 0], xI 0 120 (fun _ => 0), xO 4 [.ref 40, .int 0, .int 0], xI 0 130 (fun _ => 0), xO 4 [.ref 42, .int 0, .int 0], xI 0 130 (fun _ => 0), xO 4 [.ref 44, .int 0, .int 0], xI 0 130 (fun _ => 0), xO 4 [.ref 46, .int 0, .int 0], xI 0 130 (fun _ => 0), xO 4 [.ref 48, .int 0, .int 0], xI 0 130 (fun _ => 0), xO 4 [.ref 50, .int 0, .int 0], xI 0 130 (fun _ => 0), xO 4 [.ref 52, .int 0, .int 0], xI 0 130 (fun _ => 0), xO 4 [.ref 54, .int 0, .int 0], xI 0 130 (fun _ => 0), xO 5 [.ref 56, .ref 65, .int 0], xV 4 8 (fun j => .ref (56 + 1 + j)), xI 0 10 (fun _ => 0), xI 0 10 (fun _ => 0), xI 0 10 (fun _ => 0), xI 0 10 (fun _ => 0), xI 0 10 (fun _ => 0), xI 0 10 (fun _ => 0), xI 0 10 (fun _ => 0), xI 0 10 (fun _ => 0), xI 0 8 (fun _ => 0), xO 6 [.ref 33, .ref 35, .ref 55, .ref 67, .int 0, .int 0, .int 0, .int 0, .int 0], xO 4 [.ref 68, .int 0, .int 0], xI 0 130 (fun _ => 0), xO 7 [.ref 35, .ref 70, .ref 80, .int 0, .int 0, .int 3, .int 0], xO 8 [.ref 71, .ref 72, .ref 73], xI 0 6 (upd (upd (upd (upd (upd (upd (fun _ => 0) 0 41) 1 41) 2 41) 3 41) 4 41) 5 41), xI 0 6 (upd (upd (upd (upd (upd (upd (fun _ => 0) 0 1) 1 1) 2 1) 3 1) 4 1) 5 1), xV 4 6 (fun j => .ref (73 + 1 + j)), xI 0 8 (fun _ => 0), xI 0 8 (fun _ => 0), xI 0 8 (fun _ => 0), xI 0 8 (fun _ => 0), xI 0 8 (fun _ => 0), xI 0 8 (fun _ => 0), xO 9 [.ref 81, .ref 82, .ref 88, .ref 89, .ref 96], xI 0 5 (fun _ => 0), xV 4 5 (fun j => .ref (82 + 1 + j)), xI 0 3 (fun _ => 0), xI 0 3 (fun _ => 0), xI 0 3 (fun _ => 0), xI 0 3 (fun _ => 0), xI 0 3 (fun _ => 0), xI 0 6 (fun _ => 0), xV 4 6 (fun j => .ref (89 + 1 + j)), xI 0 2 (fun _ => 0), xI 0 2 (fun _ => 0), xI 0 2 (fun _ => 0), xI 0 2 (fun _ => 0), xI 0 2 (fun _ => 0), xI 0 2 (fun _ => 0), xI 2 6 (fun _ => 0), xO 10 [.ref 67, .ref 69, .ref 35, .ref 55, .ref 98], xO 11 [.ref 99, .ref 100, .ref 101, .ref 102, .ref 67, .int 0], xI 0 60 (fun _ => 0), xI 0 60 (fun _ => 0), xI 0 60 (fun _ => 0), xI 0 60 (fun _ => 0), xO 12 [.int 0, .int 0, .int 0, .int 0, .ref 104, .int 0, .null, .int 0, .null, .null, .null, .int 0, .int 0, .int 0, .null, .null, .int 0, .null, .int 0, .int 0, .int 0, .int 0, .int 0, .int 0, .null, .null, .null, .null, .null, .null, .null, .null, .int 0, .null], xI 0 140 (fun _ => 0)]) rfl ?_
  refine x_step rfl ?_
  refine x_step rfl ?_
  refine x_newaI (a := 105) (N := 512) rfl rfl (by decide) rfl (by decide) rfl (by omega) (by omega) ?_
  refine x_step rfl ?_
  refine xm_hs (hp' := hz L xs ++ [xO 0 [.ref 33, .ref 35, .ref 55, .ref 66, .ref 69, .ref 97], xO 1 [.ref 34, .int 0], xI 0 501 (fun _ => 0), xO 2 [.ref 36, .ref 37, .int 0, .int 0, .int 0, .int 0], xV 3 8 (updV (updV (updV (updV (updV (updV (updV (updV (fun _ => .null) 0 (.ref 39)) 1 (.ref 41)) 2 (.ref 43)) 3 (.ref 45)) 4 (.ref 47)) 5 (.ref 49)) 6 (.ref 51)) 7 (.ref 53)), xO 3 [.ref 38, .int 0], xI 0 120 (fun _ => 0), xO 4 [.ref 40, .int 0, .int 0], xI 0 130 (fun _ => 0), xO 4 [.ref 42, .int 0, .int 0], xI 0 130 (fun _ => 0), xO 4 [.ref 44, .int 0, .int 0], xI 0 130 (fun _ => 0), xO 4 [.ref 46, .int 0, .int 0], xI 0 130 (fun _ => 0), xO 4 [.ref 48, .int 0, .int 0], xI 0 130 (fun _ => 0), xO 4 [.ref 50, .int 0, .int 0], xI 0 130 (fun _ => 0), xO 4 [.ref 52, .int 0, .int 0], xI 0 130 (fun _ => 0), xO 4 [.ref 54, .int 0, .int 0], xI 0 130 (fun _ => 0), xO 5 [.ref 56, .ref 65, .int 0], xV 4 8 (fun j => .ref (56 + 1 + j)), xI 0 10 (fun _ => 0), xI 0 10 (fun _ => 0), xI 0 10 (fun _ => 0), xI 0 10 (fun _ => 0), xI 0 10 (fun _ => 0), xI 0 10 (fun _ => 0), xI 0 10 (fun _ => 0), xI 0 10 (fun _ => 0), xI 0 8 (fun _ => 0), xO 6 [.ref 33, .ref 35, .ref 55, .ref 67, .int 0, .int 0, .int 0, .int 0, .int 0], xO 4 [.ref 68, .int 0, .int 0], xI 0 130 (fun _ => 0), xO 7 [.ref 35, .ref 70, .ref 80, .int 0, .int 0, .int 3, .int 0], xO 8 [.ref 71, .ref 72, .ref 73], xI 0 6 (upd (upd (upd (upd (upd (upd (fun _ => 0) 0 41) 1 41) 2 41) 3 41) 4 41) 5 41), xI 0 6 (upd (upd (upd (upd (upd (upd (fun _ => 0) 0 1) 1 1) 2 1) 3 1) 4 1) 5 1), xV 4 6 (fun j => .ref (73 + 1 + j)), xI 0 8 (fun _ => 0), xI 0 8 (fun _ => 0), xI 0 8 (fun _ => 0), xI 0 8 (fun _ => 0), xI 0 8 (fun _ => 0), xI 0 8 (fun _ => 0), xO 9 [.ref 81, .ref 82, .ref 88, .ref 89, .ref 96], xI 0 5 (fun _ => 0), xV 4 5 (fun j => .ref (82 + 1 + j)), xI 0 3 (fun _ => 0), xI 0 3 (fun _ => 0), xI 0 3 (fun _ => 0), xI 0 3 (fun _ => 0), xI 0 3 (fun _ => 0), xI 0 6 (fun _ => 0), xV 4 6 (fun j => .ref (89 + 1 + j)), xI 0 2 (fun _ => 0), xI 0 2 (fun _ => 0), xI 0 2 (fun _ => 0), xI 0 2 (fun _ => 0), xI 0 2 (fun _ => 0), xI 0 2 (fun _ => 0), xI 2 6 (fun _ => 0), xO 10 [.ref 67, .ref 69, .ref 35, .ref 55, .ref 98], xO 11 [.ref 99, .ref 100, .ref 101, .ref 102, .ref 67, .int 0], xI 0 60 (fun _ => 0), xI 0 60 (fun _ => 0), xI 0 60 (fun _ => 0), xI 0 60 (fun _ => 0), xO 12 [.int 0, .int 0, .int 0, .int 0, .ref 104, .int 0, .ref 105, .int 0, .null, .null, .null, .int 0, .int 0, .int 0, .null, .null, .int 0, .null, .int 0, .int 0, .int 0, .int 0, .int 0, .int 0, .null, .null, .null, .null, .null, .null, .null, .null, .int 0, .null], xI 0 140 (fun _ => 0), xI 0 512 (fun _ => 0)]) rfl ?_
  refine x_step rfl ?_
  refine x_step rfl ?_
  refine x_newaI (a := 106) (N := 1040) rfl rfl (by decide) rfl (by decide) rfl (by omega) (by omega) ?_
  refine x_step rfl ?_
  refine xm_hs (hp' := hz L xs ++ [xO 0 [.ref 33, .ref 35, .ref 55, .ref 66, .ref 69, .ref 97], xO 1 [.ref 34, .int 0], xI 0 501 (fun _ => 0), xO 2 [.ref 36, .ref 37, .int 0, .int 0, .int 0, .int 0], xV 3 8 (updV (updV (updV (updV (updV (updV (updV (updV (fun _ => .null) 0 (.ref 39)) 1 (.ref 41)) 2 (.ref 43)) 3 (.ref 45)) 4 (.ref 47)) 5 (.ref 49)) 6 (.ref 51)) 7 (.ref 53)), xO 3 [.ref 38, .int 0], xI 0 120 (fun _ => 0), xO 4 [.ref 40, .int 0, .int 0], xI 0 130 (fun _ => 0), xO 4 [.ref 42, .int 0, .int 0], xI 0 130 (fun _ => 0), xO 4 [.ref 44, .int 0, .int 0], xI 0 130 (fun _ => 0), xO 4 [.ref 46, .int 0, .int 0], xI 0 130 (fun _ => 0), xO 4 [.ref 48, .int 0, .int 0], xI 0 130 (fun _ => 0), xO 4 [.ref 50, .int 0, .int 0], xI 0 130 (fun _ => 0), xO 4 [.ref 52, .int 0, .int 0], xI 0 130 (fun _ => 0), xO 4 [.ref 54, .int 0, .int 0], xI 0 130 (fun _ => 0), xO 5 [.ref 56, .ref 65, .int 0], xV 4 8 (fun j => .ref (56 + 1 + j)), xI 0 10 (fun _ => 0), xI 0 10 (fun _ => 0), xI 0 10 (fun _ => 0), xI 0 10 (fun _ => 0), xI 0 10 (fun _ => 0), xI 0 10 (fun _ => 0), xI 0 10 (fun _ => 0), xI 0 10 (fun _ => 0), xI 0 8 (fun _ => 0), xO 6 [.ref 33, .ref 35, .ref 55, .ref 67, .int 0, .int 0, .int 0, .int 0, .int 0], xO 4 [.ref 68, .int 0, .int 0], xI 0 130 (fun _ => 0), xO 7 [.ref 35, .ref 70, .ref 80, .int 0, .int 0, .int 3, .int 0], xO 8 [.ref 71, .ref 72, .ref 73], xI 0 6 (upd (upd (upd (upd (upd (upd (fun _ => 0) 0 41) 1 41) 2 41) 3 41) 4 41) 5 41), xI 0 6 (upd (upd (upd (upd (upd (upd (fun _ => 0) 0 1) 1 1) 2 1) 3 1) 4 1) 5 1), xV 4 6 (fun j => .ref (73 + 1 + j)), xI 0 8 (fun _ => 0), xI 0 8 (fun _ => 0), xI 0 8 (fun _ => 0), xI 0 8 (fun _ => 0), xI 0 8 (fun _ => 0), xI 0 8 (fun _ => 0), xO 9 [.ref 81, .ref 82, .ref 88, .ref 89, .ref 96], xI 0 5 (fun _ => 0), xV 4 5 (fun j => .ref (82 + 1 + j)), xI 0 3 (fun _ => 0), xI 0 3 (fun _ => 0), xI 0 3 (fun _ => 0), xI 0 3 (fun _ => 0), xI 0 3 (fun _ => 0), xI 0 6 (fun _ => 0), xV 4 6 (fun j => .ref (89 + 1 + j)), xI 0 2 (fun _ => 0), xI 0 2 (fun _ => 0), xI 0 2 (fun _ => 0), xI 0 2 (fun _ => 0), xI 0 2 (fun _ => 0), xI 0 2 (fun _ => 0), xI 2 6 (fun _ => 0), xO 10 [.ref 67, .ref 69, .ref 35, .ref 55, .ref 98], xO 11 [.ref 99, .ref 100, .ref 101, .ref 102, .ref 67, .int 0], xI 0 60 (fun _ => 0), xI 0 60 (fun _ => 0), xI 0 60 (fun _ => 0), xI 0 60 (fun _ => 0), xO 12 [.int 0, .int 0, .int 0, .int 0, .ref 104, .int 0, .ref 105, .int 0, .ref 106, .null, .null, .int 0, .int 0, .int 0, .null, .null, .int 0, .null, .int 0, .int 0, .int 0, .int 0, .int 0, .int 0, .null, .null, .null, .null, .null, .null, .null, .null, .int 0, .null], xI 0 140 (fun _ => 0), xI 0 512 (fun _ => 0), xI 0 1040 (fun _ => 0)]) rfl ?_
  refine x_step rfl ?_
  refine x_step rfl ?_
  refine x_newaI (a := 107) (N := 8) rfl rfl (by decide) rfl (by decide) rfl (by omega) (by omega) ?_
  refine x_step rfl ?_
  refine xm_hs (hp' := hz L xs ++ [xO 0 [.ref 33, .ref 35, .ref 55, .ref 66, .ref 69, .ref 97], xO 1 [.ref 34, .int 0], xI 0 501 (fun _ => 0), xO 2 [.ref 36, .ref 37, .int 0, .int 0, .int 0, .int 0], xV 3 8 (updV (updV (updV (updV (updV (updV (updV (updV (fun _ => .null) 0 (.ref 39)) 1 (.ref 41)) 2 (.ref 43)) 3 (.ref 45)) 4 (.ref 47)) 5 (.ref 49)) 6 (.ref 51)) 7 (.ref 53)), xO 3 [.ref 38, .int 0], xI 0 120 (fun _ => 0), xO 4 [.ref 40, .int 0, .int 0], xI 0 130 (fun _ => 0), xO 4 [.ref 42, .int 0, .int 0], xI 0 130 (fun _ => 0), xO 4 [.ref 44, .int 0, .int 0], xI 0 130 (fun _ => 0), xO 4 [.ref 46, .int 0, .int 0], xI 0 130 (fun _ => 0), xO 4 [.ref 48, .int 0, .int 0], xI 0 130 (fun _ => 0), xO 4 [.ref 50, .int 0, .int 0], xI 0 130 (fun _ => 0), xO 4 [.ref 52, .int 0, .int 0], xI 0 130 (fun _ => 0), xO 4 [.ref 54, .int 0, .int 0], xI 0 130 (fun _ => 0), xO 5 [.ref 56, .ref 65, .int 0], xV 4 8 (fun j => .ref (56 + 1 + j)), xI 0 10 (fun _ => 0), xI 0 10 (fun _ => 0), xI 0 10 (fun _ => 0), xI 0 10 (fun _ => 0), xI 0 10 (fun _ => 0), xI 0 10 (fun _ => 0), xI 0 10 (fun _ => 0), xI 0 10 (fun _ => 0), xI 0 8 (fun _ => 0), xO 6 [.ref 33, .ref 35, .ref 55, .ref 67, .int 0, .int 0, .int 0, .int 0, .int 0], xO 4 [.ref 68, .int 0, .int 0], xI 0 130 (fun _ => 0), xO 7 [.ref 35, .ref 70, .ref 80, .int 0, .int 0, .int 3, .int 0], xO 8 [.ref 71, .ref 72, .ref 73], xI 0 6 (upd (upd (upd (upd (upd (upd (fun _ => 0) 0 41) 1 41) 2 41) 3 41) 4 41) 5 41), xI 0 6 (upd (upd (upd (upd (upd (upd (fun _ => 0) 0 1) 1 1) 2 1) 3 1) 4 1) 5 1), xV 4 6 (fun j => .ref (73 + 1 + j)), xI 0 8 (fun _ => 0), xI 0 8 (fun _ => 0), xI 0 8 (fun _ => 0), xI 0 8 (fun _ => 0), xI 0 8 (fun _ => 0), xI 0 8 (fun _ => 0), xO 9 [.ref 81, .ref 82, .ref 88, .ref 89, .ref 96], xI 0 5 (fun _ => 0), xV 4 5 (fun j => .ref (82 + 1 + j)), xI 0 3 (fun _ => 0), xI 0 3 (fun _ => 0), xI 0 3 (fun _ => 0), xI 0 3 (fun _ => 0), xI 0 3 (fun _ => 0), xI 0 6 (fun _ => 0), xV 4 6 (fun j => .ref (89 + 1 + j)), xI 0 2 (fun _ => 0), xI 0 2 (fun _ => 0), xI 0 2 (fun _ => 0), xI 0 2 (fun _ => 0), xI 0 2 (fun _ => 0), xI 0 2 (fun _ => 0), xI 2 6 (fun _ => 0), xO 10 [.ref 67, .ref 69, .ref 35, .ref 55, .ref 98], xO 11 [.ref 99, .ref 100, .ref 101, .ref 102, .ref 67, .int 0], xI 0 60 (fun _ => 0), xI 0 60 (fun _ => 0), xI 0 60 (fun _ => 0), xI 0 60 (fun _ => 0), xO 12 [.int 0, .int 0, .int 0, .int 0, .ref 104, .int 0, .ref 105, .int 0, .ref 106, .ref 107, .null, .int 0, .int 0, .int 0, .null, .null, .int 0, .null, .int 0, .int 0, .int 0, .int 0, .int 0, .int 0, .null, .null, .null, .null, .null, .null, .null, .null, .int 0, .null], xI 0 140 (fun _ => 0), xI 0 512 (fun _ => 0), xI 0 1040 (fun _ => 0), xI 0 8 (fun _ => 0)]) rfl ?_
  refine x_step rfl ?_
  refine x_step rfl ?_
  refine x_newaI (a := 108) (N := 8) rfl rfl (by decide) rfl (by decide) rfl (by omega) (by omega) ?_
  refine x_step rfl ?_
  refine xm_hs (hp' := hz L xs ++ [xO 0 [.ref 33, .ref 35, .ref 55, .ref 66, .ref 69, .ref 97], xO 1 [.ref 34, .int 0], xI 0 501 (fun _ => 0), xO 2 [.ref 36, .ref 37, .int 0, .int 0, .int 0, .int 0], xV 3 8 (updV (updV (updV (updV (updV (updV (updV (updV (fun _ => .null) 0 (.ref 39)) 1 (.ref 41)) 2 (.ref 43)) 3 (.ref 45)) 4 (.ref 47)) 5 (.ref 49)) 6 (.ref 51)) 7 (.ref 53)), xO 3 [.ref 38, .int 0], xI 0 120 (fun _ => 0), xO 4 [.ref 40, .int 0, .int 0], xI 0 130 (fun _ => 0), xO 4 [.ref 42, .int 0, .int 0], xI 0 130 (fun _ => 0), xO 4 [.ref 44, .int 0, .int 0], xI 0 130 (fun _ => 0), xO 4 [.ref 46, .int 0, .int 0], xI 0 130 (fun _ => 0), xO 4 [.ref 48, .int 0, .int 0], xI 0 130 (fun _ => 0), xO 4 [.ref 50, .int 0, .int 0], xI 0 130 (fun _ => 0), xO 4 [.ref 52, .int 0, .int 0], xI 0 130 (fun _ => 0), xO 4 [.ref 54, .int 0, .int 0], xI 0 130 (fun _ => 0), xO 5 [.ref 56, .ref 65, .int 0], xV 4 8 (fun j => .ref (56 + 1 + j)), xI 0 10 (fun _ => 0), xI 0 10 (fun _ => 0), xI 0 10 (fun _ => 0), xI 0 10 (fun _ => 0), xI 0 10 (fun _ => 0), xI 0 10 (fun _ => 0), xI 0 10 (fun _ => 0), xI 0 10 (fun _ => 0), xI 0 8 (fun _ => 0), xO 6 [.ref 33, .ref 35, .ref 55, .ref 67, .int 0, .int 0, .int 0, .int 0, .int 0], xO 4 [.ref 68, .int 0, .int 0], xI 0 130 (fun _ => 0), xO 7 [.ref 35, .ref 70, .ref 80, .int 0, .int 0, .int 3, .int 0], xO 8 [.ref 71, .ref 72, .ref 73], xI 0 6 (upd (upd (upd (upd (upd (upd (fun _ => 0) 0 41) 1 41) 2 41) 3 41) 4 41) 5 41), xI 0 6 (upd (upd (upd (upd (upd (upd (fun _ => 0) 0 1) 1 1) 2 1) 3 1) 4 1) 5 1), xV 4 6 (fun j => .ref (73 + 1 + j)), xI 0 8 (fun _ => 0), xI 0 8 (fun _ => 0), xI 0 8 (fun _ => 0), xI 0 8 (fun _ => 0), xI 0 8 (fun _ => 0), xI 0 8 (fun _ => 0), xO 9 [.ref 81, .ref 82, .ref 88, .ref 89, .ref 96], xI 0 5 (fun _ => 0), xV 4 5 (fun j => .ref (82 + 1 + j)), xI 0 3 (fun _ => 0), xI 0 3 (fun _ => 0), xI 0 3 (fun _ => 0), xI 0 3 (fun _ => 0), xI 0 3 (fun _ => 0), xI 0 6 (fun _ => 0), xV 4 6 (fun j => .ref (89 + 1 + j)), xI 0 2 (fun _ => 0), xI 0 2 (fun _ => 0), xI 0 2 (fun _ => 0), xI 0 2 (fun _ => 0), xI 0 2 (fun _ => 0), xI 0 2 (fun _ => 0), xI 2 6 (fun _ => 0), xO 10 [.ref 67, .ref 69, .ref 35, .ref 55, .ref 98], xO 11 [.ref 99, .ref 100, .ref 101, .ref 102, .ref 67, .int 0], xI 0 60 (fun _ => 0), xI 0 60 (fun _ => 0), xI 0 60 (fun _ => 0), xI 0 60 (fun _ => 0), xO 12 [.int 0, .int 0, .int 0, .int 0, .ref 104, .int 0, .ref 105, .int 0, .ref 106, .ref 107, .ref 108, .int 0, .int 0, .int 0, .null, .null, .int 0, .null, .int 0, .int 0, .int 0, .int 0, .int 0, .int 0, .null, .null, .null, .null, .null, .null, .null, .null, .int 0, .null], xI 0 140 (fun _ => 0), xI 0 512 (fun _ => 0), xI 0 1040 (fun _ => 0), xI 0 8 (fun _ => 0), xI 0 8 (fun _ => 0)]) rfl ?_
  refine x_step rfl ?_
  refine x_step rfl ?_
  refine x_newaI (a := 109) (N := 80) rfl rfl (by decide) rfl (by decide) rfl (by omega) (by omega) ?_
  refine x_step rfl ?_
  refine xm_hs (hp' := hz L xs ++ [xO 0 [.ref 33, .ref 35, .ref 55, .ref 66, .ref 69, .ref 97], xO 1 [.ref 34, .int 0], xI 0 501 (fun _ => 0), xO 2 [.ref 36, .ref 37, .int 0, .int 0, .int 0, .int 0], xV 3 8 (updV (updV (updV (updV (updV (updV (updV (updV (fun _ => .null) 0 (.ref 39)) 1 (.ref 41)) 2 (.ref 43)) 3 (.ref 45)) 4 (.ref 47)) 5 (.ref 49)) 6 (.ref 51)) 7 (.ref 53)), xO 3 [.ref 38, .int 0], xI 0 120 (fun _ => 0), xO 4 [.ref 40, .int 0, .int 0], xI 0 130 (fun _ => 0), xO 4 [.ref 42, .int 0, .int 0], xI 0 130 (fun _ => 0), xO 4 [.ref 44, .int 0, .int 0], xI 0 130 (fun _ => 0), xO 4 [.ref 46, .int 0, .int 0], xI 0 130 (fun _ => 0), xO 4 [.ref 48, .int 0, .int 0], xI 0 130 (fun _ => 0), xO 4 [.ref 50, .int 0, .int 0], xI 0 130 (fun _ => 0), xO 4 [.ref 52, .int 0, .int 0], xI 0 130 (fun _ => 0), xO 4 [.ref 54, .int 0, .int 0], xI 0 130 (fun _ => 0), xO 5 [.ref 56, .ref 65, .int 0], xV 4 8 (fun j => .ref (56 + 1 + j)), xI 0 10 (fun _ => 0), xI 0 10 (fun _ => 0), xI 0 10 (fun _ => 0), xI 0 10 (fun _ => 0), xI 0 10 (fun _ => 0), xI 0 10 (fun _ => 0), xI 0 10 (fun _ => 0), xI 0 10 (fun _ => 0), xI 0 8 (fun _ => 0), xO 6 [.ref 33, .ref 35, .ref 55, .ref 67, .int 0, .int 0, .int 0, .int 0, .int 0], xO 4 [.ref 68, .int 0, .int 0], xI 0 130 (fun _ => 0), xO 7 [.ref 35, .ref 70, .ref 80, .int 0, .int 0, .int 3, .int 0], xO 8 [.ref 71, .ref 72, .ref 73], xI 0 6 (upd (upd (upd (upd (upd (upd (fun _ => 0) 0 41) 1 41) 2 41) 3 41) 4 41) 5 41), xI 0 6 (upd (upd (upd (upd (upd (upd (fun _ => 0) 0 1) 1 1) 2 1) 3 1) 4 1) 5 1), xV 4 6 (fun j => .ref (73 + 1 + j)), xI 0 8 (fun _ => 0), xI 0 8 (fun _ => 0), xI 0 8 (fun _ => 0), xI 0 8 (fun _ => 0), xI 0 8 (fun _ => 0), xI 0 8 (fun _ => 0), xO 9 [.ref 81, .ref 82, .ref 88, .ref 89, .ref 96], xI 0 5 (fun _ => 0), xV 4 5 (fun j => .ref (82 + 1 + j)), xI 0 3 (fun _ => 0), xI 0 3 (fun _ => 0), xI 0 3 (fun _ => 0), xI 0 3 (fun _ => 0), xI 0 3 (fun _ => 0), xI 0 6 (fun _ => 0), xV 4 6 (fun j => .ref (89 + 1 + j)), xI 0 2 (fun _ => 0), xI 0 2 (fun _ => 0), xI 0 2 (fun _ => 0), xI 0 2 (fun _ => 0), xI 0 2 (fun _ => 0), xI 0 2 (fun _ => 0), xI 2 6 (fun _ => 0), xO 10 [.ref 67, .ref 69, .ref 35, .ref 55, .ref 98], xO 11 [.ref 99, .ref 100, .ref 101, .ref 102, .ref 67, .int 0], xI 0 60 (fun _ => 0), xI 0 60 (fun _ => 0), xI 0 60 (fun _ => 0), xI 0 60 (fun _ => 0), xO 12 [.int 0, .int 0, .int 0, .int 0, .ref 104, .int 0, .ref 105, .int 0, .ref 106, .ref 107, .ref 108, .int 0, .int 0, .int 0, .ref 109, .null, .int 0, .null, .int 0, .int 0, .int 0, .int 0, .int 0, .int 0, .null, .null, .null, .null, .null, .null, .null, .null, .int 0, .null], xI 0 140 (fun _ => 0), xI 0 512 (fun _ => 0), xI 0 1040 (fun _ => 0), xI 0 8 (fun _ => 0), xI 0 8 (fun _ => 0), xI 0 80 (fun _ => 0)]) rfl ?_
  refine x_step rfl ?_
  refine x_step rfl ?_
  refine x_newaI (a := 110) (N := 8) rfl rfl (by decide) rfl (by decide) rfl (by omega) (by omega) ?_
  refine x_step rfl ?_
  refine xm_hs (hp' := hz L xs ++ [xO 0 [.ref 33, .ref 35, .ref 55, .ref 66, .ref 69, .ref 97], xO 1 [.ref 34, .int 0], xI 0 501 (fun _ => 0), xO 2 [.ref 36, .ref 37, .int 0, .int 0, .int 0, .int 0], xV 3 8 (updV (updV (updV (updV (updV (updV (updV (updV (fun _ => .null) 0 (.ref 39)) 1 (.ref 41)) 2 (.ref 43)) 3 (.ref 45)) 4 (.ref 47)) 5 (.ref 49)) 6 (.ref 51)) 7 (.ref 53)), xO 3 [.ref 38, .int 0], xI 0 120 (fun _ => 0), xO 4 [.ref 40, .int 0, .int 0], xI 0 130 (fun _ => 0), xO 4 [.ref 42, .int 0, .int 0], xI 0 130 (fun _ => 0), xO 4 [.ref 44, .int 0, .int 0], xI 0 130 (fun _ => 0), xO 4 [.ref 46, .int 0, .int 0], xI 0 130 (fun _ => 0), xO 4 [.ref 48, .int 0, .int 0], xI 0 130 (fun _ => 0), xO 4 [.ref 50, .int 0, .int 0], xI 0 130 (fun _ => 0), xO 4 [.ref 52, .int 0, .int 0], xI 0 130 (fun _ => 0), xO 4 [.ref 54, .int 0, .int 0], xI 0 130 (fun _ => 0), xO 5 [.ref 56, .ref 65, .int 0], xV 4 8 (fun j => .ref (56 + 1 + j)), xI 0 10 (fun _ => 0), xI 0 10 (fun _ => 0), xI 0 10 (fun _ => 0), xI 0 10 (fun _ => 0), xI 0 10 (fun _ => 0), xI 0 10 (fun _ => 0), xI 0 10 (fun _ => 0), xI 0 10 (fun _ => 0), xI 0 8 (fun _ => 0), xO 6 [.ref 33, .ref 35, .ref 55, .ref 67, .int 0, .int 0, .int 0, .int 0, .int 0], xO 4 [.ref 68, .int 0, .int 0], xI 0 130 (fun _ => 0), xO 7 [.ref 35, .ref 70, .ref 80, .int 0, .int 0, .int 3, .int 0], xO 8 [.ref 71, .ref 72, .ref 73], xI 0 6 (upd (upd (upd (upd (upd (upd (fun _ => 0) 0 41) 1 41) 2 41) 3 41) 4 41) 5 41), xI 0 6 (upd (upd (upd (upd (upd (upd (fun _ => 0) 0 1) 1 1) 2 1) 3 1) 4 1) 5 1), xV 4 6 (fun j => .ref (73 + 1 + j)), xI 0 8 (fun _ => 0), xI 0 8 (fun _ => 0), xI 0 8 (fun _ => 0), xI 0 8 (fun _ => 0), xI 0 8 (fun _ => 0), xI 0 8 (fun _ => 0), xO 9 [.ref 81, .ref 82, .ref 88, .ref 89, .ref 96], xI 0 5 (fun _ => 0), xV 4 5 (fun j => .ref (82 + 1 + j)), xI 0 3 (fun _ => 0), xI 0 3 (fun _ => 0), xI 0 3 (fun _ => 0), xI 0 3 (fun _ => 0), xI 0 3 (fun _ => 0), xI 0 6 (fun _ => 0), xV 4 6 (fun j => .ref (89 + 1 + j)), xI 0 2 (fun _ => 0), xI 0 2 (fun _ => 0), xI 0 2 (fun _ => 0), xI 0 2 (fun _ => 0), xI 0 2 (fun _ => 0), xI 0 2 (fun _ => 0), xI 2 6 (fun _ => 0), xO 10 [.ref 67, .ref 69, .ref 35, .ref 55, .ref 98], xO 11 [.ref 99, .ref 100, .ref 101, .ref 102, .ref 67, .int 0], xI 0 60 (fun _ => 0), xI 0 60 (fun _ => 0), xI 0 60 (fun _ => 0), xI 0 60 (fun _ => 0), xO 12 [.int 0, .int 0, .int 0, .int 0, .ref 104, .int 0, .ref 105, .int 0, .ref 106, .ref 107, .ref 108, .int 0, .int 0, .int 0, .ref 109, .ref 110, .int 0, .null, .int 0, .int 0, .int 0, .int 0, .int 0, .int 0, .null, .null, .null, .null, .null, .null, .null, .null, .int 0, .null], xI 0 140 (fun _ => 0), xI 0 512 (fun _ => 0), xI 0 1040 (fun _ => 0), xI 0 8 (fun _ => 0), xI 0 8 (fun _ => 0), xI 0 80 (fun _ => 0), xI 0 8 (fun _ => 0)]) rfl ?_
  refine x_step rfl ?_
  refine x_step rfl ?_
  refine x_newaI (a := 111) (N := 500) rfl rfl (by decide) rfl (by decide) rfl (by omega) (by omega) ?_
  refine x_step rfl ?_
  refine xm_hs (hp' := hz L xs ++ [xO 0 [.ref 33, .ref 35, .ref 55, .ref 66, .ref 69, .ref 97], xO 1 [.ref 34, .int 0], xI 0 501 (fun _ => 0), xO 2 [.ref 36, .ref 37, .int 0, .int 0, .int 0, .int 0], xV 3 8 (updV (updV (updV (updV (updV (updV (updV (updV (fun _ => .null) 0 (.ref 39)) 1 (.ref 41)) 2 (.ref 43)) 3 (.ref 45)) 4 (.ref 47)) 5 (.ref 49)) 6 (.ref 51)) 7 (.ref 53)), xO 3 [.ref 38, .int 0], xI 0 120 (fun _ => 0), xO 4 [.ref 40, .int 0, .int 0], xI 0 130 (fun _ => 0), xO 4 [.ref 42, .int 0, .int 0], xI 0 130 (fun _ => 0), xO 4 [.ref 44, .int 0, .int 0], xI 0 130 (fun _ => 0), xO 4 [.ref 46, .int 0, .int 0], xI 0 130 (fun _ => 0), xO 4 [.ref 48, .int 0, .int 0], xI 0 130 (fun _ => 0), xO 4 [.ref 50, .int 0, .int 0], xI 0 130 (fun _ => 0), xO 4 [.ref 52, .int 0, .int 0], xI 0 130 (fun _ => 0), xO 4 [.ref 54, .int 0, .int 0], xI 0 130 (fun _ => 0), xO 5 [.ref 56, .ref 65, .int 0], xV 4 8 (fun j => .ref (56 + 1 + j)), xI 0 10 (fun _ => 0), xI 0 10 (fun _ => 0), xI 0 10 (fun _ => 0), xI 0 10 (fun _ => 0), xI 0 10 (fun _ => 0), xI 0 10 (fun _ => 0), xI 0 10 (fun _ => 0), xI 0 10 (fun _ => 0), xI 0 8 (fun _ => 0), xO 6 [.ref 33, .ref 35, .ref 55, .ref 67, .int 0, .int 0, .int 0, .int 0, .int 0], xO 4 [.ref 68, .int 0, .int 0], xI 0 130 (fun _ => 0), xO 7 [.ref 35, .ref 70, .ref 80, .int 0, .int 0, .int 3, .int 0], xO 8 [.ref 71, .ref 72, .ref 73], xI 0 6 (upd (upd (upd (upd (upd (upd (fun _ => 0) 0 41) 1 41) 2 41) 3 41) 4 41) 5 41), xI 0 6 (upd (upd (upd (upd (upd (upd (fun _ => 0) 0 1) 1 1) 2 1) 3 1) 4 1) 5 1), xV 4 6 (fun j => .ref (73 + 1 + j)), xI 0 8 (fun _ => 0), xI 0 8 (fun _ => 0), xI 0 8 (fun _ => 0), xI 0 8 (fun _ => 0), xI 0 8 (fun _ => 0), xI 0 8 (fun _ => 0), xO 9 [.ref 81, .ref 82, .ref 88, .ref 89, .ref 96], xI 0 5 (fun _ => 0), xV 4 5 (fun j => .ref (82 + 1 + j)), xI 0 3 (fun _ => 0), xI 0 3 (fun _ => 0), xI 0 3 (fun _ => 0), xI 0 3 (fun _ => 0), xI 0 3 (fun _ => 0), xI 0 6 (fun _ => 0), xV 4 6 (fun j => .ref (89 + 1 + j)), xI 0 2 (fun _ => 0), xI 0 2 (fun _ => 0), xI 0 2 (fun _ => 0), xI 0 2 (fun _ => 0), xI 0 2 (fun _ => 0), xI 0 2 (fun _ => 0), xI 2 6 (fun _ => 0), xO 10 [.ref 67, .ref 69, .ref 35, .ref 55, .ref 98], xO 11 [.ref 99, .ref 100, .ref 101, .ref 102, .ref 67, .int 0], xI 0 60 (fun _ => 0), xI 0 60 (fun _ => 0), xI 0 60 (fun _ => 0), xI 0 60 (fun _ => 0), xO 12 [.int 0, .int 0, .int 0, .int 0, .ref 104, .int 0, .ref 105, .int 0, .ref 106, .ref 107, .ref 108, .int 0, .int 0, .int 0, .ref 109, .ref 110, .int 0, .ref 111, .int 0, .int 0, .int 0, .int 0, .int 0, .int 0, .null, .null, .null, .null, .null, .null, .null, .null, .int 0, .null], xI 0 140 (fun _ => 0), xI 0 512 (fun _ => 0), xI 0 1040 (fun _ => 0), xI 0 8 (fun _ => 0), xI 0 8 (fun _ => 0), xI 0 80 (fun _ => 0), xI 0 8 (fun _ => 0), xI 0 500 (fun _ => 0)]) rfl ?_
  refine x_step rfl ?_
  refine x_step rfl ?_
  refine x_step rfl ?_
  refine xm_hs (hp' := hz L xs ++ [xO 0 [.ref 33, .ref 35, .ref 55, .ref 66, .ref 69, .ref 97], xO 1 [.ref 34, .int 0], xI 0 501 (fun _ => 0), xO 2 [.ref 36, .ref 37, .int 0, .int 0, .int 0, .int 0], xV 3 8 (updV (updV (updV (updV (updV (updV (updV (updV (fun _ => .null) 0 (.ref 39)) 1 (.ref 41)) 2 (.ref 43)) 3 (.ref 45)) 4 (.ref 47)) 5 (.ref 49)) 6 (.ref 51)) 7 (.ref 53)), xO 3 [.ref 38, .int 0], xI 0 120 (fun _ => 0), xO 4 [.ref 40, .int 0, .int 0], xI 0 130 (fun _ => 0), xO 4 [.ref 42, .int 0, .int 0], xI 0 130 (fun _ => 0), xO 4 [.ref 44, .int 0, .int 0], xI 0 130 (fun _ => 0), xO 4 [.ref 46, .int 0, .int 0], xI 0 130 (fun _ => 0), xO 4 [.ref 48, .int 0, .int 0], xI 0 130 (fun _ => 0), xO 4 [.ref 50, .int 0, .int 0], xI 0 130 (fun _ => 0), xO 4 [.ref 52, .int 0, .int 0], xI 0 130 (fun _ => 0), xO 4 [.ref 54, .int 0, .int 0], xI 0 130 (fun _ => 0), xO 5 [.ref 56, .ref 65, .int 0], xV 4 8 (fun j => .ref (56 + 1 + j)), xI 0 10 (fun _ => 0), xI 0 10 (fun _ => 0), xI 0 10 (fun _ => 0), xI 0 10 (fun _ => 0), xI 0 10 (fun _ => 0), xI 0 10 (fun _ => 0), xI 0 10 (fun _ => 0), xI 0 10 (fun _ => 0), xI 0 8 (fun _ => 0), xO 6 [.ref 33, .ref 35, .ref 55, .ref 67, .int 0, .int 0, .int 0, .int 0, .int 0], xO 4 [.ref 68, .int 0, .int 0], xI 0 130 (fun _ => 0), xO 7 [.ref 35, .ref 70, .ref 80, .int 0, .int 0, .int 3, .int 0], xO 8 [.ref 71, .ref 72, .ref 73], xI 0 6 (upd (upd (upd (upd (upd (upd (fun _ => 0) 0 41) 1 41) 2 41) 3 41) 4 41) 5 41), xI 0 6 (upd (upd (upd (upd (upd (upd (fun _ => 0) 0 1) 1 1) 2 1) 3 1) 4 1) 5 1), xV 4 6 (fun j => .ref (73 + 1 + j)), xI 0 8 (fun _ => 0), xI 0 8 (fun _ => 0), xI 0 8 (fun _ => 0), xI 0 8 (fun _ => 0), xI 0 8 (fun _ => 0), xI 0 8 (fun _ => 0), xO 9 [.ref 81, .ref 82, .ref 88, .ref 89, .ref 96], xI 0 5 (fun _ => 0), xV 4 5 (fun j => .ref (82 + 1 + j)), xI 0 3 (fun _ => 0), xI 0 3 (fun _ => 0), xI 0 3 (fun _ => 0), xI 0 3 (fun _ => 0), xI 0 3 (fun _ => 0), xI 0 6 (fun _ => 0), xV 4 6 (fun j => .ref (89 + 1 + j)), xI 0 2 (fun _ => 0), xI 0 2 (fun _ => 0), xI 0 2 (fun _ => 0), xI 0 2 (fun _ => 0), xI 0 2 (fun _ => 0), xI 0 2 (fun _ => 0), xI 2 6 (fun _ => 0), xO 10 [.ref 67, .ref 69, .ref 35, .ref 55, .ref 98], xO 11 [.ref 99, .ref 100, .ref 101, .ref 102, .ref 67, .int 0], xI 0 60 (fun _ => 0), xI 0 60 (fun _ => 0), xI 0 60 (fun _ => 0), xI 0 60 (fun _ => 0), xO 12 [.int 0, .int 0, .int 0, .int 0, .ref 104, .int 0, .ref 105, .int 0, .ref 106, .ref 107, .ref 108, .int 0, .int 0, .int 0, .ref 109, .ref 110, .int 0, .ref 111, .int 0, .int 0, .int 0, .int 3, .int 0, .int 0, .null, .null, .null, .null, .null, .null, .null, .null, .int 0, .null], xI 0 140 (fun _ => 0), xI 0 512 (fun _ => 0), xI 0 1040 (fun _ => 0), xI 0 8 (fun _ => 0), xI 0 8 (fun _ => 0), xI 0 80 (fun _ => 0), xI 0 8 (fun _ => 0), xI 0 500 (fun _ => 0)]) rfl ?_
  refine x_step rfl ?_
  refine x_step rfl ?_
  refine x_newaI (a := 112) (N := 6) rfl rfl (by decide) rfl (by decide) rfl (by omega) (by omega) ?_
  refine x_step rfl ?_
  refine xm_hs (hp' := hz L xs ++ [xO 0 [.ref 33, .ref 35, .ref 55, .ref 66, .ref 69, .ref 97], xO 1 [.ref 34, .int 0], xI 0 501 (fun _ => 0), xO 2 [.ref 36, .ref 37, .int 0, .int 0, .int 0, .int 0], xV 3 8 (updV (updV (updV (updV (updV (updV (updV (updV (fun _ => .null) 0 (.ref 39)) 1 (.ref 41)) 2 (.ref 43)) 3 (.ref 45)) 4 (.ref 47)) 5 (.ref 49)) 6 (.ref 51)) 7 (.ref 53)), xO 3 [.ref 38, .int 0], xI 0 120 (fun _ => 0), xO 4 [.ref 40, .int 0, .int 0], xI 0 130 (fun _ => 0), xO 4 [.ref 42, .int 0, .int 0], xI 0 130 (fun _ => 0), xO 4 [.ref 44, .int 0, .int 0], xI 0 130 (fun _ => 0), xO 4 [.ref 46, .int 0, .int 0], xI 0 130 (fun _ => 0), xO 4 [.ref 48, .int 0, .int 0], xI 0 130 (fun _ => 0), xO 4 [.ref 50, .int 0, .int 0], xI 0 130 (fun _ => 0), xO 4 [.ref 52, .int 0, .int 0], xI 0 130 (fun _ => 0), xO 4 [.ref 54, .int 0, .int 0], xI 0 130 (fun _ => 0), xO 5 [.ref 56, .ref 65, .int 0], xV 4 8 (fun j => .ref (56 + 1 + j)), xI 0 10 (fun _ => 0), xI 0 10 (fun _ => 0), xI 0 10 (fun _ => 0), xI 0 10 (fun _ => 0), xI 0 10 (fun _ => 0), xI 0 10 (fun _ => 0), xI 0 10 (fun _ => 0), xI 0 10 (fun _ => 0), xI 0 8 (fun _ => 0), xO 6 [.ref 33, .ref 35, .ref 55, .ref 67, .int 0, .int 0, .int 0, .int 0, .int 0], xO 4 [.ref 68, .int 0, .int 0], xI 0 130 (fun _ => 0), xO 7 [.ref 35, .ref 70, .ref 80, .int 0, .int 0, .int 3, .int 0], xO 8 [.ref 71, .ref 72, .ref 73], xI 0 6 (upd (upd (upd (upd (upd (upd (fun _ => 0) 0 41) 1 41) 2 41) 3 41) 4 41) 5 41), xI 0 6 (upd (upd (upd (upd (upd (upd (fun _ => 0) 0 1) 1 1) 2 1) 3 1) 4 1) 5 1), xV 4 6 (fun j => .ref (73 + 1 + j)), xI 0 8 (fun _ => 0), xI 0 8 (fun _ => 0), xI 0 8 (fun _ => 0), xI 0 8 (fun _ => 0), xI 0 8 (fun _ => 0), xI 0 8 (fun _ => 0), xO 9 [.ref 81, .ref 82, .ref 88, .ref 89, .ref 96], xI 0 5 (fun _ => 0), xV 4 5 (fun j => .ref (82 + 1 + j)), xI 0 3 (fun _ => 0), xI 0 3 (fun _ => 0), xI 0 3 (fun _ => 0), xI 0 3 (fun _ => 0), xI 0 3 (fun _ => 0), xI 0 6 (fun _ => 0), xV 4 6 (fun j => .ref (89 + 1 + j)), xI 0 2 (fun _ => 0), xI 0 2 (fun _ => 0), xI 0 2 (fun _ => 0), xI 0 2 (fun _ => 0), xI 0 2 (fun _ => 0), xI 0 2 (fun _ => 0), xI 2 6 (fun _ => 0), xO 10 [.ref 67, .ref 69, .ref 35, .ref 55, .ref 98], xO 11 [.ref 99, .ref 100, .ref 101, .ref 102, .ref 67, .int 0], xI 0 60 (fun _ => 0), xI 0 60 (fun _ => 0), xI 0 60 (fun _ => 0), xI 0 60 (fun _ => 0), xO 12 [.int 0, .int 0, .int 0, .int 0, .ref 104, .int 0, .ref 105, .int 0, .ref 106, .ref 107, .ref 108, .int 0, .int 0, .int 0, .ref 109, .ref 110, .int 0, .ref 111, .int 0, .int 0, .int 0, .int 3, .int 0, .int 0, .ref 112, .null, .null, .null, .null, .null, .null, .null, .int 0, .null], xI 0 140 (fun _ => 0), xI 0 512 (fun _ => 0), xI 0 1040 (fun _ => 0), xI 0 8 (fun _ => 0), xI 0 8 (fun _ => 0), xI 0 80 (fun _ => 0), xI 0 8 (fun _ => 0), xI 0 500 (fun _ => 0), xI 0 6 (fun _ => 0)]) rfl ?_
  refine x_step rfl ?_
  refine x_step rfl ?_
  refine x_newaI (a := 113) (N := 6) rfl rfl (by decide) rfl (by decide) rfl (by omega) (by omega) ?_
  refine x_step rfl ?_
  refine xm_hs (hp' := hz L xs ++ [xO 0 [.ref 33, .ref 35, .ref 55, .ref 66, .ref 69, .ref 97], xO 1 [.ref 34, .int 0], xI 0 501 (fun _ => 0), xO 2 [.ref 36, .ref 37, .int 0, .int 0, .int 0, .int 0], xV 3 8 (updV (updV (updV (updV (updV (updV (updV (updV (fun _ => .null) 0 (.ref 39)) 1 (.ref 41)) 2 (.ref 43)) 3 (.ref 45)) 4 (.ref 47)) 5 (.ref 49)) 6 (.ref 51)) 7 (.ref 53)), xO 3 [.ref 38, .int 0], xI 0 120 (fun _ => 0), xO 4 [.ref 40, .int 0, .int 0], xI 0 130 (fun _ => 0), xO 4 [.ref 42, .int 0, .int 0], xI 0 130 (fun _ => 0), xO 4 [.ref 44, .int 0, .int 0], xI 0 130 (fun _ => 0), xO 4 [.ref 46, .int 0, .int 0], xI 0 130 (fun _ => 0), xO 4 [.ref 48, .int 0, .int 0], xI 0 130 (fun _ => 0), xO 4 [.ref 50, .int 0, .int 0], xI 0 130 (fun _ => 0), xO 4 [.ref 52, .int 0, .int 0], xI 0 130 (fun _ => 0), xO 4 [.ref 54, .int 0, .int 0], xI 0 130 (fun _ => 0), xO 5 [.ref 56, .ref 65, .int 0], xV 4 8 (fun j => .ref (56 + 1 + j)), xI 0 10 (fun _ => 0), xI 0 10 (fun _ => 0), xI 0 10 (fun _ => 0), xI 0 10 (fun _ => 0), xI 0 10 (fun _ => 0), xI 0 10 (fun _ => 0), xI 0 10 (fun _ => 0), xI 0 10 (fun _ => 0), xI 0 8 (fun _ => 0), xO 6 [.ref 33, .ref 35, .ref 55, .ref 67, .int 0, .int 0, .int 0, .int 0, .int 0], xO 4 [.ref 68, .int 0, .int 0], xI 0 130 (fun _ => 0), xO 7 [.ref 35, .ref 70, .ref 80, .int 0, .int 0, .int 3, .int 0], xO 8 [.ref 71, .ref 72, .ref 73], xI 0 6 (upd (upd (upd (upd (upd (upd (fun _ => 0) 0 41) 1 41) 2 41) 3 41) 4 41) 5 41), xI 0 6 (upd (upd (upd (upd (upd (upd (fun _ => 0) 0 1) 1 1) 2 1) 3 1) 4 1) 5 1), xV 4 6 (fun j => .ref (73 + 1 + j)), xI 0 8 (fun _ => 0), xI 0 8 (fun _ => 0), xI 0 8 (fun _ => 0), xI 0 8 (fun _ => 0), xI 0 8 (fun _ => 0), xI 0 8 (fun _ => 0), xO 9 [.ref 81, .ref 82, .ref 88, .ref 89, .ref 96], xI 0 5 (fun _ => 0), xV 4 5 (fun j => .ref (82 + 1 + j)), xI 0 3 (fun _ => 0), xI 0 3 (fun _ => 0), xI 0 3 (fun _ => 0), xI 0 3 (fun _ => 0), xI 0 3 (fun _ => 0), xI 0 6 (fun _ => 0), xV 4 6 (fun j => .ref (89 + 1 + j)), xI 0 2 (fun _ => 0), xI 0 2 (fun _ => 0), xI 0 2 (fun _ => 0), xI 0 2 (fun _ => 0), xI 0 2 (fun _ => 0), xI 0 2 (fun _ => 0), xI 2 6 (fun _ => 0), xO 10 [.ref 67, .ref 69, .ref 35, .ref 55, .ref 98], xO 11 [.ref 99, .ref 100, .ref 101, .ref 102, .ref 67, .int 0], xI 0 60 (fun _ => 0), xI 0 60 (fun _ => 0), xI 0 60 (fun _ => 0), xI 0 60 (fun _ => 0), xO 12 [.int 0, .int 0, .int 0, .int 0, .ref 104, .int 0, .ref 105, .int 0, .ref 106, .ref 107, .ref 108, .int 0, .int 0, .int 0, .ref 109, .ref 110, .int 0, .ref 111, .int 0, .int 0, .int 0, .int 3, .int 0, .int 0, .ref 112, .ref 113, .null, .null, .null, .null, .null, .null, .int 0, .null], xI 0 140 (fun _ => 0), xI 0 512 (fun _ => 0), xI 0 1040 (fun _ => 0), xI 0 8 (fun _ => 0), xI 0 8 (fun _ => 0), xI 0 80 (fun _ => 0), xI 0 8 (fun _ => 0), xI 0 500 (fun _ => 0), xI 0 6 (fun _ => 0), xI 0 6 (fun _ => 0)]) rfl ?_
  refine x_step rfl ?_
  refine x_step rfl ?_
  refine x_newaI (a := 114) (N := 48) rfl rfl (by decide) rfl (by decide) rfl (by omega) (by omega) ?_
  refine x_step rfl ?_
  refine xm_hs (hp' := hz L xs ++ [xO 0 [.ref 33, .ref 35, .ref 55, .ref 66, .ref 69, .ref 97], xO 1 [.ref 34, .int 0], xI 0 501 (fun _ => 0), xO 2 [.ref 36, .ref 37, .int 0, .int 0, .int 0, .int 0], xV 3 8 (updV (updV (updV (updV (updV (updV (updV (updV (fun _ => .null) 0 (.ref 39)) 1 (.ref 41)) 2 (.ref 43)) 3 (.ref 45)) 4 (.ref 47)) 5 (.ref 49)) 6 (.ref 51)) 7 (.ref 53)), xO 3 [.ref 38, .int 0], xI 0 120 (fun _ => 0), xO 4 [.ref 40, .int 0, .int 0], xI 0 130 (fun _ => 0), xO 4 [.ref 42, .int 0, .int 0], xI 0 130 (fun _ => 0), xO 4 [.ref 44, .int 0, .int 0], xI 0 130 (fun _ => 0), xO 4 [.ref 46, .int 0, .int 0], xI 0 130 (fun _ => 0), xO 4 [.ref 48, .int 0, .int 0], xI 0 130 (fun _ => 0), xO 4 [.ref 50, .int 0, .int 0], xI 0 130 (fun _ => 0), xO 4 [.ref 52, .int 0, .int 0], xI 0 130 (fun _ => 0), xO 4 [.ref 54, .int 0, .int 0], xI 0 130 (fun _ => 0), xO 5 [.ref 56, .ref 65, .int 0], xV 4 8 (fun j => .ref (56 + 1 + j)), xI 0 10 (fun _ => 0), xI 0 10 (fun _ => 0), xI 0 10 (fun _ => 0), xI 0 10 (fun _ => 0), xI 0 10 (fun _ => 0), xI 0 10 (fun _ => 0), xI 0 10 (fun _ => 0), xI 0 10 (fun _ => 0), xI 0 8 (fun _ => 0), xO 6 [.ref 33, .ref 35, .ref 55, .ref 67, .int 0, .int 0, .int 0, .int 0, .int 0], xO 4 [.ref 68, .int 0, .int 0], xI 0 130 (fun _ => 0), xO 7 [.ref 35, .ref 70, .ref 80, .int 0, .int 0, .int 3, .int 0], xO 8 [.ref 71, .ref 72, .ref 73], xI 0 6 (upd (upd (upd (upd (upd (upd (fun _ => 0) 0 41) 1 41) 2 41) 3 41) 4 41) 5 41), xI 0 6 (upd (upd (upd (upd (upd (upd (fun _ => 0) 0 1) 1 1) 2 1) 3 1) 4 1) 5 1), xV 4 6 (fun j => .ref (73 + 1 + j)), xI 0 8 (fun _ => 0), xI 0 8 (fun _ => 0), xI 0 8 (fun _ => 0), xI 0 8 (fun _ => 0), xI 0 8 (fun _ => 0), xI 0 8 (fun _ => 0), xO 9 [.ref 81, .ref 82, .ref 88, .ref 89, .ref 96], xI 0 5 (fun _ => 0), xV 4 5 (fun j => .ref (82 + 1 + j)), xI 0 3 (fun _ => 0), xI 0 3 (fun _ => 0), xI 0 3 (fun _ => 0), xI 0 3 (fun _ => 0), xI 0 3 (fun _ => 0), xI 0 6 (fun _ => 0), xV 4 6 (fun j => .ref (89 + 1 + j)), xI 0 2 (fun _ => 0), xI 0 2 (fun _ => 0), xI 0 2 (fun _ => 0), xI 0 2 (fun _ => 0), xI 0 2 (fun _ => 0), xI 0 2 (fun _ => 0), xI 2 6 (fun _ => 0), xO 10 [.ref 67, .ref 69, .ref 35, .ref 55, .ref 98], xO 11 [.ref 99, .ref 100, .ref 101, .ref 102, .ref 67, .int 0], xI 0 60 (fun _ => 0), xI 0 60 (fun _ => 0), xI 0 60 (fun _ => 0), xI 0 60 (fun _ => 0), xO 12 [.int 0, .int 0, .int 0, .int 0, .ref 104, .int 0, .ref 105, .int 0, .ref 106, .ref 107, .ref 108, .int 0, .int 0, .int 0, .ref 109, .ref 110, .int 0, .ref 111, .int 0, .int 0, .int 0, .int 3, .int 0, .int 0, .ref 112, .ref 113, .ref 114, .null, .null, .null, .null, .null, .int 0, .null], xI 0 140 (fun _ => 0), xI 0 512 (fun _ => 0), xI 0 1040 (fun _ => 0), xI 0 8 (fun _ => 0), xI 0 8 (fun _ => 0), xI 0 80 (fun _ => 0), xI 0 8 (fun _ => 0), xI 0 500 (fun _ => 0), xI 0 6 (fun _ => 0), xI 0 6 (fun _ => 0), xI 0 48 (fun _ => 0)]) rfl ?_
  refine x_step rfl ?_
  refine x_step rfl ?_
  refine x_newaI (a := 115) (N := 5) rfl rfl (by decide) rfl (by decide) rfl (by omega) (by omega) ?_
  refine x_step rfl ?_
  refine xm_hs (hp' := hz L xs ++ [xO 0 [.ref 33, .ref 35, .ref 55, .ref 66, .ref 69, .ref 97], xO 1 [.ref 34, .int 0], xI 0 501 (fun _ => 0), xO 2 [.ref 36, .ref 37, .int 0, .int 0, .int 0, .int 0], xV 3 8 (updV (updV (updV (updV (updV (updV (updV (updV (fun _ => .null) 0 (.ref 39)) 1 (.ref 41)) 2 (.ref 43)) 3 (.ref 45)) 4 (.ref 47)) 5 (.ref 49)) 6 (.ref 51)) 7 (.ref 53)), xO 3 [.ref 38, .int 0], xI 0 120 (fun _ => 0), xO 4 [.ref 40, .int 0, .int 0], xI 0 130 (fun _ => 0), xO 4 [.ref 42, .int 0, .int 0], xI 0 130 (fun _ => 0), xO 4 [.ref 44, .int 0, .int 0], xI 0 130 (fun _ => 0), xO 4 [.ref 46, .int 0, .int 0], xI 0 130 (fun _ => 0), xO 4 [.ref 48, .int 0, .int 0], xI 0 130 (fun _ => 0), xO 4 [.ref 50, .int 0, .int 0], xI 0 130 (fun _ => 0), xO 4 [.ref 52, .int 0, .int 0], xI 0 130 (fun _ => 0), xO 4 [.ref 54, .int 0, .int 0], xI 0 130 (fun _ => 0), xO 5 [.ref 56, .ref 65, .int 0], xV 4 8 (fun j => .ref (56 + 1 + j)), xI 0 10 (fun _ => 0), xI 0 10 (fun _ => 0), xI 0 10 (fun _ => 0), xI 0 10 (fun _ => 0), xI 0 10 (fun _ => 0), xI 0 10 (fun _ => 0), xI 0 10 (fun _ => 0), xI 0 10 (fun _ => 0), xI 0 8 (fun _ => 0), xO 6 [.ref 33, .ref 35, .ref 55, .ref 67, .int 0, .int 0, .int 0, .int 0, .int 0], xO 4 [.ref 68, .int 0, .int 0], xI 0 130 (fun _ => 0), xO 7 [.ref 35, .ref 70, .ref 80, .int 0, .int 0, .int 3, .int 0], xO 8 [.ref 71, .ref 72, .ref 73], xI 0 6 (upd (upd (upd (upd (upd (upd (fun _ => 0) 0 41) 1 41) 2 41) 3 41) 4 41) 5 41), xI 0 6 (upd (upd (upd (upd (upd (upd (fun _ => 0) 0 1) 1 1) 2 1) 3 1) 4 1) 5 1), xV 4 6 (fun j => .ref (73 + 1 + j)), xI 0 8 (fun _ => 0), xI 0 8 (fun _ => 0), xI 0 8 (fun _ => 0), xI 0 8 (fun _ => 0), xI 0 8 (fun _ => 0), xI 0 8 (fun _ => 0), xO 9 [.ref 81, .ref 82, .ref 88, .ref 89, .ref 96], xI 0 5 (fun _ => 0), xV 4 5 (fun j => .ref (82 + 1 + j)), xI 0 3 (fun _ => 0), xI 0 3 (fun _ => 0), xI 0 3 (fun _ => 0), xI 0 3 (fun _ => 0), xI 0 3 (fun _ => 0), xI 0 6 (fun _ => 0), xV 4 6 (fun j => .ref (89 + 1 + j)), xI 0 2 (fun _ => 0), xI 0 2 (fun _ => 0), xI 0 2 (fun _ => 0), xI 0 2 (fun _ => 0), xI 0 2 (fun _ => 0), xI 0 2 (fun _ => 0), xI 2 6 (fun _ => 0), xO 10 [.ref 67, .ref 69, .ref 35, .ref 55, .ref 98], xO 11 [.ref 99, .ref 100, .ref 101, .ref 102, .ref 67, .int 0], xI 0 60 (fun _ => 0), xI 0 60 (fun _ => 0), xI 0 60 (fun _ => 0), xI 0 60 (fun _ => 0), xO 12 [.int 0, .int 0, .int 0, .int 0, .ref 104, .int 0, .ref 105, .int 0, .ref 106, .ref 107, .ref 108, .int 0, .int 0, .int 0, .ref 109, .ref 110, .int 0, .ref 111, .int 0, .int 0, .int 0, .int 3, .int 0, .int 0, .ref 112, .ref 113, .ref 114, .ref 115, .null, .null, .null, .null, .int 0, .null], xI 0 140 (fun _ => 0), xI 0 512 (fun _ => 0), xI 0 1040 (fun _ => 0), xI 0 8 (fun _ => 0), xI 0 8 (fun _ => 0), xI 0 80 (fun _ => 0), xI 0 8 (fun _ => 0), xI 0 500 (fun _ => 0), xI 0 6 (fun _ => 0), xI 0 6 (fun _ => 0), xI 0 48 (fun _ => 0), xI 0 5 (fun _ => 0)]) rfl ?_
  refine x_step rfl ?_
  refine x_step rfl ?_
  refine x_newaI (a := 116) (N := 15) rfl rfl (by decide) rfl (by decide) rfl (by omega) (by omega) ?_
  refine x_step rfl ?_
  refine xm_hs (hp' := hz L xs ++ [xO 0 [.ref 33, .ref 35, .ref 55, .ref 66, .ref 69, .ref 97], xO 1 [.ref 34, .int 0], xI 0 501 (fun _ => 0), xO 2 [.ref 36, .ref 37, .int 0, .int 0, .int 0, .int 0], xV 3 8 (updV (updV (updV (updV (updV (updV (updV (updV (fun _ => .null) 0 (.ref 39)) 1 (.ref 41)) 2 (.ref 43)) 3 (.ref 45)) 4 (.ref 47)) 5 (.ref 49)) 6 (.ref 51)) 7 (.ref 53)), xO 3 [.ref 38, .int 0], xI 0 120 (fun _ => 0), xO 4 [.ref 40, .int 0, .int 0], xI 0 130 (fun _ => 0), xO 4 [.ref 42, .int 0, .int 0], xI 0 130 (fun _ => 0), xO 4 [.ref 44, .int 0, .int 0], xI 0 130 (fun _ => 0), xO 4 [.ref 46, .int 0, .int 0], xI 0 130 (fun _ => 0), xO 4 [.ref 48, .int 0, .int 0], xI 0 130 (fun _ => 0), xO 4 [.ref 50, .int 0, .int 0], xI 0 130 (fun _ => 0), xO 4 [.ref 52, .int 0, .int 0], xI 0 130 (fun _ => 0), xO 4 [.ref 54, .int 0, .int 0], xI 0 130 (fun _ => 0), xO 5 [.ref 56, .ref 65, .int 0], xV 4 8 (fun j => .ref (56 + 1 + j)), xI 0 10 (fun _ => 0), xI 0 10 (fun _ => 0), xI 0 10 (fun _ => 0), xI 0 10 (fun _ => 0), xI 0 10 (fun _ => 0), xI 0 10 (fun _ => 0), xI 0 10 (fun _ => 0), xI 0 10 (fun _ => 0), xI 0 8 (fun _ => 0), xO 6 [.ref 33, .ref 35, .ref 55, .ref 67, .int 0, .int 0, .int 0, .int 0, .int 0], xO 4 [.ref 68, .int 0, .int 0], xI 0 130 (fun _ => 0), xO 7 [.ref 35, .ref 70, .ref 80, .int 0, .int 0, .int 3, .int 0], xO 8 [.ref 71, .ref 72, .ref 73], xI 0 6 (upd (upd (upd (upd (upd (upd (fun _ => 0) 0 41) 1 41) 2 41) 3 41) 4 41) 5 41), xI 0 6 (upd (upd (upd (upd (upd (upd (fun _ => 0) 0 1) 1 1) 2 1) 3 1) 4 1) 5 1), xV 4 6 (fun j => .ref (73 + 1 + j)), xI 0 8 (fun _ => 0), xI 0 8 (fun _ => 0), xI 0 8 (fun _ => 0), xI 0 8 (fun _ => 0), xI 0 8 (fun _ => 0), xI 0 8 (fun _ => 0), xO 9 [.ref 81, .ref 82, .ref 88, .ref 89, .ref 96], xI 0 5 (fun _ => 0), xV 4 5 (fun j => .ref (82 + 1 + j)), xI 0 3 (fun _ => 0), xI 0 3 (fun _ => 0), xI 0 3 (fun _ => 0), xI 0 3 (fun _ => 0), xI 0 3 (fun _ => 0), xI 0 6 (fun _ => 0), xV 4 6 (fun j => .ref (89 + 1 + j)), xI 0 2 (fun _ => 0), xI 0 2 (fun _ => 0), xI 0 2 (fun _ => 0), xI 0 2 (fun _ => 0), xI 0 2 (fun _ => 0), xI 0 2 (fun _ => 0), xI 2 6 (fun _ => 0), xO 10 [.ref 67, .ref 69, .ref 35, .ref 55, .ref 98], xO 11 [.ref 99, .ref 100, .ref 101, .ref 102, .ref 67, .int 0], xI 0 60 (fun _ => 0), xI 0 60 (fun _ => 0), xI 0 60 (fun _ => 0), xI 0 60 (fun _ => 0), xO 12 [.int 0, .int 0, .int 0, .int 0, .ref 104, .int 0, .ref 105, .int 0, .ref 106, .ref 107, .ref 108, .int 0, .int 0, .int 0, .ref 109, .ref 110, .int 0, .ref 111, .int 0, .int 0, .int 0, .int 3, .int 0, .int 0, .ref 112, .ref 113, .ref 114, .ref 115, .ref 116, .null, .null, .null, .int 0, .null], xI 0 140 (fun _ => 0), xI 0 512 (fun _ => 0), xI 0 1040 (fun _ => 0), xI 0 8 (fun _ => 0), xI 0 8 (fun _ => 0), xI 0 80 (fun _ => 0), xI 0 8 (fun _ => 0), xI 0 500 (fun _ => 0), xI 0 6 (fun _ => 0), xI 0 6 (fun _ => 0), xI 0 48 (fun _ => 0), xI 0 5 (fun _ => 0), xI 0 15 (fun _ => 0)]) rfl ?_
  refine x_step rfl ?_
  refine x_step rfl ?_
  refine x_newaI (a := 117) (N := 6) rfl rfl (by decide) rfl (by decide) rfl (by omega) (by omega) ?_
  refine x_step rfl ?_
  refine xm_hs (hp' := hz L xs ++ [xO 0 [.ref 33, .ref 35, .ref 55, .ref 66, .ref 69, .ref 97], xO 1 [.ref 34, .int 0], xI 0 501 (fun _ => 0), xO 2 [.ref 36, .ref 37, .int 0, .int 0, .int 0, .int 0], xV 3 8 (updV (updV (updV (updV (updV (updV (updV (updV (fun _ => .null) 0 (.ref 39)) 1 (.ref 41)) 2 (.ref 43)) 3 (.ref 45)) 4 (.ref 47)) 5 (.ref 49)) 6 (.ref 51)) 7 (.ref 53)), xO 3 [.ref 38, .int 0], xI 0 120 (fun _ => 0), xO 4 [.ref 40, .int 0, .int 0], xI 0 130 (fun _ => 0), xO 4 [.ref 42, .int 0, .int 0], xI 0 130 (fun _ => 0), xO 4 [.ref 44, .int 0, .int 0], xI 0 130 (fun _ => 0), xO 4 [.ref 46, .int 0, .int 0], xI 0 130 (fun _ => 0), xO 4 [.ref 48, .int 0, .int 0], xI 0 130 (fun _ => 0), xO 4 [.ref 50, .int 0, .int 0], xI 0 130 (fun _ => 0), xO 4 [.ref 52, .int 0, .int 0], xI 0 130 (fun _ => 0), xO 4 [.ref 54, .int 0, .int 0], xI 0 130 (fun _ => 0), xO 5 [.ref 56, .ref 65, .int 0], xV 4 8 (fun j => .ref (56 + 1 + j)), xI 0 10 (fun _ => 0), xI 0 10 (fun _ => 0), xI 0 10 (fun _ => 0), xI 0 10 (fun _ => 0), xI 0 10 (fun _ => 0), xI 0 10 (fun _ => 0), xI 0 10 (fun _ => 0), xI 0 10 (fun _ => 0), xI 0 8 (fun _ => 0), xO 6 [.ref 33, .ref 35, .ref 55, .ref 67, .int 0, .int 0, .int 0, .int 0, .int 0], xO 4 [.ref 68, .int 0, .int 0], xI 0 130 (fun _ => 0), xO 7 [.ref 35, .ref 70, .ref 80, .int 0, .int 0, .int 3, .int 0], xO 8 [.ref 71, .ref 72, .ref 73], xI 0 6 (upd (upd (upd (upd (upd (upd (fun _ => 0) 0 41) 1 41) 2 41) 3 41) 4 41) 5 41), xI 0 6 (upd (upd (upd (upd (upd (upd (fun _ => 0) 0 1) 1 1) 2 1) 3 1) 4 1) 5 1), xV 4 6 (fun j => .ref (73 + 1 + j)), xI 0 8 (fun _ => 0), xI 0 8 (fun _ => 0), xI 0 8 (fun _ => 0), xI 0 8 (fun _ => 0), xI 0 8 (fun _ => 0), xI 0 8 (fun _ => 0), xO 9 [.ref 81, .ref 82, .ref 88, .ref 89, .ref 96], xI 0 5 (fun _ => 0), xV 4 5 (fun j => .ref (82 + 1 + j)), xI 0 3 (fun _ => 0), xI 0 3 (fun _ => 0), xI 0 3 (fun _ => 0), xI 0 3 (fun _ => 0), xI 0 3 (fun _ => 0), xI 0 6 (fun _ => 0), xV 4 6 (fun j => .ref (89 + 1 + j)), xI 0 2 (fun _ => 0), xI 0 2 (fun _ => 0), xI 0 2 (fun _ => 0), xI 0 2 (fun _ => 0), xI 0 2 (fun _ => 0), xI 0 2 (fun _ => 0), xI 2 6 (fun _ => 0), xO 10 [.ref 67, .ref 69, .ref 35, .ref 55, .ref 98], xO 11 [.ref 99, .ref 100, .ref 101, .ref 102, .ref 67, .int 0], xI 0 60 (fun _ => 0), xI 0 60 (fun _ => 0), xI 0 60 (fun _ => 0), xI 0 60 (fun _ => 0), xO 12 [.int 0, .int 0, .int 0, .int 0, .ref 104, .int 0, .ref 105, .int 0, .ref 106, .ref 107, .ref 108, .int 0, .int 0, .int 0, .ref 109, .ref 110, .int 0, .ref 111, .int 0, .int 0, .int 0, .int 3, .int 0, .int 0, .ref 112, .ref 113, .ref 114, .ref 115, .ref 116, .ref 117, .null, .null, .int 0, .null], xI 0 140 (fun _ => 0), xI 0 512 (fun _ => 0), xI 0 1040 (fun _ => 0), xI 0 8 (fun _ => 0), xI 0 8 (fun _ => 0), xI 0 80 (fun _ => 0), xI 0 8 (fun _ => 0), xI 0 500 (fun _ => 0), xI 0 6 (fun _ => 0), xI 0 6 (fun _ => 0), xI 0 48 (fun _ => 0), xI 0 5 (fun _ => 0), xI 0 15 (fun _ => 0), xI 0 6 (fun _ => 0)]) rfl ?_
  refine x_step rfl ?_
  refine x_step rfl ?_
  refine x_newaI (a := 118) (N := 12) rfl rfl (by decide) rfl (by decide) rfl (by omega) (by omega) ?_
  refine x_step rfl ?_
  refine xm_hs (hp' := hz L xs ++ [xO 0 [.ref 33, .ref 35, .ref 55, .ref 66, .ref 69, .ref 97], xO 1 [.ref 34, .int 0], xI 0 501 (fun _ => 0), xO 2 [.ref 36, .ref 37, .int 0, .int 0, .int 0, .int 0], xV 3 8 (updV (updV (updV (updV (updV (updV (updV (updV (fun _ => .null) 0 (.ref 39)) 1 (.ref 41)) 2 (.ref 43)) 3 (.ref 45)) 4 (.ref 47)) 5 (.ref 49)) 6 (.ref 51)) 7 (.ref 53)), xO 3 [.ref 38, .int 0], xI 0 120 (fun _ => 0), xO 4 [.ref 40, .int 0, .int 0], xI 0 130 (fun _ => 0), xO 4 [.ref 42, .int 0, .int 0], xI 0 130 (fun _ => 0), xO 4 [.ref 44, .int 0, .int 0], xI 0 130 (fun _ => 0), xO 4 [.ref 46, .int 0, .int 0], xI 0 130 (fun _ => 0), xO 4 [.ref 48, .int 0, .int 0], xI 0 130 (fun _ => 0), xO 4 [.ref 50, .int 0, .int 0], xI 0 130 (fun _ => 0), xO 4 [.ref 52, .int 0, .int 0], xI 0 130 (fun _ => 0), xO 4 [.ref 54, .int 0, .int 0], xI 0 130 (fun _ => 0), xO 5 [.ref 56, .ref 65, .int 0], xV 4 8 (fun j => .ref (56 + 1 + j)), xI 0 10 (fun _ => 0), xI 0 10 (fun _ => 0), xI 0 10 (fun _ => 0), xI 0 10 (fun _ => 0), xI 0 10 (fun _ => 0), xI 0 10 (fun _ => 0), xI 0 10 (fun _ => 0), xI 0 10 (fun _ => 0), xI 0 8 (fun _ => 0), xO 6 [.ref 33, .ref 35, .ref 55, .ref 67, .int 0, .int 0, .int 0, .int 0, .int 0], xO 4 [.ref 68, .int 0, .int 0], xI 0 130 (fun _ => 0), xO 7 [.ref 35, .ref 70, .ref 80, .int 0, .int 0, .int 3, .int 0], xO 8 [.ref 71, .ref 72, .ref 73], xI 0 6 (upd (upd (upd (upd (upd (upd (fun _ => 0) 0 41) 1 41) 2 41) 3 41) 4 41) 5 41), xI 0 6 (upd (upd (upd (upd (upd (upd (fun _ => 0) 0 1) 1 1) 2 1) 3 1) 4 1) 5 1), xV 4 6 (fun j => .ref (73 + 1 + j)), xI 0 8 (fun _ => 0), xI 0 8 (fun _ => 0), xI 0 8 (fun _ => 0), xI 0 8 (fun _ => 0), xI 0 8 (fun _ => 0), xI 0 8 (fun _ => 0), xO 9 [.ref 81, .ref 82, .ref 88, .ref 89, .ref 96], xI 0 5 (fun _ => 0), xV 4 5 (fun j => .ref (82 + 1 + j)), xI 0 3 (fun _ => 0), xI 0 3 (fun _ => 0), xI 0 3 (fun _ => 0), xI 0 3 (fun _ => 0), xI 0 3 (fun _ => 0), xI 0 6 (fun _ => 0), xV 4 6 (fun j => .ref (89 + 1 + j)), xI 0 2 (fun _ => 0), xI 0 2 (fun _ => 0), xI 0 2 (fun _ => 0), xI 0 2 (fun _ => 0), xI 0 2 (fun _ => 0), xI 0 2 (fun _ => 0), xI 2 6 (fun _ => 0), xO 10 [.ref 67, .ref 69, .ref 35, .ref 55, .ref 98], xO 11 [.ref 99, .ref 100, .ref 101, .ref 102, .ref 67, .int 0], xI 0 60 (fun _ => 0), xI 0 60 (fun _ => 0), xI 0 60 (fun _ => 0), xI 0 60 (fun _ => 0), xO 12 [.int 0, .int 0, .int 0, .int 0, .ref 104, .int 0, .ref 105, .int 0, .ref 106, .ref 107, .ref 108, .int 0, .int 0, .int 0, .ref 109, .ref 110, .int 0, .ref 111, .int 0, .int 0, .int 0, .int 3, .int 0, .int 0, .ref 112, .ref 113, .ref 114, .ref 115, .ref 116, .ref 117, .ref 118, .null, .int 0, .null], xI 0 140 (fun _ => 0), xI 0 512 (fun _ => 0), xI 0 1040 (fun _ => 0), xI 0 8 (fun _ => 0), xI 0 8 (fun _ => 0), xI 0 80 (fun _ => 0), xI 0 8 (fun _ => 0), xI 0 500 (fun _ => 0), xI 0 6 (fun _ => 0), xI 0 6 (fun _ => 0), xI 0 48 (fun _ => 0), xI 0 5 (fun _ => 0), xI 0 15 (fun _ => 0), xI 0 6 (fun _ => 0), xI 0 12 (fun _ => 0)]) rfl ?_
  refine x_step rfl ?_
  refine x_step rfl ?_
  refine x_newaI (a := 119) (N := 6) rfl rfl (by decide) rfl (by decide) rfl (by omega) (by omega) ?_
  refine x_step rfl ?_
  refine xm_hs (hp' := hz L xs ++ [xO 0 [.ref 33, .ref 35, .ref 55, .ref 66, .ref 69, .ref 97], xO 1 [.ref 34, .int 0], xI 0 501 (fun _ => 0), xO 2 [.ref 36, .ref 37, .int 0, .int 0, .int 0, .int 0], xV 3 8 (updV (updV (updV (updV (updV (updV (updV (updV (fun _ => .null) 0 (.ref 39)) 1 (.ref 41)) 2 (.ref 43)) 3 (.ref 45)) 4 (.ref 47)) 5 (.ref 49)) 6 (.ref 51)) 7 (.ref 53)), xO 3 [.ref 38, .int 0], xI 0 120 (fun _ => 0), xO 4 [.ref 40, .int 0, .int 0], xI 0 130 (fun _ => 0), xO 4 [.ref 42, .int 0, .int 0], xI 0 130 (fun _ => 0), xO 4 [.ref 44, .int 0, .int 0], xI 0 130 (fun _ => 0), xO 4 [.ref 46, .int 0, .int 0], xI 0 130 (fun _ => 0), xO 4 [.ref 48, .int 0, .int 0], xI 0 130 (fun _ => 0), xO 4 [.ref 50, .int 0, .int 0], xI 0 130 (fun _ => 0), xO 4 [.ref 52, .int 0, .int 0], xI 0 130 (fun _ => 0), xO 4 [.ref 54, .int 0, .int 0], xI 0 130 (fun _ => 0), xO 5 [.ref 56, .ref 65, .int 0], xV 4 8 (fun j => .ref (56 + 1 + j)), xI 0 10 (fun _ => 0), xI 0 10 (fun _ => 0), xI 0 10 (fun _ => 0), xI 0 10 (fun _ => 0), xI 0 10 (fun _ => 0), xI 0 10 (fun _ => 0), xI 0 10 (fun _ => 0), xI 0 10 (fun _ => 0), xI 0 8 (fun _ => 0), xO 6 [.ref 33, .ref 35, .ref 55, .ref 67, .int 0, .int 0, .int 0, .int 0, .int 0], xO 4 [.ref 68, .int 0, .int 0], xI 0 130 (fun _ => 0), xO 7 [.ref 35, .ref 70, .ref 80, .int 0, .int 0, .int 3, .int 0], xO 8 [.ref 71, .ref 72, .ref 73], xI 0 6 (upd (upd (upd (upd (upd (upd (fun _ => 0) 0 41) 1 41) 2 41) 3 41) 4 41) 5 41), xI 0 6 (upd (upd (upd (upd (upd (upd (fun _ => 0) 0 1) 1 1) 2 1) 3 1) 4 1) 5 1), xV 4 6 (fun j => .ref (73 + 1 + j)), xI 0 8 (fun _ => 0), xI 0 8 (fun _ => 0), xI 0 8 (fun _ => 0), xI 0 8 (fun _ => 0), xI 0 8 (fun _ => 0), xI 0 8 (fun _ => 0), xO 9 [.ref 81, .ref 82, .ref 88, .ref 89, .ref 96], xI 0 5 (fun _ => 0), xV 4 5 (fun j => .ref (82 + 1 + j)), xI 0 3 (fun _ => 0), xI 0 3 (fun _ => 0), xI 0 3 (fun _ => 0), xI 0 3 (fun _ => 0), xI 0 3 (fun _ => 0), xI 0 6 (fun _ => 0), xV 4 6 (fun j => .ref (89 + 1 + j)), xI 0 2 (fun _ => 0), xI 0 2 (fun _ => 0), xI 0 2 (fun _ => 0), xI 0 2 (fun _ => 0), xI 0 2 (fun _ => 0), xI 0 2 (fun _ => 0), xI 2 6 (fun _ => 0), xO 10 [.ref 67, .ref 69, .ref 35, .ref 55, .ref 98], xO 11 [.ref 99, .ref 100, .ref 101, .ref 102, .ref 67, .int 0], xI 0 60 (fun _ => 0), xI 0 60 (fun _ => 0), xI 0 60 (fun _ => 0), xI 0 60 (fun _ => 0), xO 12 [.int 0, .int 0, .int 0, .int 0, .ref 104, .int 0, .ref 105, .int 0, .ref 106, .ref 107, .ref 108, .int 0, .int 0, .int 0, .ref 109, .ref 110, .int 0, .ref 111, .int 0, .int 0, .int 0, .int 3, .int 0, .int 0, .ref 112, .ref 113, .ref 114, .ref 115, .ref 116, .ref 117, .ref 118, .ref 119, .int 0, .null], xI 0 140 (fun _ => 0), xI 0 512 (fun _ => 0), xI 0 1040 (fun _ => 0), xI 0 8 (fun _ => 0), xI 0 8 (fun _ => 0), xI 0 80 (fun _ => 0), xI 0 8 (fun _ => 0), xI 0 500 (fun _ => 0), xI 0 6 (fun _ => 0), xI 0 6 (fun _ => 0), xI 0 48 (fun _ => 0), xI 0 5 (fun _ => 0), xI 0 15 (fun _ => 0), xI 0 6 (fun _ => 0), xI 0 12 (fun _ => 0), xI 2 6 (fun _ => 0)]) rfl ?_
  refine x_step rfl ?_
  refine x_step rfl ?_
  refine x_newaI (a := 120) (N := 8) rfl rfl (by decide) rfl (by decide) rfl (by omega) (by omega) ?_
  refine x_step rfl ?_
  refine xm_hs (hp' := hz L xs ++ [xO 0 [.ref 33, .ref 35, .ref 55, .ref 66, .ref 69, .ref 97], xO 1 [.ref 34, .int 0], xI 0 501 (fun _ => 0), xO 2 [.ref 36, .ref 37, .int 0, .int 0, .int 0, .int 0], xV 3 8 (updV (updV (updV (updV (updV (updV (updV (updV (fun _ => .null) 0 (.ref 39)) 1 (.ref 41)) 2 (.ref 43)) 3 (.ref 45)) 4 (.ref 47)) 5 (.ref 49)) 6 (.ref 51)) 7 (.ref 53)), xO 3 [.ref 38, .int 0], xI 0 120 (fun _ => 0), xO 4 [.ref 40, .int 0, .int 0], xI 0 130 (fun _ => 0), xO 4 [.ref 42, .int 0, .int 0], xI 0 130 (fun _ => 0), xO 4 [.ref 44, .int 0, .int 0], xI 0 130 (fun _ => 0), xO 4 [.ref 46, .int 0, .int 0], xI 0 130 (fun _ => 0), xO 4 [.ref 48, .int 0, .int 0], xI 0 130 (fun _ => 0), xO 4 [.ref 50, .int 0, .int 0], xI 0 130 (fun _ => 0), xO 4 [.ref 52, .int 0, .int 0], xI 0 130 (fun _ => 0), xO 4 [.ref 54, .int 0, .int 0], xI 0 130 (fun _ => 0), xO 5 [.ref 56, .ref 65, .int 0], xV 4 8 (fun j => .ref (56 + 1 + j)), xI 0 10 (fun _ => 0), xI 0 10 (fun _ => 0), xI 0 10 (fun _ => 0), xI 0 10 (fun _ => 0), xI 0 10 (fun _ => 0), xI 0 10 (fun _ => 0), xI 0 10 (fun _ => 0), xI 0 10 (fun _ => 0), xI 0 8 (fun _ => 0), xO 6 [.ref 33, .ref 35, .ref 55, .ref 67, .int 0, .int 0, .int 0, .int 0, .int 0], xO 4 [.ref 68, .int 0, .int 0], xI 0 130 (fun _ => 0), xO 7 [.ref 35, .ref 70, .ref 80, .int 0, .int 0, .int 3, .int 0], xO 8 [.ref 71, .ref 72, .ref 73], xI 0 6 (upd (upd (upd (upd (upd (upd (fun _ => 0) 0 41) 1 41) 2 41) 3 41) 4 41) 5 41), xI 0 6 (upd (upd (upd (upd (upd (upd (fun _ => 0) 0 1) 1 1) 2 1) 3 1) 4 1) 5 1), xV 4 6 (fun j => .ref (73 + 1 + j)), xI 0 8 (fun _ => 0), xI 0 8 (fun _ => 0), xI 0 8 (fun _ => 0), xI 0 8 (fun _ => 0), xI 0 8 (fun _ => 0), xI 0 8 (fun _ => 0), xO 9 [.ref 81, .ref 82, .ref 88, .ref 89, .ref 96], xI 0 5 (fun _ => 0), xV 4 5 (fun j => .ref (82 + 1 + j)), xI 0 3 (fun _ => 0), xI 0 3 (fun _ => 0), xI 0 3 (fun _ => 0), xI 0 3 (fun _ => 0), xI 0 3 (fun _ => 0), xI 0 6 (fun _ => 0), xV 4 6 (fun j => .ref (89 + 1 + j)), xI 0 2 (fun _ => 0), xI 0 2 (fun _ => 0), xI 0 2 (fun _ => 0), xI 0 2 (fun _ => 0), xI 0 2 (fun _ => 0), xI 0 2 (fun _ => 0), xI 2 6 (fun _ => 0), xO 10 [.ref 67, .ref 69, .ref 35, .ref 55, .ref 98], xO 11 [.ref 99, .ref 100, .ref 101, .ref 102, .ref 67, .int 0], xI 0 60 (fun _ => 0), xI 0 60 (fun _ => 0), xI 0 60 (fun _ => 0), xI 0 60 (fun _ => 0), xO 12 [.int 0, .int 0, .int 0, .int 0, .ref 104, .int 0, .ref 105, .int 0, .ref 106, .ref 107, .ref 108, .int 0, .int 0, .int 0, .ref 109, .ref 110, .int 0, .ref 111, .int 0, .int 0, .int 0, .int 3, .int 0, .int 0, .ref 112, .ref 113, .ref 114, .ref 115, .ref 116, .ref 117, .ref 118, .ref 119, .int 0, .ref 120], xI 0 140 (fun _ => 0), xI 0 512 (fun _ => 0), xI 0 1040 (fun _ => 0), xI 0 8 (fun _ => 0), xI 0 8 (fun _ => 0), xI 0 80 (fun _ => 0), xI 0 8 (fun _ => 0), xI 0 500 (fun _ => 0), xI 0 6 (fun _ => 0), xI 0 6 (fun _ => 0), xI 0 48 (fun _ => 0), xI 0 5 (fun _ => 0), xI 0 15 (fun _ => 0), xI 0 6 (fun _ => 0), xI 0 12 (fun _ => 0), xI 2 6 (fun _ => 0), xI 0 8 (fun _ => 0)]) rfl ?_
  refine x_step rfl ?_
  refine x_step rfl ?_
  refine x_step rfl ?_
  refine x_step rfl ?_
  refine x_icmp_ge rfl (fun h => absurd h (by decide)) (fun _ => ?_)
  refine x_step rfl ?_
  refine x_step rfl ?_
  refine x_step rfl ?_
  refine x_step rfl ?_
  refine x_iast rfl rfl (by decide) rfl (by unfold vp_in; decide) ?_
  refine xm_hs (hp' := hz L xs ++ [xO 0 [.ref 33, .ref 35, .ref 55, .ref 66, .ref 69, .ref 97], xO 1 [.ref 34, .int 0], xI 0 501 (fun _ => 0), xO 2 [.ref 36, .ref 37, .int 0, .int 0, .int 0, .int 0], xV 3 8 (updV (updV (updV (updV (updV (updV (updV (updV (fun _ => .null) 0 (.ref 39)) 1 (.ref 41)) 2 (.ref 43)) 3 (.ref 45)) 4 (.ref 47)) 5 (.ref 49)) 6 (.ref 51)) 7 (.ref 53)), xO 3 [.ref 38, .int 0], xI 0 120 (fun _ => 0), xO 4 [.ref 40, .int 0, .int 0], xI 0 130 (fun _ => 0), xO 4 [.ref 42, .int 0, .int 0], xI 0 130 (fun _ => 0), xO 4 [.ref 44, .int 0, .int 0], xI 0 130 (fun _ => 0), xO 4 [.ref 46, .int 0, .int 0], xI 0 130 (fun _ => 0), xO 4 [.ref 48, .int 0, .int 0], xI 0 130 (fun _ => 0), xO 4 [.ref 50, .int 0, .int 0], xI 0 130 (fun _ => 0), xO 4 [.ref 52, .int 0, .int 0], xI 0 130 (fun _ => 0), xO 4 [.ref 54, .int 0, .int 0], xI 0 130 (fun _ => 0), xO 5 [.ref 56, .ref 65, .int 0], xV 4 8 (fun j => .ref (56 + 1 + j)), xI 0 10 (fun _ => 0), xI 0 10 (fun _ => 0), xI 0 10 (fun _ => 0), xI 0 10 (fun _ => 0), xI 0 10 (fun _ => 0), xI 0 10 (fun _ => 0), xI 0 10 (fun _ => 0), xI 0 10 (fun _ => 0), xI 0 8 (fun _ => 0), xO 6 [.ref 33, .ref 35, .ref 55, .ref 67, .int 0, .int 0, .int 0, .int 0, .int 0], xO 4 [.ref 68, .int 0, .int 0], xI 0 130 (fun _ => 0), xO 7 [.ref 35, .ref 70, .ref 80, .int 0, .int 0, .int 3, .int 0], xO 8 [.ref 71, .ref 72, .ref 73], xI 0 6 (upd (upd (upd (upd (upd (upd (fun _ => 0) 0 41) 1 41) 2 41) 3 41) 4 41) 5 41), xI 0 6 (upd (upd (upd (upd (upd (upd (fun _ => 0) 0 1) 1 1) 2 1) 3 1) 4 1) 5 1), xV 4 6 (fun j => .ref (73 + 1 + j)), xI 0 8 (fun _ => 0), xI 0 8 (fun _ => 0), xI 0 8 (fun _ => 0), xI 0 8 (fun _ => 0), xI 0 8 (fun _ => 0), xI 0 8 (fun _ => 0), xO 9 [.ref 81, .ref 82, .ref 88, .ref 89, .ref 96], xI 0 5 (fun _ => 0), xV 4 5 (fun j => .ref (82 + 1 + j)), xI 0 3 (fun _ => 0), xI 0 3 (fun _ => 0), xI 0 3 (fun _ => 0), xI 0 3 (fun _ => 0), xI 0 3 (fun _ => 0), xI 0 6 (fun _ => 0), xV 4 6 (fun j => .ref (89 + 1 + j)), xI 0 2 (fun _ => 0), xI 0 2 (fun _ => 0), xI 0 2 (fun _ => 0), xI 0 2 (fun _ => 0), xI 0 2 (fun _ => 0), xI 0 2 (fun _ => 0), xI 2 6 (fun _ => 0), xO 10 [.ref 67, .ref 69, .ref 35, .ref 55, .ref 98], xO 11 [.ref 99, .ref 100, .ref 101, .ref 102, .ref 67, .int 0], xI 0 60 (fun _ => 0), xI 0 60 (fun _ => 0), xI 0 60 (fun _ => 0), xI 0 60 (fun _ => 0), xO 12 [.int 0, .int 0, .int 0, .int 0, .ref 104, .int 0, .ref 105, .int 0, .ref 106, .ref 107, .ref 108, .int 0, .int 0, .int 0, .ref 109, .ref 110, .int 0, .ref 111, .int 0, .int 0, .int 0, .int 3, .int 0, .int 0, .ref 112, .ref 113, .ref 114, .ref 115, .ref 116, .ref 117, .ref 118, .ref 119, .int 0, .ref 120], xI 0 140 (fun _ => 0), xI 0 512 (fun _ => 0), xI 0 1040 (fun _ => 0), xI 0 8 (fun _ => 0), xI 0 8 (fun _ => 0), xI 0 80 (fun _ => 0), xI 0 8 (fun _ => 0), xI 0 500 (fun _ => 0), xI 0 6 (upd (fun _ => 0) 0 41), xI 0 6 (fun _ => 0), xI 0 48 (fun _ => 0), xI 0 5 (fun _ => 0), xI 0 15 (fun _ => 0), xI 0 6 (fun _ => 0), xI 0 12 (fun _ => 0), xI 2 6 (fun _ => 0), xI 0 8 (fun _ => 0)]) rfl ?_
  refine x_step rfl ?_
  refine x_step rfl ?_
  refine x_step rfl ?_
  refine x_step rfl ?_
  refine x_iast rfl rfl (by decide) rfl (by unfold vp_in; decide) ?_
  refine xm_hs (hp' := hz L xs ++ [xO 0 [.ref 33, .ref 35, .ref 55, .ref 66, .ref 69, .ref 97], xO 1 [.ref 34, .int 0], xI 0 501 (fun _ => 0), xO 2 [.ref 36, .ref 37, .int 0, .int 0, .int 0, .int 0], xV 3 8 (updV (updV (updV (updV (updV (updV (updV (updV (fun _ => .null) 0 (.ref 39)) 1 (.ref 41)) 2 (.ref 43)) 3 (.ref 45)) 4 (.ref 47)) 5 (.ref 49)) 6 (.ref 51)) 7 (.ref 53)), xO 3 [.ref 38, .int 0], xI 0 120 (fun _ => 0), xO 4 [.ref 40, .int 0, .int 0], xI 0 130 (fun _ => 0), xO 4 [.ref 42, .int 0, .int 0], xI 0 130 (fun _ => 0), xO 4 [.ref 44, .int 0, .int 0], xI 0 130 (fun _ => 0), xO 4 [.ref 46, .int 0, .int 0], xI 0 130 (fun _ => 0), xO 4 [.ref 48, .int 0, .int 0], xI 0 130 (fun _ => 0), xO 4 [.ref 50, .int 0, .int 0], xI 0 130 (fun _ => 0), xO 4 [.ref 52, .int 0, .int 0], xI 0 130 (fun _ => 0), xO 4 [.ref 54, .int 0, .int 0], xI 0 130 (fun _ => 0), xO 5 [.ref 56, .ref 65, .int 0], xV 4 8 (fun j => .ref (56 + 1 + j)), xI 0 10 (fun _ => 0), xI 0 10 (fun _ => 0), xI 0 10 (fun _ => 0), xI 0 10 (fun _ => 0), xI 0 10 (fun _ => 0), xI 0 10 (fun _ => 0), xI 0 10 (fun _ => 0), xI 0 10 (fun _ => 0), xI 0 8 (fun _ => 0), xO 6 [.ref 33, .ref 35, .ref 55, .ref 67, .int 0, .int 0, .int 0, .int 0, .int 0], xO 4 [.ref 68, .int 0, .int 0], xI 0 130 (fun _ => 0), xO 7 [.ref 35, .ref 70, .ref 80, .int 0, .int 0, .int 3, .int 0], xO 8 [.ref 71, .ref 72, .ref 73], xI 0 6 (upd (upd (upd (upd (upd (upd (fun _ => 0) 0 41) 1 41) 2 41) 3 41) 4 41) 5 41), xI 0 6 (upd (upd (upd (upd (upd (upd (fun _ => 0) 0 1) 1 1) 2 1) 3 1) 4 1) 5 1), xV 4 6 (fun j => .ref (73 + 1 + j)), xI 0 8 (fun _ => 0), xI 0 8 (fun _ => 0), xI 0 8 (fun _ => 0), xI 0 8 (fun _ => 0), xI 0 8 (fun _ => 0), xI 0 8 (fun _ => 0), xO 9 [.ref 81, .ref 82, .ref 88, .ref 89, .ref 96], xI 0 5 (fun _ => 0), xV 4 5 (fun j => .ref (82 + 1 + j)), xI 0 3 (fun _ => 0), xI 0 3 (fun _ => 0), xI 0 3 (fun _ => 0), xI 0 3 (fun _ => 0), xI 0 3 (fun _ => 0), xI 0 6 (fun _ => 0), xV 4 6 (fun j => .ref (89 + 1 + j)), xI 0 2 (fun _ => 0), xI 0 2 (fun _ => 0), xI 0 2 (fun _ => 0), xI 0 2 (fun _ => 0), xI 0 2 (fun _ => 0), xI 0 2 (fun _ => 0), xI 2 6 (fun _ => 0), xO 10 [.ref 67, .ref 69, .ref 35, .ref 55, .ref 98], xO 11 [.ref 99, .ref 100, .ref 101, .ref 102, .ref 67, .int 0], xI 0 60 (fun _ => 0), xI 0 60 (fun _ => 0), xI 0 60 (fun _ => 0), xI 0 60 (fun _ => 0), xO 12 [.int 0, .int 0, .int 0, .int 0, .ref 104, .int 0, .ref 105, .int 0, .ref 106, .ref 107, .ref 108, .int 0, .int 0, .int 0, .ref 109, .ref 110, .int 0, .ref 111, .int 0, .int 0, .int 0, .int 3, .int 0, .int 0, .ref 112, .ref 113, .ref 114, .ref 115, .ref 116, .ref 117, .ref 118, .ref 119, .int 0, .ref 120], xI 0 140 (fun _ => 0), xI 0 512 (fun _ => 0), xI 0 1040 (fun _ => 0), xI 0 8 (fun _ => 0), xI 0 8 (fun _ => 0), xI 0 80 (fun _ => 0), xI 0 8 (fun _ => 0), xI 0 500 (fun _ => 0), xI 0 6 (upd (fun _ => 0) 0 41), xI 0 6 (upd (fun _ => 0) 0 1), xI 0 48 (fun _ => 0), xI 0 5 (fun _ => 0), xI 0 15 (fun _ => 0), xI 0 6 (fun _ => 0), xI 0 12 (fun _ => 0), xI 2 6 (fun _ => 0), xI 0 8 (fun _ => 0)]) rfl ?_
  refine x_step rfl ?_
  refine xm_ls (pl' := [some (.ref 103), some (.int 1)]) rfl ?_
  refine x_step rfl ?_
  refine x_step rfl ?_
  refine x_step rfl ?_
  refine x_icmp_ge rfl (fun h => absurd h (by decide)) (fun _ => ?_)
  refine x_step rfl ?_
  refine x_step rfl ?_
  refine x_step rfl ?_
  refine x_step rfl ?_
  refine x_iast rfl rfl (by decide) rfl (by unfold vp_in; decide) ?_
  refine xm_hs (hp' := hz L xs ++ [xO 0 [.ref 33, .ref 35, .ref 55, .ref 66, .ref 69, .ref 97], xO 1 [.ref 34, .int 0], xI 0 501 (fun _ => 0), xO 2 [.ref 36, .ref 37, .int 0, .int 0, .int 0, .int 0], xV 3 8 (updV (updV (updV (updV (updV (updV (updV (updV (fun _ => .null) 0 (.ref 39)) 1 (.ref 41)) 2 (.ref 43)) 3 (.ref 45)) 4 (.ref 47)) 5 (.ref 49)) 6 (.ref 51)) 7 (.ref 53)), xO 3 [.ref 38, .int 0], xI 0 120 (fun _ => 0), xO 4 [.ref 40, .int 0, .int 0], xI 0 130 (fun _ => 0), xO 4 [.ref 42, .int 0, .int 0], xI 0 130 (fun _ => 0), xO 4 [.ref 44, .int 0, .int 0], xI 0 130 (fun _ => 0), xO 4 [.ref 46, .int 0, .int 0], xI 0 130 (fun _ => 0), xO 4 [.ref 48, .int 0, .int 0], xI 0 130 (fun _ => 0), xO 4 [.ref 50, .int 0, .int 0], xI 0 130 (fun _ => 0), xO 4 [.ref 52, .int 0, .int 0], xI 0 130 (fun _ => 0), xO 4 [.ref 54, .int 0, .int 0], xI 0 130 (fun _ => 0), xO 5 [.ref 56, .ref 65, .int 0], xV 4 8 (fun j => .ref (56 + 1 + j)), xI 0 10 (fun _ => 0), xI 0 10 (fun _ => 0), xI 0 10 (fun _ => 0), xI 0 10 (fun _ => 0), xI 0 10 (fun _ => 0), xI 0 10 (fun _ => 0), xI 0 10 (fun _ => 0), xI 0 10 (fun _ => 0), xI 0 8 (fun _ => 0), xO 6 [.ref 33, .ref 35, .ref 55, .ref 67, .int 0, .int 0, .int 0, .int 0, .int 0], xO 4 [.ref 68, .int 0, .int 0], xI 0 130 (fun _ => 0), xO 7 [.ref 35, .ref 70, .ref 80, .int 0, .int 0, .int 3, .int 0], xO 8 [.ref 71, .ref 72, .ref 73], xI 0 6 (upd (upd (upd (upd (upd (upd (fun _ => 0) 0 41) 1 41) 2 41) 3 41) 4 41) 5 41), xI 0 6 (upd (upd (upd (upd (upd (upd (fun _ => 0) 0 1) 1 1) 2 1) 3 1) 4 1) 5 1), xV 4 6 (fun j => .ref (73 + 1 + j)), xI 0 8 (fun _ => 0), xI 0 8 (fun _ => 0), xI 0 8 (fun _ => 0), xI 0 8 (fun _ => 0), xI 0 8 (fun _ => 0), xI 0 8 (fun _ => 0), xO 9 [.ref 81, .ref 82, .ref 88, .ref 89, .ref 96], xI 0 5 (fun _ => 0), xV 4 5 (fun j => .ref (82 + 1 + j)), xI 0 3 (fun _ => 0), xI 0 3 (fun _ => 0), xI 0 3 (fun _ => 0), xI 0 3 (fun _ => 0), xI 0 3 (fun _ => 0), xI 0 6 (fun _ => 0), xV 4 6 (fun j => .ref (89 + 1 + j)), xI 0 2 (fun _ => 0), xI 0 2 (fun _ => 0), xI 0 2 (fun _ => 0), xI 0 2 (fun _ => 0), xI 0 2 (fun _ => 0), xI 0 2 (fun _ => 0), xI 2 6 (fun _ => 0), xO 10 [.ref 67, .ref 69, .ref 35, .ref 55, .ref 98], xO 11 [.ref 99, .ref 100, .ref 101, .ref 102, .ref 67, .int 0], xI 0 60 (fun _ => 0), xI 0 60 (fun _ => 0), xI 0 60 (fun _ => 0), xI 0 60 (fun _ => 0), xO 12 [.int 0, .int 0, .int 0, .int 0, .ref 104, .int 0, .ref 105, .int 0, .ref 106, .ref 107, .ref 108, .int 0, .int 0, .int 0, .ref 109, .ref 110, .int 0, .ref 111, .int 0, .int 0, .int 0, .int 3, .int 0, .int 0, .ref 112, .ref 113, .ref 114, .ref 115, .ref 116, .ref 117, .ref 118, .ref 119, .int 0, .ref 120], xI 0 140 (fun _ => 0), xI 0 512 (fun _ => 0), xI 0 1040 (fun _ => 0), xI 0 8 (fun _ => 0), xI 0 8 (fun _ => 0), xI 0 80 (fun _ => 0), xI 0 8 (fun _ => 0), xI 0 500 (fun _ => 0), xI 0 6 (upd (upd (fun _ => 0) 0 41) 1 41), xI 0 6 (upd (fun _ => 0) 0 1), xI 0 48 (fun _ => 0), xI 0 5 (fun _ => 0), xI 0 15 (fun _ => 0), xI 0 6 (fun _ => 0), xI 0 12 (fun _ => 0), xI 2 6 (fun _ => 0), xI 0 8 (fun _ => 0)]) rfl ?_
  refine x_step rfl ?_
  refine x_step rfl ?_
  refine x_step rfl ?_
  refine x_step rfl ?_
  refine x_iast rfl rfl (by decide) rfl (by unfold vp_in; decide) ?_
  refine xm_hs (hp' := hz L xs ++ [xO 0 [.ref 33, .ref 35, .ref 55, .ref 66, .ref 69, .ref 97], xO 1 [.ref 34, .int 0], xI 0 501 (fun _ => 0), xO 2 [.ref 36, .ref 37, .int 0, .int 0, .int 0, .int 0], xV 3 8 (updV (updV (updV (updV (updV (updV (updV (updV (fun _ => .null) 0 (.ref 39)) 1 (.ref 41)) 2 (.ref 43)) 3 (.ref 45)) 4 (.ref 47)) 5 (.ref 49)) 6 (.ref 51)) 7 (.ref 53)), xO 3 [.ref 38, .int 0], xI 0 120 (fun _ => 0), xO 4 [.ref 40, .int 0, .int 0], xI 0 130 (fun _ => 0), xO 4 [.ref 42, .int 0, .int 0], xI 0 130 (fun _ => 0), xO 4 [.ref 44, .int 0, .int 0], xI 0 130 (fun _ => 0), xO 4 [.ref 46, .int 0, .int 0], xI 0 130 (fun _ => 0), xO 4 [.ref 48, .int 0, .int 0], xI 0 130 (fun _ => 0), xO 4 [.ref 50, .int 0, .int 0], xI 0 130 (fun _ => 0), xO 4 [.ref 52, .int 0, .int 0], xI 0 130 (fun _ => 0), xO 4 [.ref 54, .int 0, .int 0], xI 0 130 (fun _ => 0), xO 5 [.ref 56, .ref 65, .int 0], xV 4 8 (fun j => .ref (56 + 1 + j)), xI 0 10 (fun _ => 0), xI 0 10 (fun _ => 0), xI 0 10 (fun _ => 0), xI 0 10 (fun _ => 0), xI 0 10 (fun _ => 0), xI 0 10 (fun _ => 0), xI 0 10 (fun _ => 0), xI 0 10 (fun _ => 0), xI 0 8 (fun _ => 0), xO 6 [.ref 33, .ref 35, .ref 55, .ref 67, .int 0, .int 0, .int 0, .int 0, .int 0], xO 4 [.ref 68, .int 0, .int 0], xI 0 130 (fun _ => 0), xO 7 [.ref 35, .ref 70, .ref 80, .int 0, .int 0, .int 3, .int 0], xO 8 [.ref 71, .ref 72, .ref 73], xI 0 6 (upd (upd (upd (upd (upd (upd (fun _ => 0) 0 41) 1 41) 2 41) 3 41) 4 41) 5 41), xI 0 6 (upd (upd (upd (upd (upd (upd (fun _ => 0) 0 1) 1 1) 2 1) 3 1) 4 1) 5 1), xV 4 6 (fun j => .ref (73 + 1 + j)), xI 0 8 (fun _ => 0), xI 0 8 (fun _ => 0), xI 0 8 (fun _ => 0), xI 0 8 (fun _ => 0), xI 0 8 (fun _ => 0), xI 0 8 (fun _ => 0), xO 9 [.ref 81, .ref 82, .ref 88, .ref 89, .ref 96], xI 0 5 (fun _ => 0), xV 4 5 (fun j => .ref (82 + 1 + j)), xI 0 3 (fun _ => 0), xI 0 3 (fun _ => 0), xI 0 3 (fun _ => 0), xI 0 3 (fun _ => 0), xI 0 3 (fun _ => 0), xI 0 6 (fun _ => 0), xV 4 6 (fun j => .ref (89 + 1 + j)), xI 0 2 (fun _ => 0), xI 0 2 (fun _ => 0), xI 0 2 (fun _ => 0), xI 0 2 (fun _ => 0), xI 0 2 (fun _ => 0), xI 0 2 (fun _ => 0), xI 2 6 (fun _ => 0), xO 10 [.ref 67, .ref 69, .ref 35, .ref 55, .ref 98], xO 11 [.ref 99, .ref 100, .ref 101, .ref 102, .ref 67, .int 0], xI 0 60 (fun _ => 0), xI 0 60 (fun _ => 0), xI 0 60 (fun _ => 0), xI 0 60 (fun _ => 0), xO 12 [.int 0, .int 0, .int 0, .int 0, .ref 104, .int 0, .ref 105, .int 0, .ref 106, .ref 107, .ref 108, .int 0, .int 0, .int 0, .ref 109, .ref 110, .int 0, .ref 111, .int 0, .int 0, .int 0, .int 3, .int 0, .int 0, .ref 112, .ref 113, .ref 114, .ref 115, .ref 116, .ref 117, .ref 118, .ref 119, .int 0, .ref 120], xI 0 140 (fun _ => 0), xI 0 512 (fun _ => 0), xI 0 1040 (fun _ => 0), xI 0 8 (fun _ => 0), xI 0 8 (fun _ => 0), xI 0 80 (fun _ => 0), xI 0 8 (fun _ => 0), xI 0 500 (fun _ => 0), xI 0 6 (upd (upd (fun _ => 0) 0 41) 1 41), xI 0 6 (upd (upd (fun _ => 0) 0 1) 1 1), xI 0 48 (fun _ => 0), xI 0 5 (fun _ => 0), xI 0 15 (fun _ => 0), xI 0 6 (fun _ => 0), xI 0 12 (fun _ => 0), xI 2 6 (fun _ => 0), xI 0 8 (fun _ => 0)]) rfl ?_
  refine x_step rfl ?_
  refine xm_ls (pl' := [some (.ref 103), some (.int 2)]) rfl ?_
  refine x_step rfl ?_
  refine x_step rfl ?_
  refine x_step rfl ?_
  refine x_icmp_ge rfl (fun h => absurd h (by decide)) (fun _ => ?_)
  refine x_step rfl ?_
  refine x_step rfl ?_
  refine x_step rfl ?_
  refine x_step rfl ?_
  refine x_iast rfl rfl (by decide) rfl (by unfold vp_in; decide) ?_
  refine xm_hs (hp' := hz L xs ++ [xO 0 [.ref 33, .ref 35, .ref 55, .ref 66, .ref 69, .ref 97], xO 1 [.ref 34, .int 0], xI 0 501 (fun _ => 0), xO 2 [.ref 36, .ref 37, .int 0, .int 0, .int 0, .int 0], xV 3 8 (updV (updV (updV (updV (updV (updV (updV (updV (fun _ => .null) 0 (.ref 39)) 1 (.ref 41)) 2 (.ref 43)) 3 (.ref 45)) 4 (.ref 47)) 5 (.ref 49)) 6 (.ref 51)) 7 (.ref 53)), xO 3 [.ref 38, .int 0], xI 0 120 (fun _ => 0), xO 4 [.ref 40, .int 0, .int 0], xI 0 130 (fun _ => 0), xO 4 [.ref 42, .int 0, .int 0], xI 0 130 (fun _ => 0), xO 4 [.ref 44, .int 0, .int 0], xI 0 130 (fun _ => 0), xO 4 [.ref 46, .int 0, .int 0], xI 0 130 (fun _ => 0), xO 4 [.ref 48, .int 0, .int 0], xI 0 130 (fun _ => 0), xO 4 [.ref 50, .int 0, .int 0], xI 0 130 (fun _ => 0), xO 4 [.ref 52, .int 0, .int 0], xI 0 130 (fun _ => 0), xO 4 [.ref 54, .int 0, .int 0], xI 0 130 (fun _ => 0), xO 5 [.ref 56, .ref 65, .int 0], xV 4 8 (fun j => .ref (56 + 1 + j)), xI 0 10 (fun _ => 0), xI 0 10 (fun _ => 0), xI 0 10 (fun _ => 0), xI 0 10 (fun _ => 0), xI 0 10 (fun _ => 0), xI 0 10 (fun _ => 0), xI 0 10 (fun _ => 0), xI 0 10 (fun _ => 0), xI 0 8 (fun _ => 0), xO 6 [.ref 33, .ref 35, .ref 55, .ref 67, .int 0, .int 0, .int 0, .int 0, .int 0], xO 4 [.ref 68, .int 0, .int 0], xI 0 130 (fun _ => 0), xO 7 [.ref 35, .ref 70, .ref 80, .int 0, .int 0, .int 3, .int 0], xO 8 [.ref 71, .ref 72, .ref 73], xI 0 6 (upd (upd (upd (upd (upd (upd (fun _ => 0) 0 41) 1 41) 2 41) 3 41) 4 41) 5 41), xI 0 6 (upd (upd (upd (upd (upd (upd (fun _ => 0) 0 1) 1 1) 2 1) 3 1) 4 1) 5 1), xV 4 6 (fun j => .ref (73 + 1 + j)), xI 0 8 (fun _ => 0), xI 0 8 (fun _ => 0), xI 0 8 (fun _ => 0), xI 0 8 (fun _ => 0), xI 0 8 (fun _ => 0), xI 0 8 (fun _ => 0), xO 9 [.ref 81, .ref 82, .ref 88, .ref 89, .ref 96], xI 0 5 (fun _ => 0), xV 4 5 (fun j => .ref (82 + 1 + j)), xI 0 3 (fun _ => 0), xI 0 3 (fun _ => 0), xI 0 3 (fun _ => 0), xI 0 3 (fun _ => 0), xI 0 3 (fun _ => 0), xI 0 6 (fun _ => 0), xV 4 6 (fun j => .ref (89 + 1 + j)), xI 0 2 (fun _ => 0), xI 0 2 (fun _ => 0), xI 0 2 (fun _ => 0), xI 0 2 (fun _ => 0), xI 0 2 (fun _ => 0), xI 0 2 (fun _ => 0), xI 2 6 (fun _ => 0), xO 10 [.ref 67, .ref 69, .ref 35, .ref 55, .ref 98], xO 11 [.ref 99, .ref 100, .ref 101, .ref 102, .ref 67, .int 0], xI 0 60 (fun _ => 0), xI 0 60 (fun _ => 0), xI 0 60 (fun _ => 0), xI 0 60 (fun _ => 0), xO 12 [.int 0, .int 0, .int 0, .int 0, .ref 104, .int 0, .ref 105, .int 0, .ref 106, .ref 107, .ref 108, .int 0, .int 0, .int 0, .ref 109, .ref 110, .int 0, .ref 111, .int 0, .int 0, .int 0, .int 3, .int 0, .int 0, .ref 112, .ref 113, .ref 114, .ref 115, .ref 116, .ref 117, .ref 118, .ref 119, .int 0, .ref 120], xI 0 140 (fun _ => 0), xI 0 512 (fun _ => 0), xI 0 1040 (fun _ => 0), xI 0 8 (fun _ => 0), xI 0 8 (fun _ => 0), xI 0 80 (fun _ => 0), xI 0 8 (fun _ => 0), xI 0 500 (fun _ => 0), xI 0 6 (upd (upd (upd (fun _ => 0) 0 41) 1 41) 2 41), xI 0 6 (upd (upd (fun _ => 0) 0 1) 1 1), xI 0 48 (fun _ => 0), xI 0 5 (fun _ => 0), xI 0 15 (fun _ => 0), xI 0 6 (fun _ => 0), xI 0 12 (fun _ => 0), xI 2 6 (fun _ => 0), xI 0 8 (fun _ => 0)]) rfl ?_
  refine x_step rfl ?_
  refine x_step rfl ?_
  refine x_step rfl ?_
  refine x_step rfl ?_
  refine x_iast rfl rfl (by decide) rfl (by unfold vp_in; decide) ?_
  refine xm_hs (hp' := hz L xs ++ [xO 0 [.ref 33, .ref 35, .ref 55, .ref 66, .ref 69, .ref 97], xO 1 [.ref 34, .int 0], xI 0 501 (fun _ => 0), xO 2 [.ref 36, .ref 37, .int 0, .int 0, .int 0, .int 0], xV 3 8 (updV (updV (updV (updV (updV (updV (updV (updV (fun _ => .null) 0 (.ref 39)) 1 (.ref 41)) 2 (.ref 43)) 3 (.ref 45)) 4 (.ref 47)) 5 (.ref 49)) 6 (.ref 51)) 7 (.ref 53)), xO 3 [.ref 38, .int 0], xI 0 120 (fun _ => 0), xO 4 [.ref 40, .int 0, .int 0], xI 0 130 (fun _ => 0), xO 4 [.ref 42, .int 0, .int 0], xI 0 130 (fun _ => 0), xO 4 [.ref 44, .int 0, .int 0], xI 0 130 (fun _ => 0), xO 4 [.ref 46, .int 0, .int 0], xI 0 130 (fun _ => 0), xO 4 [.ref 48, .int 0, .int 0], xI 0 130 (fun _ => 0), xO 4 [.ref 50, .int 0, .int 0], xI 0 130 (fun _ => 0), xO 4 [.ref 52, .int 0, .int 0], xI 0 130 (fun _ => 0), xO 4 [.ref 54, .int 0, .int 0], xI 0 130 (fun _ => 0), xO 5 [.ref 56, .ref 65, .int 0], xV 4 8 (fun j => .ref (56 + 1 + j)), xI 0 10 (fun _ => 0), xI 0 10 (fun _ => 0), xI 0 10 (fun _ => 0), xI 0 10 (fun _ => 0), xI 0 10 (fun _ => 0), xI 0 10 (fun _ => 0), xI 0 10 (fun _ => 0), xI 0 10 (fun _ => 0), xI 0 8 (fun _ => 0), xO 6 [.ref 33, .ref 35, .ref 55, .ref 67, .int 0, .int 0, .int 0, .int 0, .int 0], xO 4 [.ref 68, .int 0, .int 0], xI 0 130 (fun _ => 0), xO 7 [.ref 35, .ref 70, .ref 80, .int 0, .int 0, .int 3, .int 0], xO 8 [.ref 71, .ref 72, .ref 73], xI 0 6 (upd (upd (upd (upd (upd (upd (fun _ => 0) 0 41) 1 41) 2 41) 3 41) 4 41) 5 41), xI 0 6 (upd (upd (upd (upd (upd (upd (fun _ => 0) 0 1) 1 1) 2 1) 3 1) 4 1) 5 1), xV 4 6 (fun j => .ref (73 + 1 + j)), xI 0 8 (fun _ => 0), xI 0 8 (fun _ => 0), xI 0 8 (fun _ => 0), xI 0 8 (fun _ => 0), xI 0 8 (fun _ => 0), xI 0 8 (fun _ => 0), xO 9 [.ref 81, .ref 82, .ref 88, .ref 89, .ref 96], xI 0 5 (fun _ => 0), xV 4 5 (fun j => .ref (82 + 1 + j)), xI 0 3 (fun _ => 0), xI 0 3 (fun _ => 0), xI 0 3 (fun _ => 0), xI 0 3 (fun _ => 0), xI 0 3 (fun _ => 0), xI 0 6 (fun _ => 0), xV 4 6 (fun j => .ref (89 + 1 + j)), xI 0 2 (fun _ => 0), xI 0 2 (fun _ => 0), xI 0 2 (fun _ => 0), xI 0 2 (fun _ => 0), xI 0 2 (fun _ => 0), xI 0 2 (fun _ => 0), xI 2 6 (fun _ => 0), xO 10 [.ref 67, .ref 69, .ref 35, .ref 55, .ref 98], xO 11 [.ref 99, .ref 100, .ref 101, .ref 102, .ref 67, .int 0], xI 0 60 (fun _ => 0), xI 0 60 (fun _ => 0), xI 0 60 (fun _ => 0), xI 0 60 (fun _ => 0), xO 12 [.int 0, .int 0, .int 0, .int 0, .ref 104, .int 0, .ref 105, .int 0, .ref 106, .ref 107, .ref 108, .int 0, .int 0, .int 0, .ref 109, .ref 110, .int 0, .ref 111, .int 0, .int 0, .int 0, .int 3, .int 0, .int 0, .ref 112, .ref 113, .ref 114, .ref 115, .ref 116, .ref 117, .ref 118, .ref 119, .int 0, .ref 120], xI 0 140 (fun _ => 0), xI 0 512 (fun _ => 0), xI 0 1040 (fun _ => 0), xI 0 8 (fun _ => 0), xI 0 8 (fun _ => 0), xI 0 80 (fun _ => 0), xI 0 8 (fun _ => 0), xI 0 500 (fun _ => 0), xI 0 6 (upd (upd (upd (fun _ => 0) 0 41) 1 41) 2 41), xI 0 6 (upd (upd (upd (fun _ => 0) 0 1) 1 1) 2 1), xI 0 48 (fun _ => 0), xI 0 5 (fun _ => 0), xI 0 15 (fun _ => 0), xI 0 6 (fun _ => 0), xI 0 12 (fun _ => 0), xI 2 6 (fun _ => 0), xI 0 8 (fun _ => 0)]) rfl ?_
  refine x_step rfl ?_
  refine xm_ls (pl' := [some (.ref 103), some (.int 3)]) rfl ?_
  refine x_step rfl ?_
  refine x_step rfl ?_
  refine x_step rfl ?_
  refine x_icmp_ge rfl (fun h => absurd h (by decide)) (fun _ => ?_)
  refine x_step rfl ?_
  refine x_step rfl ?_
  refine x_step rfl ?_
  refine x_step rfl ?_
  refine x_iast rfl rfl (by decide) rfl (by unfold vp_in; decide) ?_
  refine xm_hs (hp' := hz L xs ++ [xO 0 [.ref 33, .ref 35, .ref 55, .ref 66, .ref 69, .ref 97], xO 1 [.ref 34, .int 0], xI 0 501 (fun _ => 0), xO 2 [.ref 36, .ref 37, .int 0, .int 0, .int 0, .int 0], xV 3 8 (updV (updV (updV (updV (updV (updV (updV (updV (fun _ => .null) 0 (.ref 39)) 1 (.ref 41)) 2 (.ref 43)) 3 (.ref 45)) 4 (.ref 47)) 5 (.ref 49)) 6 (.ref 51)) 7 (.ref 53)), xO 3 [.ref 38, .int 0], xI 0 120 (fun _ => 0), xO 4 [.ref 40, .int 0, .int 0], xI 0 130 (fun _ => 0), xO 4 [.ref 42, .int 0, .int 0], xI 0 130 (fun _ => 0), xO 4 [.ref 44, .int 0, .int 0], xI 0 130 (fun _ => 0), xO 4 [.ref 46, .int 0, .int 0], xI 0 130 (fun _ => 0), xO 4 [.ref 48, .int 0, .int 0], xI 0 130 (fun _ => 0), xO 4 [.ref 50, .int 0, .int 0], xI 0 130 (fun _ => 0), xO 4 [.ref 52, .int 0, .int 0], xI 0 130 (fun _ => 0), xO 4 [.ref 54, .int 0, .int 0], xI 0 130 (fun _ => 0), xO 5 [.ref 56, .ref 65, .int 0], xV 4 8 (fun j => .ref (56 + 1 + j)), xI 0 10 (fun _ => 0), xI 0 10 (fun _ => 0), xI 0 10 (fun _ => 0), xI 0 10 (fun _ => 0), xI 0 10 (fun _ => 0), xI 0 10 (fun _ => 0), xI 0 10 (fun _ => 0), xI 0 10 (fun _ => 0), xI 0 8 (fun _ => 0), xO 6 [.ref 33, .ref 35, .ref 55, .ref 67, .int 0, .int 0, .int 0, .int 0, .int 0], xO 4 [.ref 68, .int 0, .int 0], xI 0 130 (fun _ => 0), xO 7 [.ref 35, .ref 70, .ref 80, .int 0, .int 0, .int 3, .int 0], xO 8 [.ref 71, .ref 72, .ref 73], xI 0 6 (upd (upd (upd (upd (upd (upd (fun _ => 0) 0 41) 1 41) 2 41) 3 41) 4 41) 5 41), xI 0 6 (upd (upd (upd (upd (upd (upd (fun _ => 0) 0 1) 1 1) 2 1) 3 1) 4 1) 5 1), xV 4 6 (fun j => .ref (73 + 1 + j)), xI 0 8 (fun _ => 0), xI 0 8 (fun _ => 0), xI 0 8 (fun _ => 0), xI 0 8 (fun _ => 0), xI 0 8 (fun _ => 0), xI 0 8 (fun _ => 0), xO 9 [.ref 81, .ref 82, .ref 88, .ref 89, .ref 96], xI 0 5 (fun _ => 0), xV 4 5 (fun j => .ref (82 + 1 + j)), xI 0 3 (fun _ => 0), xI 0 3 (fun _ => 0), xI 0 3 (fun _ => 0), xI 0 3 (fun _ => 0), xI 0 3 (fun _ => 0), xI 0 6 (fun _ => 0), xV 4 6 (fun j => .ref (89 + 1 + j)), xI 0 2 (fun _ => 0), xI 0 2 (fun _ => 0), xI 0 2 (fun _ => 0), xI 0 2 (fun _ => 0), xI 0 2 (fun _ => 0), xI 0 2 (fun _ => 0), xI 2 6 (fun _ => 0), xO 10 [.ref 67, .ref 69, .ref 35, .ref 55, .ref 98], xO 11 [.ref 99, .ref 100, .ref 101, .ref 102, .ref 67, .int 0], xI 0 60 (fun _ => 0), xI 0 60 (fun _ => 0), xI 0 60 (fun _ => 0), xI 0 60 (fun _ => 0), xO 12 [.int 0, .int 0, .int 0, .int 0, .ref 104, .int 0, .ref 105, .int 0, .ref 106, .ref 107, .ref 108, .int 0, .int 0, .int 0, .ref 109, .ref 110, .int 0, .ref 111, .int 0, .int 0, .int 0, .int 3, .int 0, .int 0, .ref 112, .ref 113, .ref 114, .ref 115, .ref 116, .ref 117, .ref 118, .ref 119, .int 0, .ref 120], xI 0 140 (fun _ => 0), xI 0 512 (fun _ => 0), xI 0 1040 (fun _ => 0), xI 0 8 (fun _ => 0), xI 0 8 (fun _ => 0), xI 0 80 (fun _ => 0), xI 0 8 (fun _ => 0), xI 0 500 (fun _ => 0), xI 0 6 (upd (upd (upd (upd (fun _ => 0) 0 41) 1 41) 2 41) 3 41), xI 0 6 (upd (upd (upd (fun _ => 0) 0 1) 1 1) 2 1), xI 0 48 (fun _ => 0), xI 0 5 (fun _ => 0), xI 0 15 (fun _ => 0), xI 0 6 (fun _ => 0), xI 0 12 (fun _ => 0), xI 2 6 (fun _ => 0), xI 0 8 (fun _ => 0)]) rfl ?_
  refine x_step rfl ?_
  refine x_step rfl ?_
  refine x_step rfl ?_
  refine x_step rfl ?_
  refine x_iast rfl rfl (by decide) rfl (by unfold vp_in; decide) ?_
  refine xm_hs (hp' := hz L xs ++ [xO 0 [.ref 33, .ref 35, .ref 55, .ref 66, .ref 69, .ref 97], xO 1 [.ref 34, .int 0], xI 0 501 (fun _ => 0), xO 2 [.ref 36, .ref 37, .int 0, .int 0, .int 0, .int 0], xV 3 8 (updV (updV (updV (updV (updV (updV (updV (updV (fun _ => .null) 0 (.ref 39)) 1 (.ref 41)) 2 (.ref 43)) 3 (.ref 45)) 4 (.ref 47)) 5 (.ref 49)) 6 (.ref 51)) 7 (.ref 53)), xO 3 [.ref 38, .int 0], xI 0 120 (fun _ => 0), xO 4 [.ref 40, .int 0, .int 0], xI 0 130 (fun _ => 0), xO 4 [.ref 42, .int 0, .int 0], xI 0 130 (fun _ => 0), xO 4 [.ref 44, .int 0, .int 0], xI 0 130 (fun _ => 0), xO 4 [.ref 46, .int 0, .int 0], xI 0 130 (fun _ => 0), xO 4 [.ref 48, .int 0, .int 0], xI 0 130 (fun _ => 0), xO 4 [.ref 50, .int 0, .int 0], xI 0 130 (fun _ => 0), xO 4 [.ref 52, .int 0, .int 0], xI 0 130 (fun _ => 0), xO 4 [.ref 54, .int 0, .int 0], xI 0 130 (fun _ => 0), xO 5 [.ref 56, .ref 65, .int 0], xV 4 8 (fun j => .ref (56 + 1 + j)), xI 0 10 (fun _ => 0), xI 0 10 (fun _ => 0), xI 0 10 (fun _ => 0), xI 0 10 (fun _ => 0), xI 0 10 (fun _ => 0), xI 0 10 (fun _ => 0), xI 0 10 (fun _ => 0), xI 0 10 (fun _ => 0), xI 0 8 (fun _ => 0), xO 6 [.ref 33, .ref 35, .ref 55, .ref 67, .int 0, .int 0, .int 0, .int 0, .int 0], xO 4 [.ref 68, .int 0, .int 0], xI 0 130 (fun _ => 0), xO 7 [.ref 35, .ref 70, .ref 80, .int 0, .int 0, .int 3, .int 0], xO 8 [.ref 71, .ref 72, .ref 73], xI 0 6 (upd (upd (upd (upd (upd (upd (fun _ => 0) 0 41) 1 41) 2 41) 3 41) 4 41) 5 41), xI 0 6 (upd (upd (upd (upd (upd (upd (fun _ => 0) 0 1) 1 1) 2 1) 3 1) 4 1) 5 1), xV 4 6 (fun j => .ref (73 + 1 + j)), xI 0 8 (fun _ => 0), xI 0 8 (fun _ => 0), xI 0 8 (fun _ => 0), xI 0 8 (fun _ => 0), xI 0 8 (fun _ => 0), xI 0 8 (fun _ => 0), xO 9 [.ref 81, .ref 82, .ref 88, .ref 89, .ref 96], xI 0 5 (fun _ => 0), xV 4 5 (fun j => .ref (82 + 1 + j)), xI 0 3 (fun _ => 0), xI 0 3 (fun _ => 0), xI 0 3 (fun _ => 0), xI 0 3 (fun _ => 0), xI 0 3 (fun _ => 0), xI 0 6 (fun _ => 0), xV 4 6 (fun j => .ref (89 + 1 + j)), xI 0 2 (fun _ => 0), xI 0 2 (fun _ => 0), xI 0 2 (fun _ => 0), xI 0 2 (fun _ => 0), xI 0 2 (fun _ => 0), xI 0 2 (fun _ => 0), xI 2 6 (fun _ => 0), xO 10 [.ref 67, .ref 69, .ref 35, .ref 55, .ref 98], xO 11 [.ref 99, .ref 100, .ref 101, .ref 102, .ref 67, .int 0], xI 0 60 (fun _ => 0), xI 0 60 (fun _ => 0), xI 0 60 (fun _ => 0), xI 0 60 (fun _ => 0), xO 12 [.int 0, .int 0, .int 0, .int 0, .ref 104, .int 0, .ref 105, .int 0, .ref 106, .ref 107, .ref 108, .int 0, .int 0, .int 0, .ref 109, .ref 110, .int 0, .ref 111, .int 0, .int 0, .int 0, .int 3, .int 0, .int 0, .ref 112, .ref 113, .ref 114, .ref 115, .ref 116, .ref 117, .ref 118, .ref 119, .int 0, .ref 120], xI 0 140 (fun _ => 0), xI 0 512 (fun _ => 0), xI 0 1040 (fun _ => 0), xI 0 8 (fun _ => 0), xI 0 8 (fun _ => 0), xI 0 80 (fun _ => 0), xI 0 8 (fun _ => 0), xI 0 500 (fun _ => 0), xI 0 6 (upd (upd (upd (upd (fun _ => 0) 0 41) 1 41) 2 41) 3 41), xI 0 6 (upd (upd (upd (upd (fun _ => 0) 0 1) 1 1) 2 1) 3 1), xI 0 48 (fun _ => 0), xI 0 5 (fun _ => 0), xI 0 15 (fun _ => 0), xI 0 6 (fun _ => 0), xI 0 12 (fun _ => 0), xI 2 6 (fun _ => 0), xI 0 8 (fun _ => 0)]) rfl ?_
  refine x_step rfl ?_
  refine xm_ls (pl' := [some (.ref 103), some (.int 4)]) rfl ?_
  refine x_step rfl ?_
  refine x_step rfl ?_
  refine x_step rfl ?_
  refine x_icmp_ge rfl (fun h => absurd h (by decide)) (fun _ => ?_)
  refine x_step rfl ?_
  refine x_step rfl ?_
  refine x_step rfl ?_
  refine x_step rfl ?_
  refine x_iast rfl rfl (by decide) rfl (by unfold vp_in; decide) ?_
  refine xm_hs (hp' := hz L xs ++ [xO 0 [.ref 33, .ref 35, .ref 55, .ref 66, .ref 69, .ref 97], xO 1 [.ref 34, .int 0], xI 0 501 (fun _ => 0), xO 2 [.ref 36, .ref 37, .int 0, .int 0, .int 0, .int 0], xV 3 8 (updV (updV (updV (updV (updV (updV (updV (updV (fun _ => .null) 0 (.ref 39)) 1 (.ref 41)) 2 (.ref 43)) 3 (.ref 45)) 4 (.ref 47)) 5 (.ref 49)) 6 (.ref 51)) 7 (.ref 53)), xO 3 [.ref 38, .int 0], xI 0 120 (fun _ => 0), xO 4 [.ref 40, .int 0, .int 0], xI 0 130 (fun _ => 0), xO 4 [.ref 42, .int 0, .int 0], xI 0 130 (fun _ => 0), xO 4 [.ref 44, .int 0, .int 0], xI 0 130 (fun _ => 0), xO 4 [.ref 46, .int 0, .int 0], xI 0 130 (fun _ => 0), xO 4 [.ref 48, .int 0, .int 0], xI 0 130 (fun _ => 0), xO 4 [.ref 50, .int 0, .int 0], xI 0 130 (fun _ => 0), xO 4 [.ref 52, .int 0, .int 0], xI 0 130 (fun _ => 0), xO 4 [.ref 54, .int 0, .int 0], xI 0 130 (fun _ => 0), xO 5 [.ref 56, .ref 65, .int 0], xV 4 8 (fun j => .ref (56 + 1 + j)), xI 0 10 (fun _ => 0), xI 0 10 (fun _ => 0), xI 0 10 (fun _ => 0), xI 0 10 (fun _ => 0), xI 0 10 (fun _ => 0), xI 0 10 (fun _ => 0), xI 0 10 (fun _ => 0), xI 0 10 (fun _ => 0), xI 0 8 (fun _ => 0), xO 6 [.ref 33, .ref 35, .ref 55, .ref 67, .int 0, .int 0, .int 0, .int 0, .int 0], xO 4 [.ref 68, .int 0, .int 0], xI 0 130 (fun _ => 0), xO 7 [.ref 35, .ref 70, .ref 80, .int 0, .int 0, .int 3, .int 0], xO 8 [.ref 71, .ref 72, .ref 73], xI 0 6 (upd (upd (upd (upd (upd (upd (fun _ => 0) 0 41) 1 41) 2 41) 3 41) 4 41) 5 41), xI 0 6 (upd (upd (upd (upd (upd (upd (fun _ => 0) 0 1) 1 1) 2 1) 3 1) 4 1) 5 1), xV 4 6 (fun j => .ref (73 + 1 + j)), xI 0 8 (fun _ => 0), xI 0 8 (fun _ => 0), xI 0 8 (fun _ => 0), xI 0 8 (fun _ => 0), xI 0 8 (fun _ => 0), xI 0 8 (fun _ => 0), xO 9 [.ref 81, .ref 82, .ref 88, .ref 89, .ref 96], xI 0 5 (fun _ => 0), xV 4 5 (fun j => .ref (82 + 1 + j)), xI 0 3 (fun _ => 0), xI 0 3 (fun _ => 0), xI 0 3 (fun _ => 0), xI 0 3 (fun _ => 0), xI 0 3 (fun _ => 0), xI 0 6 (fun _ => 0), xV 4 6 (fun j => .ref (89 + 1 + j)), xI 0 2 (fun _ => 0), xI 0 2 (fun _ => 0), xI 0 2 (fun _ => 0), xI 0 2 (fun _ => 0), xI 0 2 (fun _ => 0), xI 0 2 (fun _ => 0), xI 2 6 (fun _ => 0), xO 10 [.ref 67, .ref 69, .ref 35, .ref 55, .ref 98], xO 11 [.ref 99, .ref 100, .ref 101, .ref 102, .ref 67, .int 0], xI 0 60 (fun _ => 0), xI 0 60 (fun _ => 0), xI 0 60 (fun _ => 0), xI 0 60 (fun _ => 0), xO 12 [.int 0, .int 0, .int 0, .int 0, .ref 104, .int 0, .ref 105, .int 0, .ref 106, .ref 107, .ref 108, .int 0, .int 0, .int 0, .ref 109, .ref 110, .int 0, .ref 111, .int 0, .int 0, .int 0, .int 3, .int 0, .int 0, .ref 112, .ref 113, .ref 114, .ref 115, .ref 116, .ref 117, .ref 118, .ref 119, .int 0, .ref 120], xI 0 140 (fun _ => 0), xI 0 512 (fun _ => 0), xI 0 1040 (fun _ => 0), xI 0 8 (fun _ => 0), xI 0 8 (fun _ => 0), xI 0 80 (fun _ => 0), xI 0 8 (fun _ => 0), xI 0 500 (fun _ => 0), xI 0 6 (upd (upd (upd (upd (upd (fun _ => 0) 0 41) 1 41) 2 41) 3 41) 4 41), xI 0 6 (upd (upd (upd (upd (fun _ => 0) 0 1) 1 1) 2 1) 3 1), xI 0 48 (fun _ => 0), xI 0 5 (fun _ => 0), xI 0 15 (fun _ => 0), xI 0 6 (fun _ => 0), xI 0 12 (fun _ => 0), xI 2 6 (fun _ => 0), xI 0 8 (fun _ => 0)]) rfl ?_
  refine x_step rfl ?_
  refine x_step rfl ?_
  refine x_step rfl ?_
  refine x_step rfl ?_
  refine x_iast rfl rfl (by decide) rfl (by unfold vp_in; decide) ?_
  refine xm_hs (hp' := hz L xs ++ [xO 0 [.ref 33, .ref 35, .ref 55, .ref 66, .ref 69, .ref 97], xO 1 [.ref 34, .int 0], xI 0 501 (fun _ => 0), xO 2 [.ref 36, .ref 37, .int 0, .int 0, .int 0, .int 0], xV 3 8 (updV (updV (updV (updV (updV (updV (updV (updV (fun _ => .null) 0 (.ref 39)) 1 (.ref 41)) 2 (.ref 43)) 3 (.ref 45)) 4 (.ref 47)) 5 (.ref 49)) 6 (.ref 51)) 7 (.ref 53)), xO 3 [.ref 38, .int 0], xI 0 120 (fun _ => 0), xO 4 [.ref 40, .int 0, .int 0], xI 0 130 (fun _ => 0), xO 4 [.ref 42, .int 0, .int 0], xI 0 130 (fun _ => 0), xO 4 [.ref 44, .int 0, .int 0], xI 0 130 (fun _ => 0), xO 4 [.ref 46, .int 0, .int 0], xI 0 130 (fun _ => 0), xO 4 [.ref 48, .int 0, .int 0], xI 0 130 (fun _ => 0), xO 4 [.ref 50, .int 0, .int 0], xI 0 130 (fun _ => 0), xO 4 [.ref 52, .int 0, .int 0], xI 0 130 (fun _ => 0), xO 4 [.ref 54, .int 0, .int 0], xI 0 130 (fun _ => 0), xO 5 [.ref 56, .ref 65, .int 0], xV 4 8 (fun j => .ref (56 + 1 + j)), xI 0 10 (fun _ => 0), xI 0 10 (fun _ => 0), xI 0 10 (fun _ => 0), xI 0 10 (fun _ => 0), xI 0 10 (fun _ => 0), xI 0 10 (fun _ => 0), xI 0 10 (fun _ => 0), xI 0 10 (fun _ => 0), xI 0 8 (fun _ => 0), xO 6 [.ref 33, .ref 35, .ref 55, .ref 67, .int 0, .int 0, .int 0, .int 0, .int 0], xO 4 [.ref 68, .int 0, .int 0], xI 0 130 (fun _ => 0), xO 7 [.ref 35, .ref 70, .ref 80, .int 0, .int 0, .int 3, .int 0], xO 8 [.ref 71, .ref 72, .ref 73], xI 0 6 (upd (upd (upd (upd (upd (upd (fun _ => 0) 0 41) 1 41) 2 41) 3 41) 4 41) 5 41), xI 0 6 (upd (upd (upd (upd (upd (upd (fun _ => 0) 0 1) 1 1) 2 1) 3 1) 4 1) 5 1), xV 4 6 (fun j => .ref (73 + 1 + j)), xI 0 8 (fun _ => 0), xI 0 8 (fun _ => 0), xI 0 8 (fun _ => 0), xI 0 8 (fun _ => 0), xI 0 8 (fun _ => 0), xI 0 8 (fun _ => 0), xO 9 [.ref 81, .ref 82, .ref 88, .ref 89, .ref 96], xI 0 5 (fun _ => 0), xV 4 5 (fun j => .ref (82 + 1 + j)), xI 0 3 (fun _ => 0), xI 0 3 (fun _ => 0), xI 0 3 (fun _ => 0), xI 0 3 (fun _ => 0), xI 0 3 (fun _ => 0), xI 0 6 (fun _ => 0), xV 4 6 (fun j => .ref (89 + 1 + j)), xI 0 2 (fun _ => 0), xI 0 2 (fun _ => 0), xI 0 2 (fun _ => 0), xI 0 2 (fun _ => 0), xI 0 2 (fun _ => 0), xI 0 2 (fun _ => 0), xI 2 6 (fun _ => 0), xO 10 [.ref 67, .ref 69, .ref 35, .ref 55, .ref 98], xO 11 [.ref 99, .ref 100, .ref 101, .ref 102, .ref 67, .int 0], xI 0 60 (fun _ => 0), xI 0 60 (fun _ => 0), xI 0 60 (fun _ => 0), xI 0 60 (fun _ => 0), xO 12 [.int 0, .int 0, .int 0, .int 0, .ref 104, .int 0, .ref 105, .int 0, .ref 106, .ref 107, .ref 108, .int 0, .int 0, .int 0, .ref 109, .ref 110, .int 0, .ref 111, .int 0, .int 0, .int 0, .int 3, .int 0, .int 0, .ref 112, .ref 113, .ref 114, .ref 115, .ref 116, .ref 117, .ref 118, .ref 119, .int 0, .ref 120], xI 0 140 (fun _ => 0), xI 0 512 (fun _ => 0), xI 0 1040 (fun _ => 0), xI 0 8 (fun _ => 0), xI 0 8 (fun _ => 0), xI 0 80 (fun _ => 0), xI 0 8 (fun _ => 0), xI 0 500 (fun _ => 0), xI 0 6 (upd (upd (upd (upd (upd (fun _ => 0) 0 41) 1 41) 2 41) 3 41) 4 41), xI 0 6 (upd (upd (upd (upd (upd (fun _ => 0) 0 1) 1 1) 2 1) 3 1) 4 1), xI 0 48 (fun _ => 0), xI 0 5 (fun _ => 0), xI 0 15 (fun _ => 0), xI 0 6 (fun _ => 0), xI 0 12 (fun _ => 0), xI 2 6 (fun _ => 0), xI 0 8 (fun _ => 0)]) rfl ?_
  refine x_step rfl ?_
  refine xm_ls (pl' := [some (.ref 103), some (.int 5)]) rfl ?_
  refine x_step rfl ?_
  refine x_step rfl ?_
  refine x_step rfl ?_
  refine x_icmp_ge rfl (fun h => absurd h (by decide)) (fun _ => ?_)
  refine x_step rfl ?_
  refine x_step rfl ?_
  refine x_step rfl ?_
  refine x_step rfl ?_
  refine x_iast rfl rfl (by decide) rfl (by unfold vp_in; decide) ?_
  refine xm_hs (hp' := hz L xs ++ [xO 0 [.ref 33, .ref 35, .ref 55, .ref 66, .ref 69, .ref 97], xO 1 [.ref 34, .int 0], xI 0 501 (fun _ => 0), xO 2 [.ref 36, .ref 37, .int 0, .int 0, .int 0, .int 0], xV 3 8 (updV (updV (updV (updV (updV (updV (updV (updV (fun _ => .null) 0 (.ref 39)) 1 (.ref 41)) 2 (.ref 43)) 3 (.ref 45)) 4 (.ref 47)) 5 (.ref 49)) 6 (.ref 51)) 7 (.ref 53)), xO 3 [.ref 38, .int 0], xI 0 120 (fun _ => 0), xO 4 [.ref 40, .int 0, .int 0], xI 0 130 (fun _ => 0), xO 4 [.ref 42, .int 0, .int 0], xI 0 130 (fun _ => 0), xO 4 [.ref 44, .int 0, .int 0], xI 0 130 (fun _ => 0), xO 4 [.ref 46, .int 0, .int 0], xI 0 130 (fun _ => 0), xO 4 [.ref 48, .int 0, .int 0], xI 0 130 (fun _ => 0), xO 4 [.ref 50, .int 0, .int 0], xI 0 130 (fun _ => 0), xO 4 [.ref 52, .int 0, .int 0], xI 0 130 (fun _ => 0), xO 4 [.ref 54, .int 0, .int 0], xI 0 130 (fun _ => 0), xO 5 [.ref 56, .ref 65, .int 0], xV 4 8 (fun j => .ref (56 + 1 + j)), xI 0 10 (fun _ => 0), xI 0 10 (fun _ => 0), xI 0 10 (fun _ => 0), xI 0 10 (fun _ => 0), xI 0 10 (fun _ => 0), xI 0 10 (fun _ => 0), xI 0 10 (fun _ => 0), xI 0 10 (fun _ => 0), xI 0 8 (fun _ => 0), xO 6 [.ref 33, .ref 35, .ref 55, .ref 67, .int 0, .int 0, .int 0, .int 0, .int 0], xO 4 [.ref 68, .int 0, .int 0], xI 0 130 (fun _ => 0), xO 7 [.ref 35, .ref 70, .ref 80, .int 0, .int 0, .int 3, .int 0], xO 8 [.ref 71, .ref 72, .ref 73], xI 0 6 (upd (upd (upd (upd (upd (upd (fun _ => 0) 0 41) 1 41) 2 41) 3 41) 4 41) 5 41), xI 0 6 (upd (upd (upd (upd (upd (upd (fun _ => 0) 0 1) 1 1) 2 1) 3 1) 4 1) 5 1), xV 4 6 (fun j => .ref (73 + 1 + j)), xI 0 8 (fun _ => 0), xI 0 8 (fun _ => 0), xI 0 8 (fun _ => 0), xI 0 8 (fun _ => 0), xI 0 8 (fun _ => 0), xI 0 8 (fun _ => 0), xO 9 [.ref 81, .ref 82, .ref 88, .ref 89, .ref 96], xI 0 5 (fun _ => 0), xV 4 5 (fun j => .ref (82 + 1 + j)), xI 0 3 (fun _ => 0), xI 0 3 (fun _ => 0), xI 0 3 (fun _ => 0), xI 0 3 (fun _ => 0), xI 0 3 (fun _ => 0), xI 0 6 (fun _ => 0), xV 4 6 (fun j => .ref (89 + 1 + j)), xI 0 2 (fun _ => 0), xI 0 2 (fun _ => 0), xI 0 2 (fun _ => 0), xI 0 2 (fun _ => 0), xI 0 2 (fun _ => 0), xI 0 2 (fun _ => 0), xI 2 6 (fun _ => 0), xO 10 [.ref 67, .ref 69, .ref 35, .ref 55, .ref 98], xO 11 [.ref 99, .ref 100, .ref 101, .ref 102, .ref 67, .int 0], xI 0 60 (fun _ => 0), xI 0 60 (fun _ => 0), xI 0 60 (fun _ => 0), xI 0 60 (fun _ => 0), xO 12 [.int 0, .int 0, .int 0, .int 0, .ref 104, .int 0, .ref 105, .int 0, .ref 106, .ref 107, .ref 108, .int 0, .int 0, .int 0, .ref 109, .ref 110, .int 0, .ref 111, .int 0, .int 0, .int 0, .int 3, .int 0, .int 0, .ref 112, .ref 113, .ref 114, .ref 115, .ref 116, .ref 117, .ref 118, .ref 119, .int 0, .ref 120], xI 0 140 (fun _ => 0), xI 0 512 (fun _ => 0), xI 0 1040 (fun _ => 0), xI 0 8 (fun _ => 0), xI 0 8 (fun _ => 0), xI 0 80 (fun _ => 0), xI 0 8 (fun _ => 0), xI 0 500 (fun _ => 0), xI 0 6 (upd (upd (upd (upd (upd (upd (fun _ => 0) 0 41) 1 41) 2 41) 3 41) 4 41) 5 41), xI 0 6 (upd (upd (upd (upd (upd (fun _ => 0) 0 1) 1 1) 2 1) 3 1) 4 1), xI 0 48 (fun _ => 0), xI 0 5 (fun _ => 0), xI 0 15 (fun _ => 0), xI 0 6 (fun _ => 0), xI 0 12 (fun _ => 0), xI 2 6 (fun _ => 0), xI 0 8 (fun _ => 0)]) rfl ?_
  refine x_step rfl ?_
  refine x_step rfl ?_
  refine x_step rfl ?_
  refine x_step rfl ?_
  refine x_iast rfl rfl (by decide) rfl (by unfold vp_in; decide) ?_
  refine xm_hs (hp' := hz L xs ++ [xO 0 [.ref 33, .ref 35, .ref 55, .ref 66, .ref 69, .ref 97], xO 1 [.ref 34, .int 0], xI 0 501 (fun _ => 0), xO 2 [.ref 36, .ref 37, .int 0, .int 0, .int 0, .int 0], xV 3 8 (updV (updV (updV (updV (updV (updV (updV (updV (fun _ => .null) 0 (.ref 39)) 1 (.ref 41)) 2 (.ref 43)) 3 (.ref 45)) 4 (.ref 47)) 5 (.ref 49)) 6 (.ref 51)) 7 (.ref 53)), xO 3 [.ref 38, .int 0], xI 0 120 (fun _ => 0), xO 4 [.ref 40, .int 0, .int 0], xI 0 130 (fun _ => 0), xO 4 [.ref 42, .int 0, .int 0], xI 0 130 (fun _ => 0), xO 4 [.ref 44, .int 0, .int 0], xI 0 130 (fun _ => 0), xO 4 [.ref 46, .int 0, .int 0], xI 0 130 (fun _ => 0), xO 4 [.ref 48, .int 0, .int 0], xI 0 130 (fun _ => 0), xO 4 [.ref 50, .int 0, .int 0], xI 0 130 (fun _ => 0), xO 4 [.ref 52, .int 0, .int 0], xI 0 130 (fun _ => 0), xO 4 [.ref 54, .int 0, .int 0], xI 0 130 (fun _ => 0), xO 5 [.ref 56, .ref 65, .int 0], xV 4 8 (fun j => .ref (56 + 1 + j)), xI 0 10 (fun _ => 0), xI 0 10 (fun _ => 0), xI 0 10 (fun _ => 0), xI 0 10 (fun _ => 0), xI 0 10 (fun _ => 0), xI 0 10 (fun _ => 0), xI 0 10 (fun _ => 0), xI 0 10 (fun _ => 0), xI 0 8 (fun _ => 0), xO 6 [.ref 33, .ref 35, .ref 55, .ref 67, .int 0, .int 0, .int 0, .int 0, .int 0], xO 4 [.ref 68, .int 0, .int 0], xI 0 130 (fun _ => 0), xO 7 [.ref 35, .ref 70, .ref 80, .int 0, .int 0, .int 3, .int 0], xO 8 [.ref 71, .ref 72, .ref 73], xI 0 6 (upd (upd (upd (upd (upd (upd (fun _ => 0) 0 41) 1 41) 2 41) 3 41) 4 41) 5 41), xI 0 6 (upd (upd (upd (upd (upd (upd (fun _ => 0) 0 1) 1 1) 2 1) 3 1) 4 1) 5 1), xV 4 6 (fun j => .ref (73 + 1 + j)), xI 0 8 (fun _ => 0), xI 0 8 (fun _ => 0), xI 0 8 (fun _ => 0), xI 0 8 (fun _ => 0), xI 0 8 (fun _ => 0), xI 0 8 (fun _ => 0), xO 9 [.ref 81, .ref 82, .ref 88, .ref 89, .ref 96], xI 0 5 (fun _ => 0), xV 4 5 (fun j => .ref (82 + 1 + j)), xI 0 3 (fun _ => 0), xI 0 3 (fun _ => 0), xI 0 3 (fun _ => 0), xI 0 3 (fun _ => 0), xI 0 3 (fun _ => 0), xI 0 6 (fun _ => 0), xV 4 6 (fun j => .ref (89 + 1 + j)), xI 0 2 (fun _ => 0), xI 0 2 (fun _ => 0), xI 0 2 (fun _ => 0), xI 0 2 (fun _ => 0), xI 0 2 (fun _ => 0), xI 0 2 (fun _ => 0), xI 2 6 (fun _ => 0), xO 10 [.ref 67, .ref 69, .ref 35, .ref 55, .ref 98], xO 11 [.ref 99, .ref 100, .ref 101, .ref 102, .ref 67, .int 0], xI 0 60 (fun _ => 0), xI 0 60 (fun _ => 0), xI 0 60 (fun _ => 0), xI 0 60 (fun _ => 0), xO 12 [.int 0, .int 0, .int 0, .int 0, .ref 104, .int 0, .ref 105, .int 0, .ref 106, .ref 107, .ref 108, .int 0, .int 0, .int 0, .ref 109, .ref 110, .int 0, .ref 111, .int 0, .int 0, .int 0, .int 3, .int 0, .int 0, .ref 112, .ref 113, .ref 114, .ref 115, .ref 116, .ref 117, .ref 118, .ref 119, .int 0, .ref 120], xI 0 140 (fun _ => 0), xI 0 512 (fun _ => 0), xI 0 1040 (fun _ => 0), xI 0 8 (fun _ => 0), xI 0 8 (fun _ => 0), xI 0 80 (fun _ => 0), xI 0 8 (fun _ => 0), xI 0 500 (fun _ => 0), xI 0 6 (upd (upd (upd (upd (upd (upd (fun _ => 0) 0 41) 1 41) 2 41) 3 41) 4 41) 5 41), xI 0 6 (upd (upd (upd (upd (upd (upd (fun _ => 0) 0 1) 1 1) 2 1) 3 1) 4 1) 5 1), xI 0 48 (fun _ => 0), xI 0 5 (fun _ => 0), xI 0 15 (fun _ => 0), xI 0 6 (fun _ => 0), xI 0 12 (fun _ => 0), xI 2 6 (fun _ => 0), xI 0 8 (fun _ => 0)]) rfl ?_
  refine x_step rfl ?_
  refine xm_ls (pl' := [some (.ref 103), some (.int 6)]) rfl ?_
  refine x_step rfl ?_
  refine x_step rfl ?_
  refine x_step rfl ?_
  refine x_icmp_ge rfl (fun _ => ?_) (fun h => absurd (by decide) h)
  exact x_ret rfl rfl ⟨rfl, rfl⟩
end CU
end
section
def cw (L : Nat) (xs : Nat → Int32) (g : xm_H) (tc : Int32) (tf : (Nat → Int32)) (bl : Int32) (bf : (Nat → Int32)) (of : Int32) (oc : Int32) (ol : Int32) (on : Int32) (ml : (Nat → Int32)) (mx : (Nat → Int32)) (mb : (Nat → Nat → Int32)) (kc : Int32) (kh : (Nat → Nat)) (kr : (Nat → Nat → Int32)) (ka : (Nat → Int32)) (gl : Int32) (gx : Int32) (gb : (Nat → Int32)) (ls : Int32) (lq : Int32) (lk : Int32) (lg : Int32) (lh : Int32) (vf : (Nat → Int32)) (vs : (Nat → Int32)) (vb : (Nat → Nat → Int32)) (nv : (Nat → Int32)) (nw : (Nat → Nat → Int32)) (nr : (Nat → Int32)) (nq : (Nat → Nat → Int32)) (ne : (Nat → Int32)) (io : Int32) (sp : Int32) (ch : Int32) (wt : Int32) (xf : (Nat → Int32)) (xz : (Nat → Int32)) (xt : (Nat → Int32)) (xb : (Nat → Int32)) (xc : Int32) : xm_H :=
  hz L xs ++ (xO 0 [.ref 33, .ref 35, .ref 55, .ref 66, .ref 69, .ref 97] ::
  xO 1 [.ref 34, .int tc] ::
  xI 0 501 tf ::
  xO 2 [.ref 36, .ref 37, .int of, .int oc, .int ol, .int on] ::
  xV 3 8 (fun j => .ref (39 + 2 * j)) ::
  xO 3 [.ref 38, .int bl] ::
  xI 0 120 bf ::
  xO 4 [.ref 40, .int (ml 0), .int (mx 0)] ::
  xI 0 130 (mb 0) ::
  xO 4 [.ref 42, .int (ml 1), .int (mx 1)] ::
  xI 0 130 (mb 1) ::
  xO 4 [.ref 44, .int (ml 2), .int (mx 2)] ::
  xI 0 130 (mb 2) ::
  xO 4 [.ref 46, .int (ml 3), .int (mx 3)] ::
  xI 0 130 (mb 3) ::
  xO 4 [.ref 48, .int (ml 4), .int (mx 4)] ::
  xI 0 130 (mb 4) ::
  xO 4 [.ref 50, .int (ml 5), .int (mx 5)] ::
  xI 0 130 (mb 5) ::
  xO 4 [.ref 52, .int (ml 6), .int (mx 6)] ::
  xI 0 130 (mb 6) ::
  xO 4 [.ref 54, .int (ml 7), .int (mx 7)] ::
  xI 0 130 (mb 7) ::
  xO 5 [.ref 56, .ref 65, .int kc] ::
  xV 4 8 (fun j => .ref (57 + kh j)) ::
  xI 0 10 (kr 0) ::
  xI 0 10 (kr 1) ::
  xI 0 10 (kr 2) ::
  xI 0 10 (kr 3) ::
  xI 0 10 (kr 4) ::
  xI 0 10 (kr 5) ::
  xI 0 10 (kr 6) ::
  xI 0 10 (kr 7) ::
  xI 0 8 ka ::
  xO 6 [.ref 33, .ref 35, .ref 55, .ref 67, .int ls, .int lq, .int lk, .int lg, .int lh] ::
  xO 4 [.ref 68, .int gl, .int gx] ::
  xI 0 130 gb ::
  xO 7 [.ref 35, .ref 70, .ref 80, .int io, .int sp, .int ch, .int wt] ::
  xO 8 [.ref 71, .ref 72, .ref 73] ::
  xI 0 6 vf ::
  xI 0 6 vs ::
  xV 4 6 (fun j => .ref (74 + j)) ::
  xI 0 8 (vb 0) ::
  xI 0 8 (vb 1) ::
  xI 0 8 (vb 2) ::
  xI 0 8 (vb 3) ::
  xI 0 8 (vb 4) ::
  xI 0 8 (vb 5) ::
  xO 9 [.ref 81, .ref 82, .ref 88, .ref 89, .ref 96] ::
  xI 0 5 nv ::
  xV 4 5 (fun j => .ref (83 + j)) ::
  xI 0 3 (nw 0) ::
  xI 0 3 (nw 1) ::
  xI 0 3 (nw 2) ::
  xI 0 3 (nw 3) ::
  xI 0 3 (nw 4) ::
  xI 0 6 nr ::
  xV 4 6 (fun j => .ref (90 + j)) ::
  xI 0 2 (nq 0) ::
  xI 0 2 (nq 1) ::
  xI 0 2 (nq 2) ::
  xI 0 2 (nq 3) ::
  xI 0 2 (nq 4) ::
  xI 0 2 (nq 5) ::
  xI 2 6 ne ::
  xO 10 [.ref 67, .ref 69, .ref 35, .ref 55, .ref 98] ::
  xO 11 [.ref 99, .ref 100, .ref 101, .ref 102, .ref 67, .int xc] ::
  xI 0 60 xf ::
  xI 0 60 xz ::
  xI 0 60 xt ::
  xI 0 60 xb :: g)

theorem xm_clamp {i : Int32} (h0 : 0 ≤ i) : (i.toNatClampNeg : Int) = i.toInt := by
  have h1 : (0 : Int) ≤ i.toInt := by simpa using Int32.le_iff_toInt_le.mp h0
  show ((i.toInt.toNat : Nat) : Int) = i.toInt
  omega
theorem xm_in {i m : Int32} {n : Nat} (h0 : 0 ≤ i) (h1 : i < m) (hm : m.toInt = (n : Int)) : vp_in i n := by
  intro h
  have e := xm_clamp h0
  have h2 := Int32.lt_iff_toInt_lt.mp h1
  rcases h with h | h
  · have h3 := Int32.lt_iff_toInt_lt.mp h
    have h4 := Int32.le_iff_toInt_le.mp h0
    omega
  · omega
theorem xm_inc {i m : Int32} (h : i < m) : (i + 1).toInt = i.toInt + 1 := by
  have h1 := Int32.lt_iff_toInt_lt.mp h
  have h2 := Int32.toInt_lt m
  have h3 := Int32.le_toInt i
  rw [Int32.toInt_add]
  simp only [show (1 : Int32).toInt = 1 from rfl]
  rw [Int.bmod_eq_of_le] <;> omega
theorem xm_nn {i : Int32} : (0 : Int32) ≤ i ↔ (0 : Int) ≤ i.toInt := Int32.le_iff_toInt_le
theorem xm_le {i : Int32} (m : Int32) : m ≤ i ↔ m.toInt ≤ i.toInt := Int32.le_iff_toInt_le
theorem xm_lt2 {i m : Int32} : i < m ↔ i.toInt < m.toInt := Int32.lt_iff_toInt_lt
theorem xm_yes {p : Prop} [Decidable p] {a b : Int32} (h : p) : some (Value.int a) = some (Value.int (if p then a else b)) := by rw [if_pos h]
theorem xm_no {p : Prop} [Decidable p] {a b : Int32} (h : ¬ p) : some (Value.int b) = some (Value.int (if p then a else b)) := by rw [if_neg h]
end
section
section EB
variable {l : Launch} {d L : Nat} {xs : Nat → Int32} {g : xm_H} {tc : Int32} {tf : (Nat → Int32)} {bl : Int32} {bf : (Nat → Int32)} {of : Int32} {oc : Int32} {ol : Int32} {on : Int32} {ml : (Nat → Int32)} {mx : (Nat → Int32)} {mb : (Nat → Nat → Int32)} {kc : Int32} {kh : (Nat → Nat)} {kr : (Nat → Nat → Int32)} {ka : (Nat → Int32)} {gl : Int32} {gx : Int32} {gb : (Nat → Int32)} {ls : Int32} {lq : Int32} {lk : Int32} {lg : Int32} {lh : Int32} {vf : (Nat → Int32)} {vs : (Nat → Int32)} {vb : (Nat → Nat → Int32)} {nv : (Nat → Int32)} {nw : (Nat → Nat → Int32)} {nr : (Nat → Int32)} {nq : (Nat → Nat → Int32)} {ne : (Nat → Int32)} {io : Int32} {sp : Int32} {ch : Int32} {wt : Int32} {xf : (Nat → Int32)} {xz : (Nat → Int32)} {xt : (Nat → Int32)} {xb : (Nat → Int32)} {xc : Int32}
def xput (n : Int32) (f : Nat → Int32) (x : Int32) : Nat → Int32 := if n < 120 then upd f n.toNatClampNeg x else f
/-- Body.clear -/
theorem m19 : XM l 19 d 0 0 [.ref 37] (cw L xs g tc tf bl bf of oc ol on ml mx mb kc kh kr ka gl gx gb ls lq lk lg lh vf vs vb nv nw nr nq ne io sp ch wt xf xz xt xb xc) (xm_is none (cw L xs g tc tf (0) bf of oc ol on ml mx mb kc kh kr ka gl gx gb ls lq lk lg lh vf vs vb nv nw nr nq ne io sp ch wt xf xz xt xb xc)) := by
  refine XE (pl := [some (.ref 37)]) xg19 rfl ?_
  iterate 3 refine x_step rfl ?_
  exact x_ret rfl rfl ⟨rfl, rfl⟩
/-- Body.fits -/
theorem m32 : XM l 32 d 0 0 [.ref 37] (cw L xs g tc tf bl bf of oc ol on ml mx mb kc kh kr ka gl gx gb ls lq lk lg lh vf vs vb nv nw nr nq ne io sp ch wt xf xz xt xb xc) (xm_is (some (.int (if 120 < bl then 0 else 1))) (cw L xs g tc tf bl bf of oc ol on ml mx mb kc kh kr ka gl gx gb ls lq lk lg lh vf vs vb nv nw nr nq ne io sp ch wt xf xz xt xb xc)) := by
  refine XE (pl := [some (.ref 37)]) xg32 rfl ?_
  iterate 3 refine x_step rfl ?_
  refine x_icmp_gt rfl (fun q => ?_) (fun q => ?_)
  · refine x_step rfl ?_
    exact x_iret rfl rfl rfl ⟨by rw [if_pos q], rfl⟩
  · iterate 2 refine x_step rfl ?_
    exact x_iret rfl rfl rfl ⟨by rw [if_neg q], rfl⟩
/-- Body.length -/
theorem m33 : XM l 33 d 0 0 [.ref 37] (cw L xs g tc tf bl bf of oc ol on ml mx mb kc kh kr ka gl gx gb ls lq lk lg lh vf vs vb nv nw nr nq ne io sp ch wt xf xz xt xb xc) (xm_is (some (.int bl)) (cw L xs g tc tf bl bf of oc ol on ml mx mb kc kh kr ka gl gx gb ls lq lk lg lh vf vs vb nv nw nr nq ne io sp ch wt xf xz xt xb xc)) := by
  refine XE (pl := [some (.ref 37)]) xg33 rfl ?_
  iterate 2 refine x_step rfl ?_
  exact x_iret rfl rfl rfl ⟨rfl, rfl⟩
/-- Body.put -/
theorem m21 (x : Int32) (h0 : 0 ≤ bl) : XM l 21 d 0 0 [.ref 37, .int x] (cw L xs g tc tf bl bf of oc ol on ml mx mb kc kh kr ka gl gx gb ls lq lk lg lh vf vs vb nv nw nr nq ne io sp ch wt xf xz xt xb xc) (xm_is none (cw L xs g tc tf (bl + 1) (xput bl bf x) of oc ol on ml mx mb kc kh kr ka gl gx gb ls lq lk lg lh vf vs vb nv nw nr nq ne io sp ch wt xf xz xt xb xc)) := by
  refine XE (pl := [some (.ref 37), some (.int x)]) xg21 rfl ?_
  iterate 3 refine x_step rfl ?_
  refine x_icmp_ge rfl (fun q => ?_) (fun q => ?_)
  · iterate 6 refine x_step rfl ?_
    refine x_ret rfl rfl ⟨rfl, ?_⟩
    rw [xput, if_neg (Int32.not_lt.mpr q)]
    rfl
  · iterate 5 refine x_step rfl ?_
    refine x_iast rfl rfl (by decide) rfl (xm_in h0 (Int32.not_le.mp q) rfl) ?_
    refine xm_hs (hp' := (cw L xs g tc tf bl (upd bf bl.toNatClampNeg x) of oc ol on ml mx mb kc kh kr ka gl gx gb ls lq lk lg lh vf vs vb nv nw nr nq ne io sp ch wt xf xz xt xb xc)) rfl ?_
    iterate 6 refine x_step rfl ?_
    refine x_ret rfl rfl ⟨rfl, ?_⟩
    rw [xput, if_pos (Int32.not_le.mp q)]
    rfl
/-- Body.putList -/
theorem m20 (x : Int32) (hd : 1 ≤ d) (h0 : 0 ≤ bl) (h1 : 0 ≤ bl + 1) : XM l 20 d 0 0 [.ref 37, .int x] (cw L xs g tc tf bl bf of oc ol on ml mx mb kc kh kr ka gl gx gb ls lq lk lg lh vf vs vb nv nw nr nq ne io sp ch wt xf xz xt xb xc) (xm_is none (cw L xs g tc tf (bl + 1 + 1) (xput (bl + 1) (xput bl bf 1) x) of oc ol on ml mx mb kc kh kr ka gl gx gb ls lq lk lg lh vf vs vb nv nw nr nq ne io sp ch wt xf xz xt xb xc)) := by
  refine XE (pl := [some (.ref 37), some (.int x)]) xg20 rfl ?_
  iterate 2 refine x_step rfl ?_
  refine x_callvE rfl (m21 (d := 0) 1 h0) rfl rfl rfl ?_
  iterate 2 refine x_step rfl ?_
  refine x_callvE rfl (m21 (d := 0) x h1) rfl rfl rfl ?_
  exact x_ret rfl rfl ⟨rfl, rfl⟩
/-- Body.putNumber -/
theorem m22 (x : Int32) (hd : 1 ≤ d) (h0 : 0 ≤ bl) (h1 : 0 ≤ bl + 1) (h2 : 0 ≤ bl + 1 + 1) : XM l 22 d 0 0 [.ref 37, .int x] (cw L xs g tc tf bl bf of oc ol on ml mx mb kc kh kr ka gl gx gb ls lq lk lg lh vf vs vb nv nw nr nq ne io sp ch wt xf xz xt xb xc) (xm_is none (cw L xs g tc tf (bl + 1 + 1 + 1) (xput (bl + 1 + 1) (xput (bl + 1) (xput bl bf 165) 1) x) of oc ol on ml mx mb kc kh kr ka gl gx gb ls lq lk lg lh vf vs vb nv nw nr nq ne io sp ch wt xf xz xt xb xc)) := by
  refine XE (pl := [some (.ref 37), some (.int x)]) xg22 rfl ?_
  iterate 2 refine x_step rfl ?_
  refine x_callvE rfl (m21 (d := 0) 165 h0) rfl rfl rfl ?_
  iterate 2 refine x_step rfl ?_
  refine x_callvE rfl (m21 (d := 0) 1 h1) rfl rfl rfl ?_
  iterate 2 refine x_step rfl ?_
  refine x_callvE rfl (m21 (d := 0) x h2) rfl rfl rfl ?_
  exact x_ret rfl rfl ⟨rfl, rfl⟩
/-- Body.putBinary -/
theorem m115 (x : Int32) (hd : 1 ≤ d) (h0 : 0 ≤ bl) (h1 : 0 ≤ bl + 1) (h2 : 0 ≤ bl + 1 + 1) : XM l 115 d 0 0 [.ref 37, .int x] (cw L xs g tc tf bl bf of oc ol on ml mx mb kc kh kr ka gl gx gb ls lq lk lg lh vf vs vb nv nw nr nq ne io sp ch wt xf xz xt xb xc) (xm_is none (cw L xs g tc tf (bl + 1 + 1 + 1) (xput (bl + 1 + 1) (xput (bl + 1) (xput bl bf 33) 1) x) of oc ol on ml mx mb kc kh kr ka gl gx gb ls lq lk lg lh vf vs vb nv nw nr nq ne io sp ch wt xf xz xt xb xc)) := by
  refine XE (pl := [some (.ref 37), some (.int x)]) xg115 rfl ?_
  iterate 2 refine x_step rfl ?_
  refine x_callvE rfl (m21 (d := 0) 33 h0) rfl rfl rfl ?_
  iterate 2 refine x_step rfl ?_
  refine x_callvE rfl (m21 (d := 0) 1 h1) rfl rfl rfl ?_
  iterate 2 refine x_step rfl ?_
  refine x_callvE rfl (m21 (d := 0) x h2) rfl rfl rfl ?_
  exact x_ret rfl rfl ⟨rfl, rfl⟩
end EB
end
section
section EM
variable {l : Launch} {d : Nat} {hp : xm_H} {a b : Nat} {n x : Int32} {f : Nat → Int32}
theorem xm_lt {α : Type} {hp : List α} {a : Nat} {e : α} (h : hp[a]? = some e) : a < hp.length := (List.getElem?_eq_some_iff.mp h).1
theorem xm_same {α : Type} {hp : List α} {a : Nat} {e : α} (y : α) (h : hp[a]? = some e) : (hp.set a y)[a]? = some y := by
  rw [List.getElem?_set]
  simp [xm_lt h]
theorem xm_oth {α : Type} {hp : List α} {a b : Nat} {e : α} (y : α) (h : hp[b]? = some e) (hab : a ≠ b) : (hp.set a y)[b]? = some e := by rw [List.getElem?_set_ne hab]; exact h
theorem x_ldc {k rc rs pc nx r1 r2 : Nat} {pl : List (Option Value)} {st : List Value} {P : xm_P} {Q : xm_Q} {v : Int32} {idx : Nat} (hf : xm_code k pc = some (.ldc idx, nx, r1, r2, v)) (h9 : ¬ 900 ≤ r2) (kk : XG l P k d rc rs nx pl (.int v :: st) hp Q) : XG l P k d rc rs pc pl st hp Q := by
  intro G p e R s m args below meth c H locs cells slots ls hCP hR hL
  have hC := hCP.1
  obtain ⟨hd, hn, ho⟩ := xm_dec hC hf
  have K := kk G p e R s m args below meth c H locs cells slots ls hCP hR hL
  rw [hn] at K
  have hlk : xm_lk (xm_pn k) idx = some (.constant (xm_nm k).cls idx v) := by simpa [xm_okI, h9] using ho
  exact lv_ldc hC.2.1 hC.2.2.1 hC.2.2.2.2.1 (hC.2.2.2.2.2.2.2.2.1.2.1.at (xm_lk_mem hlk) args rfl) hd K
/-- Message.begin -/
theorem m34 (y : Int32) (ha : xm_c0 ≤ a) (h1 : hp[a]? = some (xO 4 [.ref b, .int n, .int x])) : XM l 34 d 0 0 [.ref a, .int y] hp (xm_is none (hp.set a (xO 4 [.ref b, .int y, .int 0]))) := by
  refine XE (pl := [some (.ref a), some (.int y)]) xg34 rfl ?_
  iterate 2 refine x_step rfl ?_
  refine x_putf rfl h1 (Nat.le_of_ble_eq_true rfl) ha rfl rfl ?_
  iterate 2 refine x_step rfl ?_
  refine x_putf rfl (xm_same _ h1) (Nat.le_of_ble_eq_true rfl) ha rfl rfl ?_
  exact x_ret rfl rfl ⟨rfl, List.set_set ..⟩
/-- Message.bytes -/
theorem m36 (h1 : hp[a]? = some (xO 4 [.ref b, .int n, .int x])) : XM l 36 d 0 0 [.ref a] hp (xm_is (some (.ref b)) hp) := by
  refine XE (pl := [some (.ref a)]) xg36 rfl ?_
  refine x_step rfl ?_
  refine x_getf rfl h1 rfl ?_
  exact x_aret rfl rfl rfl ⟨rfl, rfl⟩
/-- Message.isLength -/
theorem m49 (y : Int32) : XM l 49 d 0 0 [.int y] hp (xm_is (some (.int (if y < 10 then 0 else if 130 < y then 0 else 1))) hp) := by
  refine XE (pl := [some (.int y)]) xg49 rfl ?_
  iterate 2 refine x_step rfl ?_
  refine x_icmp_lt rfl (fun q1 => ?_) (fun q1 => ?_)
  · refine x_step rfl ?_
    exact x_iret rfl rfl rfl ⟨by simp [q1], rfl⟩
  · iterate 2 refine x_step rfl ?_
    refine x_icmp_gt rfl (fun q2 => ?_) (fun q2 => ?_)
    · refine x_step rfl ?_
      exact x_iret rfl rfl rfl ⟨by simp [q1, q2], rfl⟩
    · iterate 2 refine x_step rfl ?_
      exact x_iret rfl rfl rfl ⟨by simp [q1, q2], rfl⟩
/-- Message.length -/
theorem m51 (h1 : hp[a]? = some (xO 4 [.ref b, .int n, .int x])) : XM l 51 d 0 0 [.ref a] hp (xm_is (some (.int n)) hp) := by
  refine XE (pl := [some (.ref a)]) xg51 rfl ?_
  refine x_step rfl ?_
  refine x_getf rfl h1 rfl ?_
  exact x_iret rfl rfl rfl ⟨rfl, rfl⟩
def xmset (f : Nat → Int32) (i y : Int32) : Nat → Int32 := if i < 0 then f else if 130 ≤ i then f else upd f i.toNatClampNeg y
theorem xm_set_id {hp : xm_H} {a : Nat} {e : Option xm_E} (h : hp[a]? = some e) : hp.set a e = hp := by
  apply List.ext_getElem?
  intro i
  by_cases hi : i = a
  · subst hi
    rw [xm_same e h, h]
  · rw [List.getElem?_set_ne (Ne.symm hi)]
/-- Message.set -/
theorem m52 (i y : Int32) (hb : xm_c0 ≤ b) (h1 : hp[a]? = some (xO 4 [.ref b, .int n, .int x])) (h2 : hp[b]? = some (xI 0 130 f)) : XM l 52 d 0 0 [.ref a, .int i, .int y] hp (xm_is none (hp.set b (xI 0 130 (xmset f i y)))) := by
  refine XE (pl := [some (.ref a), some (.int i), some (.int y)]) xg52 rfl ?_
  refine x_step rfl ?_
  refine x_if_lt rfl (fun q1 => ?_) (fun q1 => ?_)
  · exact x_ret rfl rfl ⟨rfl, by rw [xmset, if_pos q1, xm_set_id h2]⟩
  · iterate 2 refine x_step rfl ?_
    refine x_icmp_ge rfl (fun q2 => ?_) (fun q2 => ?_)
    · exact x_ret rfl rfl ⟨rfl, by rw [xmset, if_neg q1, if_pos q2, xm_set_id h2]⟩
    · refine x_step rfl ?_
      refine x_getf rfl h1 rfl ?_
      iterate 2 refine x_step rfl ?_
      refine x_iast rfl h2 hb rfl (xm_in (Int32.not_lt.mp q1) (Int32.not_le.mp q2) rfl) ?_
      exact x_ret rfl rfl ⟨rfl, by rw [xmset, if_neg q1, if_neg q2]⟩
def xhead (f : Nat → Int32) (s0 fn sy : Int32) : Nat → Int32 := upd (upd (upd (upd (upd (upd (upd (upd (upd (upd f 0 128) 1 1) 2 s0) 3 fn) 4 128) 5 1) 6 (sy.toUInt32 >>> ((24 : Int32).toUInt32 &&& Int32.toUInt32 31)).toInt32) 7 ((sy.toUInt32 >>> ((16 : Int32).toUInt32 &&& Int32.toUInt32 31)).toInt32 &&& 255)) 8 ((sy.toUInt32 >>> ((8 : Int32).toUInt32 &&& Int32.toUInt32 31)).toInt32 &&& 255)) 9 (sy &&& 255)
/-- Message.writeHeader -/
theorem m35 (s0 fn sy : Int32) (hb : xm_c0 ≤ b) (hab : b ≠ a) (h1 : hp[a]? = some (xO 4 [.ref b, .int n, .int x])) (h2 : hp[b]? = some (xI 0 130 f)) : XM l 35 d 0 0 [.ref a, .int s0, .int fn, .int sy] hp (xm_is none (hp.set b (xI 0 130 (xhead f s0 fn sy)))) := by
  refine XE (pl := [some (.ref a), some (.int s0), some (.int fn), some (.int sy)]) xg35 rfl ?_
  refine x_step rfl ?_
  refine x_getf rfl h1 rfl ?_
  iterate 2 refine x_step rfl ?_
  refine x_iast rfl h2 hb rfl (by unfold vp_in; decide) ?_
  refine x_step rfl ?_
  refine x_getf rfl (xm_oth _ h1 hab) rfl ?_
  iterate 2 refine x_step rfl ?_
  refine x_iast rfl (xm_same _ h2) hb rfl (by unfold vp_in; decide) ?_
  rw [List.set_set]
  refine x_step rfl ?_
  refine x_getf rfl (xm_oth _ h1 hab) rfl ?_
  iterate 2 refine x_step rfl ?_
  refine x_iast rfl (xm_same _ h2) hb rfl (by unfold vp_in; decide) ?_
  rw [List.set_set]
  refine x_step rfl ?_
  refine x_getf rfl (xm_oth _ h1 hab) rfl ?_
  iterate 2 refine x_step rfl ?_
  refine x_iast rfl (xm_same _ h2) hb rfl (by unfold vp_in; decide) ?_
  rw [List.set_set]
  refine x_step rfl ?_
  refine x_getf rfl (xm_oth _ h1 hab) rfl ?_
  iterate 2 refine x_step rfl ?_
  refine x_iast rfl (xm_same _ h2) hb rfl (by unfold vp_in; decide) ?_
  rw [List.set_set]
  refine x_step rfl ?_
  refine x_getf rfl (xm_oth _ h1 hab) rfl ?_
  iterate 2 refine x_step rfl ?_
  refine x_iast rfl (xm_same _ h2) hb rfl (by unfold vp_in; decide) ?_
  rw [List.set_set]
  refine x_step rfl ?_
  refine x_getf rfl (xm_oth _ h1 hab) rfl ?_
  iterate 4 refine x_step rfl ?_
  refine x_iast rfl (xm_same _ h2) hb rfl (by unfold vp_in; decide) ?_
  rw [List.set_set]
  refine x_step rfl ?_
  refine x_getf rfl (xm_oth _ h1 hab) rfl ?_
  iterate 6 refine x_step rfl ?_
  refine x_iast rfl (xm_same _ h2) hb rfl (by unfold vp_in; decide) ?_
  rw [List.set_set]
  refine x_step rfl ?_
  refine x_getf rfl (xm_oth _ h1 hab) rfl ?_
  iterate 6 refine x_step rfl ?_
  refine x_iast rfl (xm_same _ h2) hb rfl (by unfold vp_in; decide) ?_
  rw [List.set_set]
  refine x_step rfl ?_
  refine x_getf rfl (xm_oth _ h1 hab) rfl ?_
  iterate 4 refine x_step rfl ?_
  refine x_iast rfl (xm_same _ h2) hb rfl (by unfold vp_in; decide) ?_
  rw [List.set_set]
  refine x_ret rfl rfl ⟨rfl, ?_⟩
  rfl
/-- Message.countFailure -/
theorem m59 (ha : xm_c0 ≤ a) (h1 : hp[a]? = some (xO 4 [.ref b, .int n, .int x])) : XM l 59 d 0 0 [.ref a] hp (xm_is (some (.int (x + 1))) (hp.set a (xO 4 [.ref b, .int n, .int (x + 1)]))) := by
  refine XE (pl := [some (.ref a)]) xg59 rfl ?_
  iterate 2 refine x_step rfl ?_
  refine x_getf rfl h1 rfl ?_
  iterate 2 refine x_step rfl ?_
  refine x_putf rfl h1 (Nat.le_of_ble_eq_true rfl) ha rfl rfl ?_
  refine x_step rfl ?_
  refine x_getf rfl (xm_same _ h1) rfl ?_
  exact x_iret rfl rfl rfl ⟨rfl, rfl⟩
/-- Message.wantsReply -/
theorem m61 (h1 : hp[a]? = some (xO 4 [.ref b, .int n, .int x])) (h2 : hp[b]? = some (xI 0 130 f)) : XM l 61 d 0 0 [.ref a] hp (xm_is (some (.int (if f 2 &&& 128 = 0 then 0 else 1))) hp) := by
  refine XE (pl := [some (.ref a)]) xg61 rfl ?_
  refine x_step rfl ?_
  refine x_getf rfl h1 rfl ?_
  refine x_step rfl ?_
  refine x_iald rfl h2 rfl (by unfold vp_in; decide) ?_
  iterate 2 refine x_step rfl ?_
  refine x_if_eq rfl (fun q1 => ?_) (fun q1 => ?_)
  · refine x_step rfl ?_
    exact x_iret rfl rfl rfl ⟨xm_yes q1, rfl⟩
  · iterate 2 refine x_step rfl ?_
    exact x_iret rfl rfl rfl ⟨xm_no q1, rfl⟩
/-- Message.isFromMachine -/
theorem m66 (h1 : hp[a]? = some (xO 4 [.ref b, .int n, .int x])) (h2 : hp[b]? = some (xI 0 130 f)) : XM l 66 d 0 0 [.ref a] hp (xm_is (some (.int (if f 0 &&& 128 = 0 then 0 else 1))) hp) := by
  refine XE (pl := [some (.ref a)]) xg66 rfl ?_
  refine x_step rfl ?_
  refine x_getf rfl h1 rfl ?_
  refine x_step rfl ?_
  refine x_iald rfl h2 rfl (by unfold vp_in; decide) ?_
  iterate 2 refine x_step rfl ?_
  refine x_if_eq rfl (fun q1 => ?_) (fun q1 => ?_)
  · refine x_step rfl ?_
    exact x_iret rfl rfl rfl ⟨xm_yes q1, rfl⟩
  · iterate 2 refine x_step rfl ?_
    exact x_iret rfl rfl rfl ⟨xm_no q1, rfl⟩
/-- Message.isForDeviceOne -/
theorem m67 (h1 : hp[a]? = some (xO 4 [.ref b, .int n, .int x])) (h2 : hp[b]? = some (xI 0 130 f)) : XM l 67 d 0 0 [.ref a] hp (xm_is (some (.int (if f 0 = 0 ∧ f 1 = 1 then 1 else 0))) hp) := by
  refine XE (pl := [some (.ref a)]) xg67 rfl ?_
  refine x_step rfl ?_
  refine x_getf rfl h1 rfl ?_
  refine x_step rfl ?_
  refine x_iald rfl h2 rfl (by unfold vp_in; decide) ?_
  refine x_if_ne rfl (fun q1 => ?_) (fun q1 => ?_)
  · refine x_step rfl ?_
    exact x_iret rfl rfl rfl ⟨by rw [if_neg (fun h => q1 h.1)], rfl⟩
  · refine x_step rfl ?_
    refine x_getf rfl h1 rfl ?_
    refine x_step rfl ?_
    refine x_iald rfl h2 rfl (by unfold vp_in; decide) ?_
    refine x_step rfl ?_
    refine x_icmp_ne rfl (fun q2 => ?_) (fun q2 => ?_)
    · refine x_step rfl ?_
      exact x_iret rfl rfl rfl ⟨by rw [if_neg (fun h => q2 h.2)], rfl⟩
    · iterate 2 refine x_step rfl ?_
      exact x_iret rfl rfl rfl ⟨by rw [if_pos ⟨q1, q2⟩], rfl⟩
/-- Message.isOnlyBlock -/
theorem m71 (h1 : hp[a]? = some (xO 4 [.ref b, .int n, .int x])) (h2 : hp[b]? = some (xI 0 130 f)) : XM l 71 d 0 0 [.ref a] hp (xm_is (some (.int (if f 4 = 128 ∧ f 5 = 1 then 1 else 0))) hp) := by
  refine XE (pl := [some (.ref a)]) xg71 rfl ?_
  refine x_step rfl ?_
  refine x_getf rfl h1 rfl ?_
  refine x_step rfl ?_
  refine x_iald rfl h2 rfl (by unfold vp_in; decide) ?_
  refine x_step rfl ?_
  refine x_icmp_ne rfl (fun q1 => ?_) (fun q1 => ?_)
  · refine x_step rfl ?_
    exact x_iret rfl rfl rfl ⟨by rw [if_neg (fun h => q1 h.1)], rfl⟩
  · refine x_step rfl ?_
    refine x_getf rfl h1 rfl ?_
    refine x_step rfl ?_
    refine x_iald rfl h2 rfl (by unfold vp_in; decide) ?_
    refine x_step rfl ?_
    refine x_icmp_ne rfl (fun q2 => ?_) (fun q2 => ?_)
    · refine x_step rfl ?_
      exact x_iret rfl rfl rfl ⟨by rw [if_neg (fun h => q2 h.2)], rfl⟩
    · iterate 2 refine x_step rfl ?_
      exact x_iret rfl rfl rfl ⟨by rw [if_pos ⟨q1, q2⟩], rfl⟩
/-- Message.function -/
theorem m72 (h1 : hp[a]? = some (xO 4 [.ref b, .int n, .int x])) (h2 : hp[b]? = some (xI 0 130 f)) : XM l 72 d 0 0 [.ref a] hp (xm_is (some (.int (f 3))) hp) := by
  refine XE (pl := [some (.ref a)]) xg72 rfl ?_
  refine x_step rfl ?_
  refine x_getf rfl h1 rfl ?_
  refine x_step rfl ?_
  refine x_iald rfl h2 rfl (by unfold vp_in; decide) ?_
  exact x_iret rfl rfl rfl ⟨rfl, rfl⟩
/-- Message.stream -/
theorem m76 (h1 : hp[a]? = some (xO 4 [.ref b, .int n, .int x])) (h2 : hp[b]? = some (xI 0 130 f)) : XM l 76 d 0 0 [.ref a] hp (xm_is (some (.int (f 2 &&& 127))) hp) := by
  refine XE (pl := [some (.ref a)]) xg76 rfl ?_
  refine x_step rfl ?_
  refine x_getf rfl h1 rfl ?_
  refine x_step rfl ?_
  refine x_iald rfl h2 rfl (by unfold vp_in; decide) ?_
  iterate 2 refine x_step rfl ?_
  exact x_iret rfl rfl rfl ⟨rfl, rfl⟩
/-- Message.system -/
theorem m98 (h1 : hp[a]? = some (xO 4 [.ref b, .int n, .int x])) (h2 : hp[b]? = some (xI 0 130 f)) : XM l 98 d 0 0 [.ref a] hp (xm_is (some (.int (f 6 <<< ((24 : Int32) &&& 31) ||| f 7 <<< ((16 : Int32) &&& 31) ||| f 8 <<< ((8 : Int32) &&& 31) ||| f 9))) hp) := by
  refine XE (pl := [some (.ref a)]) xg98 rfl ?_
  refine x_step rfl ?_
  refine x_getf rfl h1 rfl ?_
  refine x_step rfl ?_
  refine x_iald rfl h2 rfl (by unfold vp_in; decide) ?_
  iterate 3 refine x_step rfl ?_
  refine x_getf rfl h1 rfl ?_
  refine x_step rfl ?_
  refine x_iald rfl h2 rfl (by unfold vp_in; decide) ?_
  iterate 4 refine x_step rfl ?_
  refine x_getf rfl h1 rfl ?_
  refine x_step rfl ?_
  refine x_iald rfl h2 rfl (by unfold vp_in; decide) ?_
  iterate 4 refine x_step rfl ?_
  refine x_getf rfl h1 rfl ?_
  refine x_step rfl ?_
  refine x_iald rfl h2 rfl (by unfold vp_in; decide) ?_
  refine x_step rfl ?_
  exact x_iret rfl rfl rfl ⟨rfl, rfl⟩
/-- the sum's loop: from i with sum s -/
def xsumF (f : Nat → Int32) (n : Int32) : Nat → Int32 → Int32 → Int32
  | 0, _, s => s
  | m + 1, i, s => if n ≤ i then s else if 130 ≤ i then s else xsumF f n m (i + 1) (s + f i.toNatClampNeg)
def xsum (f : Nat → Int32) (n : Int32) : Int32 := xsumF f n 131 0 0 &&& 65535
theorem m53_loop (h1 : hp[a]? = some (xO 4 [.ref b, .int n, .int x])) (h2 : hp[b]? = some (xI 0 130 f)) : ∀ (m : Nat) (i s : Int32), 0 ≤ i → i.toInt + m = 131 → XW l 53 d 0 0 4 [some (.ref a), some (.int s), some (.int i)] [] hp (xm_is (some (.int (xsumF f n m i s &&& 65535))) hp) := by
  intro m
  induction m with
  | zero =>
    intro i s h0 hm
    iterate 2 refine x_step rfl ?_
    refine x_getf rfl h1 rfl ?_
    refine x_icmp_ge rfl (fun q1 => ?_) (fun q1 => ?_)
    · refine x_step rfl ?_
      refine x_ldc rfl (by decide) ?_
      refine x_step rfl ?_
      exact x_iret rfl rfl rfl ⟨rfl, rfl⟩
    · iterate 2 refine x_step rfl ?_
      refine x_icmp_ge rfl (fun q2 => ?_) (fun q2 => ?_)
      · refine x_step rfl ?_
        refine x_ldc rfl (by decide) ?_
        refine x_step rfl ?_
        exact x_iret rfl rfl rfl ⟨rfl, rfl⟩
      · exact absurd ((xm_le 130).mpr (by show (130 : Int) ≤ _; omega)) q2
  | succ m ih =>
    intro i s h0 hm
    iterate 2 refine x_step rfl ?_
    refine x_getf rfl h1 rfl ?_
    refine x_icmp_ge rfl (fun q1 => ?_) (fun q1 => ?_)
    · refine x_step rfl ?_
      refine x_ldc rfl (by decide) ?_
      refine x_step rfl ?_
      exact x_iret rfl rfl rfl ⟨by rw [xsumF, if_pos q1], rfl⟩
    · iterate 2 refine x_step rfl ?_
      refine x_icmp_ge rfl (fun q2 => ?_) (fun q2 => ?_)
      · refine x_step rfl ?_
        refine x_ldc rfl (by decide) ?_
        refine x_step rfl ?_
        exact x_iret rfl rfl rfl ⟨by rw [xsumF, if_neg q1, if_pos q2], rfl⟩
      · iterate 2 refine x_step rfl ?_
        refine x_getf rfl h1 rfl ?_
        refine x_step rfl ?_
        refine x_iald rfl h2 rfl (xm_in h0 (Int32.not_le.mp q2) rfl) ?_
        iterate 4 refine x_step rfl ?_
        rw [xsumF, if_neg q1, if_neg q2]
        have q3 := Int32.lt_iff_toInt_lt.mp (Int32.not_le.mp q2)
        have e1 : (i + 1).toInt = i.toInt + 1 := xm_inc (Int32.not_le.mp q2)
        exact ih (i + 1) (s + f i.toNatClampNeg) (xm_nn.mpr (by rw [e1]; have := xm_nn.mp h0; omega)) (by rw [e1]; omega)
/-- Message.sum -/
theorem m53 (h1 : hp[a]? = some (xO 4 [.ref b, .int n, .int x])) (h2 : hp[b]? = some (xI 0 130 f)) : XM l 53 d 0 0 [.ref a] hp (xm_is (some (.int (xsum f n))) hp) := by
  refine XE (pl := [some (.ref a), none, none]) xg53 rfl ?_
  iterate 4 refine x_step rfl ?_
  exact m53_loop h1 h2 131 0 0 (by decide) (by decide)
end EM
end
section
section EO
variable {l : Launch} {d L : Nat} {xs : Nat → Int32} {g : xm_H} {tc : Int32} {tf : (Nat → Int32)} {bl : Int32} {bf : (Nat → Int32)} {of : Int32} {oc : Int32} {ol : Int32} {on : Int32} {ml : (Nat → Int32)} {mx : (Nat → Int32)} {mb : (Nat → Nat → Int32)} {kc : Int32} {kh : (Nat → Nat)} {kr : (Nat → Nat → Int32)} {ka : (Nat → Int32)} {gl : Int32} {gx : Int32} {gb : (Nat → Int32)} {ls : Int32} {lq : Int32} {lk : Int32} {lg : Int32} {lh : Int32} {vf : (Nat → Int32)} {vs : (Nat → Int32)} {vb : (Nat → Nat → Int32)} {nv : (Nat → Int32)} {nw : (Nat → Nat → Int32)} {nr : (Nat → Int32)} {nq : (Nat → Nat → Int32)} {ne : (Nat → Int32)} {io : Int32} {sp : Int32} {ch : Int32} {wt : Int32} {xf : (Nat → Int32)} {xz : (Nat → Int32)} {xt : (Nat → Int32)} {xb : (Nat → Int32)} {xc : Int32}
def updf (mb : Nat → Nat → Int32) (j : Nat) (f : Nat → Int32) : Nat → Nat → Int32 := fun i => if i = j then f else mb i
theorem xm_ge39 (j : Nat) : xm_c0 ≤ 39 + 2 * j := Nat.le_trans (show 32 ≤ 39 by decide) (Nat.le_add_right _ _)
theorem xm_ge40 (j : Nat) : xm_c0 ≤ 40 + 2 * j := Nat.le_trans (show 32 ≤ 40 by decide) (Nat.le_add_right _ _)
theorem updf_same (mb : Nat → Nat → Int32) (j : Nat) (f : Nat → Int32) : updf mb j f j = f := by simp [updf]
theorem updf_updf (mb : Nat → Nat → Int32) (j : Nat) (f g : Nat → Int32) : updf (updf mb j f) j g = updf mb j g := by
  funext i
  by_cases h : i = j <;> simp [updf, h]
theorem xm_8 {j : Nat} (h : j < 8) : j = 0 ∨ j = 1 ∨ j = 2 ∨ j = 3 ∨ j = 4 ∨ j = 5 ∨ j = 6 ∨ j = 7 := by omega
theorem cw_msg {j : Nat} (hj : j < 8) : ((cw L xs g tc tf bl bf of oc ol on ml mx mb kc kh kr ka gl gx gb ls lq lk lg lh vf vs vb nv nw nr nq ne io sp ch wt xf xz xt xb xc))[39 + 2 * j]? = some (xO 4 [.ref (40 + 2 * j), .int (ml j), .int (mx j)]) := by
  rcases xm_8 hj with h | h | h | h | h | h | h | h <;> (subst h; rfl)
theorem cw_row {j : Nat} (hj : j < 8) : ((cw L xs g tc tf bl bf of oc ol on ml mx mb kc kh kr ka gl gx gb ls lq lk lg lh vf vs vb nv nw nr nq ne io sp ch wt xf xz xt xb xc))[40 + 2 * j]? = some (xI 0 130 (mb j)) := by
  rcases xm_8 hj with h | h | h | h | h | h | h | h <;> (subst h; rfl)
theorem cw_setm {j : Nat} (hj : j < 8) (n x : Int32) : ((cw L xs g tc tf bl bf of oc ol on ml mx mb kc kh kr ka gl gx gb ls lq lk lg lh vf vs vb nv nw nr nq ne io sp ch wt xf xz xt xb xc)).set (39 + 2 * j) (xO 4 [.ref (40 + 2 * j), .int n, .int x]) = (cw L xs g tc tf bl bf of oc ol on (upd ml j n) (upd mx j x) mb kc kh kr ka gl gx gb ls lq lk lg lh vf vs vb nv nw nr nq ne io sp ch wt xf xz xt xb xc) := by
  rcases xm_8 hj with h | h | h | h | h | h | h | h <;> (subst h; rfl)
theorem cw_setb {j : Nat} (hj : j < 8) (f : Nat → Int32) : ((cw L xs g tc tf bl bf of oc ol on ml mx mb kc kh kr ka gl gx gb ls lq lk lg lh vf vs vb nv nw nr nq ne io sp ch wt xf xz xt xb xc)).set (40 + 2 * j) (xI 0 130 f) = (cw L xs g tc tf bl bf of oc ol on ml mx (updf mb j f) kc kh kr ka gl gx gb ls lq lk lg lh vf vs vb nv nw nr nq ne io sp ch wt xf xz xt xb xc) := by
  rcases xm_8 hj with h | h | h | h | h | h | h | h <;> (subst h; rfl)
/-- Outbox.count -/
theorem m39 : XM l 39 d 0 0 [.ref 35] (cw L xs g tc tf bl bf of oc ol on ml mx mb kc kh kr ka gl gx gb ls lq lk lg lh vf vs vb nv nw nr nq ne io sp ch wt xf xz xt xb xc) (xm_is (some (.int oc)) (cw L xs g tc tf bl bf of oc ol on ml mx mb kc kh kr ka gl gx gb ls lq lk lg lh vf vs vb nv nw nr nq ne io sp ch wt xf xz xt xb xc)) := by
  refine XE (pl := [some (.ref 35)]) xg39 rfl ?_
  iterate 2 refine x_step rfl ?_
  exact x_iret rfl rfl rfl ⟨rfl, rfl⟩
/-- Outbox.lost -/
theorem m161 : XM l 161 d 0 0 [.ref 35] (cw L xs g tc tf bl bf of oc ol on ml mx mb kc kh kr ka gl gx gb ls lq lk lg lh vf vs vb nv nw nr nq ne io sp ch wt xf xz xt xb xc) (xm_is (some (.int ol)) (cw L xs g tc tf bl bf of oc ol on ml mx mb kc kh kr ka gl gx gb ls lq lk lg lh vf vs vb nv nw nr nq ne io sp ch wt xf xz xt xb xc)) := by
  refine XE (pl := [some (.ref 35)]) xg161 rfl ?_
  iterate 2 refine x_step rfl ?_
  exact x_iret rfl rfl rfl ⟨rfl, rfl⟩
/-- Outbox.first -/
theorem m55 (h : vp_in of 8) : XM l 55 d 0 0 [.ref 35] (cw L xs g tc tf bl bf of oc ol on ml mx mb kc kh kr ka gl gx gb ls lq lk lg lh vf vs vb nv nw nr nq ne io sp ch wt xf xz xt xb xc) (xm_is (some (.ref (39 + 2 * of.toNatClampNeg))) (cw L xs g tc tf bl bf of oc ol on ml mx mb kc kh kr ka gl gx gb ls lq lk lg lh vf vs vb nv nw nr nq ne io sp ch wt xf xz xt xb xc)) := by
  refine XE (pl := [some (.ref 35)]) xg55 rfl ?_
  iterate 4 refine x_step rfl ?_
  refine x_aald rfl rfl rfl h rfl ?_
  exact x_aret rfl rfl rfl ⟨rfl, rfl⟩
/-- Outbox.dropFirst -/
theorem m60 (h0 : ¬ oc ≤ 0) : XM l 60 d 0 0 [.ref 35] (cw L xs g tc tf bl bf of oc ol on ml mx mb kc kh kr ka gl gx gb ls lq lk lg lh vf vs vb nv nw nr nq ne io sp ch wt xf xz xt xb xc) (xm_is none (cw L xs g tc tf bl bf (of + 1 - (of + 1) / 8 * 8) (oc - 1) ol on ml mx mb kc kh kr ka gl gx gb ls lq lk lg lh vf vs vb nv nw nr nq ne io sp ch wt xf xz xt xb xc)) := by
  refine XE (pl := [some (.ref 35)]) xg60 rfl ?_
  iterate 2 refine x_step rfl ?_
  refine x_if_le rfl (fun q1 => absurd q1 h0) (fun q1 => ?_)
  iterate 6 refine x_step rfl ?_
  refine x_irem rfl (by decide) ?_
  iterate 7 refine x_step rfl ?_
  exact x_ret rfl rfl ⟨rfl, rfl⟩
/-- Outbox.failFirst, when it isn't the last failure -/
theorem m58a (hd : 1 ≤ d) (h : vp_in of 8) (hj : of.toNatClampNeg < 8) (hx : mx of.toNatClampNeg + 1 < 4) : XM l 58 d 0 0 [.ref 35] (cw L xs g tc tf bl bf of oc ol on ml mx mb kc kh kr ka gl gx gb ls lq lk lg lh vf vs vb nv nw nr nq ne io sp ch wt xf xz xt xb xc) (xm_is none (cw L xs g tc tf bl bf of oc ol on (upd ml of.toNatClampNeg (ml of.toNatClampNeg)) (upd mx of.toNatClampNeg (mx of.toNatClampNeg + 1)) mb kc kh kr ka gl gx gb ls lq lk lg lh vf vs vb nv nw nr nq ne io sp ch wt xf xz xt xb xc)) := by
  refine XE (pl := [some (.ref 35)]) xg58 rfl ?_
  iterate 4 refine x_step rfl ?_
  refine x_aald rfl rfl rfl h rfl ?_
  refine x_callvE rfl (m59 (d := 0) (xm_ge39 _) (cw_msg hj)) rfl rfl (cw_msg hj) ?_
  refine xm_hs (cw_setm hj _ _) ?_
  refine x_step rfl ?_
  refine x_icmp_lt rfl (fun q1 => ?_) (fun q1 => absurd hx q1)
  exact x_ret rfl rfl ⟨rfl, rfl⟩
/-- Outbox.failFirst, the last failure -/
theorem m58b (hd : 1 ≤ d) (h : vp_in of 8) (hj : of.toNatClampNeg < 8) (hx : ¬ mx of.toNatClampNeg + 1 < 4) (h0 : ¬ oc ≤ 0) : XM l 58 d 0 0 [.ref 35] (cw L xs g tc tf bl bf of oc ol on ml mx mb kc kh kr ka gl gx gb ls lq lk lg lh vf vs vb nv nw nr nq ne io sp ch wt xf xz xt xb xc) (xm_is none (cw L xs g tc tf bl bf (of + 1 - (of + 1) / 8 * 8) (oc - 1) (ol + 1) on (upd ml of.toNatClampNeg (ml of.toNatClampNeg)) (upd mx of.toNatClampNeg (mx of.toNatClampNeg + 1)) mb kc kh kr ka gl gx gb ls lq lk lg lh vf vs vb nv nw nr nq ne io sp ch wt xf xz xt xb xc)) := by
  refine XE (pl := [some (.ref 35)]) xg58 rfl ?_
  iterate 4 refine x_step rfl ?_
  refine x_aald rfl rfl rfl h rfl ?_
  refine x_callvE rfl (m59 (d := 0) (xm_ge39 _) (cw_msg hj)) rfl rfl (cw_msg hj) ?_
  refine xm_hs (cw_setm hj _ _) ?_
  refine x_step rfl ?_
  refine x_icmp_lt rfl (fun q1 => absurd q1 hx) (fun q1 => ?_)
  refine x_step rfl ?_
  refine x_callvE rfl (m60 (d := 0) h0) rfl rfl rfl ?_
  iterate 6 refine x_step rfl ?_
  exact x_ret rfl rfl ⟨rfl, rfl⟩
/-- Outbox.freshBody -/
theorem m18 (hd : 1 ≤ d) : XM l 18 d 0 0 [.ref 35] (cw L xs g tc tf bl bf of oc ol on ml mx mb kc kh kr ka gl gx gb ls lq lk lg lh vf vs vb nv nw nr nq ne io sp ch wt xf xz xt xb xc) (xm_is (some (.ref 37)) (cw L xs g tc tf (0) bf of oc ol on ml mx mb kc kh kr ka gl gx gb ls lq lk lg lh vf vs vb nv nw nr nq ne io sp ch wt xf xz xt xb xc)) := by
  refine XE (pl := [some (.ref 35)]) xg18 rfl ?_
  iterate 2 refine x_step rfl ?_
  refine x_callvE rfl (m19 (d := 0)) rfl rfl rfl ?_
  iterate 2 refine x_step rfl ?_
  exact x_aret rfl rfl rfl ⟨rfl, rfl⟩
/-- Outbox.nextNumber -/
theorem m30 : XM l 30 d 0 0 [.ref 35] (cw L xs g tc tf bl bf of oc ol on ml mx mb kc kh kr ka gl gx gb ls lq lk lg lh vf vs vb nv nw nr nq ne io sp ch wt xf xz xt xb xc) (xm_is (some (.int (on + 1 &&& 65535))) (cw L xs g tc tf bl bf of oc ol (on + 1 &&& 65535) ml mx mb kc kh kr ka gl gx gb ls lq lk lg lh vf vs vb nv nw nr nq ne io sp ch wt xf xz xt xb xc)) := by
  refine XE (pl := [some (.ref 35)]) xg30 rfl ?_
  iterate 5 refine x_step rfl ?_
  refine x_ldc rfl (by decide) ?_
  iterate 4 refine x_step rfl ?_
  exact x_iret rfl rfl rfl ⟨rfl, rfl⟩
/-- the copying of the body behind a header: from i on, into the row r -/
def xcopyF (f : Nat → Int32) (n : Int32) : Nat → Int32 → (Nat → Int32) → (Nat → Int32)
  | 0, _, r => r
  | m + 1, i, r => if n ≤ i then r else if 120 ≤ i then r else xcopyF f n m (i + 1) (upd r (10 + i).toNatClampNeg (f i.toNatClampNeg))
def xcopy (f : Nat → Int32) (n : Int32) (r : Nat → Int32) : Nat → Int32 := xcopyF f n 121 0 r
theorem m37_loop {hp : xm_H} {b : Nat} {n : Int32} {f : Nat → Int32} (hb : xm_c0 ≤ b) (hb7 : b ≠ 37) (hb8 : b ≠ 38) (h1 : hp[37]? = some (xO 3 [.ref 38, .int n])) (h2 : hp[38]? = some (xI 0 120 f)) (hl : b < hp.length) : ∀ (m : Nat) (i : Int32) (r : Nat → Int32), 0 ≤ i → i.toInt + m = 121 → XW l 37 d 0 0 2 [some (.ref 37), some (.ref b), some (.int 10), some (.int i)] [] (hp.set b (xI 0 130 r)) (xm_is none (hp.set b (xI 0 130 (xcopyF f n m i r)))) := by
  have g1 : ∀ r : Nat → Int32, (hp.set b (xI 0 130 r))[37]? = some (xO 3 [.ref 38, .int n]) := fun r => xm_oth _ h1 hb7
  have g2 : ∀ r : Nat → Int32, (hp.set b (xI 0 130 r))[38]? = some (xI 0 120 f) := fun r => xm_oth _ h2 hb8
  have g3 : ∀ r : Nat → Int32, (hp.set b (xI 0 130 r))[b]? = some (xI 0 130 r) := fun r => by rw [List.getElem?_set]; simp [hl]
  intro m
  induction m with
  | zero =>
    intro i r h0 hm
    iterate 2 refine x_step rfl ?_
    refine x_getf rfl (g1 r) rfl ?_
    refine x_icmp_ge rfl (fun q1 => ?_) (fun q1 => ?_)
    · exact x_ret rfl rfl ⟨rfl, rfl⟩
    · iterate 2 refine x_step rfl ?_
      refine x_icmp_ge rfl (fun q2 => ?_) (fun q2 => ?_)
      · exact x_ret rfl rfl ⟨rfl, rfl⟩
      · exact absurd ((xm_le 120).mpr (by show (120 : Int) ≤ _; omega)) q2
  | succ m ih =>
    intro i r h0 hm
    iterate 2 refine x_step rfl ?_
    refine x_getf rfl (g1 r) rfl ?_
    refine x_icmp_ge rfl (fun q1 => ?_) (fun q1 => ?_)
    · exact x_ret rfl rfl ⟨rfl, by rw [xcopyF, if_pos q1]⟩
    · iterate 2 refine x_step rfl ?_
      refine x_icmp_ge rfl (fun q2 => ?_) (fun q2 => ?_)
      · exact x_ret rfl rfl ⟨rfl, by rw [xcopyF, if_neg q1, if_pos q2]⟩
      · have q3 := xm_lt2.mp (Int32.not_le.mp q2)
        have q3' : i.toInt < 120 := q3
        have h0' := xm_nn.mp h0
        have e10 : (10 + i).toInt = 10 + i.toInt := by
          rw [Int32.toInt_add]
          simp only [show (10 : Int32).toInt = 10 from rfl]
          rw [Int.bmod_eq_of_le] <;> omega
        have hlt : 10 + i < 130 := xm_lt2.mpr (by rw [e10]; show _ < (130 : Int); omega)
        iterate 4 refine x_step rfl ?_
        refine x_alen rfl (g3 r) (Or.inl ⟨_, _, rfl⟩) rfl ?_
        refine x_icmp_ge rfl (fun q4 => absurd hlt (Int32.not_lt.mpr q4)) (fun q4 => ?_)
        iterate 5 refine x_step rfl ?_
        refine x_getf rfl (g1 r) rfl ?_
        refine x_step rfl ?_
        refine x_iald rfl (g2 r) rfl (xm_in h0 (Int32.not_le.mp q2) rfl) ?_
        refine x_iast rfl (g3 r) hb rfl (xm_in (xm_nn.mpr (by rw [e10]; omega)) hlt rfl) ?_
        rw [List.set_set]
        iterate 2 refine x_step rfl ?_
        rw [xcopyF, if_neg q1, if_neg q2]
        have e1 : (i + 1).toInt = i.toInt + 1 := xm_inc (Int32.not_le.mp q2)
        exact ih (i + 1) _ (xm_nn.mpr (by rw [e1]; omega)) (by rw [e1]; omega)
/-- Body.copyTo, behind a header -/
theorem m37 {hp : xm_H} {b : Nat} {n : Int32} {f r : Nat → Int32} (hb : xm_c0 ≤ b) (hb7 : b ≠ 37) (hb8 : b ≠ 38) (h1 : hp[37]? = some (xO 3 [.ref 38, .int n])) (h2 : hp[38]? = some (xI 0 120 f)) (h3 : hp[b]? = some (xI 0 130 r)) : XM l 37 d 0 0 [.ref 37, .ref b, .int 10] hp (xm_is none (hp.set b (xI 0 130 (xcopy f n r)))) := by
  refine XE (pl := [some (.ref 37), some (.ref b), some (.int 10), none]) xg37 rfl ?_
  iterate 2 refine x_step rfl ?_
  have h := m37_loop (l := l) (d := d) hb hb7 hb8 h1 h2 (xm_lt h3) 121 0 r (by decide) (by decide)
  rw [xm_set_id h3] at h
  exact h
/-- Outbox.send, where there is no room -/
theorem m31a (sb fn sy : Int32) (h8 : 8 ≤ oc) : XM l 31 d 0 0 [.ref 35, .int sb, .int fn, .int sy] (cw L xs g tc tf bl bf of oc ol on ml mx mb kc kh kr ka gl gx gb ls lq lk lg lh vf vs vb nv nw nr nq ne io sp ch wt xf xz xt xb xc) (xm_is none (cw L xs g tc tf bl bf of oc (ol + 1) on ml mx mb kc kh kr ka gl gx gb ls lq lk lg lh vf vs vb nv nw nr nq ne io sp ch wt xf xz xt xb xc)) := by
  refine XE (pl := [some (.ref 35), some (.int sb), some (.int fn), some (.int sy), none]) xg31 rfl ?_
  iterate 3 refine x_step rfl ?_
  refine x_icmp_ge rfl (fun q1 => ?_) (fun q1 => absurd h8 q1)
  iterate 6 refine x_step rfl ?_
  exact x_ret rfl rfl ⟨rfl, rfl⟩
/-- Outbox.send, where the body is too long -/
theorem m31b (sb fn sy : Int32) (hd : 1 ≤ d) (h8 : ¬ 8 ≤ oc) (hb : 120 < bl) : XM l 31 d 0 0 [.ref 35, .int sb, .int fn, .int sy] (cw L xs g tc tf bl bf of oc ol on ml mx mb kc kh kr ka gl gx gb ls lq lk lg lh vf vs vb nv nw nr nq ne io sp ch wt xf xz xt xb xc) (xm_is none (cw L xs g tc tf bl bf of oc (ol + 1) on ml mx mb kc kh kr ka gl gx gb ls lq lk lg lh vf vs vb nv nw nr nq ne io sp ch wt xf xz xt xb xc)) := by
  refine XE (pl := [some (.ref 35), some (.int sb), some (.int fn), some (.int sy), none]) xg31 rfl ?_
  iterate 3 refine x_step rfl ?_
  refine x_icmp_ge rfl (fun q1 => absurd q1 h8) (fun q1 => ?_)
  iterate 2 refine x_step rfl ?_
  refine x_callvE rfl (m32 (d := 0)) rfl rfl rfl ?_
  rw [if_pos hb]
  refine x_if_ne rfl (fun q2 => absurd rfl q2) (fun q2 => ?_)
  iterate 6 refine x_step rfl ?_
  exact x_ret rfl rfl ⟨rfl, rfl⟩
/-- Outbox.send -/
theorem m31c (sb fn sy : Int32) {j : Nat} (hd : 1 ≤ d) (h8 : ¬ 8 ≤ oc) (hb : ¬ 120 < bl) (hi : vp_in (of + oc - (of + oc) / 8 * 8) 8) (hj : (of + oc - (of + oc) / 8 * 8).toNatClampNeg = j) (hj8 : j < 8) : XM l 31 d 0 0 [.ref 35, .int sb, .int fn, .int sy] (cw L xs g tc tf bl bf of oc ol on ml mx mb kc kh kr ka gl gx gb ls lq lk lg lh vf vs vb nv nw nr nq ne io sp ch wt xf xz xt xb xc) (xm_is none (cw L xs g tc tf bl bf of (oc + 1) ol on (upd ml j (10 + bl)) (upd mx j 0) (updf mb j (xcopy bf bl (xhead (mb j) sb fn sy))) kc kh kr ka gl gx gb ls lq lk lg lh vf vs vb nv nw nr nq ne io sp ch wt xf xz xt xb xc)) := by
  refine XE (pl := [some (.ref 35), some (.int sb), some (.int fn), some (.int sy), none]) xg31 rfl ?_
  iterate 3 refine x_step rfl ?_
  refine x_icmp_ge rfl (fun q1 => absurd q1 h8) (fun q1 => ?_)
  iterate 2 refine x_step rfl ?_
  refine x_callvE rfl (m32 (d := 0)) rfl rfl rfl ?_
  rw [if_neg hb]
  refine x_if_ne rfl (fun q2 => ?_) (fun q2 => absurd q2 (by decide))
  iterate 8 refine x_step rfl ?_
  refine x_irem rfl (by decide) ?_
  refine x_aald rfl rfl rfl hi rfl ?_
  rw [hj]
  iterate 5 refine x_step rfl ?_
  refine x_callvE rfl (m33 (d := 0)) rfl rfl rfl ?_
  refine x_step rfl ?_
  refine x_callvE rfl (m34 (d := 0) (10 + bl) (xm_ge39 j) (cw_msg hj8)) rfl rfl (cw_msg hj8) ?_
  refine xm_hs (cw_setm hj8 _ _) ?_
  iterate 4 refine x_step rfl ?_
  refine x_callvE rfl (m35 (d := 0) sb fn sy (xm_ge40 j) (by omega) (cw_msg hj8) (cw_row hj8)) rfl rfl (cw_msg hj8) ?_
  refine xm_hs (cw_setb hj8 _) ?_
  iterate 3 refine x_step rfl ?_
  refine x_callvE rfl (m36 (d := 0) (cw_msg hj8)) rfl rfl (cw_msg hj8) ?_
  refine x_step rfl ?_
  refine x_callvE rfl (m37 (d := 0) (xm_ge40 j) (by omega) (by omega) rfl rfl (cw_row hj8)) rfl rfl rfl ?_
  refine xm_hs (cw_setb hj8 _) ?_
  iterate 6 refine x_step rfl ?_
  refine x_ret rfl rfl ⟨rfl, ?_⟩
  rw [updf_updf, updf_same]
  rfl
end EO
end
section
section EL
variable {l : Launch} {d L : Nat} {xs : Nat → Int32} {g : xm_H} {tc : Int32} {tf : (Nat → Int32)} {bl : Int32} {bf : (Nat → Int32)} {of : Int32} {oc : Int32} {ol : Int32} {on : Int32} {ml : (Nat → Int32)} {mx : (Nat → Int32)} {mb : (Nat → Nat → Int32)} {kc : Int32} {kh : (Nat → Nat)} {kr : (Nat → Nat → Int32)} {ka : (Nat → Int32)} {gl : Int32} {gx : Int32} {gb : (Nat → Int32)} {ls : Int32} {lq : Int32} {lk : Int32} {lg : Int32} {lh : Int32} {vf : (Nat → Int32)} {vs : (Nat → Int32)} {vb : (Nat → Nat → Int32)} {nv : (Nat → Int32)} {nw : (Nat → Nat → Int32)} {nr : (Nat → Int32)} {nq : (Nat → Nat → Int32)} {ne : (Nat → Int32)} {io : Int32} {sp : Int32} {ch : Int32} {wt : Int32} {xf : (Nat → Int32)} {xz : (Nat → Int32)} {xt : (Nat → Int32)} {xb : (Nat → Int32)} {xc : Int32}
theorem xm_xor_nn {x y : Int32} (hx : 0 ≤ x) (hy : 0 ≤ y) : ¬ (x ^^^ y < 0) := by
  intro h
  have h2 := Int32.lt_iff_toInt_lt.mp h
  have e : (x ^^^ y).toInt = (x.toBitVec ^^^ y.toBitVec).toInt := rfl
  have ex := xm_nn.mp hx
  have ey := xm_nn.mp hy
  have mx : x.toBitVec.msb = false := by rw [BitVec.msb_eq_toInt]; simp; exact ex
  have my : y.toBitVec.msb = false := by rw [BitVec.msb_eq_toInt]; simp; exact ey
  have hm : (x.toBitVec ^^^ y.toBitVec).msb = false := by rw [BitVec.msb_xor, mx, my]; rfl
  rw [BitVec.msb_eq_toInt] at hm
  rw [e] at h2
  have h3 : (x.toBitVec ^^^ y.toBitVec).toInt < 0 := h2
  exact of_decide_eq_false hm h3
theorem xfm_nI {a e : Nat} (ha : a < 2 ^ 31) (h0 : 0 < e) (he : e < 2 ^ 31) : xfm (nI a) (nI e) = nI (a % e) := by
  rw [xfm, if_neg (fun h => xm_xor_nn (nI_pos' ha) (nI_pos' he) h.1), pk_rem ha h0 he]
theorem xfm_in {a : Nat} (ha : a < 2 ^ 31) : vp_in (xfm (nI a) 501) 501 := by
  rw [show (501 : Int32) = nI 501 from rfl, xfm_nI ha (by decide) (by decide)]
  exact nI_in (Nat.mod_lt _ (by decide)) (by decide)
/-- Tape.count -/
theorem m44 : XM l 44 d 0 0 [.ref 33] (cw L xs g tc tf bl bf of oc ol on ml mx mb kc kh kr ka gl gx gb ls lq lk lg lh vf vs vb nv nw nr nq ne io sp ch wt xf xz xt xb xc) (xm_is (some (.int tc)) (cw L xs g tc tf bl bf of oc ol on ml mx mb kc kh kr ka gl gx gb ls lq lk lg lh vf vs vb nv nw nr nq ne io sp ch wt xf xz xt xb xc)) := by
  refine XE (pl := [some (.ref 33)]) xg44 rfl ?_
  iterate 2 refine x_step rfl ?_
  exact x_iret rfl rfl rfl ⟨rfl, rfl⟩
/-- what saying x does to the kept bytes -/
def xsay (tf : Nat → Int32) (tc x : Int32) : Nat → Int32 := upd tf (xfm tc 501).toNatClampNeg x
/-- Tape.say -/
theorem m40w (x : Int32) (hd : 1 ≤ d) (hc : vp_in (xfm tc 501) 501) : XM l 40 d 0 0 [.ref 33, .int x] (cw L xs g tc tf bl bf of oc ol on ml mx mb kc kh kr ka gl gx gb ls lq lk lg lh vf vs vb nv nw nr nq ne io sp ch wt xf xz xt xb xc) (xm_is none (cw L xs g (tc + 1) (xsay tf tc x) bl bf of oc ol on ml mx mb kc kh kr ka gl gx gb ls lq lk lg lh vf vs vb nv nw nr nq ne io sp ch wt xf xz xt xb xc)) :=
  m40 (a := 33) (b := 34) x hd (by decide) (by decide) (by decide) hc rfl rfl
/-- Line.state -/
theorem m157 : XM l 157 d 0 0 [.ref 66] (cw L xs g tc tf bl bf of oc ol on ml mx mb kc kh kr ka gl gx gb ls lq lk lg lh vf vs vb nv nw nr nq ne io sp ch wt xf xz xt xb xc) (xm_is (some (.int ls)) (cw L xs g tc tf bl bf of oc ol on ml mx mb kc kh kr ka gl gx gb ls lq lk lg lh vf vs vb nv nw nr nq ne io sp ch wt xf xz xt xb xc)) := by
  refine XE (pl := [some (.ref 66)]) xg157 rfl ?_
  iterate 2 refine x_step rfl ?_
  exact x_iret rfl rfl rfl ⟨rfl, rfl⟩
/-- Line.enter -/
theorem m42 (x : Int32) : XM l 42 d 0 0 [.ref 66, .int x] (cw L xs g tc tf bl bf of oc ol on ml mx mb kc kh kr ka gl gx gb ls lq lk lg lh vf vs vb nv nw nr nq ne io sp ch wt xf xz xt xb xc) (xm_is none (cw L xs g tc tf bl bf of oc ol on ml mx mb kc kh kr ka gl gx gb (x) (0) lk lg lh vf vs vb nv nw nr nq ne io sp ch wt xf xz xt xb xc)) := by
  refine XE (pl := [some (.ref 66), some (.int x)]) xg42 rfl ?_
  iterate 6 refine x_step rfl ?_
  exact x_ret rfl rfl ⟨rfl, rfl⟩
/-- Line.endReading -/
theorem m50 (x : Int32) (hd : 2 ≤ d) (hc : vp_in (xfm tc 501) 501) : XM l 50 d 0 0 [.ref 66, .int x] (cw L xs g tc tf bl bf of oc ol on ml mx mb kc kh kr ka gl gx gb ls lq lk lg lh vf vs vb nv nw nr nq ne io sp ch wt xf xz xt xb xc) (xm_is none (cw L xs g (tc + 1) (xsay tf tc x) bl bf of oc ol on ml mx mb kc kh kr ka gl gx gb (0) (0) lk lg lh vf vs vb nv nw nr nq ne io sp ch wt xf xz xt xb xc)) := by
  refine XE (pl := [some (.ref 66), some (.int x)]) xg50 rfl ?_
  iterate 3 refine x_step rfl ?_
  refine x_callvE rfl (m40w (d := 1) x (by omega) hc) rfl rfl rfl ?_
  iterate 2 refine x_step rfl ?_
  refine x_callvE rfl (m42 (d := 0) 0) rfl rfl rfl ?_
  exact x_ret rfl rfl ⟨rfl, rfl⟩
/-- Line.settle: nothing is due -/
theorem m38a (hd : 2 ≤ d) (h : ¬ (ls = 0 ∧ ¬ oc ≤ 0)) : XM l 38 d 0 0 [.ref 66] (cw L xs g tc tf bl bf of oc ol on ml mx mb kc kh kr ka gl gx gb ls lq lk lg lh vf vs vb nv nw nr nq ne io sp ch wt xf xz xt xb xc) (xm_is none (cw L xs g tc tf bl bf of oc ol on ml mx mb kc kh kr ka gl gx gb ls lq lk lg lh vf vs vb nv nw nr nq ne io sp ch wt xf xz xt xb xc)) := by
  refine XE (pl := [some (.ref 66)]) xg38 rfl ?_
  iterate 2 refine x_step rfl ?_
  refine x_if_ne rfl (fun q1 => ?_) (fun q1 => ?_)
  · exact x_ret rfl rfl ⟨rfl, rfl⟩
  · iterate 2 refine x_step rfl ?_
    refine x_callvE rfl (m39 (d := 0)) rfl rfl rfl ?_
    refine x_if_le rfl (fun q2 => ?_) (fun q2 => absurd ⟨q1, q2⟩ h)
    exact x_ret rfl rfl ⟨rfl, rfl⟩
/-- Line.settle: a message is offered -/
theorem m38b (hd : 2 ≤ d) (h1 : ls = 0) (h2 : ¬ oc ≤ 0) (hc : vp_in (xfm tc 501) 501) : XM l 38 d 0 0 [.ref 66] (cw L xs g tc tf bl bf of oc ol on ml mx mb kc kh kr ka gl gx gb ls lq lk lg lh vf vs vb nv nw nr nq ne io sp ch wt xf xz xt xb xc) (xm_is none (cw L xs g (tc + 1) (xsay tf tc 5) bl bf of oc ol on ml mx mb kc kh kr ka gl gx gb (2) (0) lk lg lh vf vs vb nv nw nr nq ne io sp ch wt xf xz xt xb xc)) := by
  refine XE (pl := [some (.ref 66)]) xg38 rfl ?_
  iterate 2 refine x_step rfl ?_
  refine x_if_ne rfl (fun q1 => absurd h1 q1) (fun q1 => ?_)
  iterate 2 refine x_step rfl ?_
  refine x_callvE rfl (m39 (d := 0)) rfl rfl rfl ?_
  refine x_if_le rfl (fun q2 => absurd q2 h2) (fun q2 => ?_)
  iterate 3 refine x_step rfl ?_
  refine x_callvE rfl (m40w (d := 1) 5 (by omega) hc) rfl rfl rfl ?_
  iterate 2 refine x_step rfl ?_
  refine x_callvE rfl (m42 (d := 0) 2) rfl rfl rfl ?_
  exact x_ret rfl rfl ⟨rfl, rfl⟩
/-- Line.beginReading -/
theorem m63 (hd : 2 ≤ d) (hc : vp_in (xfm tc 501) 501) : XM l 63 d 0 0 [.ref 66] (cw L xs g tc tf bl bf of oc ol on ml mx mb kc kh kr ka gl gx gb ls lq lk lg lh vf vs vb nv nw nr nq ne io sp ch wt xf xz xt xb xc) (xm_is none (cw L xs g (tc + 1) (xsay tf tc 4) bl bf of oc ol on ml mx mb kc kh kr ka gl gx gb (1) (0) (0) (0) (0) vf vs vb nv nw nr nq ne io sp ch wt xf xz xt xb xc)) := by
  refine XE (pl := [some (.ref 66)]) xg63 rfl ?_
  iterate 3 refine x_step rfl ?_
  refine x_callvE rfl (m40w (d := 1) 4 (by omega) hc) rfl rfl rfl ?_
  iterate 2 refine x_step rfl ?_
  refine x_callvE rfl (m42 (d := 0) 1) rfl rfl rfl ?_
  iterate 2 refine x_step rfl ?_
  refine x_putf rfl rfl (Nat.le_of_ble_eq_true rfl) (by decide) rfl rfl ?_
  iterate 6 refine x_step rfl ?_
  exact x_ret rfl rfl ⟨rfl, rfl⟩
/-- Line.readLength: a wrong length -/
theorem m48a (x : Int32) (hd : 3 ≤ d) (h : x < 10 ∨ 130 < x) (hc : vp_in (xfm tc 501) 501) : XM l 48 d 0 0 [.ref 66, .int x] (cw L xs g tc tf bl bf of oc ol on ml mx mb kc kh kr ka gl gx gb ls lq lk lg lh vf vs vb nv nw nr nq ne io sp ch wt xf xz xt xb xc) (xm_is none (cw L xs g (tc + 1) (xsay tf tc 21) bl bf of oc ol on ml mx mb kc kh kr ka gl gx gb (0) (0) lk lg lh vf vs vb nv nw nr nq ne io sp ch wt xf xz xt xb xc)) := by
  refine XE (pl := [some (.ref 66), some (.int x)]) xg48 rfl ?_
  refine x_step rfl ?_
  refine x_callsE rfl (m49 (d := 0) x) rfl rfl ?_
  rw [show (if x < 10 then (0 : Int32) else if 130 < x then 0 else 1) = 0 from by
    by_cases q : x < 10
    · rw [if_pos q]
    · rw [if_neg q, if_pos (h.resolve_left q)]]
  refine x_if_ne rfl (fun q1 => absurd rfl q1) (fun q1 => ?_)
  iterate 2 refine x_step rfl ?_
  refine x_callvE rfl (m50 (d := 2) 21 (by omega) hc) rfl rfl rfl ?_
  exact x_ret rfl rfl ⟨rfl, rfl⟩
/-- Line.readLength: a right one -/
theorem m48b (x : Int32) (hd : 1 ≤ d) (h1 : ¬ x < 10) (h2 : ¬ 130 < x) : XM l 48 d 0 0 [.ref 66, .int x] (cw L xs g tc tf bl bf of oc ol on ml mx mb kc kh kr ka gl gx gb ls lq lk lg lh vf vs vb nv nw nr nq ne io sp ch wt xf xz xt xb xc) (xm_is none (cw L xs g tc tf bl bf of oc ol on ml mx mb kc kh kr ka (x) (0) gb ls lq (1) lg lh vf vs vb nv nw nr nq ne io sp ch wt xf xz xt xb xc)) := by
  refine XE (pl := [some (.ref 66), some (.int x)]) xg48 rfl ?_
  refine x_step rfl ?_
  refine x_callsE rfl (m49 (d := 0) x) rfl rfl ?_
  rw [if_neg h1, if_neg h2]
  refine x_if_ne rfl (fun q1 => ?_) (fun q1 => absurd q1 (by decide))
  iterate 3 refine x_step rfl ?_
  refine x_callvE rfl (m34 (d := 0) (a := 67) (b := 68) x (by decide) rfl) rfl rfl rfl ?_
  iterate 2 refine x_step rfl ?_
  refine x_putf rfl rfl (Nat.le_of_ble_eq_true rfl) (by decide) rfl rfl ?_
  exact x_ret rfl rfl ⟨rfl, rfl⟩
end EL
end
section
section ES
variable {l : Launch} {d L : Nat} {xs : Nat → Int32} {g : xm_H} {tc : Int32} {tf : (Nat → Int32)} {bl : Int32} {bf : (Nat → Int32)} {of : Int32} {oc : Int32} {ol : Int32} {on : Int32} {ml : (Nat → Int32)} {mx : (Nat → Int32)} {mb : (Nat → Nat → Int32)} {kc : Int32} {kh : (Nat → Nat)} {kr : (Nat → Nat → Int32)} {ka : (Nat → Int32)} {gl : Int32} {gx : Int32} {gb : (Nat → Int32)} {ls : Int32} {lq : Int32} {lk : Int32} {lg : Int32} {lh : Int32} {vf : (Nat → Int32)} {vs : (Nat → Int32)} {vb : (Nat → Nat → Int32)} {nv : (Nat → Int32)} {nw : (Nat → Nat → Int32)} {nr : (Nat → Int32)} {nq : (Nat → Nat → Int32)} {ne : (Nat → Int32)} {io : Int32} {sp : Int32} {ch : Int32} {wt : Int32} {xf : (Nat → Int32)} {xz : (Nat → Int32)} {xt : (Nat → Int32)} {xb : (Nat → Int32)} {xc : Int32}
/-- is there room, and does the body fit -/
def xsnd (oc bl : Int32) : Prop := ¬ 8 ≤ oc ∧ ¬ 120 < bl
theorem xsnd_dec (oc bl : Int32) : xsnd oc bl ∨ ¬ xsnd oc bl := Classical.em _
/-- the place of the next message -/
def xslot (of oc : Int32) : Nat := (of + oc - (of + oc) / 8 * 8).toNatClampNeg
/-- Outbox.send: it is sent -/
theorem m31s (sb fn sy : Int32) (hd : 1 ≤ d) (h : xsnd oc bl) (hi : vp_in (of + oc - (of + oc) / 8 * 8) 8) : XM l 31 d 0 0 [.ref 35, .int sb, .int fn, .int sy] (cw L xs g tc tf bl bf of oc ol on ml mx mb kc kh kr ka gl gx gb ls lq lk lg lh vf vs vb nv nw nr nq ne io sp ch wt xf xz xt xb xc) (xm_is none (cw L xs g tc tf bl bf of (oc + 1) ol on (upd ml (xslot of oc) (10 + bl)) (upd mx (xslot of oc) 0) (updf mb (xslot of oc) (xcopy bf bl (xhead (mb (xslot of oc)) sb fn sy))) kc kh kr ka gl gx gb ls lq lk lg lh vf vs vb nv nw nr nq ne io sp ch wt xf xz xt xb xc)) :=
  m31c sb fn sy hd h.1 h.2 hi rfl (Nat.not_le.mp fun q => hi (Or.inr q))
/-- Outbox.send: it is lost -/
theorem m31l (sb fn sy : Int32) (hd : 1 ≤ d) (h : ¬ xsnd oc bl) : XM l 31 d 0 0 [.ref 35, .int sb, .int fn, .int sy] (cw L xs g tc tf bl bf of oc ol on ml mx mb kc kh kr ka gl gx gb ls lq lk lg lh vf vs vb nv nw nr nq ne io sp ch wt xf xz xt xb xc) (xm_is none (cw L xs g tc tf bl bf of oc (ol + 1) on ml mx mb kc kh kr ka gl gx gb ls lq lk lg lh vf vs vb nv nw nr nq ne io sp ch wt xf xz xt xb xc)) := by
  by_cases h8 : 8 ≤ oc
  · exact m31a sb fn sy h8
  · by_cases hb : 120 < bl
    · exact m31b sb fn sy hd h8 hb
    · exact absurd ⟨h8, hb⟩ h

theorem cw_talk {j : Nat} (hj : j < 8) : ((cw L xs g tc tf bl bf of oc ol on ml mx mb kc kh kr ka gl gx gb ls lq lk lg lh vf vs vb nv nw nr nq ne io sp ch wt xf xz xt xb xc))[57 + j]? = some (xI 0 10 (kr j)) := by
  rcases xm_8 hj with h | h | h | h | h | h | h | h <;> (subst h; rfl)
/-- Body.putHeader of a row of 130 -/
theorem m70a (hd : 1 ≤ d) : XM l 70 d 0 0 [.ref 37, .ref 68] (cw L xs g tc tf (0) bf of oc ol on ml mx mb kc kh kr ka gl gx gb ls lq lk lg lh vf vs vb nv nw nr nq ne io sp ch wt xf xz xt xb xc) (xm_is none (cw L xs g tc tf (12) ((xput (0 + 1 + 1 + 1 + 1 + 1 + 1 + 1 + 1 + 1 + 1 + 1) (xput (0 + 1 + 1 + 1 + 1 + 1 + 1 + 1 + 1 + 1 + 1) (xput (0 + 1 + 1 + 1 + 1 + 1 + 1 + 1 + 1 + 1) (xput (0 + 1 + 1 + 1 + 1 + 1 + 1 + 1 + 1) (xput (0 + 1 + 1 + 1 + 1 + 1 + 1 + 1) (xput (0 + 1 + 1 + 1 + 1 + 1 + 1) (xput (0 + 1 + 1 + 1 + 1 + 1) (xput (0 + 1 + 1 + 1 + 1) (xput (0 + 1 + 1 + 1) (xput (0 + 1 + 1) (xput (0 + 1) (xput 0 bf 33) 10) (gb 0)) (gb 1)) (gb 2)) (gb 3)) (gb 4)) (gb 5)) (gb 6)) (gb 7)) (gb 8)) (gb 9))) of oc ol on ml mx mb kc kh kr ka gl gx gb ls lq lk lg lh vf vs vb nv nw nr nq ne io sp ch wt xf xz xt xb xc)) := by
  refine XE (pl := [some (.ref 37), some (.ref 68), none]) xg70 rfl ?_
  iterate 2 refine x_step rfl ?_
  refine x_callvE rfl (m21 (d := 0) 33 (by decide)) rfl rfl rfl ?_
  iterate 2 refine x_step rfl ?_
  refine x_callvE rfl (m21 (d := 0) 10 (by decide)) rfl rfl rfl ?_
  iterate 2 refine x_step rfl ?_
  refine xm_ls (pl' := [some (.ref 37), some (.ref 68), some (.int 0)]) rfl ?_
  iterate 2 refine x_step rfl ?_
  refine x_icmp_ge rfl (fun h => absurd h (by decide)) (fun _ => ?_)
  iterate 2 refine x_step rfl ?_
  refine x_alen rfl rfl (Or.inl ⟨_, _, rfl⟩) rfl ?_
  refine x_icmp_ge rfl (fun h => absurd h (by decide)) (fun _ => ?_)
  iterate 3 refine x_step rfl ?_
  refine x_iald rfl rfl rfl (by unfold vp_in; decide) ?_
  refine x_callvE rfl (m21 (d := 0) _ (by decide)) rfl rfl rfl ?_
  iterate 2 refine x_step rfl ?_
  refine xm_ls (pl' := [some (.ref 37), some (.ref 68), some (.int 1)]) rfl ?_
  iterate 2 refine x_step rfl ?_
  refine x_icmp_ge rfl (fun h => absurd h (by decide)) (fun _ => ?_)
  iterate 2 refine x_step rfl ?_
  refine x_alen rfl rfl (Or.inl ⟨_, _, rfl⟩) rfl ?_
  refine x_icmp_ge rfl (fun h => absurd h (by decide)) (fun _ => ?_)
  iterate 3 refine x_step rfl ?_
  refine x_iald rfl rfl rfl (by unfold vp_in; decide) ?_
  refine x_callvE rfl (m21 (d := 0) _ (by decide)) rfl rfl rfl ?_
  iterate 2 refine x_step rfl ?_
  refine xm_ls (pl' := [some (.ref 37), some (.ref 68), some (.int 2)]) rfl ?_
  iterate 2 refine x_step rfl ?_
  refine x_icmp_ge rfl (fun h => absurd h (by decide)) (fun _ => ?_)
  iterate 2 refine x_step rfl ?_
  refine x_alen rfl rfl (Or.inl ⟨_, _, rfl⟩) rfl ?_
  refine x_icmp_ge rfl (fun h => absurd h (by decide)) (fun _ => ?_)
  iterate 3 refine x_step rfl ?_
  refine x_iald rfl rfl rfl (by unfold vp_in; decide) ?_
  refine x_callvE rfl (m21 (d := 0) _ (by decide)) rfl rfl rfl ?_
  iterate 2 refine x_step rfl ?_
  refine xm_ls (pl' := [some (.ref 37), some (.ref 68), some (.int 3)]) rfl ?_
  iterate 2 refine x_step rfl ?_
  refine x_icmp_ge rfl (fun h => absurd h (by decide)) (fun _ => ?_)
  iterate 2 refine x_step rfl ?_
  refine x_alen rfl rfl (Or.inl ⟨_, _, rfl⟩) rfl ?_
  refine x_icmp_ge rfl (fun h => absurd h (by decide)) (fun _ => ?_)
  iterate 3 refine x_step rfl ?_
  refine x_iald rfl rfl rfl (by unfold vp_in; decide) ?_
  refine x_callvE rfl (m21 (d := 0) _ (by decide)) rfl rfl rfl ?_
  iterate 2 refine x_step rfl ?_
  refine xm_ls (pl' := [some (.ref 37), some (.ref 68), some (.int 4)]) rfl ?_
  iterate 2 refine x_step rfl ?_
  refine x_icmp_ge rfl (fun h => absurd h (by decide)) (fun _ => ?_)
  iterate 2 refine x_step rfl ?_
  refine x_alen rfl rfl (Or.inl ⟨_, _, rfl⟩) rfl ?_
  refine x_icmp_ge rfl (fun h => absurd h (by decide)) (fun _ => ?_)
  iterate 3 refine x_step rfl ?_
  refine x_iald rfl rfl rfl (by unfold vp_in; decide) ?_
  refine x_callvE rfl (m21 (d := 0) _ (by decide)) rfl rfl rfl ?_
  iterate 2 refine x_step rfl ?_
  refine xm_ls (pl' := [some (.ref 37), some (.ref 68), some (.int 5)]) rfl ?_
  iterate 2 refine x_step rfl ?_
  refine x_icmp_ge rfl (fun h => absurd h (by decide)) (fun _ => ?_)
  iterate 2 refine x_step rfl ?_
  refine x_alen rfl rfl (Or.inl ⟨_, _, rfl⟩) rfl ?_
  refine x_icmp_ge rfl (fun h => absurd h (by decide)) (fun _ => ?_)
  iterate 3 refine x_step rfl ?_
  refine x_iald rfl rfl rfl (by unfold vp_in; decide) ?_
  refine x_callvE rfl (m21 (d := 0) _ (by decide)) rfl rfl rfl ?_
  iterate 2 refine x_step rfl ?_
  refine xm_ls (pl' := [some (.ref 37), some (.ref 68), some (.int 6)]) rfl ?_
  iterate 2 refine x_step rfl ?_
  refine x_icmp_ge rfl (fun h => absurd h (by decide)) (fun _ => ?_)
  iterate 2 refine x_step rfl ?_
  refine x_alen rfl rfl (Or.inl ⟨_, _, rfl⟩) rfl ?_
  refine x_icmp_ge rfl (fun h => absurd h (by decide)) (fun _ => ?_)
  iterate 3 refine x_step rfl ?_
  refine x_iald rfl rfl rfl (by unfold vp_in; decide) ?_
  refine x_callvE rfl (m21 (d := 0) _ (by decide)) rfl rfl rfl ?_
  iterate 2 refine x_step rfl ?_
  refine xm_ls (pl' := [some (.ref 37), some (.ref 68), some (.int 7)]) rfl ?_
  iterate 2 refine x_step rfl ?_
  refine x_icmp_ge rfl (fun h => absurd h (by decide)) (fun _ => ?_)
  iterate 2 refine x_step rfl ?_
  refine x_alen rfl rfl (Or.inl ⟨_, _, rfl⟩) rfl ?_
  refine x_icmp_ge rfl (fun h => absurd h (by decide)) (fun _ => ?_)
  iterate 3 refine x_step rfl ?_
  refine x_iald rfl rfl rfl (by unfold vp_in; decide) ?_
  refine x_callvE rfl (m21 (d := 0) _ (by decide)) rfl rfl rfl ?_
  iterate 2 refine x_step rfl ?_
  refine xm_ls (pl' := [some (.ref 37), some (.ref 68), some (.int 8)]) rfl ?_
  iterate 2 refine x_step rfl ?_
  refine x_icmp_ge rfl (fun h => absurd h (by decide)) (fun _ => ?_)
  iterate 2 refine x_step rfl ?_
  refine x_alen rfl rfl (Or.inl ⟨_, _, rfl⟩) rfl ?_
  refine x_icmp_ge rfl (fun h => absurd h (by decide)) (fun _ => ?_)
  iterate 3 refine x_step rfl ?_
  refine x_iald rfl rfl rfl (by unfold vp_in; decide) ?_
  refine x_callvE rfl (m21 (d := 0) _ (by decide)) rfl rfl rfl ?_
  iterate 2 refine x_step rfl ?_
  refine xm_ls (pl' := [some (.ref 37), some (.ref 68), some (.int 9)]) rfl ?_
  iterate 2 refine x_step rfl ?_
  refine x_icmp_ge rfl (fun h => absurd h (by decide)) (fun _ => ?_)
  iterate 2 refine x_step rfl ?_
  refine x_alen rfl rfl (Or.inl ⟨_, _, rfl⟩) rfl ?_
  refine x_icmp_ge rfl (fun h => absurd h (by decide)) (fun _ => ?_)
  iterate 3 refine x_step rfl ?_
  refine x_iald rfl rfl rfl (by unfold vp_in; decide) ?_
  refine x_callvE rfl (m21 (d := 0) _ (by decide)) rfl rfl rfl ?_
  iterate 2 refine x_step rfl ?_
  refine xm_ls (pl' := [some (.ref 37), some (.ref 68), some (.int 10)]) rfl ?_
  iterate 2 refine x_step rfl ?_
  refine x_icmp_ge rfl (fun _ => ?_) (fun h => absurd (by decide) h)
  exact x_ret rfl rfl ⟨rfl, rfl⟩
/-- Body.putHeader of a row of 10 -/
theorem m70b (hd : 1 ≤ d) {j : Nat} (hj : j < 8) : XM l 70 d 0 0 [.ref 37, .ref (57 + j)] (cw L xs g tc tf (0) bf of oc ol on ml mx mb kc kh kr ka gl gx gb ls lq lk lg lh vf vs vb nv nw nr nq ne io sp ch wt xf xz xt xb xc) (xm_is none (cw L xs g tc tf (12) ((xput (0 + 1 + 1 + 1 + 1 + 1 + 1 + 1 + 1 + 1 + 1 + 1) (xput (0 + 1 + 1 + 1 + 1 + 1 + 1 + 1 + 1 + 1 + 1) (xput (0 + 1 + 1 + 1 + 1 + 1 + 1 + 1 + 1 + 1) (xput (0 + 1 + 1 + 1 + 1 + 1 + 1 + 1 + 1) (xput (0 + 1 + 1 + 1 + 1 + 1 + 1 + 1) (xput (0 + 1 + 1 + 1 + 1 + 1 + 1) (xput (0 + 1 + 1 + 1 + 1 + 1) (xput (0 + 1 + 1 + 1 + 1) (xput (0 + 1 + 1 + 1) (xput (0 + 1 + 1) (xput (0 + 1) (xput 0 bf 33) 10) (kr j 0)) (kr j 1)) (kr j 2)) (kr j 3)) (kr j 4)) (kr j 5)) (kr j 6)) (kr j 7)) (kr j 8)) (kr j 9))) of oc ol on ml mx mb kc kh kr ka gl gx gb ls lq lk lg lh vf vs vb nv nw nr nq ne io sp ch wt xf xz xt xb xc)) := by
  refine XE (pl := [some (.ref 37), some (.ref (57 + j)), none]) xg70 rfl ?_
  iterate 2 refine x_step rfl ?_
  refine x_callvE rfl (m21 (d := 0) 33 (by decide)) rfl rfl rfl ?_
  iterate 2 refine x_step rfl ?_
  refine x_callvE rfl (m21 (d := 0) 10 (by decide)) rfl rfl rfl ?_
  iterate 2 refine x_step rfl ?_
  refine xm_ls (pl' := [some (.ref 37), some (.ref (57 + j)), some (.int 0)]) rfl ?_
  iterate 2 refine x_step rfl ?_
  refine x_icmp_ge rfl (fun h => absurd h (by decide)) (fun _ => ?_)
  iterate 2 refine x_step rfl ?_
  refine x_alen rfl (cw_talk hj) (Or.inl ⟨_, _, rfl⟩) rfl ?_
  refine x_icmp_ge rfl (fun h => absurd h (by decide)) (fun _ => ?_)
  iterate 3 refine x_step rfl ?_
  refine x_iald rfl (cw_talk hj) rfl (by unfold vp_in; decide) ?_
  refine x_callvE rfl (m21 (d := 0) _ (by decide)) rfl rfl rfl ?_
  iterate 2 refine x_step rfl ?_
  refine xm_ls (pl' := [some (.ref 37), some (.ref (57 + j)), some (.int 1)]) rfl ?_
  iterate 2 refine x_step rfl ?_
  refine x_icmp_ge rfl (fun h => absurd h (by decide)) (fun _ => ?_)
  iterate 2 refine x_step rfl ?_
  refine x_alen rfl (cw_talk hj) (Or.inl ⟨_, _, rfl⟩) rfl ?_
  refine x_icmp_ge rfl (fun h => absurd h (by decide)) (fun _ => ?_)
  iterate 3 refine x_step rfl ?_
  refine x_iald rfl (cw_talk hj) rfl (by unfold vp_in; decide) ?_
  refine x_callvE rfl (m21 (d := 0) _ (by decide)) rfl rfl rfl ?_
  iterate 2 refine x_step rfl ?_
  refine xm_ls (pl' := [some (.ref 37), some (.ref (57 + j)), some (.int 2)]) rfl ?_
  iterate 2 refine x_step rfl ?_
  refine x_icmp_ge rfl (fun h => absurd h (by decide)) (fun _ => ?_)
  iterate 2 refine x_step rfl ?_
  refine x_alen rfl (cw_talk hj) (Or.inl ⟨_, _, rfl⟩) rfl ?_
  refine x_icmp_ge rfl (fun h => absurd h (by decide)) (fun _ => ?_)
  iterate 3 refine x_step rfl ?_
  refine x_iald rfl (cw_talk hj) rfl (by unfold vp_in; decide) ?_
  refine x_callvE rfl (m21 (d := 0) _ (by decide)) rfl rfl rfl ?_
  iterate 2 refine x_step rfl ?_
  refine xm_ls (pl' := [some (.ref 37), some (.ref (57 + j)), some (.int 3)]) rfl ?_
  iterate 2 refine x_step rfl ?_
  refine x_icmp_ge rfl (fun h => absurd h (by decide)) (fun _ => ?_)
  iterate 2 refine x_step rfl ?_
  refine x_alen rfl (cw_talk hj) (Or.inl ⟨_, _, rfl⟩) rfl ?_
  refine x_icmp_ge rfl (fun h => absurd h (by decide)) (fun _ => ?_)
  iterate 3 refine x_step rfl ?_
  refine x_iald rfl (cw_talk hj) rfl (by unfold vp_in; decide) ?_
  refine x_callvE rfl (m21 (d := 0) _ (by decide)) rfl rfl rfl ?_
  iterate 2 refine x_step rfl ?_
  refine xm_ls (pl' := [some (.ref 37), some (.ref (57 + j)), some (.int 4)]) rfl ?_
  iterate 2 refine x_step rfl ?_
  refine x_icmp_ge rfl (fun h => absurd h (by decide)) (fun _ => ?_)
  iterate 2 refine x_step rfl ?_
  refine x_alen rfl (cw_talk hj) (Or.inl ⟨_, _, rfl⟩) rfl ?_
  refine x_icmp_ge rfl (fun h => absurd h (by decide)) (fun _ => ?_)
  iterate 3 refine x_step rfl ?_
  refine x_iald rfl (cw_talk hj) rfl (by unfold vp_in; decide) ?_
  refine x_callvE rfl (m21 (d := 0) _ (by decide)) rfl rfl rfl ?_
  iterate 2 refine x_step rfl ?_
  refine xm_ls (pl' := [some (.ref 37), some (.ref (57 + j)), some (.int 5)]) rfl ?_
  iterate 2 refine x_step rfl ?_
  refine x_icmp_ge rfl (fun h => absurd h (by decide)) (fun _ => ?_)
  iterate 2 refine x_step rfl ?_
  refine x_alen rfl (cw_talk hj) (Or.inl ⟨_, _, rfl⟩) rfl ?_
  refine x_icmp_ge rfl (fun h => absurd h (by decide)) (fun _ => ?_)
  iterate 3 refine x_step rfl ?_
  refine x_iald rfl (cw_talk hj) rfl (by unfold vp_in; decide) ?_
  refine x_callvE rfl (m21 (d := 0) _ (by decide)) rfl rfl rfl ?_
  iterate 2 refine x_step rfl ?_
  refine xm_ls (pl' := [some (.ref 37), some (.ref (57 + j)), some (.int 6)]) rfl ?_
  iterate 2 refine x_step rfl ?_
  refine x_icmp_ge rfl (fun h => absurd h (by decide)) (fun _ => ?_)
  iterate 2 refine x_step rfl ?_
  refine x_alen rfl (cw_talk hj) (Or.inl ⟨_, _, rfl⟩) rfl ?_
  refine x_icmp_ge rfl (fun h => absurd h (by decide)) (fun _ => ?_)
  iterate 3 refine x_step rfl ?_
  refine x_iald rfl (cw_talk hj) rfl (by unfold vp_in; decide) ?_
  refine x_callvE rfl (m21 (d := 0) _ (by decide)) rfl rfl rfl ?_
  iterate 2 refine x_step rfl ?_
  refine xm_ls (pl' := [some (.ref 37), some (.ref (57 + j)), some (.int 7)]) rfl ?_
  iterate 2 refine x_step rfl ?_
  refine x_icmp_ge rfl (fun h => absurd h (by decide)) (fun _ => ?_)
  iterate 2 refine x_step rfl ?_
  refine x_alen rfl (cw_talk hj) (Or.inl ⟨_, _, rfl⟩) rfl ?_
  refine x_icmp_ge rfl (fun h => absurd h (by decide)) (fun _ => ?_)
  iterate 3 refine x_step rfl ?_
  refine x_iald rfl (cw_talk hj) rfl (by unfold vp_in; decide) ?_
  refine x_callvE rfl (m21 (d := 0) _ (by decide)) rfl rfl rfl ?_
  iterate 2 refine x_step rfl ?_
  refine xm_ls (pl' := [some (.ref 37), some (.ref (57 + j)), some (.int 8)]) rfl ?_
  iterate 2 refine x_step rfl ?_
  refine x_icmp_ge rfl (fun h => absurd h (by decide)) (fun _ => ?_)
  iterate 2 refine x_step rfl ?_
  refine x_alen rfl (cw_talk hj) (Or.inl ⟨_, _, rfl⟩) rfl ?_
  refine x_icmp_ge rfl (fun h => absurd h (by decide)) (fun _ => ?_)
  iterate 3 refine x_step rfl ?_
  refine x_iald rfl (cw_talk hj) rfl (by unfold vp_in; decide) ?_
  refine x_callvE rfl (m21 (d := 0) _ (by decide)) rfl rfl rfl ?_
  iterate 2 refine x_step rfl ?_
  refine xm_ls (pl' := [some (.ref 37), some (.ref (57 + j)), some (.int 9)]) rfl ?_
  iterate 2 refine x_step rfl ?_
  refine x_icmp_ge rfl (fun h => absurd h (by decide)) (fun _ => ?_)
  iterate 2 refine x_step rfl ?_
  refine x_alen rfl (cw_talk hj) (Or.inl ⟨_, _, rfl⟩) rfl ?_
  refine x_icmp_ge rfl (fun h => absurd h (by decide)) (fun _ => ?_)
  iterate 3 refine x_step rfl ?_
  refine x_iald rfl (cw_talk hj) rfl (by unfold vp_in; decide) ?_
  refine x_callvE rfl (m21 (d := 0) _ (by decide)) rfl rfl rfl ?_
  iterate 2 refine x_step rfl ?_
  refine xm_ls (pl' := [some (.ref 37), some (.ref (57 + j)), some (.int 10)]) rfl ?_
  iterate 2 refine x_step rfl ?_
  refine x_icmp_ge rfl (fun _ => ?_) (fun h => absurd (by decide) h)
  exact x_ret rfl rfl ⟨rfl, rfl⟩
end ES
end
