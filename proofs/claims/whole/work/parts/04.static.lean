/-! WHAT THE TABLES SAY OF THE PROGRAM: names, code, links; each word of lw_tbl by its place -/
def RX0 : String := "CushionCourt$Book"
def TX0 : u_T := fun k => match k with
  | 0 => ("CushionCourt$Book", "judges", "I", false)
  | 1 => ("CushionCourt$Book", "cases", "I", false)
  | 2 => ("CushionCourt$Book", "clerks", "I", false)
  | 3 => ("CushionCourt$Book", "damps", "I", false)
  | 4 => ("CushionCourt$Book", "lines", "I", false)
  | 5 => ("CushionCourt$Book", "beat", "I", false)
  | 6 => ("CushionCourt$Book", "beatTold", "Z", false)
  | 7 => ("CushionCourt$Book", "judgeName", "[I", true)
  | 8 => ("CushionCourt$Book", "lean", "[I", true)
  | 9 => ("CushionCourt$Book", "stiff", "[I", true)
  | 10 => ("CushionCourt$Book", "caseName", "[I", true)
  | 11 => ("CushionCourt$Book", "before", "[I", true)
  | 12 => ("CushionCourt$Book", "day", "[I", true)
  | 13 => ("CushionCourt$Book", "grave", "[I", true)
  | 14 => ("CushionCourt$Book", "clerkName", "[I", true)
  | 15 => ("CushionCourt$Book", "passes", "[I", true)
  | 16 => ("CushionCourt$Book", "ears", "[I", true)
  | 17 => ("CushionCourt$Book", "damp", "[I", true)
  | _ => ("CushionCourt$Book", "laws", "LCushionCourt$Laws;", true)
def tyX0 : Nat → FieldType := fun k => match k with
  | 0 => .int
  | 1 => .int
  | 2 => .int
  | 3 => .int
  | 4 => .int
  | 5 => .int
  | 6 => .boolean
  | 7 => .array .int
  | 8 => .array .int
  | 9 => .array .int
  | 10 => .array .int
  | 11 => .array .int
  | 12 => .array .int
  | 13 => .array .int
  | 14 => .array .int
  | 15 => .array .int
  | 16 => .array .int
  | 17 => .array .int
  | _ => .object "CushionCourt$Laws"
theorem nmX0 : ∀ a, a < 19 → ∀ b, b < 19 → a ≠ b → (TX0 a).2.1 ≠ (TX0 b).2.1 := by decide +kernel
theorem tyX0_ok : ∀ k, k < 19 → parseFieldDescriptor (TX0 k).2.2.1 = some (tyX0 k) := by decide +kernel
def RX1 : String := "CushionCourt$Dealing"
def TX1 : u_T := fun k => match k with
  | 0 => ("CushionCourt$Dealing", "grave", "[I", true)
  | 1 => ("CushionCourt$Dealing", "least", "[I", true)
  | _ => ("CushionCourt$Dealing", "cases", "I", false)
def tyX1 : Nat → FieldType := fun k => match k with
  | 0 => .array .int
  | 1 => .array .int
  | _ => .int
theorem nmX1 : ∀ a, a < 3 → ∀ b, b < 3 → a ≠ b → (TX1 a).2.1 ≠ (TX1 b).2.1 := by decide +kernel
theorem tyX1_ok : ∀ k, k < 3 → parseFieldDescriptor (TX1 k).2.2.1 = some (tyX1 k) := by decide +kernel
def RX2 : String := "CushionCourt$Deeds"
def TX2 : u_T := fun k => match k with
  | 0 => ("CushionCourt$Deeds", "kind", "[I", true)
  | 1 => ("CushionCourt$Deeds", "one", "[I", true)
  | 2 => ("CushionCourt$Deeds", "other", "[I", true)
  | 3 => ("CushionCourt$Deeds", "start", "I", false)
  | _ => ("CushionCourt$Deeds", "many", "I", false)
def tyX2 : Nat → FieldType := fun k => match k with
  | 0 => .array .int
  | 1 => .array .int
  | 2 => .array .int
  | 3 => .int
  | _ => .int
theorem nmX2 : ∀ a, a < 5 → ∀ b, b < 5 → a ≠ b → (TX2 a).2.1 ≠ (TX2 b).2.1 := by decide +kernel
theorem tyX2_ok : ∀ k, k < 5 → parseFieldDescriptor (TX2 k).2.2.1 = some (tyX2 k) := by decide +kernel
def RX3 : String := "CushionCourt$Findings"
def TX3 : u_T := fun k => match k with
  | 0 => ("CushionCourt$Findings", "what", "[I", true)
  | 1 => ("CushionCourt$Findings", "judge", "[I", true)
  | 2 => ("CushionCourt$Findings", "how", "[I", true)
  | 3 => ("CushionCourt$Findings", "struck", "[Z", true)
  | 4 => ("CushionCourt$Findings", "fitting", "[I", true)
  | 5 => ("CushionCourt$Findings", "deals", "[I", true)
  | 6 => ("CushionCourt$Findings", "many", "I", false)
  | _ => ("CushionCourt$Findings", "knownBy", "I", false)
def tyX3 : Nat → FieldType := fun k => match k with
  | 0 => .array .int
  | 1 => .array .int
  | 2 => .array .int
  | 3 => .array .boolean
  | 4 => .array .int
  | 5 => .array .int
  | 6 => .int
  | _ => .int
theorem nmX3 : ∀ a, a < 8 → ∀ b, b < 8 → a ≠ b → (TX3 a).2.1 ≠ (TX3 b).2.1 := by decide +kernel
theorem tyX3_ok : ∀ k, k < 8 → parseFieldDescriptor (TX3 k).2.2.1 = some (tyX3 k) := by decide +kernel
def RX4 : String := "CushionCourt$Laws"
def TX4 : u_T := fun k => match k with
  | 0 => ("CushionCourt$Laws", "knots", "I", false)
  | 1 => ("CushionCourt$Laws", "row", "[I", true)
  | 2 => ("CushionCourt$Laws", "from", "[I", true)
  | _ => ("CushionCourt$Laws", "to", "[I", true)
def tyX4 : Nat → FieldType := fun k => match k with
  | 0 => .int
  | 1 => .array .int
  | 2 => .array .int
  | _ => .array .int
theorem nmX4 : ∀ a, a < 4 → ∀ b, b < 4 → a ≠ b → (TX4 a).2.1 ≠ (TX4 b).2.1 := by decide +kernel
theorem tyX4_ok : ∀ k, k < 4 → parseFieldDescriptor (TX4 k).2.2.1 = some (tyX4 k) := by decide +kernel
def RX5 : String := "CushionCourt$Mind"
def TX5 : u_T := fun k => match k with
  | 0 => ("CushionCourt$Mind", "seen", "[I", true)
  | 1 => ("CushionCourt$Mind", "stack", "[J", true)
  | 2 => ("CushionCourt$Mind", "value", "J", false)
  | _ => ("CushionCourt$Mind", "joined", "J", false)
def tyX5 : Nat → FieldType := fun k => match k with
  | 0 => .array .int
  | 1 => .array .long
  | 2 => .long
  | _ => .long
theorem nmX5 : ∀ a, a < 4 → ∀ b, b < 4 → a ≠ b → (TX5 a).2.1 ≠ (TX5 b).2.1 := by decide +kernel
theorem tyX5_ok : ∀ k, k < 4 → parseFieldDescriptor (TX5 k).2.2.1 = some (tyX5 k) := by decide +kernel
def RX6 : String := "CushionCourt$Reader"
def TX6 : u_T := fun k => match k with
  | 0 => ("CushionCourt$Reader", "bytes", "[B", true)
  | 1 => ("CushionCourt$Reader", "book", "LCushionCourt$Book;", true)
  | 2 => ("CushionCourt$Reader", "codes", "[I", true)
  | 3 => ("CushionCourt$Reader", "held", "[I", true)
  | 4 => ("CushionCourt$Reader", "manyHeld", "I", false)
  | 5 => ("CushionCourt$Reader", "open", "I", false)
  | 6 => ("CushionCourt$Reader", "knotsMet", "I", false)
  | 7 => ("CushionCourt$Reader", "length", "I", false)
  | 8 => ("CushionCourt$Reader", "next", "I", false)
  | 9 => ("CushionCourt$Reader", "place", "I", false)
  | 10 => ("CushionCourt$Reader", "kind", "I", false)
  | 11 => ("CushionCourt$Reader", "value", "I", false)
  | 12 => ("CushionCourt$Reader", "fault", "I", false)
  | _ => ("CushionCourt$Reader", "faultPlace", "I", false)
def tyX6 : Nat → FieldType := fun k => match k with
  | 0 => .array .byte
  | 1 => .object "CushionCourt$Book"
  | 2 => .array .int
  | 3 => .array .int
  | 4 => .int
  | 5 => .int
  | 6 => .int
  | 7 => .int
  | 8 => .int
  | 9 => .int
  | 10 => .int
  | 11 => .int
  | 12 => .int
  | _ => .int
theorem nmX6 : ∀ a, a < 14 → ∀ b, b < 14 → a ≠ b → (TX6 a).2.1 ≠ (TX6 b).2.1 := by decide +kernel
theorem tyX6_ok : ∀ k, k < 14 → parseFieldDescriptor (TX6 k).2.2.1 = some (tyX6 k) := by decide +kernel
def RX7 : String := "CushionCourt$Term"
def TX7 : u_T := fun k => match k with
  | 0 => ("CushionCourt$Term", "book", "LCushionCourt$Book;", true)
  | 1 => ("CushionCourt$Term", "mind", "LCushionCourt$Mind;", true)
  | 2 => ("CushionCourt$Term", "damp", "I", false)
  | 3 => ("CushionCourt$Term", "beat", "I", false)
  | 4 => ("CushionCourt$Term", "deaf", "I", false)
  | _ => ("CushionCourt$Term", "frank", "Z", false)
def tyX7 : Nat → FieldType := fun k => match k with
  | 0 => .object "CushionCourt$Book"
  | 1 => .object "CushionCourt$Mind"
  | 2 => .int
  | 3 => .int
  | 4 => .int
  | _ => .boolean
theorem nmX7 : ∀ a, a < 6 → ∀ b, b < 6 → a ≠ b → (TX7 a).2.1 ≠ (TX7 b).2.1 := by decide +kernel
theorem tyX7_ok : ∀ k, k < 6 → parseFieldDescriptor (TX7 k).2.2.1 = some (tyX7 k) := by decide +kernel
def RX8 : String := "CushionCourt$World"
def TX8 : u_T := fun k => match k with
  | 0 => ("CushionCourt$World", "day", "I", false)
  | 1 => ("CushionCourt$World", "keptIn", "I", false)
  | 2 => ("CushionCourt$World", "before", "[I", true)
  | 3 => ("CushionCourt$World", "thought", "[I", true)
  | 4 => ("CushionCourt$World", "said", "[I", true)
  | 5 => ("CushionCourt$World", "fate", "[I", true)
  | 6 => ("CushionCourt$World", "holds", "[I", true)
  | 7 => ("CushionCourt$World", "size", "[I", true)
  | 8 => ("CushionCourt$World", "feathers", "[I", true)
  | _ => ("CushionCourt$World", "heard", "[I", true)
def tyX8 : Nat → FieldType := fun k => match k with
  | 0 => .int
  | 1 => .int
  | 2 => .array .int
  | 3 => .array .int
  | 4 => .array .int
  | 5 => .array .int
  | 6 => .array .int
  | 7 => .array .int
  | 8 => .array .int
  | _ => .array .int
theorem nmX8 : ∀ a, a < 10 → ∀ b, b < 10 → a ≠ b → (TX8 a).2.1 ≠ (TX8 b).2.1 := by decide +kernel
theorem tyX8_ok : ∀ k, k < 10 → parseFieldDescriptor (TX8 k).2.2.1 = some (tyX8 k) := by decide +kernel
def RX9 : String := "CushionCourt"
def TX9 : u_T := fun k => match k with
  | 0 => ("CushionCourt", "tape", "[B", true)
  | 1 => ("CushionCourt", "tapeLength", "I", false)
  | 2 => ("CushionCourt", "lastFault", "I", false)
  | 3 => ("CushionCourt", "lastFaultPlace", "I", false)
  | 4 => ("CushionCourt", "told", "LCushionCourt$Book;", true)
  | 5 => ("CushionCourt", "draft", "LCushionCourt$Book;", true)
  | 6 => ("CushionCourt", "reader", "LCushionCourt$Reader;", true)
  | 7 => ("CushionCourt", "now", "LCushionCourt$World;", true)
  | 8 => ("CushionCourt", "trial", "LCushionCourt$World;", true)
  | 9 => ("CushionCourt", "image", "LCushionCourt$World;", true)
  | 10 => ("CushionCourt", "hasImage", "Z", false)
  | 11 => ("CushionCourt", "mind", "LCushionCourt$Mind;", true)
  | 12 => ("CushionCourt", "term", "LCushionCourt$Term;", true)
  | 13 => ("CushionCourt", "deeds", "LCushionCourt$Deeds;", true)
  | 14 => ("CushionCourt", "findings", "LCushionCourt$Findings;", true)
  | _ => ("CushionCourt", "dealing", "LCushionCourt$Dealing;", true)
def tyX9 : Nat → FieldType := fun k => match k with
  | 0 => .array .byte
  | 1 => .int
  | 2 => .int
  | 3 => .int
  | 4 => .object "CushionCourt$Book"
  | 5 => .object "CushionCourt$Book"
  | 6 => .object "CushionCourt$Reader"
  | 7 => .object "CushionCourt$World"
  | 8 => .object "CushionCourt$World"
  | 9 => .object "CushionCourt$World"
  | 10 => .boolean
  | 11 => .object "CushionCourt$Mind"
  | 12 => .object "CushionCourt$Term"
  | 13 => .object "CushionCourt$Deeds"
  | 14 => .object "CushionCourt$Findings"
  | _ => .object "CushionCourt$Dealing"
theorem nmX9 : ∀ a, a < 16 → ∀ b, b < 16 → a ≠ b → (TX9 a).2.1 ≠ (TX9 b).2.1 := by decide +kernel
theorem tyX9_ok : ∀ k, k < 16 → parseFieldDescriptor (TX9 k).2.2.1 = some (tyX9 k) := by decide +kernel
def RX10 : String := "CushionCourtModel"
def TX10 : u_T := fun k => match k with
  | 0 => ("CushionCourtModel", "tape", "[I", true)
  | 1 => ("CushionCourtModel", "tapeSize", "I", false)
  | 2 => ("CushionCourtModel", "thrown", "I", false)
  | 3 => ("CushionCourtModel", "words", "[I", true)
  | 4 => ("CushionCourtModel", "fault", "I", false)
  | 5 => ("CushionCourtModel", "faultPlace", "I", false)
  | 6 => ("CushionCourtModel", "stop", "I", false)
  | 7 => ("CushionCourtModel", "next", "I", false)
  | 8 => ("CushionCourtModel", "kind", "I", false)
  | 9 => ("CushionCourtModel", "which", "I", false)
  | 10 => ("CushionCourtModel", "at", "I", false)
  | 11 => ("CushionCourtModel", "got", "I", false)
  | 12 => ("CushionCourtModel", "judges", "I", false)
  | 13 => ("CushionCourtModel", "cases", "I", false)
  | 14 => ("CushionCourtModel", "clerks", "I", false)
  | 15 => ("CushionCourtModel", "damps", "I", false)
  | 16 => ("CushionCourtModel", "knots", "I", false)
  | 17 => ("CushionCourtModel", "judgesRead", "I", false)
  | 18 => ("CushionCourtModel", "casesRead", "I", false)
  | 19 => ("CushionCourtModel", "clerksRead", "I", false)
  | 20 => ("CushionCourtModel", "dampsRead", "I", false)
  | 21 => ("CushionCourtModel", "knotsRead", "I", false)
  | 22 => ("CushionCourtModel", "beatTold", "[Z", true)
  | 23 => ("CushionCourtModel", "beat", "[I", true)
  | 24 => ("CushionCourtModel", "judgeName", "[I", true)
  | 25 => ("CushionCourtModel", "judgeLean", "[I", true)
  | 26 => ("CushionCourtModel", "judgeStiff", "[I", true)
  | 27 => ("CushionCourtModel", "caseName", "[I", true)
  | 28 => ("CushionCourtModel", "caseJudge", "[I", true)
  | 29 => ("CushionCourtModel", "caseDay", "[I", true)
  | 30 => ("CushionCourtModel", "caseGrave", "[I", true)
  | 31 => ("CushionCourtModel", "clerkName", "[I", true)
  | 32 => ("CushionCourtModel", "clerkDays", "[I", true)
  | 33 => ("CushionCourtModel", "clerkEars", "[I", true)
  | 34 => ("CushionCourtModel", "dampAt", "[I", true)
  | 35 => ("CushionCourtModel", "lawTold", "[Z", true)
  | 36 => ("CushionCourtModel", "first", "[I", true)
  | 37 => ("CushionCourtModel", "last", "[I", true)
  | 38 => ("CushionCourtModel", "knot", "[I", true)
  | 39 => ("CushionCourtModel", "part", "[I", true)
  | 40 => ("CushionCourtModel", "other", "[I", true)
  | 41 => ("CushionCourtModel", "wait", "[I", true)
  | 42 => ("CushionCourtModel", "held", "[I", true)
  | 43 => ("CushionCourtModel", "waits", "I", false)
  | 44 => ("CushionCourtModel", "helds", "I", false)
  | 45 => ("CushionCourtModel", "brackets", "I", false)
  | 46 => ("CushionCourtModel", "counted", "I", false)
  | 47 => ("CushionCourtModel", "wants", "Z", false)
  | 48 => ("CushionCourtModel", "mayNot", "Z", false)
  | 49 => ("CushionCourtModel", "names", "[J", true)
  | 50 => ("CushionCourtModel", "value", "[J", true)
  | 51 => ("CushionCourtModel", "isError", "Z", false)
  | 52 => ("CushionCourtModel", "has", "[I", true)
  | 53 => ("CushionCourtModel", "keptIn", "[Z", true)
  | 54 => ("CushionCourtModel", "size", "[I", true)
  | 55 => ("CushionCourtModel", "rows", "[I", true)
  | 56 => ("CushionCourtModel", "judgeOf", "[I", true)
  | 57 => ("CushionCourtModel", "thought", "[I", true)
  | 58 => ("CushionCourtModel", "said", "[I", true)
  | 59 => ("CushionCourtModel", "status", "[I", true)
  | 60 => ("CushionCourtModel", "knows", "[I", true)
  | 61 => ("CushionCourtModel", "day", "[I", true)
  | 62 => ("CushionCourtModel", "outs", "[I", true)
  | 63 => ("CushionCourtModel", "lost", "[I", true)
  | 64 => ("CushionCourtModel", "heardNow", "I", false)
  | 65 => ("CushionCourtModel", "how", "I", false)
  | 66 => ("CushionCourtModel", "who", "I", false)
  | 67 => ("CushionCourtModel", "dampNow", "I", false)
  | 68 => ("CushionCourtModel", "leanOf", "I", false)
  | 69 => ("CushionCourtModel", "leanBy", "I", false)
  | 70 => ("CushionCourtModel", "forced", "I", false)
  | 71 => ("CushionCourtModel", "byPlan", "Z", false)
  | 72 => ("CushionCourtModel", "mondays", "I", false)
  | 73 => ("CushionCourtModel", "plan", "[I", true)
  | 74 => ("CushionCourtModel", "toCome", "[I", true)
  | 75 => ("CushionCourtModel", "given1", "[I", true)
  | 76 => ("CushionCourtModel", "foundMany", "I", false)
  | 77 => ("CushionCourtModel", "knownTold", "I", false)
  | 78 => ("CushionCourtModel", "found", "[I", true)
  | 79 => ("CushionCourtModel", "counts", "[Z", true)
  | 80 => ("CushionCourtModel", "right", "[I", true)
  | 81 => ("CushionCourtModel", "drawn", "J", false)
  | 82 => ("CushionCourtModel", "undos", "I", false)
  | 83 => ("CushionCourtModel", "undo", "[I", true)
  | 84 => ("CushionCourtModel", "hasImage", "Z", false)
  | 85 => ("CushionCourtModel", "image", "[I", true)
  | _ => ("CushionCourtModel", "imageRest", "[I", true)
def tyX10 : Nat → FieldType := fun k => match k with
  | 0 => .array .int
  | 1 => .int
  | 2 => .int
  | 3 => .array .int
  | 4 => .int
  | 5 => .int
  | 6 => .int
  | 7 => .int
  | 8 => .int
  | 9 => .int
  | 10 => .int
  | 11 => .int
  | 12 => .int
  | 13 => .int
  | 14 => .int
  | 15 => .int
  | 16 => .int
  | 17 => .int
  | 18 => .int
  | 19 => .int
  | 20 => .int
  | 21 => .int
  | 22 => .array .boolean
  | 23 => .array .int
  | 24 => .array .int
  | 25 => .array .int
  | 26 => .array .int
  | 27 => .array .int
  | 28 => .array .int
  | 29 => .array .int
  | 30 => .array .int
  | 31 => .array .int
  | 32 => .array .int
  | 33 => .array .int
  | 34 => .array .int
  | 35 => .array .boolean
  | 36 => .array .int
  | 37 => .array .int
  | 38 => .array .int
  | 39 => .array .int
  | 40 => .array .int
  | 41 => .array .int
  | 42 => .array .int
  | 43 => .int
  | 44 => .int
  | 45 => .int
  | 46 => .int
  | 47 => .boolean
  | 48 => .boolean
  | 49 => .array .long
  | 50 => .array .long
  | 51 => .boolean
  | 52 => .array .int
  | 53 => .array .boolean
  | 54 => .array .int
  | 55 => .array .int
  | 56 => .array .int
  | 57 => .array .int
  | 58 => .array .int
  | 59 => .array .int
  | 60 => .array .int
  | 61 => .array .int
  | 62 => .array .int
  | 63 => .array .int
  | 64 => .int
  | 65 => .int
  | 66 => .int
  | 67 => .int
  | 68 => .int
  | 69 => .int
  | 70 => .int
  | 71 => .boolean
  | 72 => .int
  | 73 => .array .int
  | 74 => .array .int
  | 75 => .array .int
  | 76 => .int
  | 77 => .int
  | 78 => .array .int
  | 79 => .array .boolean
  | 80 => .array .int
  | 81 => .long
  | 82 => .int
  | 83 => .array .int
  | 84 => .boolean
  | 85 => .array .int
  | _ => .array .int
theorem nmX10 : ∀ a, a < 87 → ∀ b, b < 87 → a ≠ b → (TX10 a).2.1 ≠ (TX10 b).2.1 := by decide +kernel
theorem tyX10_ok : ∀ k, k < 87 → parseFieldDescriptor (TX10 k).2.2.1 = some (tyX10 k) := by decide +kernel
abbrev vwCl : List vw_C := [(RX0, TX0, 19), (RX1, TX1, 3), (RX2, TX2, 5), (RX3, TX3, 8), (RX4, TX4, 4), (RX5, TX5, 4), (RX6, TX6, 14), (RX7, TX7, 6), (RX8, TX8, 10), (RX9, TX9, 16), (RX10, TX10, 87)]
def t_ownS : List String := ["CushionCourt$Book", "CushionCourt$Dealing", "CushionCourt$Deeds", "CushionCourt$Findings", "CushionCourt$Laws", "CushionCourt$Mind", "CushionCourt$Reader", "CushionCourt$Term", "CushionCourt$World", "CushionCourt", "CushionCourtModel", "CushionCourtLaw", "java/lang/Integer"]
def ownS (o : Nat) : String := (t_ownS[o]?).getD ""
def t_y : List (List (MethodName)) := [[⟨"CushionCourt$Book", "<init>", "()V"⟩, ⟨"CushionCourt$Book", "clear", "()V"⟩, ⟨"CushionCourt$Book", "copyFrom", "(LCushionCourt$Book;)V"⟩, ⟨"CushionCourt$Book", "moistOn", "(I)I"⟩, ⟨"CushionCourt$Dealing", "<init>", "()V"⟩, ⟨"CushionCourt$Dealing", "gather", "(LCushionCourt$Book;LCushionCourt$World;)V"⟩, ⟨"CushionCourt$Dealing", "weigh", "(LCushionCourt$Book;)V"⟩, ⟨"CushionCourt$Dealing", "judgeOf", "(LCushionCourt$Book;I)I"⟩, ⟨"CushionCourt$Dealing", "sumWith", "(LCushionCourt$Book;III)I"⟩, ⟨"CushionCourt$Dealing", "hasRoom", "(II)Z"⟩, ⟨"CushionCourt$Dealing", "dealtIn", "(II)I"⟩, ⟨"CushionCourt$Deeds", "<init>", "()V"⟩, ⟨"CushionCourt$Deeds", "clear", "()V"⟩, ⟨"CushionCourt$Deeds", "note", "(III)V"⟩, ⟨"CushionCourt$Deeds", "takeBack", "(LCushionCourt$World;)V"⟩, ⟨"CushionCourt$Findings", "<init>", "()V"⟩],
  [⟨"CushionCourt$Findings", "clear", "()V"⟩, ⟨"CushionCourt$Findings", "add", "(III)I"⟩, ⟨"CushionCourt$Findings", "first", "()I"⟩, ⟨"CushionCourt$Findings", "match", "(LCushionCourt$Book;LCushionCourt$World;)V"⟩, ⟨"CushionCourt$Findings", "settleStrikes", "()V"⟩, ⟨"CushionCourt$Findings", "fits", "(LCushionCourt$World;II)Z"⟩, ⟨"CushionCourt$Findings", "waysWith", "(III)I"⟩, ⟨"CushionCourt$Laws", "<init>", "()V"⟩, ⟨"CushionCourt$Laws", "clear", "()V"⟩, ⟨"CushionCourt$Laws", "copyFrom", "(LCushionCourt$Laws;)V"⟩, ⟨"CushionCourt$Laws", "isTold", "(I)Z"⟩, ⟨"CushionCourt$Mind", "<init>", "()V"⟩, ⟨"CushionCourt$Mind", "see", "(IIIIII)V"⟩, ⟨"CushionCourt$Mind", "seeNoCase", "()V"⟩, ⟨"CushionCourt$Mind", "thinksGuilty", "(LCushionCourt$Laws;)Z"⟩, ⟨"CushionCourt$Mind", "saysGuilty", "(LCushionCourt$Laws;Z)Z"⟩],
  [⟨"CushionCourt$Mind", "feathersOut", "(LCushionCourt$Laws;I)I"⟩, ⟨"CushionCourt$Mind", "works", "(LCushionCourt$Laws;I)Z"⟩, ⟨"CushionCourt$Mind", "isInReach", "(J)Z"⟩, ⟨"CushionCourt$Mind", "joins", "(IJJ)Z"⟩, ⟨"CushionCourt$Mind", "isSo", "(IJJ)Z"⟩, ⟨"CushionCourt$Reader", "<init>", "([BLCushionCourt$Book;)V"⟩, ⟨"CushionCourt$Reader", "codeOf", "(II)I"⟩, ⟨"CushionCourt$Reader", "read", "(I)V"⟩, ⟨"CushionCourt$Reader", "begin", "(I)V"⟩, ⟨"CushionCourt$Reader", "refuse", "(I)V"⟩, ⟨"CushionCourt$Reader", "takeLineWord", "(ZI)V"⟩, ⟨"CushionCourt$Reader", "readJudge", "()V"⟩, ⟨"CushionCourt$Reader", "readCase", "()V"⟩, ⟨"CushionCourt$Reader", "readClerk", "()V"⟩, ⟨"CushionCourt$Reader", "readDamp", "()V"⟩, ⟨"CushionCourt$Reader", "readBeat", "()V"⟩],
  [⟨"CushionCourt$Reader", "readLaw", "()V"⟩, ⟨"CushionCourt$Reader", "takeNewName", "([II)I"⟩, ⟨"CushionCourt$Reader", "takeJudge", "()I"⟩, ⟨"CushionCourt$Reader", "takeNumber", "(I)I"⟩, ⟨"CushionCourt$Reader", "takeStop", "()V"⟩, ⟨"CushionCourt$Reader", "readExpression", "()V"⟩, ⟨"CushionCourt$Reader", "meetSide", "()Z"⟩, ⟨"CushionCourt$Reader", "meetJoint", "()Z"⟩, ⟨"CushionCourt$Reader", "jointHere", "()I"⟩, ⟨"CushionCourt$Reader", "strength", "(I)I"⟩, ⟨"CushionCourt$Reader", "strengthHeld", "()I"⟩, ⟨"CushionCourt$Reader", "meetKnot", "(Z)V"⟩, ⟨"CushionCourt$Reader", "hold", "(I)V"⟩, ⟨"CushionCourt$Reader", "emit", "(I)V"⟩, ⟨"CushionCourt$Reader", "release", "(I)V"⟩, ⟨"CushionCourt$Reader", "step", "()V"⟩],
  [⟨"CushionCourt$Reader", "isBlank", "(I)Z"⟩, ⟨"CushionCourt$Reader", "isLetter", "(I)Z"⟩, ⟨"CushionCourt$Reader", "isDigit", "(I)Z"⟩, ⟨"CushionCourt$Reader", "scanWord", "()V"⟩, ⟨"CushionCourt$Reader", "scanNumber", "()V"⟩, ⟨"CushionCourt$Reader", "scanSign", "()V"⟩, ⟨"CushionCourt$Reader", "signOf", "(I)I"⟩, ⟨"CushionCourt$Term", "<init>", "(LCushionCourt$Book;LCushionCourt$Mind;)V"⟩, ⟨"CushionCourt$Term", "asTold", "()V"⟩, ⟨"CushionCourt$Term", "pass", "(LCushionCourt$World;I)V"⟩, ⟨"CushionCourt$Term", "passDay", "(LCushionCourt$World;)V"⟩, ⟨"CushionCourt$Term", "seeCase", "(LCushionCourt$World;III)V"⟩, ⟨"CushionCourt$Term", "seeCushion", "(LCushionCourt$World;II)V"⟩, ⟨"CushionCourt$Term", "hear", "(LCushionCourt$World;II)V"⟩, ⟨"CushionCourt$Term", "air", "(LCushionCourt$World;II)V"⟩, ⟨"CushionCourt$Term", "tellClerks", "(LCushionCourt$World;II)V"⟩],
  [⟨"CushionCourt$World", "<init>", "()V"⟩, ⟨"CushionCourt$World", "begin", "(LCushionCourt$Book;)V"⟩, ⟨"CushionCourt$World", "copyFrom", "(LCushionCourt$World;)V"⟩, ⟨"CushionCourt$World", "swap", "(II)V"⟩, ⟨"CushionCourt$World", "isKeptIn", "(I)Z"⟩, ⟨"CushionCourt$World", "setKeptIn", "(IZ)V"⟩, ⟨"CushionCourt$World", "lay", "(II)V"⟩, ⟨"CushionCourt$World", "empty", "(I)V"⟩, ⟨"CushionCourt$World", "refill", "(II)V"⟩, ⟨"CushionCourt$World", "setFate", "(II)V"⟩, ⟨"CushionCourt$World", "hasFeather", "(II)Z"⟩, ⟨"CushionCourt$World", "casesHeard", "()I"⟩, ⟨"CushionCourt$World", "guilty", "()I"⟩, ⟨"CushionCourt$World", "fated", "(I)I"⟩, ⟨"CushionCourt$World", "knownToAny", "()I"⟩, ⟨"CushionCourt$World", "knownInAll", "()I"⟩],
  [⟨"CushionCourt", "<init>", "()V"⟩, ⟨"CushionCourt", "feed", "(IIIII)I"⟩, ⟨"CushionCourt", "putBytes", "(I)V"⟩, ⟨"CushionCourt", "text", "(I)I"⟩, ⟨"CushionCourt", "fault", "(I)I"⟩, ⟨"CushionCourt", "named", "(II)I"⟩, ⟨"CushionCourt", "placeOf", "(I[II)I"⟩, ⟨"CushionCourt", "isJudge", "(I)Z"⟩, ⟨"CushionCourt", "isCase", "(I)Z"⟩, ⟨"CushionCourt", "isClerk", "(I)Z"⟩, ⟨"CushionCourt", "isSpan", "(I)Z"⟩, ⟨"CushionCourt", "cause", "(II)I"⟩, ⟨"CushionCourt", "judge", "(II)I"⟩, ⟨"CushionCourt", "heardBy", "(I)I"⟩, ⟨"CushionCourt", "feather", "(II)I"⟩, ⟨"CushionCourt", "knows", "(I)I"⟩],
  [⟨"CushionCourt", "damp", "(I)I"⟩, ⟨"CushionCourt", "law", "(II)J"⟩, ⟨"CushionCourt", "exchange", "(II)Z"⟩, ⟨"CushionCourt", "keepIn", "(IZ)Z"⟩, ⟨"CushionCourt", "restuff", "(I)I"⟩, ⟨"CushionCourt", "give", "(II)Z"⟩, ⟨"CushionCourt", "days", "(I)I"⟩, ⟨"CushionCourt", "beginTrial", "()V"⟩, ⟨"CushionCourt", "ahead", "(II)I"⟩, ⟨"CushionCourt", "outMore", "()I"⟩, ⟨"CushionCourt", "daysToMonday", "()I"⟩, ⟨"CushionCourt", "airing", "(II)I"⟩, ⟨"CushionCourt", "heardOf", "(II)I"⟩, ⟨"CushionCourt", "away", "()I"⟩, ⟨"CushionCourt", "given", "(I)I"⟩, ⟨"CushionCourt", "lot", "(II)I"⟩],
  [⟨"CushionCourt", "leastTerm", "(III)I"⟩, ⟨"CushionCourt", "commonDivisor", "(II)I"⟩, ⟨"CushionCourt", "clashes", "()I"⟩, ⟨"CushionCourt", "bold", "(II)I"⟩, ⟨"CushionCourt", "rests", "(I)I"⟩, ⟨"CushionCourt", "rest", "(II)I"⟩, ⟨"CushionCourt", "isRest", "(III)Z"⟩, ⟨"CushionCourt", "gain", "(III)I"⟩, ⟨"CushionCourt", "empties", "(I)I"⟩, ⟨"CushionCourt", "plumpest", "()I"⟩, ⟨"CushionCourt", "gossip", "(I)I"⟩, ⟨"CushionCourt", "learns", "(II)I"⟩, ⟨"CushionCourt", "plump", "(II)I"⟩, ⟨"CushionCourt", "find", "(IIZ)I"⟩, ⟨"CushionCourt", "strike", "(I)I"⟩, ⟨"CushionCourt", "known", "(I)Z"⟩],
  [⟨"CushionCourt", "ways", "()I"⟩, ⟨"CushionCourt", "whose", "(I)I"⟩, ⟨"CushionCourt", "leans", "(I)I"⟩, ⟨"CushionCourt", "isAsSaid", "(II)Z"⟩, ⟨"CushionCourt", "chance", "(III)I"⟩, ⟨"CushionCourt", "tried", "(III)I"⟩, ⟨"CushionCourt", "undo", "()I"⟩, ⟨"CushionCourt", "keep", "()I"⟩, ⟨"CushionCourt", "back", "()I"⟩, ⟨"CushionCourt", "count", "(I)I"⟩, ⟨"CushionCourtModel", "<init>", "()V"⟩, ⟨"CushionCourtModel", "thrown", "()I"⟩, ⟨"CushionCourtModel", "feed", "(IIIII)I"⟩, ⟨"CushionCourtModel", "isIn", "(III)Z"⟩, ⟨"CushionCourtModel", "isOf", "(II)Z"⟩, ⟨"CushionCourtModel", "wrong", "(I)Z"⟩],
  [⟨"CushionCourtModel", "wordAt", "(II)I"⟩, ⟨"CushionCourtModel", "isSmall", "(I)Z"⟩, ⟨"CushionCourtModel", "isDigit", "(I)Z"⟩, ⟨"CushionCourtModel", "token", "()V"⟩, ⟨"CushionCourtModel", "signToken", "()V"⟩, ⟨"CushionCourtModel", "packed", "(II)I"⟩, ⟨"CushionCourtModel", "isKey", "(I)Z"⟩, ⟨"CushionCourtModel", "isSign", "(I)Z"⟩, ⟨"CushionCourtModel", "number", "(II)Z"⟩, ⟨"CushionCourtModel", "plain", "()V"⟩, ⟨"CushionCourtModel", "copies", "([II)V"⟩, ⟨"CushionCourtModel", "keepText", "()V"⟩, ⟨"CushionCourtModel", "seek", "([IIII)I"⟩, ⟨"CushionCourtModel", "newName", "([III)Z"⟩, ⟨"CushionCourtModel", "judgeLine", "()Z"⟩, ⟨"CushionCourtModel", "caseLine", "()Z"⟩],
  [⟨"CushionCourtModel", "clerkLine", "()Z"⟩, ⟨"CushionCourtModel", "dampLine", "()Z"⟩, ⟨"CushionCourtModel", "beatLine", "()Z"⟩, ⟨"CushionCourtModel", "lineRead", "()Z"⟩, ⟨"CushionCourtModel", "text", "(I)I"⟩, ⟨"CushionCourtModel", "fault", "(I)I"⟩, ⟨"CushionCourtModel", "named", "(II)I"⟩, ⟨"CushionCourtModel", "rank", "(I)I"⟩, ⟨"CushionCourtModel", "grown", "(III)V"⟩, ⟨"CushionCourtModel", "dropHeld", "()I"⟩, ⟨"CushionCourtModel", "bind", "(I)V"⟩, ⟨"CushionCourtModel", "isCounted", "()Z"⟩, ⟨"CushionCourtModel", "waitsFor", "(I)V"⟩, ⟨"CushionCourtModel", "nameMet", "()I"⟩, ⟨"CushionCourtModel", "leafRead", "()Z"⟩, ⟨"CushionCourtModel", "signs", "()Z"⟩],
  [⟨"CushionCourtModel", "sumRead", "()Z"⟩, ⟨"CushionCourtModel", "bounded", "(J)J"⟩, ⟨"CushionCourtModel", "compares", "(IJJ)Z"⟩, ⟨"CushionCourtModel", "times", "(JJ)J"⟩, ⟨"CushionCourtModel", "valueOf", "(I)J"⟩, ⟨"CushionCourtModel", "begin", "()V"⟩, ⟨"CushionCourtModel", "plainTried", "()V"⟩, ⟨"CushionCourtModel", "layTried", "()V"⟩, ⟨"CushionCourtModel", "isJudge", "(I)Z"⟩, ⟨"CushionCourtModel", "isCase", "(I)Z"⟩, ⟨"CushionCourtModel", "isClerk", "(I)Z"⟩, ⟨"CushionCourtModel", "dampOf", "(I)I"⟩, ⟨"CushionCourtModel", "leanIn", "(I)I"⟩, ⟨"CushionCourtModel", "sureOf", "(II)I"⟩, ⟨"CushionCourtModel", "layNames", "(IIII)V"⟩, ⟨"CushionCourtModel", "lawOf", "(I)J"⟩],
  [⟨"CushionCourtModel", "thinks", "(IIII)I"⟩, ⟨"CushionCourtModel", "says", "(IIII)I"⟩, ⟨"CushionCourtModel", "flies", "(II)I"⟩, ⟨"CushionCourtModel", "lays", "(III)V"⟩, ⟨"CushionCourtModel", "hears", "(II)V"⟩, ⟨"CushionCourtModel", "airs", "(II)V"⟩, ⟨"CushionCourtModel", "isAired", "(II)Z"⟩, ⟨"CushionCourtModel", "goOn", "(I)V"⟩, ⟨"CushionCourtModel", "goMany", "(I)V"⟩, ⟨"CushionCourtModel", "manyOf", "(I)I"⟩, ⟨"CushionCourtModel", "knownIn", "(I)I"⟩, ⟨"CushionCourtModel", "knowsAll", "(I)I"⟩, ⟨"CushionCourtModel", "guiltyIn", "(I)I"⟩, ⟨"CushionCourtModel", "fails", "(I)I"⟩, ⟨"CushionCourtModel", "cause", "(II)I"⟩, ⟨"CushionCourtModel", "heardBy", "(I)I"⟩],
  [⟨"CushionCourtModel", "judge", "(II)I"⟩, ⟨"CushionCourtModel", "feather", "(II)I"⟩, ⟨"CushionCourtModel", "knows", "(I)I"⟩, ⟨"CushionCourtModel", "gossip", "(I)I"⟩, ⟨"CushionCourtModel", "damp", "(I)I"⟩, ⟨"CushionCourtModel", "law", "(II)J"⟩, ⟨"CushionCourtModel", "exchange", "(II)Z"⟩, ⟨"CushionCourtModel", "keepIn", "(IZ)Z"⟩, ⟨"CushionCourtModel", "restuff", "(I)I"⟩, ⟨"CushionCourtModel", "give", "(II)Z"⟩, ⟨"CushionCourtModel", "days", "(I)I"⟩, ⟨"CushionCourtModel", "ahead", "(II)I"⟩, ⟨"CushionCourtModel", "toMonday", "()I"⟩, ⟨"CushionCourtModel", "powerOf", "(II)I"⟩, ⟨"CushionCourtModel", "airing", "(II)I"⟩, ⟨"CushionCourtModel", "away", "()I"⟩],
  [⟨"CushionCourtModel", "given", "(I)I"⟩, ⟨"CushionCourtModel", "common", "(II)I"⟩, ⟨"CushionCourtModel", "least1", "(III)I"⟩, ⟨"CushionCourtModel", "lot", "(II)I"⟩, ⟨"CushionCourtModel", "clashes", "()I"⟩, ⟨"CushionCourtModel", "bold", "(II)I"⟩, ⟨"CushionCourtModel", "learnt", "(III)I"⟩, ⟨"CushionCourtModel", "restAt", "(II)I"⟩, ⟨"CushionCourtModel", "rests", "(I)I"⟩, ⟨"CushionCourtModel", "rest", "(II)I"⟩, ⟨"CushionCourtModel", "empties", "(I)I"⟩, ⟨"CushionCourtModel", "plumpest", "()I"⟩, ⟨"CushionCourtModel", "learns", "(II)I"⟩, ⟨"CushionCourtModel", "plump", "(II)I"⟩, ⟨"CushionCourtModel", "noted", "(III)I"⟩, ⟨"CushionCourtModel", "find", "(IIZ)I"⟩],
  [⟨"CushionCourtModel", "strike", "(I)I"⟩, ⟨"CushionCourtModel", "known", "(I)Z"⟩, ⟨"CushionCourtModel", "knownBy", "()I"⟩, ⟨"CushionCourtModel", "isThere", "(II)Z"⟩, ⟨"CushionCourtModel", "isRight", "(I)Z"⟩, ⟨"CushionCourtModel", "layCounts", "()V"⟩, ⟨"CushionCourtModel", "ways", "()I"⟩, ⟨"CushionCourtModel", "whose", "(I)I"⟩, ⟨"CushionCourtModel", "leans", "(I)I"⟩, ⟨"CushionCourtModel", "number1", "(I)I"⟩, ⟨"CushionCourtModel", "chance", "(III)I"⟩, ⟨"CushionCourtModel", "tried", "(III)I"⟩, ⟨"CushionCourtModel", "put", "([II)V"⟩, ⟨"CushionCourtModel", "take", "([II)V"⟩, ⟨"CushionCourtModel", "remember", "()V"⟩, ⟨"CushionCourtModel", "undo", "()I"⟩],
  [⟨"CushionCourtModel", "keep", "()I"⟩, ⟨"CushionCourtModel", "back", "()I"⟩, ⟨"CushionCourtModel", "count", "(I)I"⟩, ⟨"CushionCourtLaw", "cause", "(LCushionCourt;II[J)I"⟩, ⟨"CushionCourtLaw", "law", "([I)Z"⟩, ⟨"java/lang/Integer", "bitCount", "(I)I"⟩]]
def t_bytes : List (List (ByteArray)) := [[prog_2_method_1_code, prog_2_method_2_code, prog_2_method_3_code, prog_2_method_4_code, prog_3_method_1_code, prog_3_method_2_code, prog_3_method_3_code, prog_3_method_4_code, prog_3_method_5_code, prog_3_method_6_code, prog_3_method_7_code, prog_4_method_1_code, prog_4_method_2_code, prog_4_method_3_code, prog_4_method_4_code, prog_5_method_1_code],
  [prog_5_method_2_code, prog_5_method_3_code, prog_5_method_4_code, prog_5_method_5_code, prog_5_method_6_code, prog_5_method_7_code, prog_5_method_8_code, prog_6_method_1_code, prog_6_method_2_code, prog_6_method_3_code, prog_6_method_4_code, prog_7_method_1_code, prog_7_method_2_code, prog_7_method_3_code, prog_7_method_4_code, prog_7_method_5_code],
  [prog_7_method_6_code, prog_7_method_7_code, prog_7_method_8_code, prog_7_method_9_code, prog_7_method_10_code, prog_8_method_1_code, prog_8_method_2_code, prog_8_method_3_code, prog_8_method_4_code, prog_8_method_5_code, prog_8_method_6_code, prog_8_method_7_code, prog_8_method_8_code, prog_8_method_9_code, prog_8_method_10_code, prog_8_method_11_code],
  [prog_8_method_12_code, prog_8_method_13_code, prog_8_method_14_code, prog_8_method_15_code, prog_8_method_16_code, prog_8_method_17_code, prog_8_method_18_code, prog_8_method_19_code, prog_8_method_20_code, prog_8_method_21_code, prog_8_method_22_code, prog_8_method_23_code, prog_8_method_24_code, prog_8_method_25_code, prog_8_method_26_code, prog_8_method_27_code],
  [prog_8_method_28_code, prog_8_method_29_code, prog_8_method_30_code, prog_8_method_31_code, prog_8_method_32_code, prog_8_method_33_code, prog_8_method_34_code, prog_9_method_1_code, prog_9_method_2_code, prog_9_method_3_code, prog_9_method_4_code, prog_9_method_5_code, prog_9_method_6_code, prog_9_method_7_code, prog_9_method_8_code, prog_9_method_9_code],
  [prog_10_method_1_code, prog_10_method_2_code, prog_10_method_3_code, prog_10_method_4_code, prog_10_method_5_code, prog_10_method_6_code, prog_10_method_7_code, prog_10_method_8_code, prog_10_method_9_code, prog_10_method_10_code, prog_10_method_11_code, prog_10_method_12_code, prog_10_method_13_code, prog_10_method_14_code, prog_10_method_15_code, prog_10_method_16_code],
  [prog_1_method_1_code, prog_1_method_2_code, prog_1_method_3_code, prog_1_method_4_code, prog_1_method_5_code, prog_1_method_6_code, prog_1_method_7_code, prog_1_method_8_code, prog_1_method_9_code, prog_1_method_10_code, prog_1_method_11_code, prog_1_method_12_code, prog_1_method_13_code, prog_1_method_14_code, prog_1_method_15_code, prog_1_method_16_code],
  [prog_1_method_17_code, prog_1_method_18_code, prog_1_method_19_code, prog_1_method_20_code, prog_1_method_21_code, prog_1_method_22_code, prog_1_method_23_code, prog_1_method_24_code, prog_1_method_25_code, prog_1_method_26_code, prog_1_method_27_code, prog_1_method_28_code, prog_1_method_29_code, prog_1_method_30_code, prog_1_method_31_code, prog_1_method_32_code],
  [prog_1_method_33_code, prog_1_method_34_code, prog_1_method_35_code, prog_1_method_36_code, prog_1_method_37_code, prog_1_method_38_code, prog_1_method_39_code, prog_1_method_40_code, prog_1_method_41_code, prog_1_method_42_code, prog_1_method_43_code, prog_1_method_44_code, prog_1_method_45_code, prog_1_method_46_code, prog_1_method_47_code, prog_1_method_48_code],
  [prog_1_method_49_code, prog_1_method_50_code, prog_1_method_51_code, prog_1_method_52_code, prog_1_method_53_code, prog_1_method_54_code, prog_1_method_55_code, prog_1_method_56_code, prog_1_method_57_code, prog_1_method_58_code, prog_12_method_1_code, prog_12_method_2_code, prog_12_method_3_code, prog_12_method_4_code, prog_12_method_5_code, prog_12_method_6_code],
  [prog_12_method_7_code, prog_12_method_8_code, prog_12_method_9_code, prog_12_method_10_code, prog_12_method_11_code, prog_12_method_12_code, prog_12_method_13_code, prog_12_method_14_code, prog_12_method_15_code, prog_12_method_17_code, prog_12_method_18_code, prog_12_method_19_code, prog_12_method_20_code, prog_12_method_21_code, prog_12_method_22_code, prog_12_method_23_code],
  [prog_12_method_24_code, prog_12_method_25_code, prog_12_method_26_code, prog_12_method_27_code, prog_12_method_28_code, prog_12_method_29_code, prog_12_method_30_code, prog_12_method_31_code, prog_12_method_32_code, prog_12_method_33_code, prog_12_method_34_code, prog_12_method_35_code, prog_12_method_36_code, prog_12_method_37_code, prog_12_method_38_code, prog_12_method_39_code],
  [prog_12_method_40_code, prog_12_method_41_code, prog_12_method_42_code, prog_12_method_43_code, prog_12_method_44_code, prog_12_method_45_code, prog_12_method_46_code, prog_12_method_47_code, prog_12_method_48_code, prog_12_method_49_code, prog_12_method_50_code, prog_12_method_51_code, prog_12_method_52_code, prog_12_method_53_code, prog_12_method_54_code, prog_12_method_55_code],
  [prog_12_method_56_code, prog_12_method_57_code, prog_12_method_58_code, prog_12_method_59_code, prog_12_method_60_code, prog_12_method_61_code, prog_12_method_62_code, prog_12_method_63_code, prog_12_method_64_code, prog_12_method_65_code, prog_12_method_66_code, prog_12_method_67_code, prog_12_method_68_code, prog_12_method_69_code, prog_12_method_70_code, prog_12_method_71_code],
  [prog_12_method_72_code, prog_12_method_73_code, prog_12_method_74_code, prog_12_method_75_code, prog_12_method_76_code, prog_12_method_77_code, prog_12_method_78_code, prog_12_method_79_code, prog_12_method_80_code, prog_12_method_81_code, prog_12_method_82_code, prog_12_method_83_code, prog_12_method_84_code, prog_12_method_85_code, prog_12_method_86_code, prog_12_method_87_code],
  [prog_12_method_88_code, prog_12_method_89_code, prog_12_method_90_code, prog_12_method_91_code, prog_12_method_92_code, prog_12_method_93_code, prog_12_method_94_code, prog_12_method_95_code, prog_12_method_96_code, prog_12_method_97_code, prog_12_method_98_code, prog_12_method_99_code, prog_12_method_100_code, prog_12_method_101_code, prog_12_method_102_code, prog_12_method_103_code],
  [prog_12_method_104_code, prog_12_method_105_code, prog_12_method_106_code, prog_12_method_107_code, prog_12_method_108_code, prog_12_method_109_code, prog_12_method_110_code, prog_12_method_111_code, prog_12_method_112_code, prog_12_method_113_code, prog_12_method_114_code, prog_12_method_115_code, prog_12_method_116_code, prog_12_method_117_code, prog_12_method_118_code, prog_12_method_119_code],
  [prog_12_method_120_code, prog_12_method_121_code, prog_12_method_122_code, method_3_code, code, prog_18_method_49_code]]
def yN (j : Nat) : MethodName := (ch j t_y).getD ⟨"", "", ""⟩
def bytesN (j : Nat) : ByteArray := (ch j t_bytes).getD ByteArray.empty
def retF : Nat → Option FieldType
  | 1 => some .int
  | 2 => some .long
  | 3 => some .boolean
  | _ => none
def frN (j : Nat) : Nat := ((ch j t_room).getD (0, 0)).1
def loN (j : Nat) : Nat := ((ch j t_room).getD (0, 0)).2
def GWl : List Cond := lw_tbl.filter goodWord
theorem gw_at (i : Nat) {w : Cond} (h : lw_tbl[i]? = some w) (hg : goodWord w = true) : w ∈ GWl := List.mem_filter.mpr ⟨List.mem_of_getElem? h, hg⟩
def gwAt (i : Nat) (w : Cond) : Bool := decide (lw_tbl[i]? = some w) && goodWord w
theorem gwAt_mem {i : Nat} {w : Cond} (h : gwAt i w = true) : w ∈ GWl := by
  simp only [gwAt, Bool.and_eq_true, decide_eq_true_eq] at h
  exact gw_at i h.1 h.2
def p_code : List (List (Nat)) := [[148, 648, 778, 839, 558, 1053, 1057, 1076, 1070, 1066, 1062, 501, 794, 898, 1209, 524],
  [790, 1137, 1161, 1153, 1157, 1165, 1173, 154, 652, 785, 731, 451, 852, 859, 951, 956],
  [970, 871, 878, 875, 886, 289, 342, 640, 644, 695, 691, 687, 707, 715, 719, 723],
  [727, 699, 711, 703, 774, 735, 739, 762, 770, 754, 751, 743, 758, 747, 766, 656],
  [659, 662, 672, 666, 676, 680, 683, 472, 933, 937, 941, 867, 848, 946, 965, 984],
  [392, 575, 996, 894, 815, 906, 960, 914, 1216, 918, 1169, 1232, 1001, 1015, 1005, 1040],
  [140, 628, 632, 636, 798, 802, 669, 811, 863, 831, 929, 1242, 807, 819, 823, 827],
  [835, 843, 890, 902, 910, 922, 926, 992, 988, 1019, 1035, 1023, 1031, 1045, 1049, 1080],
  [1084, 1087, 1091, 1095, 1099, 1109, 1102, 1105, 1113, 1117, 1121, 1125, 1129, 1133, 1141, 1145],
  [1149, 1178, 1182, 1186, 1192, 1201, 1205, 1220, 1224, 1228, 1329, 1615, 1619, 1674, 1788, 1656],
  [1635, 1631, 1643, 1627, 1648, 1639, 1710, 1698, 1671, 1334, 1341, 1338, 1667, 1664, 1660, 1678],
  [1682, 1686, 1690, 1652, 1623, 1741, 1745, 1733, 1722, 1737, 1730, 1714, 1706, 1718, 1702, 1726],
  [1694, 1825, 1834, 1831, 1821, 1345, 1349, 1903, 1765, 1753, 1781, 1796, 1809, 1813, 1805, 1817],
  [1874, 1878, 1894, 1882, 1870, 1890, 1886, 1866, 1907, 1918, 1915, 1933, 1911, 1757, 1749, 1769],
  [1761, 1773, 1777, 1785, 1792, 1800, 1838, 1850, 1854, 1858, 1862, 1899, 1929, 1925, 1922, 1937],
  [1941, 1951, 1948, 1945, 1955, 1959, 1970, 1967, 1963, 1974, 1978, 1982, 1986, 1990, 1998, 1994],
  [2002, 2006, 2018, 2026, 2022, 2014, 2010, 2030, 2034, 2042, 2038, 2050, 1846, 2058, 1842, 2054],
  [2062, 2066, 2070, 0, 0, 1008]]
def p_inst : List (List (Nat)) := [[147, 646, 776, 837, 557, 1051, 1055, 1074, 1069, 1065, 1061, 500, 792, 896, 1207, 523],
  [788, 1135, 1159, 1151, 1156, 1164, 1171, 153, 650, 783, 729, 450, 850, 857, 949, 954],
  [968, 869, 877, 874, 885, 288, 341, 638, 643, 694, 690, 686, 706, 714, 718, 722],
  [726, 698, 710, 702, 773, 734, 738, 761, 769, 753, 750, 742, 757, 746, 765, 655],
  [658, 661, 671, 665, 675, 679, 682, 471, 931, 935, 939, 865, 846, 945, 964, 983],
  [391, 573, 994, 892, 813, 904, 958, 912, 1214, 917, 1167, 1230, 999, 1013, 1003, 1038],
  [139, 626, 631, 634, 796, 800, 668, 810, 862, 830, 928, 1240, 805, 818, 821, 825],
  [833, 841, 888, 900, 908, 920, 924, 991, 986, 1018, 1034, 1021, 1030, 1043, 1047, 1078],
  [1083, 1086, 1089, 1093, 1097, 1107, 1101, 1104, 1111, 1115, 1119, 1123, 1127, 1131, 1139, 1143],
  [1147, 1176, 1180, 1185, 1190, 1199, 1203, 1218, 1222, 1226, 1328, 1613, 1617, 1673, 1787, 1655],
  [1634, 1630, 1642, 1626, 1647, 1638, 1709, 1697, 1670, 1333, 1340, 1337, 1666, 1663, 1659, 1677],
  [1681, 1685, 1689, 1651, 1621, 1739, 1743, 1732, 1721, 1736, 1729, 1713, 1705, 1717, 1701, 1725],
  [1693, 1824, 1833, 1830, 1820, 1344, 1348, 1902, 1764, 1752, 1780, 1795, 1808, 1812, 1804, 1816],
  [1873, 1877, 1893, 1881, 1869, 1889, 1885, 1865, 1906, 1917, 1914, 1932, 1910, 1756, 1747, 1768],
  [1759, 1771, 1775, 1783, 1790, 1798, 1836, 1848, 1852, 1856, 1860, 1897, 1928, 1924, 1920, 1935],
  [1939, 1950, 1947, 1943, 1953, 1957, 1969, 1966, 1961, 1972, 1976, 1980, 1984, 1988, 1997, 1992],
  [2000, 2004, 2017, 2025, 2021, 2013, 2008, 2028, 2032, 2041, 2036, 2048, 1845, 2057, 1841, 2052],
  [2060, 2064, 2068, 1235, 0, 1007]]
def p_sel : List (List (Nat)) := [[0, 647, 777, 838, 0, 1052, 1056, 1075, 40, 0, 0, 0, 793, 897, 1208, 0],
  [789, 1136, 1160, 1152, 41, 42, 1172, 0, 651, 784, 730, 0, 851, 858, 950, 955],
  [969, 870, 0, 31, 0, 0, 0, 639, 1, 8, 7, 6, 11, 13, 14, 15],
  [16, 9, 12, 10, 26, 17, 18, 23, 25, 0, 21, 19, 22, 20, 24, 2],
  [0, 0, 0, 3, 4, 5, 0, 0, 932, 936, 940, 866, 847, 33, 34, 35],
  [0, 574, 995, 893, 814, 905, 959, 913, 1215, 32, 1168, 1231, 1000, 1014, 1004, 1039],
  [0, 627, 0, 635, 797, 801, 0, 27, 30, 29, 0, 1241, 806, 28, 822, 826],
  [834, 842, 889, 901, 909, 921, 925, 36, 987, 37, 39, 1022, 38, 1044, 1048, 1079],
  [0, 0, 1090, 1094, 1098, 1108, 0, 0, 1112, 1116, 1120, 1124, 1128, 1132, 1140, 1144],
  [1148, 1177, 1181, 43, 1191, 1200, 1204, 1219, 1223, 1227, 0, 1614, 1618, 0, 0, 56],
  [51, 50, 53, 49, 54, 52, 68, 65, 59, 45, 0, 46, 0, 58, 57, 60],
  [61, 62, 63, 55, 1622, 1740, 1744, 0, 71, 74, 73, 69, 67, 70, 66, 72],
  [64, 86, 0, 87, 85, 47, 48, 98, 77, 75, 79, 80, 82, 83, 81, 84],
  [92, 93, 97, 94, 91, 96, 95, 90, 99, 0, 101, 103, 100, 76, 1748, 78],
  [1760, 1772, 1776, 1784, 1791, 1799, 1837, 1849, 1853, 1857, 1861, 1898, 102, 0, 1921, 1936],
  [1940, 0, 0, 1944, 1954, 1958, 0, 104, 1962, 1973, 1977, 1981, 1985, 1989, 105, 1993],
  [2001, 2005, 107, 109, 108, 106, 2009, 2029, 2033, 110, 2037, 2049, 89, 111, 88, 2053],
  [2061, 2065, 2069, 0, 0, 0]]
def p_init : List Nat := [114, 126, 124, 125, 115, 122, 116, 123, 121, 113, 127, 112, 135]
def t_stat : List (List (Bool)) := [[false, false, false, false, false, false, false, false, false, true, true, false, false, false, false, false],
  [false, false, false, false, false, false, false, false, false, false, false, false, false, false, false, false],
  [false, false, true, false, true, false, true, false, false, false, false, false, false, false, false, false],
  [false, false, false, false, false, false, false, false, false, true, false, false, false, false, false, false],
  [true, true, true, false, false, false, true, false, false, false, false, false, false, false, false, false],
  [false, false, false, false, false, false, false, false, false, false, false, false, false, false, false, false],
  [false, false, false, false, false, false, true, false, false, false, true, false, false, false, false, false],
  [false, false, false, false, false, false, false, false, false, false, false, false, false, false, false, false],
  [true, true, false, false, false, false, true, true, false, false, false, false, false, false, false, false],
  [false, false, false, false, false, false, false, false, false, false, false, false, false, true, true, false],
  [false, false, false, false, false, false, false, false, false, false, true, false, true, false, false, false],
  [false, false, false, false, false, false, false, true, false, false, false, false, false, false, false, false],
  [false, false, true, false, false, false, false, false, false, false, false, false, false, false, false, false],
  [false, false, false, false, false, false, false, false, false, true, false, false, false, false, false, false],
  [false, false, false, false, false, false, false, false, false, false, false, false, false, true, false, false],
  [false, true, true, false, false, false, true, false, false, false, false, false, false, false, false, false],
  [false, false, false, false, false, false, false, false, false, false, false, false, false, false, false, false],
  [false, false, false, true, true, true]]
def statN (j : Nat) : Bool := (ch j t_stat).getD false
theorem in_t1 {w : Cond} (h : w ∈ tables_1_1) : w ∈ lw_tbl := List.mem_append_right _ (List.mem_append_left _ h)
theorem in_t2 {w : Cond} (h : w ∈ tables_1_2) : w ∈ lw_tbl := List.mem_append_right _ (List.mem_append_right _ (List.mem_append_left _ h))
theorem in_t3 {w : Cond} (h : w ∈ tables_1_3) : w ∈ lw_tbl := List.mem_append_right _ (List.mem_append_right _ (List.mem_append_right _ (List.mem_append_left _ h)))
theorem in_t4 {w : Cond} (h : w ∈ tables_1_4) : w ∈ lw_tbl := List.mem_append_right _ (List.mem_append_right _ (List.mem_append_right _ (List.mem_append_right _ (List.mem_append_left _ h))))
theorem in_t5 {w : Cond} (h : w ∈ tables_1_5) : w ∈ lw_tbl := List.mem_append_right _ (List.mem_append_right _ (List.mem_append_right _ (List.mem_append_right _ (List.mem_append_right _ (List.mem_append_left _ h)))))
theorem in_t6 {w : Cond} (h : w ∈ tables_1_6) : w ∈ lw_tbl := List.mem_append_right _ (List.mem_append_right _ (List.mem_append_right _ (List.mem_append_right _ (List.mem_append_right _ (List.mem_append_right _ (List.mem_append_left _ h))))))
theorem in_t7 {w : Cond} (h : w ∈ tables_1_7) : w ∈ lw_tbl := List.mem_append_right _ (List.mem_append_right _ (List.mem_append_right _ (List.mem_append_right _ (List.mem_append_right _ (List.mem_append_right _ (List.mem_append_right _ (List.mem_append_left _ h)))))))
theorem in_t8 {w : Cond} (h : w ∈ tables_1_8) : w ∈ lw_tbl := List.mem_append_right _ (List.mem_append_right _ (List.mem_append_right _ (List.mem_append_right _ (List.mem_append_right _ (List.mem_append_right _ (List.mem_append_right _ (List.mem_append_right _ (List.mem_append_left _ h))))))))
theorem in_t9 {w : Cond} (h : w ∈ tables_1_9) : w ∈ lw_tbl := List.mem_append_right _ (List.mem_append_right _ (List.mem_append_right _ (List.mem_append_right _ (List.mem_append_right _ (List.mem_append_right _ (List.mem_append_right _ (List.mem_append_right _ (List.mem_append_right _ (h)))))))))
/-- what the tables say of a method: that it is static, or an instance's; its class -/
def mchk (j : Nat) : Bool := decide ((yN j).cls = ownS (ownN j)) && plainFor (yN j) && gwAt ((p_init[ownN j]?).getD 0) (.initialized (ownS (ownN j)))
  && decide ((parseMethodDescriptor (yN j).desc).map (fun d => d.parameters.length) = some (if statN j then nargN j else nargN j - 1))
  && decide ((yN j).cls ≠ "java/lang/invoke/MethodHandle" ∧ (yN j).cls ≠ "java/lang/invoke/VarHandle")
  && (if statN j then gwAt ((ch j p_inst).getD 0) (.static (yN j)) else gwAt ((ch j p_inst).getD 0) (.instanceMethod (yN j)) && decide (0 < nargN j))
def codeW (j : Nat) : Prop := Cond.code (yN j) (bytesN j) (maxLN j) (retF (retN j)) ∈ lw_tbl
set_option maxRecDepth 20000 in
theorem cw_0 : codeW 0 := in_t1 (List.mem_of_getElem? (i := 36) rfl)
set_option maxRecDepth 20000 in
theorem cw_1 : codeW 1 := in_t3 (List.mem_of_getElem? (i := 56) rfl)
set_option maxRecDepth 20000 in
theorem cw_2 : codeW 2 := in_t3 (List.mem_of_getElem? (i := 186) rfl)
set_option maxRecDepth 20000 in
theorem cw_3 : codeW 3 := in_t4 (List.mem_of_getElem? (i := 7) rfl)
set_option maxRecDepth 20000 in
theorem cw_4 : codeW 4 := in_t2 (List.mem_of_getElem? (i := 206) rfl)
set_option maxRecDepth 20000 in
theorem cw_5 : codeW 5 := in_t4 (List.mem_of_getElem? (i := 221) rfl)
set_option maxRecDepth 20000 in
theorem cw_6 : codeW 6 := in_t4 (List.mem_of_getElem? (i := 225) rfl)
set_option maxRecDepth 20000 in
theorem cw_7 : codeW 7 := in_t5 (List.mem_of_getElem? (i := 4) rfl)
set_option maxRecDepth 20000 in
theorem cw_8 : codeW 8 := in_t4 (List.mem_of_getElem? (i := 238) rfl)
set_option maxRecDepth 20000 in
theorem cw_9 : codeW 9 := in_t4 (List.mem_of_getElem? (i := 234) rfl)
set_option maxRecDepth 20000 in
theorem cw_10 : codeW 10 := in_t4 (List.mem_of_getElem? (i := 230) rfl)
set_option maxRecDepth 20000 in
theorem cw_11 : codeW 11 := in_t2 (List.mem_of_getElem? (i := 149) rfl)
set_option maxRecDepth 20000 in
theorem cw_12 : codeW 12 := in_t3 (List.mem_of_getElem? (i := 202) rfl)
set_option maxRecDepth 20000 in
theorem cw_13 : codeW 13 := in_t4 (List.mem_of_getElem? (i := 66) rfl)
set_option maxRecDepth 20000 in
theorem cw_14 : codeW 14 := in_t5 (List.mem_of_getElem? (i := 137) rfl)
set_option maxRecDepth 20000 in
theorem cw_15 : codeW 15 := in_t2 (List.mem_of_getElem? (i := 172) rfl)
set_option maxRecDepth 20000 in
theorem cw_16 : codeW 16 := in_t3 (List.mem_of_getElem? (i := 198) rfl)
set_option maxRecDepth 20000 in
theorem cw_17 : codeW 17 := in_t5 (List.mem_of_getElem? (i := 65) rfl)
set_option maxRecDepth 20000 in
theorem cw_18 : codeW 18 := in_t5 (List.mem_of_getElem? (i := 89) rfl)
set_option maxRecDepth 20000 in
theorem cw_19 : codeW 19 := in_t5 (List.mem_of_getElem? (i := 81) rfl)
set_option maxRecDepth 20000 in
theorem cw_20 : codeW 20 := in_t5 (List.mem_of_getElem? (i := 85) rfl)
set_option maxRecDepth 20000 in
theorem cw_21 : codeW 21 := in_t5 (List.mem_of_getElem? (i := 93) rfl)
set_option maxRecDepth 20000 in
theorem cw_22 : codeW 22 := in_t5 (List.mem_of_getElem? (i := 101) rfl)
set_option maxRecDepth 20000 in
theorem cw_23 : codeW 23 := in_t1 (List.mem_of_getElem? (i := 42) rfl)
set_option maxRecDepth 20000 in
theorem cw_24 : codeW 24 := in_t3 (List.mem_of_getElem? (i := 60) rfl)
set_option maxRecDepth 20000 in
theorem cw_25 : codeW 25 := in_t3 (List.mem_of_getElem? (i := 193) rfl)
set_option maxRecDepth 20000 in
theorem cw_26 : codeW 26 := in_t3 (List.mem_of_getElem? (i := 139) rfl)
set_option maxRecDepth 20000 in
theorem cw_27 : codeW 27 := in_t2 (List.mem_of_getElem? (i := 99) rfl)
set_option maxRecDepth 20000 in
theorem cw_28 : codeW 28 := in_t4 (List.mem_of_getElem? (i := 20) rfl)
set_option maxRecDepth 20000 in
theorem cw_29 : codeW 29 := in_t4 (List.mem_of_getElem? (i := 27) rfl)
set_option maxRecDepth 20000 in
theorem cw_30 : codeW 30 := in_t4 (List.mem_of_getElem? (i := 119) rfl)
set_option maxRecDepth 20000 in
theorem cw_31 : codeW 31 := in_t4 (List.mem_of_getElem? (i := 124) rfl)
set_option maxRecDepth 20000 in
theorem cw_32 : codeW 32 := in_t4 (List.mem_of_getElem? (i := 138) rfl)
set_option maxRecDepth 20000 in
theorem cw_33 : codeW 33 := in_t4 (List.mem_of_getElem? (i := 39) rfl)
set_option maxRecDepth 20000 in
theorem cw_34 : codeW 34 := in_t4 (List.mem_of_getElem? (i := 46) rfl)
set_option maxRecDepth 20000 in
theorem cw_35 : codeW 35 := in_t4 (List.mem_of_getElem? (i := 43) rfl)
set_option maxRecDepth 20000 in
theorem cw_36 : codeW 36 := in_t4 (List.mem_of_getElem? (i := 54) rfl)
set_option maxRecDepth 20000 in
theorem cw_37 : codeW 37 := in_t1 (List.mem_of_getElem? (i := 177) rfl)
set_option maxRecDepth 20000 in
theorem cw_38 : codeW 38 := in_t1 (List.mem_of_getElem? (i := 230) rfl)
set_option maxRecDepth 20000 in
theorem cw_39 : codeW 39 := in_t3 (List.mem_of_getElem? (i := 48) rfl)
set_option maxRecDepth 20000 in
theorem cw_40 : codeW 40 := in_t3 (List.mem_of_getElem? (i := 52) rfl)
set_option maxRecDepth 20000 in
theorem cw_41 : codeW 41 := in_t3 (List.mem_of_getElem? (i := 103) rfl)
set_option maxRecDepth 20000 in
theorem cw_42 : codeW 42 := in_t3 (List.mem_of_getElem? (i := 99) rfl)
set_option maxRecDepth 20000 in
theorem cw_43 : codeW 43 := in_t3 (List.mem_of_getElem? (i := 95) rfl)
set_option maxRecDepth 20000 in
theorem cw_44 : codeW 44 := in_t3 (List.mem_of_getElem? (i := 115) rfl)
set_option maxRecDepth 20000 in
theorem cw_45 : codeW 45 := in_t3 (List.mem_of_getElem? (i := 123) rfl)
set_option maxRecDepth 20000 in
theorem cw_46 : codeW 46 := in_t3 (List.mem_of_getElem? (i := 127) rfl)
set_option maxRecDepth 20000 in
theorem cw_47 : codeW 47 := in_t3 (List.mem_of_getElem? (i := 131) rfl)
set_option maxRecDepth 20000 in
theorem cw_48 : codeW 48 := in_t3 (List.mem_of_getElem? (i := 135) rfl)
set_option maxRecDepth 20000 in
theorem cw_49 : codeW 49 := in_t3 (List.mem_of_getElem? (i := 107) rfl)
set_option maxRecDepth 20000 in
theorem cw_50 : codeW 50 := in_t3 (List.mem_of_getElem? (i := 119) rfl)
set_option maxRecDepth 20000 in
theorem cw_51 : codeW 51 := in_t3 (List.mem_of_getElem? (i := 111) rfl)
set_option maxRecDepth 20000 in
theorem cw_52 : codeW 52 := in_t3 (List.mem_of_getElem? (i := 182) rfl)
set_option maxRecDepth 20000 in
theorem cw_53 : codeW 53 := in_t3 (List.mem_of_getElem? (i := 143) rfl)
set_option maxRecDepth 20000 in
theorem cw_54 : codeW 54 := in_t3 (List.mem_of_getElem? (i := 147) rfl)
set_option maxRecDepth 20000 in
theorem cw_55 : codeW 55 := in_t3 (List.mem_of_getElem? (i := 170) rfl)
set_option maxRecDepth 20000 in
theorem cw_56 : codeW 56 := in_t3 (List.mem_of_getElem? (i := 178) rfl)
set_option maxRecDepth 20000 in
theorem cw_57 : codeW 57 := in_t3 (List.mem_of_getElem? (i := 162) rfl)
set_option maxRecDepth 20000 in
theorem cw_58 : codeW 58 := in_t3 (List.mem_of_getElem? (i := 159) rfl)
set_option maxRecDepth 20000 in
theorem cw_59 : codeW 59 := in_t3 (List.mem_of_getElem? (i := 151) rfl)
set_option maxRecDepth 20000 in
theorem cw_60 : codeW 60 := in_t3 (List.mem_of_getElem? (i := 166) rfl)
set_option maxRecDepth 20000 in
theorem cw_61 : codeW 61 := in_t3 (List.mem_of_getElem? (i := 155) rfl)
set_option maxRecDepth 20000 in
theorem cw_62 : codeW 62 := in_t3 (List.mem_of_getElem? (i := 174) rfl)
set_option maxRecDepth 20000 in
theorem cw_63 : codeW 63 := in_t3 (List.mem_of_getElem? (i := 64) rfl)
set_option maxRecDepth 20000 in
theorem cw_64 : codeW 64 := in_t3 (List.mem_of_getElem? (i := 67) rfl)
set_option maxRecDepth 20000 in
theorem cw_65 : codeW 65 := in_t3 (List.mem_of_getElem? (i := 70) rfl)
set_option maxRecDepth 20000 in
theorem cw_66 : codeW 66 := in_t3 (List.mem_of_getElem? (i := 80) rfl)
set_option maxRecDepth 20000 in
theorem cw_67 : codeW 67 := in_t3 (List.mem_of_getElem? (i := 74) rfl)
set_option maxRecDepth 20000 in
theorem cw_68 : codeW 68 := in_t3 (List.mem_of_getElem? (i := 84) rfl)
set_option maxRecDepth 20000 in
theorem cw_69 : codeW 69 := in_t3 (List.mem_of_getElem? (i := 88) rfl)
set_option maxRecDepth 20000 in
theorem cw_70 : codeW 70 := in_t3 (List.mem_of_getElem? (i := 91) rfl)
set_option maxRecDepth 20000 in
theorem cw_71 : codeW 71 := in_t2 (List.mem_of_getElem? (i := 120) rfl)
set_option maxRecDepth 20000 in
theorem cw_72 : codeW 72 := in_t4 (List.mem_of_getElem? (i := 101) rfl)
set_option maxRecDepth 20000 in
theorem cw_73 : codeW 73 := in_t4 (List.mem_of_getElem? (i := 105) rfl)
set_option maxRecDepth 20000 in
theorem cw_74 : codeW 74 := in_t4 (List.mem_of_getElem? (i := 109) rfl)
set_option maxRecDepth 20000 in
theorem cw_75 : codeW 75 := in_t4 (List.mem_of_getElem? (i := 35) rfl)
set_option maxRecDepth 20000 in
theorem cw_76 : codeW 76 := in_t4 (List.mem_of_getElem? (i := 16) rfl)
set_option maxRecDepth 20000 in
theorem cw_77 : codeW 77 := in_t4 (List.mem_of_getElem? (i := 114) rfl)
set_option maxRecDepth 20000 in
theorem cw_78 : codeW 78 := in_t4 (List.mem_of_getElem? (i := 133) rfl)
set_option maxRecDepth 20000 in
theorem cw_79 : codeW 79 := in_t4 (List.mem_of_getElem? (i := 152) rfl)
set_option maxRecDepth 20000 in
theorem cw_80 : codeW 80 := in_t2 (List.mem_of_getElem? (i := 40) rfl)
set_option maxRecDepth 20000 in
theorem cw_81 : codeW 81 := in_t2 (List.mem_of_getElem? (i := 223) rfl)
set_option maxRecDepth 20000 in
theorem cw_82 : codeW 82 := in_t4 (List.mem_of_getElem? (i := 164) rfl)
set_option maxRecDepth 20000 in
theorem cw_83 : codeW 83 := in_t4 (List.mem_of_getElem? (i := 62) rfl)
set_option maxRecDepth 20000 in
theorem cw_84 : codeW 84 := in_t3 (List.mem_of_getElem? (i := 223) rfl)
set_option maxRecDepth 20000 in
theorem cw_85 : codeW 85 := in_t4 (List.mem_of_getElem? (i := 74) rfl)
set_option maxRecDepth 20000 in
theorem cw_86 : codeW 86 := in_t4 (List.mem_of_getElem? (i := 128) rfl)
set_option maxRecDepth 20000 in
theorem cw_87 : codeW 87 := in_t4 (List.mem_of_getElem? (i := 82) rfl)
set_option maxRecDepth 20000 in
theorem cw_88 : codeW 88 := in_t5 (List.mem_of_getElem? (i := 144) rfl)
set_option maxRecDepth 20000 in
theorem cw_89 : codeW 89 := in_t4 (List.mem_of_getElem? (i := 86) rfl)
set_option maxRecDepth 20000 in
theorem cw_90 : codeW 90 := in_t5 (List.mem_of_getElem? (i := 97) rfl)
set_option maxRecDepth 20000 in
theorem cw_91 : codeW 91 := in_t5 (List.mem_of_getElem? (i := 160) rfl)
set_option maxRecDepth 20000 in
theorem cw_92 : codeW 92 := in_t4 (List.mem_of_getElem? (i := 169) rfl)
set_option maxRecDepth 20000 in
theorem cw_93 : codeW 93 := in_t4 (List.mem_of_getElem? (i := 183) rfl)
set_option maxRecDepth 20000 in
theorem cw_94 : codeW 94 := in_t4 (List.mem_of_getElem? (i := 173) rfl)
set_option maxRecDepth 20000 in
theorem cw_95 : codeW 95 := in_t4 (List.mem_of_getElem? (i := 208) rfl)
set_option maxRecDepth 20000 in
theorem cw_96 : codeW 96 := in_t1 (List.mem_of_getElem? (i := 28) rfl)
set_option maxRecDepth 20000 in
theorem cw_97 : codeW 97 := in_t3 (List.mem_of_getElem? (i := 36) rfl)
set_option maxRecDepth 20000 in
theorem cw_98 : codeW 98 := in_t3 (List.mem_of_getElem? (i := 40) rfl)
set_option maxRecDepth 20000 in
theorem cw_99 : codeW 99 := in_t3 (List.mem_of_getElem? (i := 44) rfl)
set_option maxRecDepth 20000 in
theorem cw_100 : codeW 100 := in_t3 (List.mem_of_getElem? (i := 206) rfl)
set_option maxRecDepth 20000 in
theorem cw_101 : codeW 101 := in_t3 (List.mem_of_getElem? (i := 210) rfl)
set_option maxRecDepth 20000 in
theorem cw_102 : codeW 102 := in_t3 (List.mem_of_getElem? (i := 77) rfl)
set_option maxRecDepth 20000 in
theorem cw_103 : codeW 103 := in_t3 (List.mem_of_getElem? (i := 219) rfl)
set_option maxRecDepth 20000 in
theorem cw_104 : codeW 104 := in_t4 (List.mem_of_getElem? (i := 31) rfl)
set_option maxRecDepth 20000 in
theorem cw_105 : codeW 105 := in_t3 (List.mem_of_getElem? (i := 239) rfl)
set_option maxRecDepth 20000 in
theorem cw_106 : codeW 106 := in_t4 (List.mem_of_getElem? (i := 97) rfl)
set_option maxRecDepth 20000 in
theorem cw_107 : codeW 107 := in_t5 (List.mem_of_getElem? (i := 170) rfl)
set_option maxRecDepth 20000 in
theorem cw_108 : codeW 108 := in_t3 (List.mem_of_getElem? (i := 215) rfl)
set_option maxRecDepth 20000 in
theorem cw_109 : codeW 109 := in_t3 (List.mem_of_getElem? (i := 227) rfl)
set_option maxRecDepth 20000 in
theorem cw_110 : codeW 110 := in_t3 (List.mem_of_getElem? (i := 231) rfl)
set_option maxRecDepth 20000 in
theorem cw_111 : codeW 111 := in_t3 (List.mem_of_getElem? (i := 235) rfl)
set_option maxRecDepth 20000 in
theorem cw_112 : codeW 112 := in_t4 (List.mem_of_getElem? (i := 3) rfl)
set_option maxRecDepth 20000 in
theorem cw_113 : codeW 113 := in_t4 (List.mem_of_getElem? (i := 11) rfl)
set_option maxRecDepth 20000 in
theorem cw_114 : codeW 114 := in_t4 (List.mem_of_getElem? (i := 58) rfl)
set_option maxRecDepth 20000 in
theorem cw_115 : codeW 115 := in_t4 (List.mem_of_getElem? (i := 70) rfl)
set_option maxRecDepth 20000 in
theorem cw_116 : codeW 116 := in_t4 (List.mem_of_getElem? (i := 78) rfl)
set_option maxRecDepth 20000 in
theorem cw_117 : codeW 117 := in_t4 (List.mem_of_getElem? (i := 90) rfl)
set_option maxRecDepth 20000 in
theorem cw_118 : codeW 118 := in_t4 (List.mem_of_getElem? (i := 94) rfl)
set_option maxRecDepth 20000 in
theorem cw_119 : codeW 119 := in_t4 (List.mem_of_getElem? (i := 160) rfl)
set_option maxRecDepth 20000 in
theorem cw_120 : codeW 120 := in_t4 (List.mem_of_getElem? (i := 156) rfl)
set_option maxRecDepth 20000 in
theorem cw_121 : codeW 121 := in_t4 (List.mem_of_getElem? (i := 187) rfl)
set_option maxRecDepth 20000 in
theorem cw_122 : codeW 122 := in_t4 (List.mem_of_getElem? (i := 203) rfl)
set_option maxRecDepth 20000 in
theorem cw_123 : codeW 123 := in_t4 (List.mem_of_getElem? (i := 191) rfl)
set_option maxRecDepth 20000 in
theorem cw_124 : codeW 124 := in_t4 (List.mem_of_getElem? (i := 199) rfl)
set_option maxRecDepth 20000 in
theorem cw_125 : codeW 125 := in_t4 (List.mem_of_getElem? (i := 213) rfl)
set_option maxRecDepth 20000 in
theorem cw_126 : codeW 126 := in_t4 (List.mem_of_getElem? (i := 217) rfl)
set_option maxRecDepth 20000 in
theorem cw_127 : codeW 127 := in_t5 (List.mem_of_getElem? (i := 8) rfl)
set_option maxRecDepth 20000 in
theorem cw_128 : codeW 128 := in_t5 (List.mem_of_getElem? (i := 12) rfl)
set_option maxRecDepth 20000 in
theorem cw_129 : codeW 129 := in_t5 (List.mem_of_getElem? (i := 15) rfl)
set_option maxRecDepth 20000 in
theorem cw_130 : codeW 130 := in_t5 (List.mem_of_getElem? (i := 19) rfl)
set_option maxRecDepth 20000 in
theorem cw_131 : codeW 131 := in_t5 (List.mem_of_getElem? (i := 23) rfl)
set_option maxRecDepth 20000 in
theorem cw_132 : codeW 132 := in_t5 (List.mem_of_getElem? (i := 27) rfl)
set_option maxRecDepth 20000 in
theorem cw_133 : codeW 133 := in_t5 (List.mem_of_getElem? (i := 37) rfl)
set_option maxRecDepth 20000 in
theorem cw_134 : codeW 134 := in_t5 (List.mem_of_getElem? (i := 30) rfl)
set_option maxRecDepth 20000 in
theorem cw_135 : codeW 135 := in_t5 (List.mem_of_getElem? (i := 33) rfl)
set_option maxRecDepth 20000 in
theorem cw_136 : codeW 136 := in_t5 (List.mem_of_getElem? (i := 41) rfl)
set_option maxRecDepth 20000 in
theorem cw_137 : codeW 137 := in_t5 (List.mem_of_getElem? (i := 45) rfl)
set_option maxRecDepth 20000 in
theorem cw_138 : codeW 138 := in_t5 (List.mem_of_getElem? (i := 49) rfl)
set_option maxRecDepth 20000 in
theorem cw_139 : codeW 139 := in_t5 (List.mem_of_getElem? (i := 53) rfl)
set_option maxRecDepth 20000 in
theorem cw_140 : codeW 140 := in_t5 (List.mem_of_getElem? (i := 57) rfl)
set_option maxRecDepth 20000 in
theorem cw_141 : codeW 141 := in_t5 (List.mem_of_getElem? (i := 61) rfl)
set_option maxRecDepth 20000 in
theorem cw_142 : codeW 142 := in_t5 (List.mem_of_getElem? (i := 69) rfl)
set_option maxRecDepth 20000 in
theorem cw_143 : codeW 143 := in_t5 (List.mem_of_getElem? (i := 73) rfl)
set_option maxRecDepth 20000 in
theorem cw_144 : codeW 144 := in_t5 (List.mem_of_getElem? (i := 77) rfl)
set_option maxRecDepth 20000 in
theorem cw_145 : codeW 145 := in_t5 (List.mem_of_getElem? (i := 106) rfl)
set_option maxRecDepth 20000 in
theorem cw_146 : codeW 146 := in_t5 (List.mem_of_getElem? (i := 110) rfl)
set_option maxRecDepth 20000 in
theorem cw_147 : codeW 147 := in_t5 (List.mem_of_getElem? (i := 114) rfl)
set_option maxRecDepth 20000 in
theorem cw_148 : codeW 148 := in_t5 (List.mem_of_getElem? (i := 120) rfl)
set_option maxRecDepth 20000 in
theorem cw_149 : codeW 149 := in_t5 (List.mem_of_getElem? (i := 129) rfl)
set_option maxRecDepth 20000 in
theorem cw_150 : codeW 150 := in_t5 (List.mem_of_getElem? (i := 133) rfl)
set_option maxRecDepth 20000 in
theorem cw_151 : codeW 151 := in_t5 (List.mem_of_getElem? (i := 148) rfl)
set_option maxRecDepth 20000 in
theorem cw_152 : codeW 152 := in_t5 (List.mem_of_getElem? (i := 152) rfl)
set_option maxRecDepth 20000 in
theorem cw_153 : codeW 153 := in_t5 (List.mem_of_getElem? (i := 156) rfl)
set_option maxRecDepth 20000 in
theorem cw_154 : codeW 154 := in_t6 (List.mem_of_getElem? (i := 17) rfl)
set_option maxRecDepth 20000 in
theorem cw_155 : codeW 155 := in_t7 (List.mem_of_getElem? (i := 63) rfl)
set_option maxRecDepth 20000 in
theorem cw_156 : codeW 156 := in_t7 (List.mem_of_getElem? (i := 67) rfl)
set_option maxRecDepth 20000 in
theorem cw_157 : codeW 157 := in_t7 (List.mem_of_getElem? (i := 122) rfl)
set_option maxRecDepth 20000 in
theorem cw_158 : codeW 158 := in_t7 (List.mem_of_getElem? (i := 236) rfl)
set_option maxRecDepth 20000 in
theorem cw_159 : codeW 159 := in_t7 (List.mem_of_getElem? (i := 104) rfl)
set_option maxRecDepth 20000 in
theorem cw_160 : codeW 160 := in_t7 (List.mem_of_getElem? (i := 83) rfl)
set_option maxRecDepth 20000 in
theorem cw_161 : codeW 161 := in_t7 (List.mem_of_getElem? (i := 79) rfl)
set_option maxRecDepth 20000 in
theorem cw_162 : codeW 162 := in_t7 (List.mem_of_getElem? (i := 91) rfl)
set_option maxRecDepth 20000 in
theorem cw_163 : codeW 163 := in_t7 (List.mem_of_getElem? (i := 75) rfl)
set_option maxRecDepth 20000 in
theorem cw_164 : codeW 164 := in_t7 (List.mem_of_getElem? (i := 96) rfl)
set_option maxRecDepth 20000 in
theorem cw_165 : codeW 165 := in_t7 (List.mem_of_getElem? (i := 87) rfl)
set_option maxRecDepth 20000 in
theorem cw_166 : codeW 166 := in_t7 (List.mem_of_getElem? (i := 158) rfl)
set_option maxRecDepth 20000 in
theorem cw_167 : codeW 167 := in_t7 (List.mem_of_getElem? (i := 146) rfl)
set_option maxRecDepth 20000 in
theorem cw_168 : codeW 168 := in_t7 (List.mem_of_getElem? (i := 119) rfl)
set_option maxRecDepth 20000 in
theorem cw_169 : codeW 169 := in_t6 (List.mem_of_getElem? (i := 22) rfl)
set_option maxRecDepth 20000 in
theorem cw_170 : codeW 170 := in_t6 (List.mem_of_getElem? (i := 29) rfl)
set_option maxRecDepth 20000 in
theorem cw_171 : codeW 171 := in_t6 (List.mem_of_getElem? (i := 26) rfl)
set_option maxRecDepth 20000 in
theorem cw_172 : codeW 172 := in_t7 (List.mem_of_getElem? (i := 115) rfl)
set_option maxRecDepth 20000 in
theorem cw_173 : codeW 173 := in_t7 (List.mem_of_getElem? (i := 112) rfl)
set_option maxRecDepth 20000 in
theorem cw_174 : codeW 174 := in_t7 (List.mem_of_getElem? (i := 108) rfl)
set_option maxRecDepth 20000 in
theorem cw_175 : codeW 175 := in_t7 (List.mem_of_getElem? (i := 126) rfl)
set_option maxRecDepth 20000 in
theorem cw_176 : codeW 176 := in_t7 (List.mem_of_getElem? (i := 130) rfl)
set_option maxRecDepth 20000 in
theorem cw_177 : codeW 177 := in_t7 (List.mem_of_getElem? (i := 134) rfl)
set_option maxRecDepth 20000 in
theorem cw_178 : codeW 178 := in_t7 (List.mem_of_getElem? (i := 138) rfl)
set_option maxRecDepth 20000 in
theorem cw_179 : codeW 179 := in_t7 (List.mem_of_getElem? (i := 100) rfl)
set_option maxRecDepth 20000 in
theorem cw_180 : codeW 180 := in_t7 (List.mem_of_getElem? (i := 71) rfl)
set_option maxRecDepth 20000 in
theorem cw_181 : codeW 181 := in_t7 (List.mem_of_getElem? (i := 189) rfl)
set_option maxRecDepth 20000 in
theorem cw_182 : codeW 182 := in_t7 (List.mem_of_getElem? (i := 193) rfl)
set_option maxRecDepth 20000 in
theorem cw_183 : codeW 183 := in_t7 (List.mem_of_getElem? (i := 181) rfl)
set_option maxRecDepth 20000 in
theorem cw_184 : codeW 184 := in_t7 (List.mem_of_getElem? (i := 170) rfl)
set_option maxRecDepth 20000 in
theorem cw_185 : codeW 185 := in_t7 (List.mem_of_getElem? (i := 185) rfl)
set_option maxRecDepth 20000 in
theorem cw_186 : codeW 186 := in_t7 (List.mem_of_getElem? (i := 178) rfl)
set_option maxRecDepth 20000 in
theorem cw_187 : codeW 187 := in_t7 (List.mem_of_getElem? (i := 162) rfl)
set_option maxRecDepth 20000 in
theorem cw_188 : codeW 188 := in_t7 (List.mem_of_getElem? (i := 154) rfl)
set_option maxRecDepth 20000 in
theorem cw_189 : codeW 189 := in_t7 (List.mem_of_getElem? (i := 166) rfl)
set_option maxRecDepth 20000 in
theorem cw_190 : codeW 190 := in_t7 (List.mem_of_getElem? (i := 150) rfl)
set_option maxRecDepth 20000 in
theorem cw_191 : codeW 191 := in_t7 (List.mem_of_getElem? (i := 174) rfl)
set_option maxRecDepth 20000 in
theorem cw_192 : codeW 192 := in_t7 (List.mem_of_getElem? (i := 142) rfl)
set_option maxRecDepth 20000 in
theorem cw_193 : codeW 193 := in_t8 (List.mem_of_getElem? (i := 33) rfl)
set_option maxRecDepth 20000 in
theorem cw_194 : codeW 194 := in_t8 (List.mem_of_getElem? (i := 42) rfl)
set_option maxRecDepth 20000 in
theorem cw_195 : codeW 195 := in_t8 (List.mem_of_getElem? (i := 39) rfl)
set_option maxRecDepth 20000 in
theorem cw_196 : codeW 196 := in_t8 (List.mem_of_getElem? (i := 29) rfl)
set_option maxRecDepth 20000 in
theorem cw_197 : codeW 197 := in_t6 (List.mem_of_getElem? (i := 33) rfl)
set_option maxRecDepth 20000 in
theorem cw_198 : codeW 198 := in_t6 (List.mem_of_getElem? (i := 37) rfl)
set_option maxRecDepth 20000 in
theorem cw_199 : codeW 199 := in_t8 (List.mem_of_getElem? (i := 111) rfl)
set_option maxRecDepth 20000 in
theorem cw_200 : codeW 200 := in_t7 (List.mem_of_getElem? (i := 213) rfl)
set_option maxRecDepth 20000 in
theorem cw_201 : codeW 201 := in_t7 (List.mem_of_getElem? (i := 201) rfl)
set_option maxRecDepth 20000 in
theorem cw_202 : codeW 202 := in_t7 (List.mem_of_getElem? (i := 229) rfl)
set_option maxRecDepth 20000 in
theorem cw_203 : codeW 203 := in_t8 (List.mem_of_getElem? (i := 4) rfl)
set_option maxRecDepth 20000 in
theorem cw_204 : codeW 204 := in_t8 (List.mem_of_getElem? (i := 17) rfl)
set_option maxRecDepth 20000 in
theorem cw_205 : codeW 205 := in_t8 (List.mem_of_getElem? (i := 21) rfl)
set_option maxRecDepth 20000 in
theorem cw_206 : codeW 206 := in_t8 (List.mem_of_getElem? (i := 13) rfl)
set_option maxRecDepth 20000 in
theorem cw_207 : codeW 207 := in_t8 (List.mem_of_getElem? (i := 25) rfl)
set_option maxRecDepth 20000 in
theorem cw_208 : codeW 208 := in_t8 (List.mem_of_getElem? (i := 82) rfl)
set_option maxRecDepth 20000 in
theorem cw_209 : codeW 209 := in_t8 (List.mem_of_getElem? (i := 86) rfl)
set_option maxRecDepth 20000 in
theorem cw_210 : codeW 210 := in_t8 (List.mem_of_getElem? (i := 102) rfl)
set_option maxRecDepth 20000 in
theorem cw_211 : codeW 211 := in_t8 (List.mem_of_getElem? (i := 90) rfl)
set_option maxRecDepth 20000 in
theorem cw_212 : codeW 212 := in_t8 (List.mem_of_getElem? (i := 78) rfl)
set_option maxRecDepth 20000 in
theorem cw_213 : codeW 213 := in_t8 (List.mem_of_getElem? (i := 98) rfl)
set_option maxRecDepth 20000 in
theorem cw_214 : codeW 214 := in_t8 (List.mem_of_getElem? (i := 94) rfl)
set_option maxRecDepth 20000 in
theorem cw_215 : codeW 215 := in_t8 (List.mem_of_getElem? (i := 74) rfl)
set_option maxRecDepth 20000 in
theorem cw_216 : codeW 216 := in_t8 (List.mem_of_getElem? (i := 115) rfl)
set_option maxRecDepth 20000 in
theorem cw_217 : codeW 217 := in_t8 (List.mem_of_getElem? (i := 126) rfl)
set_option maxRecDepth 20000 in
theorem cw_218 : codeW 218 := in_t8 (List.mem_of_getElem? (i := 123) rfl)
set_option maxRecDepth 20000 in
theorem cw_219 : codeW 219 := in_t8 (List.mem_of_getElem? (i := 141) rfl)
set_option maxRecDepth 20000 in
theorem cw_220 : codeW 220 := in_t8 (List.mem_of_getElem? (i := 119) rfl)
set_option maxRecDepth 20000 in
theorem cw_221 : codeW 221 := in_t7 (List.mem_of_getElem? (i := 205) rfl)
set_option maxRecDepth 20000 in
theorem cw_222 : codeW 222 := in_t7 (List.mem_of_getElem? (i := 197) rfl)
set_option maxRecDepth 20000 in
theorem cw_223 : codeW 223 := in_t7 (List.mem_of_getElem? (i := 217) rfl)
set_option maxRecDepth 20000 in
theorem cw_224 : codeW 224 := in_t7 (List.mem_of_getElem? (i := 209) rfl)
set_option maxRecDepth 20000 in
theorem cw_225 : codeW 225 := in_t7 (List.mem_of_getElem? (i := 221) rfl)
set_option maxRecDepth 20000 in
theorem cw_226 : codeW 226 := in_t7 (List.mem_of_getElem? (i := 225) rfl)
set_option maxRecDepth 20000 in
theorem cw_227 : codeW 227 := in_t7 (List.mem_of_getElem? (i := 233) rfl)
set_option maxRecDepth 20000 in
theorem cw_228 : codeW 228 := in_t8 (List.mem_of_getElem? (i := 0) rfl)
set_option maxRecDepth 20000 in
theorem cw_229 : codeW 229 := in_t8 (List.mem_of_getElem? (i := 8) rfl)
set_option maxRecDepth 20000 in
theorem cw_230 : codeW 230 := in_t8 (List.mem_of_getElem? (i := 46) rfl)
set_option maxRecDepth 20000 in
theorem cw_231 : codeW 231 := in_t8 (List.mem_of_getElem? (i := 58) rfl)
set_option maxRecDepth 20000 in
theorem cw_232 : codeW 232 := in_t8 (List.mem_of_getElem? (i := 62) rfl)
set_option maxRecDepth 20000 in
theorem cw_233 : codeW 233 := in_t8 (List.mem_of_getElem? (i := 66) rfl)
set_option maxRecDepth 20000 in
theorem cw_234 : codeW 234 := in_t8 (List.mem_of_getElem? (i := 70) rfl)
set_option maxRecDepth 20000 in
theorem cw_235 : codeW 235 := in_t8 (List.mem_of_getElem? (i := 107) rfl)
set_option maxRecDepth 20000 in
theorem cw_236 : codeW 236 := in_t8 (List.mem_of_getElem? (i := 137) rfl)
set_option maxRecDepth 20000 in
theorem cw_237 : codeW 237 := in_t8 (List.mem_of_getElem? (i := 133) rfl)
set_option maxRecDepth 20000 in
theorem cw_238 : codeW 238 := in_t8 (List.mem_of_getElem? (i := 130) rfl)
set_option maxRecDepth 20000 in
theorem cw_239 : codeW 239 := in_t8 (List.mem_of_getElem? (i := 145) rfl)
set_option maxRecDepth 20000 in
theorem cw_240 : codeW 240 := in_t8 (List.mem_of_getElem? (i := 149) rfl)
set_option maxRecDepth 20000 in
theorem cw_241 : codeW 241 := in_t8 (List.mem_of_getElem? (i := 159) rfl)
set_option maxRecDepth 20000 in
theorem cw_242 : codeW 242 := in_t8 (List.mem_of_getElem? (i := 156) rfl)
set_option maxRecDepth 20000 in
theorem cw_243 : codeW 243 := in_t8 (List.mem_of_getElem? (i := 153) rfl)
set_option maxRecDepth 20000 in
theorem cw_244 : codeW 244 := in_t8 (List.mem_of_getElem? (i := 163) rfl)
set_option maxRecDepth 20000 in
theorem cw_245 : codeW 245 := in_t8 (List.mem_of_getElem? (i := 167) rfl)
set_option maxRecDepth 20000 in
theorem cw_246 : codeW 246 := in_t8 (List.mem_of_getElem? (i := 178) rfl)
set_option maxRecDepth 20000 in
theorem cw_247 : codeW 247 := in_t8 (List.mem_of_getElem? (i := 175) rfl)
set_option maxRecDepth 20000 in
theorem cw_248 : codeW 248 := in_t8 (List.mem_of_getElem? (i := 171) rfl)
set_option maxRecDepth 20000 in
theorem cw_249 : codeW 249 := in_t8 (List.mem_of_getElem? (i := 182) rfl)
set_option maxRecDepth 20000 in
theorem cw_250 : codeW 250 := in_t8 (List.mem_of_getElem? (i := 186) rfl)
set_option maxRecDepth 20000 in
theorem cw_251 : codeW 251 := in_t8 (List.mem_of_getElem? (i := 190) rfl)
set_option maxRecDepth 20000 in
theorem cw_252 : codeW 252 := in_t8 (List.mem_of_getElem? (i := 194) rfl)
set_option maxRecDepth 20000 in
theorem cw_253 : codeW 253 := in_t8 (List.mem_of_getElem? (i := 198) rfl)
set_option maxRecDepth 20000 in
theorem cw_254 : codeW 254 := in_t8 (List.mem_of_getElem? (i := 206) rfl)
set_option maxRecDepth 20000 in
theorem cw_255 : codeW 255 := in_t8 (List.mem_of_getElem? (i := 202) rfl)
set_option maxRecDepth 20000 in
theorem cw_256 : codeW 256 := in_t8 (List.mem_of_getElem? (i := 210) rfl)
set_option maxRecDepth 20000 in
theorem cw_257 : codeW 257 := in_t8 (List.mem_of_getElem? (i := 214) rfl)
set_option maxRecDepth 20000 in
theorem cw_258 : codeW 258 := in_t8 (List.mem_of_getElem? (i := 226) rfl)
set_option maxRecDepth 20000 in
theorem cw_259 : codeW 259 := in_t8 (List.mem_of_getElem? (i := 234) rfl)
set_option maxRecDepth 20000 in
theorem cw_260 : codeW 260 := in_t8 (List.mem_of_getElem? (i := 230) rfl)
set_option maxRecDepth 20000 in
theorem cw_261 : codeW 261 := in_t8 (List.mem_of_getElem? (i := 222) rfl)
set_option maxRecDepth 20000 in
theorem cw_262 : codeW 262 := in_t8 (List.mem_of_getElem? (i := 218) rfl)
set_option maxRecDepth 20000 in
theorem cw_263 : codeW 263 := in_t8 (List.mem_of_getElem? (i := 238) rfl)
set_option maxRecDepth 20000 in
theorem cw_264 : codeW 264 := in_t9 (List.mem_of_getElem? (i := 2) rfl)
set_option maxRecDepth 20000 in
theorem cw_265 : codeW 265 := in_t9 (List.mem_of_getElem? (i := 10) rfl)
set_option maxRecDepth 20000 in
theorem cw_266 : codeW 266 := in_t9 (List.mem_of_getElem? (i := 6) rfl)
set_option maxRecDepth 20000 in
theorem cw_267 : codeW 267 := in_t9 (List.mem_of_getElem? (i := 18) rfl)
set_option maxRecDepth 20000 in
theorem cw_268 : codeW 268 := in_t8 (List.mem_of_getElem? (i := 54) rfl)
set_option maxRecDepth 20000 in
theorem cw_269 : codeW 269 := in_t9 (List.mem_of_getElem? (i := 26) rfl)
set_option maxRecDepth 20000 in
theorem cw_270 : codeW 270 := in_t8 (List.mem_of_getElem? (i := 50) rfl)
set_option maxRecDepth 20000 in
theorem cw_271 : codeW 271 := in_t9 (List.mem_of_getElem? (i := 22) rfl)
set_option maxRecDepth 20000 in
theorem cw_272 : codeW 272 := in_t9 (List.mem_of_getElem? (i := 30) rfl)
set_option maxRecDepth 20000 in
theorem cw_273 : codeW 273 := in_t9 (List.mem_of_getElem? (i := 34) rfl)
set_option maxRecDepth 20000 in
theorem cw_274 : codeW 274 := in_t9 (List.mem_of_getElem? (i := 38) rfl)
set_option maxRecDepth 20000 in
theorem cw_277 : codeW 277 := in_t4 (List.mem_of_getElem? (i := 176) rfl)
