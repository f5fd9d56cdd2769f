/-! names, fields, codes: by program out of the claim's files -/
def cx_El : String := "TurnedBar$Insert"
def WS : List Cond := lw_tbl.filter goodWord
def RB : String := "TurnedBar$Blank"
def FB : u_T := fun k => match k with
  | 0 => ("TurnedBar$Blank", "radius", "I", false)
  | 1 => ("TurnedBar$Blank", "length", "I", false)
  | 2 => ("TurnedBar$Blank", "chuck", "I", false)
  | _ => ("TurnedBar$Blank", "radiusToStay", "[I", true)
def tB : Nat → FieldType := fun k => match k with
  | 0 => .int
  | 1 => .int
  | 2 => .int
  | _ => .array .int
theorem nB_ok : ∀ a, a < 4 → ∀ b, b < 4 → a ≠ b → (FB a).2.1 ≠ (FB b).2.1 := by decide +kernel
theorem tB_ok : ∀ k, k < 4 → parseFieldDescriptor (FB k).2.2.1 = some (tB k) := by decide +kernel
def RI : String := "TurnedBar$Insert"
def FI : u_T := fun k => match k with
  | 0 => ("TurnedBar$Insert", "spots", "I", false)
  | 1 => ("TurnedBar$Insert", "dz", "[I", true)
  | _ => ("TurnedBar$Insert", "dr", "[I", true)
def tI : Nat → FieldType := fun k => match k with
  | 0 => .int
  | 1 => .array .int
  | _ => .array .int
theorem nI_ok : ∀ a, a < 3 → ∀ b, b < 3 → a ≠ b → (FI a).2.1 ≠ (FI b).2.1 := by decide +kernel
theorem tI_ok : ∀ k, k < 3 → parseFieldDescriptor (FI k).2.2.1 = some (tI k) := by decide +kernel
def RJ : String := "TurnedBar$Job"
def FJ : u_T := fun k => match k with
  | 0 => ("TurnedBar$Job", "inserts", "[LTurnedBar$Insert;", true)
  | 1 => ("TurnedBar$Job", "row", "[I", true)
  | _ => ("TurnedBar$Job", "chosen", "I", false)
def tJ : Nat → FieldType := fun k => match k with
  | 0 => .array (.object "TurnedBar$Insert")
  | 1 => .array .int
  | _ => .int
theorem nJ_ok : ∀ a, a < 3 → ∀ b, b < 3 → a ≠ b → (FJ a).2.1 ≠ (FJ b).2.1 := by decide +kernel
theorem tJ_ok : ∀ k, k < 3 → parseFieldDescriptor (FJ k).2.2.1 = some (tJ k) := by decide +kernel
def RM : String := "TurnedBar$Moves"
def FM : u_T := fun k => match k with
  | 0 => ("TurnedBar$Moves", "row", "[I", true)
  | _ => ("TurnedBar$Moves", "size", "I", false)
def tM : Nat → FieldType := fun k => match k with
  | 0 => .array .int
  | _ => .int
theorem nM_ok : ∀ a, a < 2 → ∀ b, b < 2 → a ≠ b → (FM a).2.1 ≠ (FM b).2.1 := by decide +kernel
theorem tM_ok : ∀ k, k < 2 → parseFieldDescriptor (FM k).2.2.1 = some (tM k) := by decide +kernel
def RP : String := "TurnedBar$Planner"
def FP : u_T := fun k => match k with
  | 0 => ("TurnedBar$Planner", "blank", "LTurnedBar$Blank;", true)
  | 1 => ("TurnedBar$Planner", "job", "LTurnedBar$Job;", true)
  | 2 => ("TurnedBar$Planner", "ways", "LTurnedBar$Ways;", true)
  | 3 => ("TurnedBar$Planner", "stock", "LTurnedBar$Stock;", true)
  | 4 => ("TurnedBar$Planner", "moves", "LTurnedBar$Moves;", true)
  | _ => ("TurnedBar$Planner", "directions", "[I", true)
def tP : Nat → FieldType := fun k => match k with
  | 0 => .object "TurnedBar$Blank"
  | 1 => .object "TurnedBar$Job"
  | 2 => .object "TurnedBar$Ways"
  | 3 => .object "TurnedBar$Stock"
  | 4 => .object "TurnedBar$Moves"
  | _ => .array .int
theorem nP_ok : ∀ a, a < 6 → ∀ b, b < 6 → a ≠ b → (FP a).2.1 ≠ (FP b).2.1 := by decide +kernel
theorem tP_ok : ∀ k, k < 6 → parseFieldDescriptor (FP k).2.2.1 = some (tP k) := by decide +kernel
def RR : String := "TurnedBar$Run"
def FR : u_T := fun k => match k with
  | 0 => ("TurnedBar$Run", "blank", "LTurnedBar$Blank;", true)
  | 1 => ("TurnedBar$Run", "job", "LTurnedBar$Job;", true)
  | 2 => ("TurnedBar$Run", "changes", "I", false)
  | 3 => ("TurnedBar$Run", "z", "I", false)
  | 4 => ("TurnedBar$Run", "\x72", "I", false)
  | 5 => ("TurnedBar$Run", "cells", "I", false)
  | _ => ("TurnedBar$Run", "firstFault", "I", false)
def tR : Nat → FieldType := fun k => match k with
  | 0 => .object "TurnedBar$Blank"
  | 1 => .object "TurnedBar$Job"
  | 2 => .int
  | 3 => .int
  | 4 => .int
  | 5 => .int
  | _ => .int
theorem nR_ok : ∀ a, a < 7 → ∀ b, b < 7 → a ≠ b → (FR a).2.1 ≠ (FR b).2.1 := by decide +kernel
theorem tR_ok : ∀ k, k < 7 → parseFieldDescriptor (FR k).2.2.1 = some (tR k) := by decide +kernel
def RS : String := "TurnedBar$Stock"
def FS : u_T := fun k => match k with
  | _ => ("TurnedBar$Stock", "uncut", "[Z", true)
def tS : Nat → FieldType := fun k => match k with
  | _ => .array .boolean
theorem nS_ok : ∀ a, a < 1 → ∀ b, b < 1 → a ≠ b → (FS a).2.1 ≠ (FS b).2.1 := by decide +kernel
theorem tS_ok : ∀ k, k < 1 → parseFieldDescriptor (FS k).2.2.1 = some (tS k) := by decide +kernel
def RW : String := "TurnedBar$Ways"
def FW : u_T := fun k => match k with
  | 0 => ("TurnedBar$Ways", "blank", "LTurnedBar$Blank;", true)
  | 1 => ("TurnedBar$Ways", "queue", "[I", true)
  | 2 => ("TurnedBar$Ways", "distance", "[I", true)
  | 3 => ("TurnedBar$Ways", "cameBy", "[I", true)
  | _ => ("TurnedBar$Ways", "found", "I", false)
def tW : Nat → FieldType := fun k => match k with
  | 0 => .object "TurnedBar$Blank"
  | 1 => .array .int
  | 2 => .array .int
  | 3 => .array .int
  | _ => .int
theorem nW_ok : ∀ a, a < 5 → ∀ b, b < 5 → a ≠ b → (FW a).2.1 ≠ (FW b).2.1 := by decide +kernel
theorem tW_ok : ∀ k, k < 5 → parseFieldDescriptor (FW k).2.2.1 = some (tW k) := by decide +kernel
def RT : String := "TurnedBar"
def FT : u_T := fun k => match k with
  | 0 => ("TurnedBar", "blank", "LTurnedBar$Blank;", true)
  | 1 => ("TurnedBar", "inserts", "[LTurnedBar$Insert;", true)
  | 2 => ("TurnedBar", "job", "LTurnedBar$Job;", true)
  | 3 => ("TurnedBar", "planned", "LTurnedBar$Moves;", true)
  | 4 => ("TurnedBar", "trial", "LTurnedBar$Moves;", true)
  | 5 => ("TurnedBar", "shown", "LTurnedBar$Stock;", true)
  | 6 => ("TurnedBar", "scratch", "LTurnedBar$Stock;", true)
  | 7 => ("TurnedBar", "ways", "LTurnedBar$Ways;", true)
  | 8 => ("TurnedBar", "planner", "LTurnedBar$Planner;", true)
  | 9 => ("TurnedBar", "run", "LTurnedBar$Run;", true)
  | 10 => ("TurnedBar", "hasPlan", "Z", false)
  | _ => ("TurnedBar", "leftByPlan", "I", false)
def tT : Nat → FieldType := fun k => match k with
  | 0 => .object "TurnedBar$Blank"
  | 1 => .array (.object "TurnedBar$Insert")
  | 2 => .object "TurnedBar$Job"
  | 3 => .object "TurnedBar$Moves"
  | 4 => .object "TurnedBar$Moves"
  | 5 => .object "TurnedBar$Stock"
  | 6 => .object "TurnedBar$Stock"
  | 7 => .object "TurnedBar$Ways"
  | 8 => .object "TurnedBar$Planner"
  | 9 => .object "TurnedBar$Run"
  | 10 => .boolean
  | _ => .int
theorem nT_ok : ∀ a, a < 12 → ∀ b, b < 12 → a ≠ b → (FT a).2.1 ≠ (FT b).2.1 := by decide +kernel
theorem tT_ok : ∀ k, k < 12 → parseFieldDescriptor (FT k).2.2.1 = some (tT k) := by decide +kernel
def RD : String := "TurnedBarModel"
def FD : u_T := fun k => match k with
  | 0 => ("TurnedBarModel", "radius", "I", false)
  | 1 => ("TurnedBarModel", "length", "I", false)
  | 2 => ("TurnedBarModel", "chuck", "I", false)
  | 3 => ("TurnedBarModel", "stays", "[I", true)
  | 4 => ("TurnedBarModel", "spots", "[I", true)
  | 5 => ("TurnedBarModel", "dzs", "[I", true)
  | 6 => ("TurnedBarModel", "drs", "[I", true)
  | 7 => ("TurnedBarModel", "chosen", "I", false)
  | 8 => ("TurnedBarModel", "job", "[I", true)
  | 9 => ("TurnedBarModel", "planned", "Z", false)
  | 10 => ("TurnedBarModel", "moves", "I", false)
  | 11 => ("TurnedBarModel", "kinds", "[I", true)
  | 12 => ("TurnedBarModel", "directions", "[I", true)
  | 13 => ("TurnedBarModel", "counts", "[I", true)
  | 14 => ("TurnedBarModel", "trialKinds", "[I", true)
  | 15 => ("TurnedBarModel", "trialDirections", "[I", true)
  | 16 => ("TurnedBarModel", "trialCounts", "[I", true)
  | 17 => ("TurnedBarModel", "remains", "I", false)
  | 18 => ("TurnedBarModel", "simulated", "Z", false)
  | 19 => ("TurnedBarModel", "seen", "[Z", true)
  | 20 => ("TurnedBarModel", "stock", "[Z", true)
  | 21 => ("TurnedBarModel", "inReach", "[Z", true)
  | 22 => ("TurnedBarModel", "from", "[I", true)
  | 23 => ("TurnedBarModel", "back", "[I", true)
  | 24 => ("TurnedBarModel", "insert", "I", false)
  | 25 => ("TurnedBarModel", "row", "I", false)
  | 26 => ("TurnedBarModel", "where", "I", false)
  | _ => ("TurnedBarModel", "cut", "I", false)
def tD : Nat → FieldType := fun k => match k with
  | 0 => .int
  | 1 => .int
  | 2 => .int
  | 3 => .array .int
  | 4 => .array .int
  | 5 => .array .int
  | 6 => .array .int
  | 7 => .int
  | 8 => .array .int
  | 9 => .boolean
  | 10 => .int
  | 11 => .array .int
  | 12 => .array .int
  | 13 => .array .int
  | 14 => .array .int
  | 15 => .array .int
  | 16 => .array .int
  | 17 => .int
  | 18 => .boolean
  | 19 => .array .boolean
  | 20 => .array .boolean
  | 21 => .array .boolean
  | 22 => .array .int
  | 23 => .array .int
  | 24 => .int
  | 25 => .int
  | 26 => .int
  | _ => .int
theorem nD_ok : ∀ a, a < 28 → ∀ b, b < 28 → a ≠ b → (FD a).2.1 ≠ (FD b).2.1 := by decide +kernel
theorem tD_ok : ∀ k, k < 28 → parseFieldDescriptor (FD k).2.2.1 = some (tD k) := by decide +kernel
def RL : String := "TurnedBarLaw"
def RA : String := "java/util/Arrays"
abbrev vwCl : List vw_C := [(RB, FB, 4), (RI, FI, 3), (RJ, FJ, 3), (RM, FM, 2), (RP, FP, 6), (RR, FR, 7), (RS, FS, 1), (RW, FW, 5), (RT, FT, 12), (RD, FD, 28)]
def cx_nest : List Cond := [(Cond.methodLinkNest "TurnedBar" (11 : Nat) ({ cls := "TurnedBar$Blank", name := "<init>", desc := "()V" } : MethodName) "TurnedBar"), (Cond.methodLinkNest "TurnedBar" (18 : Nat) ({ cls := "TurnedBar$Insert", name := "<init>", desc := "()V" } : MethodName) "TurnedBar"), (Cond.methodLinkNest "TurnedBar" (34 : Nat) ({ cls := "TurnedBar$Moves", name := "<init>", desc := "()V" } : MethodName) "TurnedBar"), (Cond.methodLinkNest "TurnedBar" (44 : Nat) ({ cls := "TurnedBar$Stock", name := "<init>", desc := "()V" } : MethodName) "TurnedBar"), (Cond.methodLinkNest "TurnedBar$Blank" (25 : Nat) ({ cls := "TurnedBar", name := "isCell", desc := "(II)Z" } : MethodName) "TurnedBar"), (Cond.methodLinkNest "TurnedBar$Ways" (37 : Nat) ({ cls := "TurnedBar", name := "zOf", desc := "(I)I" } : MethodName) "TurnedBar"), (Cond.fieldLinkNest "TurnedBar$Ways" (56 : Nat) "TurnedBar" "STEP_Z" "[I" "TurnedBar"), (Cond.methodLinkNest "TurnedBar$Ways" (41 : Nat) ({ cls := "TurnedBar", name := "rOf", desc := "(I)I" } : MethodName) "TurnedBar"), (Cond.fieldLinkNest "TurnedBar$Ways" (59 : Nat) "TurnedBar" "STEP_R" "[I" "TurnedBar"), (Cond.methodLinkNest "TurnedBar$Ways" (71 : Nat) ({ cls := "TurnedBar", name := "isPosition", desc := "(II)Z" } : MethodName) "TurnedBar"), (Cond.methodLinkNest "TurnedBar$Ways" (62 : Nat) ({ cls := "TurnedBar", name := "positionOf", desc := "(II)I" } : MethodName) "TurnedBar"), (Cond.methodLinkNest "TurnedBar$Stock" (21 : Nat) ({ cls := "TurnedBar", name := "isCell", desc := "(II)Z" } : MethodName) "TurnedBar"), (Cond.methodLinkNest "TurnedBar$Planner" (74 : Nat) ({ cls := "TurnedBar", name := "zOf", desc := "(I)I" } : MethodName) "TurnedBar"), (Cond.methodLinkNest "TurnedBar$Planner" (78 : Nat) ({ cls := "TurnedBar", name := "rOf", desc := "(I)I" } : MethodName) "TurnedBar"), (Cond.methodLinkNest "TurnedBar$Run" (83 : Nat) ({ cls := "TurnedBar", name := "zOf", desc := "(I)I" } : MethodName) "TurnedBar"), (Cond.methodLinkNest "TurnedBar$Run" (86 : Nat) ({ cls := "TurnedBar", name := "rOf", desc := "(I)I" } : MethodName) "TurnedBar"), (Cond.fieldLinkNest "TurnedBar$Run" (93 : Nat) "TurnedBar" "STEP_Z" "[I" "TurnedBar"), (Cond.fieldLinkNest "TurnedBar$Run" (96 : Nat) "TurnedBar" "STEP_R" "[I" "TurnedBar"), (Cond.methodLinkNest "TurnedBar$Run" (99 : Nat) ({ cls := "TurnedBar", name := "isPosition", desc := "(II)Z" } : MethodName) "TurnedBar")]
theorem cx_nest_in : ∀ w ∈ cx_nest, w ∈ tables_1 := by decide +kernel
