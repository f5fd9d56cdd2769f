section
-- ===== PART A: goes FIRST, ahead of the names: the tables' words, and 'selects' of the private methods out of them =====
/-- a private method of a class that the tables say can be made, by its rows of tables_1 -/
def lw_okq (q : MethodName × Nat) : Prop := (q.1.cls ≠ "java/lang/invoke/MethodHandle" ∧ q.1.cls ≠ "java/lang/invoke/VarHandle") ∧ Cond.instantiable q.1.cls q.2 ∈ tables_1 ∧ Cond.privateMethod q.1 ∈ tables_1 ∧ Cond.instanceMethod q.1 ∈ tables_1
theorem lw_p0 : lw_okq (⟨"TurnedBar", "dropPlan", "()V"⟩, 12) := ⟨⟨by decide +kernel, by decide +kernel⟩, List.mem_of_getElem? (i := 15) (by decide +kernel), List.mem_of_getElem? (i := 248) (by decide +kernel), List.mem_of_getElem? (i := 249) (by decide +kernel)⟩
theorem lw_p1 : lw_okq (⟨"TurnedBar", "isInReach", "(LTurnedBar$Insert;II)Z"⟩, 12) := ⟨⟨by decide +kernel, by decide +kernel⟩, List.mem_of_getElem? (i := 15) (by decide +kernel), List.mem_of_getElem? (i := 302) (by decide +kernel), List.mem_of_getElem? (i := 303) (by decide +kernel)⟩
theorem lw_p2 : lw_okq (⟨"TurnedBar$Ways", "begin", "(I)V"⟩, 5) := ⟨⟨by decide +kernel, by decide +kernel⟩, List.mem_of_getElem? (i := 119) (by decide +kernel), List.mem_of_getElem? (i := 310) (by decide +kernel), List.mem_of_getElem? (i := 311) (by decide +kernel)⟩
theorem lw_p3 : lw_okq (⟨"TurnedBar$Ways", "spread", "(LTurnedBar$Insert;I)V"⟩, 5) := ⟨⟨by decide +kernel, by decide +kernel⟩, List.mem_of_getElem? (i := 119) (by decide +kernel), List.mem_of_getElem? (i := 317) (by decide +kernel), List.mem_of_getElem? (i := 318) (by decide +kernel)⟩
theorem lw_p4 : lw_okq (⟨"TurnedBar$Moves", "append", "(I)Z"⟩, 2) := ⟨⟨by decide +kernel, by decide +kernel⟩, List.mem_of_getElem? (i := 90) (by decide +kernel), List.mem_of_getElem? (i := 380) (by decide +kernel), List.mem_of_getElem? (i := 381) (by decide +kernel)⟩
theorem lw_p5 : lw_okq (⟨"TurnedBar$Planner", "useInsert", "(LTurnedBar$Insert;)Z"⟩, 6) := ⟨⟨by decide +kernel, by decide +kernel⟩, List.mem_of_getElem? (i := 141) (by decide +kernel), List.mem_of_getElem? (i := 385) (by decide +kernel), List.mem_of_getElem? (i := 386) (by decide +kernel)⟩
theorem lw_p6 : lw_okq (⟨"TurnedBar$Planner", "addWay", "(I)Z"⟩, 6) := ⟨⟨by decide +kernel, by decide +kernel⟩, List.mem_of_getElem? (i := 141) (by decide +kernel), List.mem_of_getElem? (i := 405) (by decide +kernel), List.mem_of_getElem? (i := 406) (by decide +kernel)⟩
theorem lw_p7 : lw_okq (⟨"TurnedBar", "isMove", "(I)Z"⟩, 12) := ⟨⟨by decide +kernel, by decide +kernel⟩, List.mem_of_getElem? (i := 15) (by decide +kernel), List.mem_of_getElem? (i := 448) (by decide +kernel), List.mem_of_getElem? (i := 449) (by decide +kernel)⟩
theorem lw_p8 : lw_okq (⟨"TurnedBar$Run", "goMove", "(ILTurnedBar$Stock;)I"⟩, 7) := ⟨⟨by decide +kernel, by decide +kernel⟩, List.mem_of_getElem? (i := 166) (by decide +kernel), List.mem_of_getElem? (i := 478) (by decide +kernel), List.mem_of_getElem? (i := 479) (by decide +kernel)⟩
theorem lw_p9 : lw_okq (⟨"TurnedBar$Run", "goChange", "()I"⟩, 7) := ⟨⟨by decide +kernel, by decide +kernel⟩, List.mem_of_getElem? (i := 166) (by decide +kernel), List.mem_of_getElem? (i := 483) (by decide +kernel), List.mem_of_getElem? (i := 484) (by decide +kernel)⟩
theorem lw_p10 : lw_okq (⟨"TurnedBar$Run", "goStep", "(IILTurnedBar$Stock;)I"⟩, 7) := ⟨⟨by decide +kernel, by decide +kernel⟩, List.mem_of_getElem? (i := 166) (by decide +kernel), List.mem_of_getElem? (i := 491) (by decide +kernel), List.mem_of_getElem? (i := 492) (by decide +kernel)⟩
theorem lw_p11 : lw_okq (⟨"TurnedBarModel", "drop", "()V"⟩, 28) := ⟨⟨by decide +kernel, by decide +kernel⟩, List.mem_of_getElem? (i := 523) (by decide +kernel), List.mem_of_getElem? (i := 618) (by decide +kernel), List.mem_of_getElem? (i := 619) (by decide +kernel)⟩
theorem lw_p12 : lw_okq (⟨"TurnedBarModel", "isSafe", "(II)Z"⟩, 28) := ⟨⟨by decide +kernel, by decide +kernel⟩, List.mem_of_getElem? (i := 523) (by decide +kernel), List.mem_of_getElem? (i := 655) (by decide +kernel), List.mem_of_getElem? (i := 656) (by decide +kernel)⟩
theorem lw_p13 : lw_okq (⟨"TurnedBarModel", "findReach", "(I)V"⟩, 28) := ⟨⟨by decide +kernel, by decide +kernel⟩, List.mem_of_getElem? (i := 523) (by decide +kernel), List.mem_of_getElem? (i := 665) (by decide +kernel), List.mem_of_getElem? (i := 666) (by decide +kernel)⟩
theorem lw_p14 : lw_okq (⟨"TurnedBarModel", "isBar", "(II)Z"⟩, 28) := ⟨⟨by decide +kernel, by decide +kernel⟩, List.mem_of_getElem? (i := 523) (by decide +kernel), List.mem_of_getElem? (i := 672) (by decide +kernel), List.mem_of_getElem? (i := 673) (by decide +kernel)⟩
theorem lw_p15 : lw_okq (⟨"TurnedBarModel", "covers", "(IIII)Z"⟩, 28) := ⟨⟨by decide +kernel, by decide +kernel⟩, List.mem_of_getElem? (i := 523) (by decide +kernel), List.mem_of_getElem? (i := 679) (by decide +kernel), List.mem_of_getElem? (i := 680) (by decide +kernel)⟩
def lw_privs_1 : List (MethodName × Nat) := [(⟨"TurnedBar", "dropPlan", "()V"⟩, 12), (⟨"TurnedBar", "isInReach", "(LTurnedBar$Insert;II)Z"⟩, 12), (⟨"TurnedBar$Ways", "begin", "(I)V"⟩, 5), (⟨"TurnedBar$Ways", "spread", "(LTurnedBar$Insert;I)V"⟩, 5), (⟨"TurnedBar$Moves", "append", "(I)Z"⟩, 2), (⟨"TurnedBar$Planner", "useInsert", "(LTurnedBar$Insert;)Z"⟩, 6), (⟨"TurnedBar$Planner", "addWay", "(I)Z"⟩, 6), (⟨"TurnedBar", "isMove", "(I)Z"⟩, 12), (⟨"TurnedBar$Run", "goMove", "(ILTurnedBar$Stock;)I"⟩, 7), (⟨"TurnedBar$Run", "goChange", "()I"⟩, 7), (⟨"TurnedBar$Run", "goStep", "(IILTurnedBar$Stock;)I"⟩, 7), (⟨"TurnedBarModel", "drop", "()V"⟩, 28), (⟨"TurnedBarModel", "isSafe", "(II)Z"⟩, 28), (⟨"TurnedBarModel", "findReach", "(I)V"⟩, 28), (⟨"TurnedBarModel", "isBar", "(II)Z"⟩, 28), (⟨"TurnedBarModel", "covers", "(IIII)Z"⟩, 28)]
theorem lw_r1 : ∀ q ∈ lw_privs_1, lw_okq q := List.forall_mem_cons.mpr ⟨lw_p0, List.forall_mem_cons.mpr ⟨lw_p1, List.forall_mem_cons.mpr ⟨lw_p2, List.forall_mem_cons.mpr ⟨lw_p3, List.forall_mem_cons.mpr ⟨lw_p4, List.forall_mem_cons.mpr ⟨lw_p5, List.forall_mem_cons.mpr ⟨lw_p6, List.forall_mem_cons.mpr ⟨lw_p7, List.forall_mem_cons.mpr ⟨lw_p8, List.forall_mem_cons.mpr ⟨lw_p9, List.forall_mem_cons.mpr ⟨lw_p10, List.forall_mem_cons.mpr ⟨lw_p11, List.forall_mem_cons.mpr ⟨lw_p12, List.forall_mem_cons.mpr ⟨lw_p13, List.forall_mem_cons.mpr ⟨lw_p14, List.forall_mem_cons.mpr ⟨lw_p15, fun _ h => absurd h List.not_mem_nil⟩⟩⟩⟩⟩⟩⟩⟩⟩⟩⟩⟩⟩⟩⟩⟩
theorem lw_p16 : lw_okq (⟨"TurnedBarModel", "isJob", "()Z"⟩, 28) := ⟨⟨by decide +kernel, by decide +kernel⟩, List.mem_of_getElem? (i := 523) (by decide +kernel), List.mem_of_getElem? (i := 691) (by decide +kernel), List.mem_of_getElem? (i := 692) (by decide +kernel)⟩
theorem lw_p17 : lw_okq (⟨"TurnedBarModel", "fill", "()V"⟩, 28) := ⟨⟨by decide +kernel, by decide +kernel⟩, List.mem_of_getElem? (i := 523) (by decide +kernel), List.mem_of_getElem? (i := 695) (by decide +kernel), List.mem_of_getElem? (i := 696) (by decide +kernel)⟩
theorem lw_p18 : lw_okq (⟨"TurnedBarModel", "add", "(II)V"⟩, 28) := ⟨⟨by decide +kernel, by decide +kernel⟩, List.mem_of_getElem? (i := 523) (by decide +kernel), List.mem_of_getElem? (i := 699) (by decide +kernel), List.mem_of_getElem? (i := 700) (by decide +kernel)⟩
theorem lw_p19 : lw_okq (⟨"TurnedBarModel", "measure", "([III)V"⟩, 28) := ⟨⟨by decide +kernel, by decide +kernel⟩, List.mem_of_getElem? (i := 523) (by decide +kernel), List.mem_of_getElem? (i := 703) (by decide +kernel), List.mem_of_getElem? (i := 704) (by decide +kernel)⟩
theorem lw_p20 : lw_okq (⟨"TurnedBarModel", "stockAt", "(IIZ)I"⟩, 28) := ⟨⟨by decide +kernel, by decide +kernel⟩, List.mem_of_getElem? (i := 523) (by decide +kernel), List.mem_of_getElem? (i := 708) (by decide +kernel), List.mem_of_getElem? (i := 709) (by decide +kernel)⟩
theorem lw_p21 : lw_okq (⟨"TurnedBarModel", "target", "(I)I"⟩, 28) := ⟨⟨by decide +kernel, by decide +kernel⟩, List.mem_of_getElem? (i := 523) (by decide +kernel), List.mem_of_getElem? (i := 712) (by decide +kernel), List.mem_of_getElem? (i := 713) (by decide +kernel)⟩
theorem lw_p22 : lw_okq (⟨"TurnedBarModel", "go", "(III)V"⟩, 28) := ⟨⟨by decide +kernel, by decide +kernel⟩, List.mem_of_getElem? (i := 523) (by decide +kernel), List.mem_of_getElem? (i := 716) (by decide +kernel), List.mem_of_getElem? (i := 717) (by decide +kernel)⟩
theorem lw_p23 : lw_okq (⟨"TurnedBarModel", "isOn", "(IIII)Z"⟩, 28) := ⟨⟨by decide +kernel, by decide +kernel⟩, List.mem_of_getElem? (i := 523) (by decide +kernel), List.mem_of_getElem? (i := 720) (by decide +kernel), List.mem_of_getElem? (i := 721) (by decide +kernel)⟩
theorem lw_p24 : lw_okq (⟨"TurnedBarModel", "copyBack", "(I)V"⟩, 28) := ⟨⟨by decide +kernel, by decide +kernel⟩, List.mem_of_getElem? (i := 523) (by decide +kernel), List.mem_of_getElem? (i := 724) (by decide +kernel), List.mem_of_getElem? (i := 725) (by decide +kernel)⟩
theorem lw_p25 : lw_okq (⟨"TurnedBarModel", "through", "(I)I"⟩, 28) := ⟨⟨by decide +kernel, by decide +kernel⟩, List.mem_of_getElem? (i := 523) (by decide +kernel), List.mem_of_getElem? (i := 744) (by decide +kernel), List.mem_of_getElem? (i := 745) (by decide +kernel)⟩
theorem lw_p26 : lw_okq (⟨"TurnedBarModel", "pass", "(I)I"⟩, 28) := ⟨⟨by decide +kernel, by decide +kernel⟩, List.mem_of_getElem? (i := 523) (by decide +kernel), List.mem_of_getElem? (i := 748) (by decide +kernel), List.mem_of_getElem? (i := 749) (by decide +kernel)⟩
theorem lw_p27 : lw_okq (⟨"TurnedBarModel", "step", "(II)I"⟩, 28) := ⟨⟨by decide +kernel, by decide +kernel⟩, List.mem_of_getElem? (i := 523) (by decide +kernel), List.mem_of_getElem? (i := 752) (by decide +kernel), List.mem_of_getElem? (i := 753) (by decide +kernel)⟩
def lw_privs_2 : List (MethodName × Nat) := [(⟨"TurnedBarModel", "isJob", "()Z"⟩, 28), (⟨"TurnedBarModel", "fill", "()V"⟩, 28), (⟨"TurnedBarModel", "add", "(II)V"⟩, 28), (⟨"TurnedBarModel", "measure", "([III)V"⟩, 28), (⟨"TurnedBarModel", "stockAt", "(IIZ)I"⟩, 28), (⟨"TurnedBarModel", "target", "(I)I"⟩, 28), (⟨"TurnedBarModel", "go", "(III)V"⟩, 28), (⟨"TurnedBarModel", "isOn", "(IIII)Z"⟩, 28), (⟨"TurnedBarModel", "copyBack", "(I)V"⟩, 28), (⟨"TurnedBarModel", "through", "(I)I"⟩, 28), (⟨"TurnedBarModel", "pass", "(I)I"⟩, 28), (⟨"TurnedBarModel", "step", "(II)I"⟩, 28)]
theorem lw_r2 : ∀ q ∈ lw_privs_2, lw_okq q := List.forall_mem_cons.mpr ⟨lw_p16, List.forall_mem_cons.mpr ⟨lw_p17, List.forall_mem_cons.mpr ⟨lw_p18, List.forall_mem_cons.mpr ⟨lw_p19, List.forall_mem_cons.mpr ⟨lw_p20, List.forall_mem_cons.mpr ⟨lw_p21, List.forall_mem_cons.mpr ⟨lw_p22, List.forall_mem_cons.mpr ⟨lw_p23, List.forall_mem_cons.mpr ⟨lw_p24, List.forall_mem_cons.mpr ⟨lw_p25, List.forall_mem_cons.mpr ⟨lw_p26, List.forall_mem_cons.mpr ⟨lw_p27, fun _ h => absurd h List.not_mem_nil⟩⟩⟩⟩⟩⟩⟩⟩⟩⟩⟩⟩
def lw_privs : List (MethodName × Nat) := lw_privs_1 ++ (lw_privs_2)
def lw_tbl : List Cond := k2_sels lw_privs ++ tables_1
theorem lw_privs_ok : ∀ q ∈ lw_privs, lw_okq q := by
  show ∀ q ∈ lw_privs_1 ++ (lw_privs_2), lw_okq q
  exact List.forall_mem_append.mpr ⟨lw_r1, lw_r2⟩
end
section
/-! names, fields, codes: by program out of the claim's files -/
def cx_El : String := "TurnedBar$Insert"
def WS : List Cond := lw_tbl.filter goodWord
def RB : String := "TurnedBar$Blank"
def FB : u_T := fun k => match k with
  | 0 => ("TurnedBar$Blank", "radius", "I", false)
  | 1 => ("TurnedBar$Blank", "length", "I", false)
  | 2 => ("TurnedBar$Blank", "chuck", "I", false)
  | _ => ("TurnedBar$Blank", "radiusToStay", "[I", true)
def tB : Nat → FieldType := fun k => match k with
  | 0 => .int
  | 1 => .int
  | 2 => .int
  | _ => .array .int
theorem nB_ok : ∀ a, a < 4 → ∀ b, b < 4 → a ≠ b → (FB a).2.1 ≠ (FB b).2.1 := by decide +kernel
theorem tB_ok : ∀ k, k < 4 → parseFieldDescriptor (FB k).2.2.1 = some (tB k) := by decide +kernel
def RI : String := "TurnedBar$Insert"
def FI : u_T := fun k => match k with
  | 0 => ("TurnedBar$Insert", "spots", "I", false)
  | 1 => ("TurnedBar$Insert", "dz", "[I", true)
  | _ => ("TurnedBar$Insert", "dr", "[I", true)
def tI : Nat → FieldType := fun k => match k with
  | 0 => .int
  | 1 => .array .int
  | _ => .array .int
theorem nI_ok : ∀ a, a < 3 → ∀ b, b < 3 → a ≠ b → (FI a).2.1 ≠ (FI b).2.1 := by decide +kernel
theorem tI_ok : ∀ k, k < 3 → parseFieldDescriptor (FI k).2.2.1 = some (tI k) := by decide +kernel
def RJ : String := "TurnedBar$Job"
def FJ : u_T := fun k => match k with
  | 0 => ("TurnedBar$Job", "inserts", "[LTurnedBar$Insert;", true)
  | 1 => ("TurnedBar$Job", "row", "[I", true)
  | _ => ("TurnedBar$Job", "chosen", "I", false)
def tJ : Nat → FieldType := fun k => match k with
  | 0 => .array (.object "TurnedBar$Insert")
  | 1 => .array .int
  | _ => .int
theorem nJ_ok : ∀ a, a < 3 → ∀ b, b < 3 → a ≠ b → (FJ a).2.1 ≠ (FJ b).2.1 := by decide +kernel
theorem tJ_ok : ∀ k, k < 3 → parseFieldDescriptor (FJ k).2.2.1 = some (tJ k) := by decide +kernel
def RM : String := "TurnedBar$Moves"
def FM : u_T := fun k => match k with
  | 0 => ("TurnedBar$Moves", "row", "[I", true)
  | _ => ("TurnedBar$Moves", "size", "I", false)
def tM : Nat → FieldType := fun k => match k with
  | 0 => .array .int
  | _ => .int
theorem nM_ok : ∀ a, a < 2 → ∀ b, b < 2 → a ≠ b → (FM a).2.1 ≠ (FM b).2.1 := by decide +kernel
theorem tM_ok : ∀ k, k < 2 → parseFieldDescriptor (FM k).2.2.1 = some (tM k) := by decide +kernel
def RP : String := "TurnedBar$Planner"
def FP : u_T := fun k => match k with
  | 0 => ("TurnedBar$Planner", "blank", "LTurnedBar$Blank;", true)
  | 1 => ("TurnedBar$Planner", "job", "LTurnedBar$Job;", true)
  | 2 => ("TurnedBar$Planner", "ways", "LTurnedBar$Ways;", true)
  | 3 => ("TurnedBar$Planner", "stock", "LTurnedBar$Stock;", true)
  | 4 => ("TurnedBar$Planner", "moves", "LTurnedBar$Moves;", true)
  | _ => ("TurnedBar$Planner", "directions", "[I", true)
def tP : Nat → FieldType := fun k => match k with
  | 0 => .object "TurnedBar$Blank"
  | 1 => .object "TurnedBar$Job"
  | 2 => .object "TurnedBar$Ways"
  | 3 => .object "TurnedBar$Stock"
  | 4 => .object "TurnedBar$Moves"
  | _ => .array .int
theorem nP_ok : ∀ a, a < 6 → ∀ b, b < 6 → a ≠ b → (FP a).2.1 ≠ (FP b).2.1 := by decide +kernel
theorem tP_ok : ∀ k, k < 6 → parseFieldDescriptor (FP k).2.2.1 = some (tP k) := by decide +kernel
def RR : String := "TurnedBar$Run"
def FR : u_T := fun k => match k with
  | 0 => ("TurnedBar$Run", "blank", "LTurnedBar$Blank;", true)
  | 1 => ("TurnedBar$Run", "job", "LTurnedBar$Job;", true)
  | 2 => ("TurnedBar$Run", "changes", "I", false)
  | 3 => ("TurnedBar$Run", "z", "I", false)
  | 4 => ("TurnedBar$Run", "\x72", "I", false)
  | 5 => ("TurnedBar$Run", "cells", "I", false)
  | _ => ("TurnedBar$Run", "firstFault", "I", false)
def tR : Nat → FieldType := fun k => match k with
  | 0 => .object "TurnedBar$Blank"
  | 1 => .object "TurnedBar$Job"
  | 2 => .int
  | 3 => .int
  | 4 => .int
  | 5 => .int
  | _ => .int
theorem nR_ok : ∀ a, a < 7 → ∀ b, b < 7 → a ≠ b → (FR a).2.1 ≠ (FR b).2.1 := by decide +kernel
theorem tR_ok : ∀ k, k < 7 → parseFieldDescriptor (FR k).2.2.1 = some (tR k) := by decide +kernel
def RS : String := "TurnedBar$Stock"
def FS : u_T := fun k => match k with
  | _ => ("TurnedBar$Stock", "uncut", "[Z", true)
def tS : Nat → FieldType := fun k => match k with
  | _ => .array .boolean
theorem nS_ok : ∀ a, a < 1 → ∀ b, b < 1 → a ≠ b → (FS a).2.1 ≠ (FS b).2.1 := by decide +kernel
theorem tS_ok : ∀ k, k < 1 → parseFieldDescriptor (FS k).2.2.1 = some (tS k) := by decide +kernel
def RW : String := "TurnedBar$Ways"
def FW : u_T := fun k => match k with
  | 0 => ("TurnedBar$Ways", "blank", "LTurnedBar$Blank;", true)
  | 1 => ("TurnedBar$Ways", "queue", "[I", true)
  | 2 => ("TurnedBar$Ways", "distance", "[I", true)
  | 3 => ("TurnedBar$Ways", "cameBy", "[I", true)
  | _ => ("TurnedBar$Ways", "found", "I", false)
def tW : Nat → FieldType := fun k => match k with
  | 0 => .object "TurnedBar$Blank"
  | 1 => .array .int
  | 2 => .array .int
  | 3 => .array .int
  | _ => .int
theorem nW_ok : ∀ a, a < 5 → ∀ b, b < 5 → a ≠ b → (FW a).2.1 ≠ (FW b).2.1 := by decide +kernel
theorem tW_ok : ∀ k, k < 5 → parseFieldDescriptor (FW k).2.2.1 = some (tW k) := by decide +kernel
def RT : String := "TurnedBar"
def FT : u_T := fun k => match k with
  | 0 => ("TurnedBar", "blank", "LTurnedBar$Blank;", true)
  | 1 => ("TurnedBar", "inserts", "[LTurnedBar$Insert;", true)
  | 2 => ("TurnedBar", "job", "LTurnedBar$Job;", true)
  | 3 => ("TurnedBar", "planned", "LTurnedBar$Moves;", true)
  | 4 => ("TurnedBar", "trial", "LTurnedBar$Moves;", true)
  | 5 => ("TurnedBar", "shown", "LTurnedBar$Stock;", true)
  | 6 => ("TurnedBar", "scratch", "LTurnedBar$Stock;", true)
  | 7 => ("TurnedBar", "ways", "LTurnedBar$Ways;", true)
  | 8 => ("TurnedBar", "planner", "LTurnedBar$Planner;", true)
  | 9 => ("TurnedBar", "run", "LTurnedBar$Run;", true)
  | 10 => ("TurnedBar", "hasPlan", "Z", false)
  | _ => ("TurnedBar", "leftByPlan", "I", false)
def tT : Nat → FieldType := fun k => match k with
  | 0 => .object "TurnedBar$Blank"
  | 1 => .array (.object "TurnedBar$Insert")
  | 2 => .object "TurnedBar$Job"
  | 3 => .object "TurnedBar$Moves"
  | 4 => .object "TurnedBar$Moves"
  | 5 => .object "TurnedBar$Stock"
  | 6 => .object "TurnedBar$Stock"
  | 7 => .object "TurnedBar$Ways"
  | 8 => .object "TurnedBar$Planner"
  | 9 => .object "TurnedBar$Run"
  | 10 => .boolean
  | _ => .int
theorem nT_ok : ∀ a, a < 12 → ∀ b, b < 12 → a ≠ b → (FT a).2.1 ≠ (FT b).2.1 := by decide +kernel
theorem tT_ok : ∀ k, k < 12 → parseFieldDescriptor (FT k).2.2.1 = some (tT k) := by decide +kernel
def RD : String := "TurnedBarModel"
def FD : u_T := fun k => match k with
  | 0 => ("TurnedBarModel", "radius", "I", false)
  | 1 => ("TurnedBarModel", "length", "I", false)
  | 2 => ("TurnedBarModel", "chuck", "I", false)
  | 3 => ("TurnedBarModel", "stays", "[I", true)
  | 4 => ("TurnedBarModel", "spots", "[I", true)
  | 5 => ("TurnedBarModel", "dzs", "[I", true)
  | 6 => ("TurnedBarModel", "drs", "[I", true)
  | 7 => ("TurnedBarModel", "chosen", "I", false)
  | 8 => ("TurnedBarModel", "job", "[I", true)
  | 9 => ("TurnedBarModel", "planned", "Z", false)
  | 10 => ("TurnedBarModel", "moves", "I", false)
  | 11 => ("TurnedBarModel", "kinds", "[I", true)
  | 12 => ("TurnedBarModel", "directions", "[I", true)
  | 13 => ("TurnedBarModel", "counts", "[I", true)
  | 14 => ("TurnedBarModel", "trialKinds", "[I", true)
  | 15 => ("TurnedBarModel", "trialDirections", "[I", true)
  | 16 => ("TurnedBarModel", "trialCounts", "[I", true)
  | 17 => ("TurnedBarModel", "remains", "I", false)
  | 18 => ("TurnedBarModel", "simulated", "Z", false)
  | 19 => ("TurnedBarModel", "seen", "[Z", true)
  | 20 => ("TurnedBarModel", "stock", "[Z", true)
  | 21 => ("TurnedBarModel", "inReach", "[Z", true)
  | 22 => ("TurnedBarModel", "from", "[I", true)
  | 23 => ("TurnedBarModel", "back", "[I", true)
  | 24 => ("TurnedBarModel", "insert", "I", false)
  | 25 => ("TurnedBarModel", "row", "I", false)
  | 26 => ("TurnedBarModel", "where", "I", false)
  | _ => ("TurnedBarModel", "cut", "I", false)
def tD : Nat → FieldType := fun k => match k with
  | 0 => .int
  | 1 => .int
  | 2 => .int
  | 3 => .array .int
  | 4 => .array .int
  | 5 => .array .int
  | 6 => .array .int
  | 7 => .int
  | 8 => .array .int
  | 9 => .boolean
  | 10 => .int
  | 11 => .array .int
  | 12 => .array .int
  | 13 => .array .int
  | 14 => .array .int
  | 15 => .array .int
  | 16 => .array .int
  | 17 => .int
  | 18 => .boolean
  | 19 => .array .boolean
  | 20 => .array .boolean
  | 21 => .array .boolean
  | 22 => .array .int
  | 23 => .array .int
  | 24 => .int
  | 25 => .int
  | 26 => .int
  | _ => .int
theorem nD_ok : ∀ a, a < 28 → ∀ b, b < 28 → a ≠ b → (FD a).2.1 ≠ (FD b).2.1 := by decide +kernel
theorem tD_ok : ∀ k, k < 28 → parseFieldDescriptor (FD k).2.2.1 = some (tD k) := by decide +kernel
def RL : String := "TurnedBarLaw"
def RA : String := "java/util/Arrays"
abbrev vwCl : List vw_C := [(RB, FB, 4), (RI, FI, 3), (RJ, FJ, 3), (RM, FM, 2), (RP, FP, 6), (RR, FR, 7), (RS, FS, 1), (RW, FW, 5), (RT, FT, 12), (RD, FD, 28)]
def cx_nest : List Cond := [(Cond.methodLinkNest "TurnedBar" (11 : Nat) ({ cls := "TurnedBar$Blank", name := "<init>", desc := "()V" } : MethodName) "TurnedBar"), (Cond.methodLinkNest "TurnedBar" (18 : Nat) ({ cls := "TurnedBar$Insert", name := "<init>", desc := "()V" } : MethodName) "TurnedBar"), (Cond.methodLinkNest "TurnedBar" (34 : Nat) ({ cls := "TurnedBar$Moves", name := "<init>", desc := "()V" } : MethodName) "TurnedBar"), (Cond.methodLinkNest "TurnedBar" (44 : Nat) ({ cls := "TurnedBar$Stock", name := "<init>", desc := "()V" } : MethodName) "TurnedBar"), (Cond.methodLinkNest "TurnedBar$Blank" (25 : Nat) ({ cls := "TurnedBar", name := "isCell", desc := "(II)Z" } : MethodName) "TurnedBar"), (Cond.methodLinkNest "TurnedBar$Ways" (37 : Nat) ({ cls := "TurnedBar", name := "zOf", desc := "(I)I" } : MethodName) "TurnedBar"), (Cond.fieldLinkNest "TurnedBar$Ways" (56 : Nat) "TurnedBar" "STEP_Z" "[I" "TurnedBar"), (Cond.methodLinkNest "TurnedBar$Ways" (41 : Nat) ({ cls := "TurnedBar", name := "rOf", desc := "(I)I" } : MethodName) "TurnedBar"), (Cond.fieldLinkNest "TurnedBar$Ways" (59 : Nat) "TurnedBar" "STEP_R" "[I" "TurnedBar"), (Cond.methodLinkNest "TurnedBar$Ways" (71 : Nat) ({ cls := "TurnedBar", name := "isPosition", desc := "(II)Z" } : MethodName) "TurnedBar"), (Cond.methodLinkNest "TurnedBar$Ways" (62 : Nat) ({ cls := "TurnedBar", name := "positionOf", desc := "(II)I" } : MethodName) "TurnedBar"), (Cond.methodLinkNest "TurnedBar$Stock" (21 : Nat) ({ cls := "TurnedBar", name := "isCell", desc := "(II)Z" } : MethodName) "TurnedBar"), (Cond.methodLinkNest "TurnedBar$Planner" (74 : Nat) ({ cls := "TurnedBar", name := "zOf", desc := "(I)I" } : MethodName) "TurnedBar"), (Cond.methodLinkNest "TurnedBar$Planner" (78 : Nat) ({ cls := "TurnedBar", name := "rOf", desc := "(I)I" } : MethodName) "TurnedBar"), (Cond.methodLinkNest "TurnedBar$Run" (83 : Nat) ({ cls := "TurnedBar", name := "zOf", desc := "(I)I" } : MethodName) "TurnedBar"), (Cond.methodLinkNest "TurnedBar$Run" (86 : Nat) ({ cls := "TurnedBar", name := "rOf", desc := "(I)I" } : MethodName) "TurnedBar"), (Cond.fieldLinkNest "TurnedBar$Run" (93 : Nat) "TurnedBar" "STEP_Z" "[I" "TurnedBar"), (Cond.fieldLinkNest "TurnedBar$Run" (96 : Nat) "TurnedBar" "STEP_R" "[I" "TurnedBar"), (Cond.methodLinkNest "TurnedBar$Run" (99 : Nat) ({ cls := "TurnedBar", name := "isPosition", desc := "(II)Z" } : MethodName) "TurnedBar")]
theorem cx_nest_in : ∀ w ∈ cx_nest, w ∈ tables_1 := by decide +kernel
end
section
/-! The walk of a method that makes no cell, over a fixed list of cells: 'Ev' (the machine at a pc, over a world) and 'Ct' (a contract), with one row an instruction. A world is a list of cells w; cell k lies at the address cxa G k; nobody makes cells. -/
/-- D; the classes of int[], boolean[], Insert[]; the cells' addresses; how many cells; the addresses of the static tables -/
abbrev cx_G : Type := va_G × (Nat → ClassId) × (Nat → Nat) × Nat × (Nat → Nat)
abbrev cxD (G : cx_G) : va_G := G.1
abbrev cxC (G : cx_G) : Nat → ClassId := G.2.1
abbrev cxa (G : cx_G) : Nat → Nat := G.2.2.1
abbrev cxn (G : cx_G) : Nat := G.2.2.2.1
abbrev cxt (G : cx_G) : Nat → Nat := G.2.2.2.2
def cx_tys (G : cx_G) : List (ClassId × FieldType) := [(cxC G 0, .int), (cxC G 1, .boolean), (cxC G 2, .object cx_El)]
def cx_lay (G : cx_G) (w : List va_E) : va_W := w.mapIdx (fun k e => (cxa G k, e))
theorem cx_lay_get {G : cx_G} {w : List va_E} {k : Nat} {e : va_E} (h : w[k]? = some e) : (cx_lay G w)[k]? = some (cxa G k, e) := by
  simp [cx_lay, h]
theorem cx_lay_of {G : cx_G} {w : List va_E} {k : Nat} {q : Nat × va_E} (h : (cx_lay G w)[k]? = some q) : w[k]? = some q.2 ∧ q.1 = cxa G k := by
  simp only [cx_lay, List.getElem?_mapIdx, Option.map_eq_some_iff] at h
  obtain ⟨e, h1, rfl⟩ := h
  exact ⟨h1, rfl⟩
theorem cx_lay_set {G : cx_G} {w : List va_E} {k : Nat} {e : va_E} : (cx_lay G w).set k (cxa G k, e) = cx_lay G (w.set k e) := by
  apply List.ext_getElem?
  intro i
  simp only [cx_lay, List.getElem?_set, List.getElem?_mapIdx, List.length_mapIdx]
  by_cases h : k = i
  · subst h
    by_cases h2 : k < w.length
    · simp [h2]
    · simp [h2]
  · simp [h]
def cx_A (G : cx_G) : Nat → Prop := fun q => ∃ k, k < cxn G ∧ q = cxa G k
def cx_inj (G : cx_G) : Prop := ∀ i j, i < cxn G → j < cxn G → cxa G i = cxa G j → i = j
theorem cx_D {G : cx_G} {w : List va_E} (hn : w.length = cxn G) (hi : cx_inj G) : va_D (cx_A G) (cx_lay G w) := by
  refine ⟨fun i j p q hp hq e => ?_, fun k q hk => ?_⟩
  · obtain ⟨a1, a2⟩ := cx_lay_of hp
    obtain ⟨b1, b2⟩ := cx_lay_of hq
    have l1 := (List.getElem?_eq_some_iff.mp a1).1
    have l2 := (List.getElem?_eq_some_iff.mp b1).1
    exact hi i j (by omega) (by omega) (by rw [← a2, ← b2]; exact e)
  · obtain ⟨a1, a2⟩ := cx_lay_of hk
    have l1 := (List.getElem?_eq_some_iff.mp a1).1
    exact ⟨k, by omega, a2⟩
/-- the static tables STEP_Z and STEP_R -/
def cx_stp (q j : Nat) : Int32 := match q, j with
  | 0, 0 => 1
  | 0, 1 => -1
  | 1, 2 => -1
  | 1, 3 => 1
  | _, _ => 0
def cx_stn (q : Nat) : String := match q with
  | 0 => "STEP_Z"
  | _ => "STEP_R"
def cx_St (G : cx_G) (U : State) (H : Heap) : Prop := ∀ q, q < 2 → va_Z "TurnedBar" (cx_stn q) "[I" (.ref (cxt G q)) (cx_A G) U H ∧ va_T .int (cxt G q) 4 (fun j => .int (cx_stp q j)) (cx_A G) U H
theorem cx_St.moved {G : cx_G} {u U : State} {H : Heap} (hvm : u.vm.Alike U.vm) (h : cx_St G u H) : cx_St G U H := fun q hq => ⟨va_Z.moved hvm (h q hq).1, va_T.moved hvm (h q hq).2⟩
theorem cx_St.kept {G : cx_G} {U : State} {H H1 : Heap} (h : cx_St G U H) (hq : ∀ a : Nat, a < H.size → ¬ cx_A G a → H1[a]? = H[a]?) : cx_St G U H1 := fun q h2 => ⟨va_Z.kept (h q h2).1 hq, va_T.kept (h q h2).2 hq⟩
/-- nest mates' links: they aren't among a method's words -/
def cx_N (U : State) : Prop := ∀ w ∈ cx_nest, va_Nw w U
def cx_isN (w : Cond) : Prop := (∃ a i b n d h, w = .fieldLinkNest a i b n d h) ∨ ∃ a i x h, w = .methodLinkNest a i x h
theorem cx_nest_ok : ∀ w ∈ cx_nest, cx_isN w := by
  have h : ∀ w ∈ cx_nest, (match w with | .fieldLinkNest .. => true | .methodLinkNest .. => true | _ => false) = true := by decide +kernel
  intro w hw
  have h1 := h w hw
  cases w <;> first | exact Or.inl ⟨_, _, _, _, _, _, rfl⟩ | exact Or.inr ⟨_, _, _, _, rfl⟩ | cases h1
theorem cx_N.warm {s U : State} (hn : ∀ w ∈ cx_nest, cx_isN w) (hW : s.WarmedH U.vm) (h : cx_N s) : cx_N U := fun w hw => by
  rcases hn w hw with ⟨a, i, b, n, d, q, rfl⟩ | ⟨a, i, x, q, rfl⟩
  · exact va_Nw.warmF hW (h _ hw)
  · exact va_Nw.warmM hW (h _ hw)
theorem cx_N.same {s U : State} (hn : ∀ w ∈ cx_nest, cx_isN w) (e : s.vm = U.vm) (h : cx_N s) : cx_N U := fun w hw => by
  rcases hn w hw with ⟨a, i, b, n, d, q, rfl⟩ | ⟨a, i, x, q, rfl⟩
  · exact va_Nw.same rfl e (h _ hw)
  · exact va_Nw.same rfl e (h _ hw)
def cx_Y (G : cx_G) (U : State) : Prop := va_K (cxD G) vwCl (cx_tys G) U ∧ cx_inj G ∧ cx_N U
def cx_pre (G : cx_G) (w : List va_E) (U : State) : Prop := w.length = cxn G ∧ va_P (cxD G) vwCl (cx_lay G w) U.heap ∧ cx_Y G U ∧ cx_St G U U.heap
def cx_Q (G : cx_G) (post : Option Value → List va_E → Prop) : Array Value → State → Outcome → State → Prop := fun _ st oc t =>
  (∃ (r : Option Value) (w' : List va_E), oc = .returned r ∧ post r w' ∧ w'.length = cxn G ∧ va_P (cxD G) vwCl (cx_lay G w') t.heap) ∧ va_F (cx_A G) st t
/-- a method: name, its place's name, code, maxLocals, return type, frames, words of locals -/
abbrev cx_M : Type := MethodName × String × ByteArray × Nat × Option FieldType × Nat × Nat
abbrev My (M : cx_M) : MethodName := M.1
abbrev Mo (M : cx_M) : String := M.2.1
abbrev Mc (M : cx_M) : ByteArray := M.2.2.1
abbrev Ml (M : cx_M) : Nat := M.2.2.2.1
abbrev Mr (M : cx_M) : Option FieldType := M.2.2.2.2.1
abbrev Mf (M : cx_M) : Nat := M.2.2.2.2.2.1
abbrev Mk (M : cx_M) : Nat := M.2.2.2.2.2.2
abbrev Mw (M : cx_M) : List Cond := Cond.code (My M) (Mc M) (Ml M) (Mr M) :: WS
abbrev cx_rm (M : cx_M) : Room := { frames := Mf M, cells := 0, slots := 0, locals := Mk M }
def Ct (G : cx_G) (M : cx_M) (av : List Value) (w : List va_E) (post : Option Value → List va_E → Prop) : Prop :=
  ∀ l : Launch, Met l (My M) (Mw M) (cx_rm M) (va_Pc av (cx_pre G w)) (cx_Q G post) 0 0 (cx_A G)
def cx_L (ls : Array Slot) (nL : Nat) (L : List (Option Value)) : Prop := ls.size = nL ∧ lv_wf ls ∧ ∀ (i : Nat) (v : Value), L[i]? = some (some v) → ls[i]? = some (.val v) ∧ v.category = 1
def cx_C (G : cx_G) (M : cx_M) (p : Program) (s : State) (m : MethodId) (args : Array Value) (meth : Method) (c : Code) : Prop :=
  p.tables.exec = Jvm.exec ∧ c.code = Mc M ∧ meth.sig.returnType = Mr M ∧ c.maxLocals = Ml M ∧ s.vm.findClass (Mo M) = some m.cls ∧ meth.locks = false ∧ (∀ w ∈ WS, w.before args s = true) ∧ cx_Y G s ∧ cx_St G s s.heap
/-- an end: room, cells and slots made so far, what is to hold behind -/
abbrev cx_E : Type := Room × Nat × Nat × (Array Value → List Frame → State → State → Prop)
def cx_ok (E : cx_E) : Prop := E.2.1 ≤ E.1.cells ∧ E.2.2.1 ≤ E.1.slots
/-- a method's end -/
def cx_e (G : cx_G) (M : cx_M) (post : Option Value → List va_E → Prop) : cx_E := (cx_rm M, 0, 0, fun args below s => MQ below (cx_Q G post) args s 0 0 (cx_A G))
def Ev (G : cx_G) (M : cx_M) (pc : Nat) (L : List (Option Value)) (S : List Value) (w : List va_E) (E : cx_E) : Prop :=
  ∀ (p : Program) (l : Launch) (e : Env) (s : State) (m : MethodId) (args : Array Value) (below : List Frame) (meth : Method) (c : Code) (H : Heap) (locs : List Loc) (ls : Array Slot),
    cx_ok E → cx_C G M p s m args meth c → w.length = cxn G → va_P (cxD G) vwCl (cx_lay G w) H → va_S (cx_A G) s.heap H locs → cx_L ls (Ml M) L →
    W p l e E.1 s m args below meth c H locs E.2.1 E.2.2.1 (E.2.2.2 args below s) (F0 m pc ls S)
/-! locals by their places -/
def cx_as (L : List (Option Value)) : List (Nat × Value) := (List.range L.length).filterMap (fun j => (L[j]?.getD none).map (fun v => (j, v)))
theorem cx_as_mem {L : List (Option Value)} {q : Nat × Value} : q ∈ cx_as L ↔ L[q.1]? = some (some q.2) := by
  obtain ⟨i, v⟩ := q
  simp only [cx_as, List.mem_filterMap, List.mem_range, Option.map_eq_some_iff, Prod.mk.injEq]
  constructor
  · rintro ⟨j, hj, u, hu, rfl, rfl⟩
    rw [List.getElem?_eq_getElem hj] at hu ⊢
    simpa using hu
  · intro h
    exact ⟨i, (List.getElem?_eq_some_iff.mp h).1, v, by rw [h]; rfl, rfl, rfl⟩
theorem cx_L.has {ls : Array Slot} {nL : Nat} {L : List (Option Value)} (h : cx_L ls nL L) : lv_has ls nL (cx_as L) :=
  ⟨h.1, h.2.1, fun q hq => (h.2.2 q.1 q.2 (cx_as_mem.mp hq)).1⟩
theorem cx_L.put {ls ls' : Array Slot} {nL i : Nat} {v : Value} {L : List (Option Value)} (h : cx_L ls nL L) (hv : v.category = 1)
    (h' : lv_has ls' nL ((i, v) :: (cx_as L).filter (fun q => !(q.1 == i) && !(q.1 + 1 == i && q.2.category == 2)))) : cx_L ls' nL (L.set i (some v)) := by
  refine ⟨h'.1, h'.2.1, fun j u hj => ?_⟩
  rw [List.getElem?_set] at hj
  by_cases e : i = j
  · subst e
    rw [if_pos rfl] at hj
    by_cases e2 : i < L.length
    · rw [if_pos e2] at hj
      have : v = u := by simpa using hj
      subst this
      exact ⟨h'.2.2 (i, v) List.mem_cons_self, hv⟩
    · rw [if_neg e2] at hj
      cases hj
  · rw [if_neg e] at hj
    have hc := (h.2.2 j u hj).2
    refine ⟨h'.2.2 (j, u) (List.mem_cons_of_mem _ (List.mem_filter.mpr ⟨cx_as_mem.mpr hj, ?_⟩)), hc⟩
    have e' : ¬ j = i := fun q => e q.symm
    simp [e', hc]
theorem cx_L.entry (vs : List Value) {n : Nat} (hc : vs.all (fun v => v.category == 1) = true) (h : vs.length ≤ n) : cx_L ((lg_sl vs ++ List.replicate (n - (lg_sl vs).length) Slot.unset).toArray) n (vs.map some ++ List.replicate (n - vs.length) none) := by
  have hsl : lg_sl vs = vs.map Slot.val := by
    clear h
    induction vs with
    | nil => rfl
    | cons v vs ih =>
      rw [List.all_cons, Bool.and_eq_true] at hc
      have h1 : ¬ v.category = 2 := by have := hc.1; simp at this; omega
      have h2 := ih hc.2
      simp only [lg_sl] at h2
      simp [lg_sl, h1, h2]
  have hl : (lg_sl vs).length ≤ n := by rw [hsl]; simpa using h
  have h0 := lv_entry vs hl
  refine ⟨h0.1, h0.2.1, fun i v hi => ?_⟩
  by_cases hlt : i < vs.length
  · rw [List.getElem?_append_left (by simpa using hlt)] at hi
    simp only [List.getElem?_map, Option.map_eq_some_iff, Option.some.injEq] at hi
    obtain ⟨u, hu, rfl⟩ := hi
    refine ⟨?_, ?_⟩
    · simp only [List.getElem?_toArray]
      rw [List.getElem?_append_left (by rw [hsl]; simpa using hlt), hsl]
      simp [hu]
    · have := List.all_eq_true.mp hc u (List.mem_of_getElem? hu)
      simpa using this
  · rw [List.getElem?_append_right (by simpa using hlt)] at hi
    have := List.eq_of_mem_replicate (List.mem_of_getElem? hi)
    cases this
/-! a method's beginning -/
theorem Ct.of {G : cx_G} {M : cx_M} {av : List Value} {w : List va_E} {post : Option Value → List va_E → Prop} (hy : plainName (My M).cls = true) (ho : (My M).cls = Mo M) (hav : av.all (fun v => v.category == 1) = true) (hlen : av.length ≤ Ml M)
    (k : Ev G M 0 (av.map some ++ List.replicate (Ml M - av.length) none) [] w (cx_e G M post)) : Ct G M av w post := by
  intro l
  refine Met.ofW (cc := Mc M) (maxL := Ml M) (ret := Mr M) hy rfl ?_
  intro p e s m args below meth c s₁ B hml hv
  obtain ⟨rfl, hn, hP, hY, hSt⟩ := hv
  have hown : s.vm.findClass (Mo M) = some m.cls := by rw [← ho]; exact findClass_of_methodNamed B.named
  rw [lg_entry_eq]
  exact k p l e s m _ below meth c s.heap [] _ ⟨Nat.le_refl _, Nat.le_refl _⟩ ⟨B.exec, B.bytes, B.returns, hml, hown, B.notSynchronized, fun w hw => atoms_spec (ws := Mw M) B.pre w (List.mem_cons_of_mem _ hw), hY, hSt⟩ hn hP va_S.rf (cx_L.entry av hav hlen)
theorem Ct.mono {G : cx_G} {M : cx_M} {av : List Value} {w : List va_E} {post post' : Option Value → List va_E → Prop} (h : Ct G M av w post) (hi : ∀ r w', post r w' → post' r w') : Ct G M av w post' := by
  intro l p e ha hc hk s m args below hf happ hP hK
  obtain ⟨t, o, h1, h2, h3, ⟨⟨r, w', a1, a2, a3, a4⟩, a5⟩, a6⟩ := h l p e ha hc hk s m args below hf happ hP hK
  exact ⟨t, o, h1, h2, h3, ⟨⟨r, w', a1, hi r w' a2, a3, a4⟩, a5⟩, a6⟩
end
section
/-! one row an instruction -/
def bI : Bool → Int32
  | true => 1
  | false => 0
theorem cx_blind {G : cx_G} {av : List Value} {w : List va_E} : FrameBlind (va_Pc av (cx_pre G w)) := fun a U g mk q => by
  obtain ⟨q0, hn, hP, ⟨hK, hi, hN⟩, hSt⟩ := q
  exact ⟨q0, hn, hP, ⟨va_K.moved (u := U) (U := U.calling g mk a) (Vm.Alike.refl U.vm) hK, hi, cx_N.same (s := U) (U := U.calling g mk a) cx_nest_ok rfl hN⟩, cx_St.moved (u := U) (U := U.calling g mk a) (Vm.Alike.refl U.vm) hSt⟩
theorem i0_z : (0 : Int32).toInt = 0 := by decide
theorem i0_eq (x : Int32) : x.toInt = 0 ↔ x = 0 := by rw [← i0_z]; exact Int32.toInt_inj
theorem i0_ne (x : Int32) : x.toInt = 0 ↔ x = 0 := i0_eq x
theorem i0_lt (x : Int32) : x.toInt < 0 ↔ x < 0 := by rw [← i0_z]; exact Int32.lt_iff_toInt_lt.symm
theorem i0_ge (x : Int32) : 0 ≤ x.toInt ↔ 0 ≤ x := by rw [← i0_z]; exact Int32.le_iff_toInt_le.symm
theorem i0_gt (x : Int32) : 0 < x.toInt ↔ 0 < x := by rw [← i0_z]; exact Int32.lt_iff_toInt_lt.symm
theorem i0_le (x : Int32) : x.toInt ≤ 0 ↔ x ≤ 0 := by rw [← i0_z]; exact Int32.le_iff_toInt_le.symm
section EvRows
variable {G : cx_G} {M M' : cx_M} {pc : Nat} {L : List (Option Value)} {S st : List Value} {w w' : List va_E} {post post1 : Option Value → List va_E → Prop} {E : cx_E}
theorem Ev.world (h : w = w') (k : Ev G M pc L S w' E) : Ev G M pc L S w E := h ▸ k
theorem Ev.mono {post' : Option Value → List va_E → Prop} (k : Ev G M pc L S w (cx_e G M post')) (hi : ∀ r w', post' r w' → post r w') : Ev G M pc L S w (cx_e G M post) := by
  intro p l e s m args below meth c H locs ls hE hC hw hP hS hL T hT X
  obtain ⟨t, h0, o, h1, h2, ⟨⟨r, w', a1, a2, a3, a4⟩, a5⟩, a6⟩ := k p l e s m args below meth c H locs ls hE hC hw hP hS hL T hT X
  exact ⟨t, h0, o, h1, h2, ⟨⟨r, w', a1, hi r w' a2, a3, a4⟩, a5⟩, a6⟩
theorem Ev.iconst {n : Int} {v : Int32} (d : decode (Mc M) pc = .ok (.iconst n, 1)) (hv : Int32.ofInt n = v) (k : Ev G M (pc + 1) L (.int v :: S) w E) : Ev G M pc L S w E := by
  intro p l e s m args below meth c H locs ls hE hC hw hP hS hL
  exact lv_iconst hC.1 hC.2.1 d hv (k p l e s m args below meth c H locs ls hE hC hw hP hS hL)
theorem Ev.bipush {n : Int} {v : Int32} (d : decode (Mc M) pc = .ok (.bipush n, 2)) (hv : (Int8.ofInt n).toInt32 = v) (k : Ev G M (pc + 2) L (.int v :: S) w E) : Ev G M pc L S w E := by
  intro p l e s m args below meth c H locs ls hE hC hw hP hS hL
  exact lv_bipush hC.1 hC.2.1 d hv (k p l e s m args below meth c H locs ls hE hC hw hP hS hL)
theorem Ev.sipush {n : Int} {v : Int32} (d : decode (Mc M) pc = .ok (.sipush n, 3)) (hv : (Int16.ofInt n).toInt32 = v) (k : Ev G M (pc + 3) L (.int v :: S) w E) : Ev G M pc L S w E := by
  intro p l e s m args below meth c H locs ls hE hC hw hP hS hL
  exact lv_sipush hC.1 hC.2.1 d hv (k p l e s m args below meth c H locs ls hE hC hw hP hS hL)
theorem Ev.ldc {index : Nat} {v : Int32} (d : decode (Mc M) pc = .ok (.ldc index, 2)) (hc : Cond.constant (Mo M) index v ∈ WS) (k : Ev G M (pc + 2) L (.int v :: S) w E) : Ev G M pc L S w E := by
  intro p l e s m args below meth c H locs ls hE hC hw hP hS hL
  exact lv_ldc hC.1 hC.2.1 hC.2.2.2.2.1 (hC.2.2.2.2.2.2.1 _ hc) d (k p l e s m args below meth c H locs ls hE hC hw hP hS hL)
theorem Ev.iload_n {j : Fin 4} {i : Nat} {x : Int32} (d : decode (Mc M) pc = .ok (.iload_n j, 1)) (hi : (j : Nat) = i) (hl : L[i]? = some (some (.int x))) (k : Ev G M (pc + 1) L (.int x :: S) w E) : Ev G M pc L S w E := by
  intro p l e s m args below meth c H locs ls hE hC hw hP hS hL
  exact lv_iload_n hC.1 hC.2.1 d hi (hL.2.2 _ _ hl).1 (k p l e s m args below meth c H locs ls hE hC hw hP hS hL)
theorem Ev.iload {j : Nat} {x : Int32} (d : decode (Mc M) pc = .ok (.iload j, 2)) (hl : L[j]? = some (some (.int x))) (k : Ev G M (pc + 2) L (.int x :: S) w E) : Ev G M pc L S w E := by
  intro p l e s m args below meth c H locs ls hE hC hw hP hS hL
  exact lv_iload hC.1 hC.2.1 d (hL.2.2 _ _ hl).1 (k p l e s m args below meth c H locs ls hE hC hw hP hS hL)
theorem Ev.aload_n {j : Fin 4} {i : Nat} {x : Nat} (d : decode (Mc M) pc = .ok (.aload_n j, 1)) (hi : (j : Nat) = i) (hl : L[i]? = some (some (.ref x))) (k : Ev G M (pc + 1) L (.ref x :: S) w E) : Ev G M pc L S w E := by
  intro p l e s m args below meth c H locs ls hE hC hw hP hS hL
  exact lv_aload_n hC.1 hC.2.1 d hi (hL.2.2 _ _ hl).1 (k p l e s m args below meth c H locs ls hE hC hw hP hS hL)
theorem Ev.aload {j : Nat} {x : Nat} (d : decode (Mc M) pc = .ok (.aload j, 2)) (hl : L[j]? = some (some (.ref x))) (k : Ev G M (pc + 2) L (.ref x :: S) w E) : Ev G M pc L S w E := by
  intro p l e s m args below meth c H locs ls hE hC hw hP hS hL
  exact lv_aload hC.1 hC.2.1 d (hL.2.2 _ _ hl).1 (k p l e s m args below meth c H locs ls hE hC hw hP hS hL)
theorem Ev.istore_n {j : Fin 4} {i : Nat} {x : Int32} (d : decode (Mc M) pc = .ok (.istore_n j, 1)) (hi : (j : Nat) = i) (hn : i < Ml M) (k : Ev G M (pc + 1) (L.set i (some (.int x))) S w E) : Ev G M pc L (.int x :: S) w E := by
  intro p l e s m args below meth c H locs ls hE hC hw hP hS hL
  exact lv_istore_n hC.1 hC.2.1 d hi hL.has hn rfl (fun ls' h' => k p l e s m args below meth c H locs ls' hE hC hw hP hS (hL.put rfl h'))
theorem Ev.istore {j : Nat} {x : Int32} (d : decode (Mc M) pc = .ok (.istore j, 2)) (hn : j < Ml M) (k : Ev G M (pc + 2) (L.set j (some (.int x))) S w E) : Ev G M pc L (.int x :: S) w E := by
  intro p l e s m args below meth c H locs ls hE hC hw hP hS hL
  exact lv_istore hC.1 hC.2.1 d hL.has hn rfl (fun ls' h' => k p l e s m args below meth c H locs ls' hE hC hw hP hS (hL.put rfl h'))
theorem Ev.astore_n {j : Fin 4} {i : Nat} {x : Nat} (d : decode (Mc M) pc = .ok (.astore_n j, 1)) (hi : (j : Nat) = i) (hn : i < Ml M) (k : Ev G M (pc + 1) (L.set i (some (.ref x))) S w E) : Ev G M pc L (.ref x :: S) w E := by
  intro p l e s m args below meth c H locs ls hE hC hw hP hS hL
  exact lv_astore_n hC.1 hC.2.1 d hi hL.has hn rfl (fun ls' h' => k p l e s m args below meth c H locs ls' hE hC hw hP hS (hL.put rfl h'))
theorem Ev.astore {j : Nat} {x : Nat} (d : decode (Mc M) pc = .ok (.astore j, 2)) (hn : j < Ml M) (k : Ev G M (pc + 2) (L.set j (some (.ref x))) S w E) : Ev G M pc L (.ref x :: S) w E := by
  intro p l e s m args below meth c H locs ls hE hC hw hP hS hL
  exact lv_astore hC.1 hC.2.1 d hL.has hn rfl (fun ls' h' => k p l e s m args below meth c H locs ls' hE hC hw hP hS (hL.put rfl h'))
theorem Ev.iinc {j : Nat} {n : Int} {x v : Int32} (d : decode (Mc M) pc = .ok (.iinc j n, 3)) (hl : L[j]? = some (some (.int x))) (hv : x + Int32.ofInt n = v) (hn : j < Ml M) (k : Ev G M (pc + 3) (L.set j (some (.int v))) S w E) : Ev G M pc L S w E := by
  intro p l e s m args below meth c H locs ls hE hC hw hP hS hL
  obtain ⟨q, hq⟩ := List.getElem?_of_mem ((cx_as_mem (L := L) (q := (j, Value.int x))).mpr hl)
  exact lv_iinc hC.1 hC.2.1 d hL.has hq hv hn rfl (fun ls' h' => k p l e s m args below meth c H locs ls' hE hC hw hP hS (hL.put rfl h'))
theorem Ev.iadd {x y : Int32} (d : decode (Mc M) pc = .ok (.iadd, 1)) (k : Ev G M (pc + 1) L (.int (x + y) :: S) w E) : Ev G M pc L (.int y :: .int x :: S) w E := by
  intro p l e s m args below meth c H locs ls hE hC hw hP hS hL
  exact lv_iadd hC.1 hC.2.1 d (k p l e s m args below meth c H locs ls hE hC hw hP hS hL)
theorem Ev.isub {x y : Int32} (d : decode (Mc M) pc = .ok (.isub, 1)) (k : Ev G M (pc + 1) L (.int (x - y) :: S) w E) : Ev G M pc L (.int y :: .int x :: S) w E := by
  intro p l e s m args below meth c H locs ls hE hC hw hP hS hL
  exact lv_isub hC.1 hC.2.1 d (k p l e s m args below meth c H locs ls hE hC hw hP hS hL)
theorem Ev.imul {x y : Int32} (d : decode (Mc M) pc = .ok (.imul, 1)) (k : Ev G M (pc + 1) L (.int (x * y) :: S) w E) : Ev G M pc L (.int y :: .int x :: S) w E := by
  intro p l e s m args below meth c H locs ls hE hC hw hP hS hL
  exact lv_imul hC.1 hC.2.1 d (k p l e s m args below meth c H locs ls hE hC hw hP hS hL)
theorem Ev.iand {x y : Int32} (d : decode (Mc M) pc = .ok (.iand, 1)) (k : Ev G M (pc + 1) L (.int (x &&& y) :: S) w E) : Ev G M pc L (.int y :: .int x :: S) w E := by
  intro p l e s m args below meth c H locs ls hE hC hw hP hS hL
  exact lv_iand hC.1 hC.2.1 d (k p l e s m args below meth c H locs ls hE hC hw hP hS hL)
theorem Ev.ior {x y : Int32} (d : decode (Mc M) pc = .ok (.ior, 1)) (k : Ev G M (pc + 1) L (.int (x ||| y) :: S) w E) : Ev G M pc L (.int y :: .int x :: S) w E := by
  intro p l e s m args below meth c H locs ls hE hC hw hP hS hL
  exact lv_ior hC.1 hC.2.1 d (k p l e s m args below meth c H locs ls hE hC hw hP hS hL)
theorem Ev.ishl {x y : Int32} (d : decode (Mc M) pc = .ok (.ishl, 1)) (k : Ev G M (pc + 1) L (.int (x <<< (y &&& 31)) :: S) w E) : Ev G M pc L (.int y :: .int x :: S) w E := by
  intro p l e s m args below meth c H locs ls hE hC hw hP hS hL
  exact lv_ishl hC.1 hC.2.1 d (k p l e s m args below meth c H locs ls hE hC hw hP hS hL)
theorem Ev.ishr {x y : Int32} (d : decode (Mc M) pc = .ok (.ishr, 1)) (k : Ev G M (pc + 1) L (.int (x >>> (y &&& 31)) :: S) w E) : Ev G M pc L (.int y :: .int x :: S) w E := by
  intro p l e s m args below meth c H locs ls hE hC hw hP hS hL
  exact lv_ishr hC.1 hC.2.1 d (k p l e s m args below meth c H locs ls hE hC hw hP hS hL)
theorem Ev.idiv {x y : Int32} (d : decode (Mc M) pc = .ok (.idiv, 1)) (hne : ¬ y = 0) (k : Ev G M (pc + 1) L (.int (x / y) :: S) w E) : Ev G M pc L (.int y :: .int x :: S) w E := by
  intro p l e s m args below meth c H locs ls hE hC hw hP hS hL
  exact lv_idiv hC.1 hC.2.1 d hne (k p l e s m args below meth c H locs ls hE hC hw hP hS hL)
theorem Ev.irem {x y : Int32} (d : decode (Mc M) pc = .ok (.irem, 1)) (hne : ¬ y = 0) (k : Ev G M (pc + 1) L (.int (x - x / y * y) :: S) w E) : Ev G M pc L (.int y :: .int x :: S) w E := by
  intro p l e s m args below meth c H locs ls hE hC hw hP hS hL
  exact lv_irem hC.1 hC.2.1 d hne (k p l e s m args below meth c H locs ls hE hC hw hP hS hL)
theorem Ev.topi {x y : Int32} (h : x = y) (k : Ev G M pc L (.int y :: S) w E) : Ev G M pc L (.int x :: S) w E := h ▸ k
theorem Ev.dup {v : Value} (d : decode (Mc M) pc = .ok (.dup, 1)) (hv : v.category = 1) (k : Ev G M (pc + 1) L (v :: v :: S) w E) : Ev G M pc L (v :: S) w E := by
  intro p l e s m args below meth c H locs ls hE hC hw hP hS hL
  exact lv_dup hC.1 hC.2.1 d hv (k p l e s m args below meth c H locs ls hE hC hw hP hS hL)
theorem Ev.pop {v : Value} (d : decode (Mc M) pc = .ok (.pop, 1)) (hv : v.category = 1) (k : Ev G M (pc + 1) L S w E) : Ev G M pc L (v :: S) w E := by
  intro p l e s m args below meth c H locs ls hE hC hw hP hS hL
  exact lv_pop hC.1 hC.2.1 d hv (k p l e s m args below meth c H locs ls hE hC hw hP hS hL)
theorem Ev.dup_x1 {v u : Value} (d : decode (Mc M) pc = .ok (.dup_x1, 1)) (hv : v.category = 1) (hu : u.category = 1) (k : Ev G M (pc + 1) L (v :: u :: v :: S) w E) : Ev G M pc L (v :: u :: S) w E := by
  intro p l e s m args below meth c H locs ls hE hC hw hP hS hL
  exact lv_dup_x1 hC.1 hC.2.1 d hv hu (k p l e s m args below meth c H locs ls hE hC hw hP hS hL)
theorem Ev.dup_x2 {v u t : Value} (d : decode (Mc M) pc = .ok (.dup_x2, 1)) (hv : v.category = 1) (hu : u.category = 1) (ht : t.category = 1) (k : Ev G M (pc + 1) L (v :: u :: t :: v :: S) w E) : Ev G M pc L (v :: u :: t :: S) w E := by
  intro p l e s m args below meth c H locs ls hE hC hw hP hS hL
  exact lv_dup_x2 hC.1 hC.2.1 d hv hu ht (k p l e s m args below meth c H locs ls hE hC hw hP hS hL)
theorem Ev.dup2 {v u : Value} (d : decode (Mc M) pc = .ok (.dup2, 1)) (hv : v.category = 1) (hu : u.category = 1) (k : Ev G M (pc + 1) L (v :: u :: v :: u :: S) w E) : Ev G M pc L (v :: u :: S) w E := by
  intro p l e s m args below meth c H locs ls hE hC hw hP hS hL
  exact lv_dup2_11 hC.1 hC.2.1 d hv hu (k p l e s m args below meth c H locs ls hE hC hw hP hS hL)
theorem Ev.if_eq {x : Int32} {off : Int} {tgt : Nat} (d : decode (Mc M) pc = .ok (.ifCond .eq off, 3)) (ht : (pc : Int) + off = (tgt : Int)) (kt : x.toInt = 0 → Ev G M tgt L S w E) (kf : ¬ x.toInt = 0 → Ev G M (pc + 3) L S w E) : Ev G M pc L (.int x :: S) w E := by
  intro p l e s m args below meth c H locs ls hE hC hw hP hS hL
  exact lv_if_eq hC.1 hC.2.1 d ht (fun h => kt ((i0_eq x).mpr h) p l e s m args below meth c H locs ls hE hC hw hP hS hL) (fun h => kf (fun q => h ((i0_eq x).mp q)) p l e s m args below meth c H locs ls hE hC hw hP hS hL)
theorem Ev.icmp_eq {x y : Int32} {off : Int} {tgt : Nat} (d : decode (Mc M) pc = .ok (.if_icmp .eq off, 3)) (ht : (pc : Int) + off = (tgt : Int)) (kt : x.toInt = y.toInt → Ev G M tgt L S w E) (kf : ¬ x.toInt = y.toInt → Ev G M (pc + 3) L S w E) : Ev G M pc L (.int y :: .int x :: S) w E := by
  intro p l e s m args below meth c H locs ls hE hC hw hP hS hL
  exact lv_icmp_eq hC.1 hC.2.1 d ht (fun h => kt ((show x.toInt = y.toInt ↔ x = y from Int32.toInt_inj).mpr h) p l e s m args below meth c H locs ls hE hC hw hP hS hL) (fun h => kf (fun q => h ((show x.toInt = y.toInt ↔ x = y from Int32.toInt_inj).mp q)) p l e s m args below meth c H locs ls hE hC hw hP hS hL)
theorem Ev.if_ne {x : Int32} {off : Int} {tgt : Nat} (d : decode (Mc M) pc = .ok (.ifCond .ne off, 3)) (ht : (pc : Int) + off = (tgt : Int)) (kt : ¬ x.toInt = 0 → Ev G M tgt L S w E) (kf : x.toInt = 0 → Ev G M (pc + 3) L S w E) : Ev G M pc L (.int x :: S) w E := by
  intro p l e s m args below meth c H locs ls hE hC hw hP hS hL
  exact lv_if_ne hC.1 hC.2.1 d ht (fun h => kt (fun q => h ((i0_ne x).mp q)) p l e s m args below meth c H locs ls hE hC hw hP hS hL) (fun h => kf ((i0_ne x).mpr h) p l e s m args below meth c H locs ls hE hC hw hP hS hL)
theorem Ev.icmp_ne {x y : Int32} {off : Int} {tgt : Nat} (d : decode (Mc M) pc = .ok (.if_icmp .ne off, 3)) (ht : (pc : Int) + off = (tgt : Int)) (kt : ¬ x.toInt = y.toInt → Ev G M tgt L S w E) (kf : x.toInt = y.toInt → Ev G M (pc + 3) L S w E) : Ev G M pc L (.int y :: .int x :: S) w E := by
  intro p l e s m args below meth c H locs ls hE hC hw hP hS hL
  exact lv_icmp_ne hC.1 hC.2.1 d ht (fun h => kt (fun q => h ((show x.toInt = y.toInt ↔ x = y from Int32.toInt_inj).mp q)) p l e s m args below meth c H locs ls hE hC hw hP hS hL) (fun h => kf ((show x.toInt = y.toInt ↔ x = y from Int32.toInt_inj).mpr h) p l e s m args below meth c H locs ls hE hC hw hP hS hL)
theorem Ev.if_lt {x : Int32} {off : Int} {tgt : Nat} (d : decode (Mc M) pc = .ok (.ifCond .lt off, 3)) (ht : (pc : Int) + off = (tgt : Int)) (kt : x.toInt < 0 → Ev G M tgt L S w E) (kf : ¬ x.toInt < 0 → Ev G M (pc + 3) L S w E) : Ev G M pc L (.int x :: S) w E := by
  intro p l e s m args below meth c H locs ls hE hC hw hP hS hL
  exact lv_if_lt hC.1 hC.2.1 d ht (fun h => kt ((i0_lt x).mpr h) p l e s m args below meth c H locs ls hE hC hw hP hS hL) (fun h => kf (fun q => h ((i0_lt x).mp q)) p l e s m args below meth c H locs ls hE hC hw hP hS hL)
theorem Ev.icmp_lt {x y : Int32} {off : Int} {tgt : Nat} (d : decode (Mc M) pc = .ok (.if_icmp .lt off, 3)) (ht : (pc : Int) + off = (tgt : Int)) (kt : x.toInt < y.toInt → Ev G M tgt L S w E) (kf : ¬ x.toInt < y.toInt → Ev G M (pc + 3) L S w E) : Ev G M pc L (.int y :: .int x :: S) w E := by
  intro p l e s m args below meth c H locs ls hE hC hw hP hS hL
  exact lv_icmp_lt hC.1 hC.2.1 d ht (fun h => kt ((show x.toInt < y.toInt ↔ x < y from Int32.lt_iff_toInt_lt.symm).mpr h) p l e s m args below meth c H locs ls hE hC hw hP hS hL) (fun h => kf (fun q => h ((show x.toInt < y.toInt ↔ x < y from Int32.lt_iff_toInt_lt.symm).mp q)) p l e s m args below meth c H locs ls hE hC hw hP hS hL)
theorem Ev.if_ge {x : Int32} {off : Int} {tgt : Nat} (d : decode (Mc M) pc = .ok (.ifCond .ge off, 3)) (ht : (pc : Int) + off = (tgt : Int)) (kt : 0 ≤ x.toInt → Ev G M tgt L S w E) (kf : ¬ 0 ≤ x.toInt → Ev G M (pc + 3) L S w E) : Ev G M pc L (.int x :: S) w E := by
  intro p l e s m args below meth c H locs ls hE hC hw hP hS hL
  exact lv_if_ge hC.1 hC.2.1 d ht (fun h => kt ((i0_ge x).mpr h) p l e s m args below meth c H locs ls hE hC hw hP hS hL) (fun h => kf (fun q => h ((i0_ge x).mp q)) p l e s m args below meth c H locs ls hE hC hw hP hS hL)
theorem Ev.icmp_ge {x y : Int32} {off : Int} {tgt : Nat} (d : decode (Mc M) pc = .ok (.if_icmp .ge off, 3)) (ht : (pc : Int) + off = (tgt : Int)) (kt : y.toInt ≤ x.toInt → Ev G M tgt L S w E) (kf : ¬ y.toInt ≤ x.toInt → Ev G M (pc + 3) L S w E) : Ev G M pc L (.int y :: .int x :: S) w E := by
  intro p l e s m args below meth c H locs ls hE hC hw hP hS hL
  exact lv_icmp_ge hC.1 hC.2.1 d ht (fun h => kt ((show y.toInt ≤ x.toInt ↔ y ≤ x from Int32.le_iff_toInt_le.symm).mpr h) p l e s m args below meth c H locs ls hE hC hw hP hS hL) (fun h => kf (fun q => h ((show y.toInt ≤ x.toInt ↔ y ≤ x from Int32.le_iff_toInt_le.symm).mp q)) p l e s m args below meth c H locs ls hE hC hw hP hS hL)
theorem Ev.if_gt {x : Int32} {off : Int} {tgt : Nat} (d : decode (Mc M) pc = .ok (.ifCond .gt off, 3)) (ht : (pc : Int) + off = (tgt : Int)) (kt : 0 < x.toInt → Ev G M tgt L S w E) (kf : ¬ 0 < x.toInt → Ev G M (pc + 3) L S w E) : Ev G M pc L (.int x :: S) w E := by
  intro p l e s m args below meth c H locs ls hE hC hw hP hS hL
  exact lv_if_gt hC.1 hC.2.1 d ht (fun h => kt ((i0_gt x).mpr h) p l e s m args below meth c H locs ls hE hC hw hP hS hL) (fun h => kf (fun q => h ((i0_gt x).mp q)) p l e s m args below meth c H locs ls hE hC hw hP hS hL)
theorem Ev.icmp_gt {x y : Int32} {off : Int} {tgt : Nat} (d : decode (Mc M) pc = .ok (.if_icmp .gt off, 3)) (ht : (pc : Int) + off = (tgt : Int)) (kt : y.toInt < x.toInt → Ev G M tgt L S w E) (kf : ¬ y.toInt < x.toInt → Ev G M (pc + 3) L S w E) : Ev G M pc L (.int y :: .int x :: S) w E := by
  intro p l e s m args below meth c H locs ls hE hC hw hP hS hL
  exact lv_icmp_gt hC.1 hC.2.1 d ht (fun h => kt ((show y.toInt < x.toInt ↔ y < x from Int32.lt_iff_toInt_lt.symm).mpr h) p l e s m args below meth c H locs ls hE hC hw hP hS hL) (fun h => kf (fun q => h ((show y.toInt < x.toInt ↔ y < x from Int32.lt_iff_toInt_lt.symm).mp q)) p l e s m args below meth c H locs ls hE hC hw hP hS hL)
theorem Ev.if_le {x : Int32} {off : Int} {tgt : Nat} (d : decode (Mc M) pc = .ok (.ifCond .le off, 3)) (ht : (pc : Int) + off = (tgt : Int)) (kt : x.toInt ≤ 0 → Ev G M tgt L S w E) (kf : ¬ x.toInt ≤ 0 → Ev G M (pc + 3) L S w E) : Ev G M pc L (.int x :: S) w E := by
  intro p l e s m args below meth c H locs ls hE hC hw hP hS hL
  exact lv_if_le hC.1 hC.2.1 d ht (fun h => kt ((i0_le x).mpr h) p l e s m args below meth c H locs ls hE hC hw hP hS hL) (fun h => kf (fun q => h ((i0_le x).mp q)) p l e s m args below meth c H locs ls hE hC hw hP hS hL)
theorem Ev.icmp_le {x y : Int32} {off : Int} {tgt : Nat} (d : decode (Mc M) pc = .ok (.if_icmp .le off, 3)) (ht : (pc : Int) + off = (tgt : Int)) (kt : x.toInt ≤ y.toInt → Ev G M tgt L S w E) (kf : ¬ x.toInt ≤ y.toInt → Ev G M (pc + 3) L S w E) : Ev G M pc L (.int y :: .int x :: S) w E := by
  intro p l e s m args below meth c H locs ls hE hC hw hP hS hL
  exact lv_icmp_le hC.1 hC.2.1 d ht (fun h => kt ((show x.toInt ≤ y.toInt ↔ x ≤ y from Int32.le_iff_toInt_le.symm).mpr h) p l e s m args below meth c H locs ls hE hC hw hP hS hL) (fun h => kf (fun q => h ((show x.toInt ≤ y.toInt ↔ x ≤ y from Int32.le_iff_toInt_le.symm).mp q)) p l e s m args below meth c H locs ls hE hC hw hP hS hL)
theorem bI_eq {b : Bool} : (bI b).toInt = 0 ↔ b = false := by cases b <;> decide
theorem Ev.if_eqB {b : Bool} {off : Int} {tgt : Nat} (d : decode (Mc M) pc = .ok (.ifCond .eq off, 3)) (ht : (pc : Int) + off = (tgt : Int)) (kt : b = false → Ev G M tgt L S w E) (kf : b = true → Ev G M (pc + 3) L S w E) : Ev G M pc L (.int (bI b) :: S) w E :=
  Ev.if_eq d ht (fun h => kt (bI_eq.mp h)) (fun h => kf (by cases b; exact absurd (bI_eq.mpr rfl) h; rfl))
theorem Ev.if_neB {b : Bool} {off : Int} {tgt : Nat} (d : decode (Mc M) pc = .ok (.ifCond .ne off, 3)) (ht : (pc : Int) + off = (tgt : Int)) (kt : b = true → Ev G M tgt L S w E) (kf : b = false → Ev G M (pc + 3) L S w E) : Ev G M pc L (.int (bI b) :: S) w E :=
  Ev.if_ne d ht (fun h => kt (by cases b; exact absurd (bI_eq.mpr rfl) h; rfl)) (fun h => kf (bI_eq.mp h))
theorem Ev.goto {off : Int} {tgt : Nat} (d : decode (Mc M) pc = .ok (.goto off, 3)) (ht : (pc : Int) + off = (tgt : Int)) (k : Ev G M tgt L S w E) : Ev G M pc L S w E := by
  intro p l e s m args below meth c H locs ls hE hC hw hP hS hL
  exact lv_goto hC.1 hC.2.1 d ht (k p l e s m args below meth c H locs ls hE hC hw hP hS hL)
theorem Ev.tableOut {dflt lo hi : Int} {offs : Array Int} {len : Nat} {x : Int32} {tgt : Nat} (d : decode (Mc M) pc = .ok (.tableswitch dflt lo hi offs, len)) (h : x.toInt < lo ∨ hi < x.toInt) (ht : (pc : Int) + dflt = (tgt : Int)) (k : Ev G M tgt L S w E) : Ev G M pc L (.int x :: S) w E := by
  intro p l e s m args below meth c H locs ls hE hC hw hP hS hL
  exact lv_tableOut hC.1 hC.2.1 d h ht (k p l e s m args below meth c H locs ls hE hC hw hP hS hL)
theorem Ev.tableIn {dflt lo hi off : Int} {offs : Array Int} {len : Nat} {x : Int32} {tgt : Nat} (d : decode (Mc M) pc = .ok (.tableswitch dflt lo hi offs, len)) (j : Nat) (hj : x.toInt = lo + j) (h2 : lo + j ≤ hi) (ho : offs[j]? = some off) (ht : (pc : Int) + off = (tgt : Int)) (k : Ev G M tgt L S w E) : Ev G M pc L (.int x :: S) w E := by
  intro p l e s m args below meth c H locs ls hE hC hw hP hS hL
  exact lv_tableIn hC.1 hC.2.1 d (by omega) (by omega) (by rw [show (x.toInt - lo).toNat = j by omega]; exact ho) ht (k p l e s m args below meth c H locs ls hE hC hw hP hS hL)
theorem Ev.lookup {dflt off : Int} {ps : Array (Int × Int)} {len : Nat} {x : Int32} {tgt : Nat} (d : decode (Mc M) pc = .ok (.lookupswitch dflt ps, len)) (hp : (ps.toList.zip (ps.toList.drop 1)).all (fun (a, next) => a.1 < next.1) = true) (ho : Op.lookupswitch.offset ps.toList dflt x.toInt = off) (ht : (pc : Int) + off = (tgt : Int)) (k : Ev G M tgt L S w E) : Ev G M pc L (.int x :: S) w E := by
  intro p l e s m args below meth c H locs ls hE hC hw hP hS hL
  exact lv_lookup hC.1 hC.2.1 d hp ho ht (k p l e s m args below meth c H locs ls hE hC hw hP hS hL)
/-! fields and arrays -/
/-- a field of a class of ours, read or written by a method of M: place ci in vwCl, slot f -/
def cx_fl (own : String) (index ci f : Nat) : Prop := ∃ (C : String) (T : u_T) (N : Nat), vwCl[ci]? = some (C, T, N) ∧ f < N ∧ (∀ w ∈ u_ws C T N, w ∈ WS) ∧ Cond.fieldLink own index (T f).1 (T f).2.1 (T f).2.2.1 ∈ WS
/-- and it may be written: its type, not final -/
def cx_fp (ci f : Nat) (ty : FieldType) : Prop := ∃ (C : String) (T : u_T) (N : Nat) (t : Nat → FieldType), vwCl[ci]? = some (C, T, N) ∧ (∀ k, k < N → parseFieldDescriptor (T k).2.2.1 = some (t k)) ∧ (∀ a, a < N → ∀ b, b < N → a ≠ b → (T a).2.1 ≠ (T b).2.1) ∧ (T f).2.2.2 = false ∧ parseFieldDescriptor (T f).2.2.1 = some ty
theorem Ev.getfield {index ci f q : Nat} {fs : List Value} {v : Value} (d : decode (Mc M) pc = .ok (.getfield index, 3)) (hf : cx_fl (Mo M) index ci f) (he : w[q]? = some (.inr (ci, fs))) (hv : fs[f]? = some v) (k : Ev G M (pc + 3) L (v :: S) w E) : Ev G M pc L (.ref (cxa G q) :: S) w E := by
  intro p l e s m args below meth c H locs ls hE hC hw hP hS hL
  obtain ⟨C, T, N, h1, h2, h3, h4⟩ := hf
  exact va_get (D := cxD G) (ci := ci) (v := v) (C := C) (T := T) (N := N) hC.1 hC.2.1 hC.2.2.2.2.2.2.1 h3 hC.2.2.2.2.1 hC.2.2.2.2.2.2.2.1.1 hP q (cx_lay_get he) h1 f h2 (hC.2.2.2.2.2.2.1 _ h4) (fun _ h9 => h9) hv d (k p l e s m args below meth c H locs ls hE hC hw hP hS hL)
theorem Ev.putfield {index ci f q : Nat} {fs : List Value} {v : Value} (ty : FieldType) (d : decode (Mc M) pc = .ok (.putfield index, 3)) (hf : cx_fl (Mo M) index ci f) (hg : cx_fp ci f ty) (he : w[q]? = some (.inr (ci, fs))) (hn : narrow ty v = v) (ht : fits ty v = true) (hl : f < fs.length) (k : Ev G M (pc + 3) L S (w.set q (.inr (ci, fs.set f v))) E) : Ev G M pc L (v :: .ref (cxa G q) :: S) w E := by
  intro p l e s m args below meth c H locs ls hE hC hw hP hS hL
  obtain ⟨C, T, N, h1, h2, h3, h4⟩ := hf
  obtain ⟨C', T', N', t, g1, g2, g3, g4, g5⟩ := hg
  cases h1.symm.trans g1
  refine va_put (D := cxD G) (ci := ci) (v := v) (ty := ty) (C := C) (T := T) (N := N) hC.1 hC.2.1 hC.2.2.2.2.2.2.1 h3 t g2 g3 hC.2.2.2.2.1 hC.2.2.2.2.2.2.2.1.1 hP (cx_D hw hC.2.2.2.2.2.2.2.1.2.1) hS q (cx_lay_get he) h1 f h2 (hC.2.2.2.2.2.2.1 _ h4) (fun _ h9 => h9) g4 g5 hn ht hl d (fun H1 locs1 hP1 _ hS1 => ?_)
  rw [cx_lay_set] at hP1
  exact k p l e s m args below meth c H1 locs1 ls hE hC (by rw [List.length_set]; exact hw) hP1 hS1 hL
theorem Ev.iaload {q n : Nat} {f : Nat → Int32} {i : Int32} (d : decode (Mc M) pc = .ok (.iaload, 1)) (he : w[q]? = some (.inl (cxC G 0, n, .inl f))) (j : Nat) (hi : i = nI j) (hj : j < n) (hn : n < 2 ^ 31) (k : Ev G M (pc + 1) L (.int (f j) :: S) w E) : Ev G M pc L (.int i :: .ref (cxa G q) :: S) w E := by
  intro p l e s m args below meth c H locs ls hE hC hw hP hS hL
  subst hi
  refine va_iald hC.1 hC.2.1 hC.2.2.2.2.2.2.2.1.1 hP q 0 (cx_lay_get he) rfl (vp_in_nI hj hn) d ?_
  rw [nI_clamp (Nat.lt_trans hj hn)]
  exact (k p l e s m args below meth c H locs ls hE hC hw hP hS hL)
theorem Ev.baload {q n : Nat} {f : Nat → Bool} {i : Int32} (d : decode (Mc M) pc = .ok (.baload, 1)) (he : w[q]? = some (.inl (cxC G 1, n, .inl (fun j => bI (f j))))) (j : Nat) (hi : i = nI j) (hj : j < n) (hn : n < 2 ^ 31) (k : Ev G M (pc + 1) L (.int (bI (f j)) :: S) w E) : Ev G M pc L (.int i :: .ref (cxa G q) :: S) w E := by
  intro p l e s m args below meth c H locs ls hE hC hw hP hS hL
  subst hi
  refine va_zald hC.1 hC.2.1 hC.2.2.2.2.2.2.2.1.1 hP q 1 (cx_lay_get he) rfl (vp_in_nI hj hn) d ?_
  rw [nI_clamp (Nat.lt_trans hj hn)]
  exact (k p l e s m args below meth c H locs ls hE hC hw hP hS hL)
theorem Ev.aaload {q n a : Nat} {f : Nat → Option Nat} {i : Int32} (d : decode (Mc M) pc = .ok (.aaload, 1)) (he : w[q]? = some (.inl (cxC G 2, n, .inr (.inr (.inr (.inr f)))))) (j : Nat) (hi : i = nI j) (hj : j < n) (hn : n < 2 ^ 31) (ha : f j = some a) (k : Ev G M (pc + 1) L (.ref a :: S) w E) : Ev G M pc L (.int i :: .ref (cxa G q) :: S) w E := by
  intro p l e s m args below meth c H locs ls hE hC hw hP hS hL
  subst hi
  refine va_aldq hC.1 hC.2.1 hC.2.2.2.2.2.2.2.1.1 hP q 2 (cx_lay_get he) rfl (vp_in_nI hj hn) d ?_
  rw [nI_clamp (Nat.lt_trans hj hn), ha]
  exact (k p l e s m args below meth c H locs ls hE hC hw hP hS hL)
theorem Ev.iastore {q n : Nat} {f : Nat → Int32} {i x : Int32} (d : decode (Mc M) pc = .ok (.iastore, 1)) (he : w[q]? = some (.inl (cxC G 0, n, .inl f))) (j : Nat) (hi : i = nI j) (hj : j < n) (hn : n < 2 ^ 31) (k : Ev G M (pc + 1) L S (w.set q (.inl (cxC G 0, n, .inl (va_up f j x)))) E) : Ev G M pc L (.int x :: .int i :: .ref (cxa G q) :: S) w E := by
  intro p l e s m args below meth c H locs ls hE hC hw hP hS hL
  subst hi
  refine va_iast hC.1 hC.2.1 hC.2.2.2.2.2.2.2.1.1 hP (cx_D hw hC.2.2.2.2.2.2.2.1.2.1) hS q 0 (cx_lay_get he) rfl (vp_in_nI hj hn) d (fun H1 locs1 hP1 _ hS1 => ?_)
  rw [nI_clamp (Nat.lt_trans hj hn), cx_lay_set] at hP1
  exact k p l e s m args below meth c H1 locs1 ls hE hC (by rw [List.length_set]; exact hw) hP1 hS1 hL
theorem vp_nar_bI (b : Bool) : vp_nar .boolean (bI b) = bI b := by cases b <;> rfl
theorem Ev.bastore {q n : Nat} {f : Nat → Bool} {i : Int32} {b : Bool} (d : decode (Mc M) pc = .ok (.bastore, 1)) (he : w[q]? = some (.inl (cxC G 1, n, .inl (fun j => bI (f j))))) (j : Nat) (hi : i = nI j) (hj : j < n) (hn : n < 2 ^ 31) (k : Ev G M (pc + 1) L S (w.set q (.inl (cxC G 1, n, .inl (fun z => bI (va_up f j b z))))) E) : Ev G M pc L (.int (bI b) :: .int i :: .ref (cxa G q) :: S) w E := by
  intro p l e s m args below meth c H locs ls hE hC hw hP hS hL
  subst hi
  refine va_zast hC.1 hC.2.1 hC.2.2.2.2.2.2.2.1.1 hP (cx_D hw hC.2.2.2.2.2.2.2.1.2.1) hS q 1 (cx_lay_get he) rfl (vp_in_nI hj hn) d (fun H1 locs1 hP1 _ hS1 => ?_)
  have hf : upd (fun z => bI (f z)) j (vp_nar .boolean (bI b)) = fun z => bI (va_up f j b z) := by
    funext z
    by_cases hz : z = j
    · simp [upd, va_up, hz, vp_nar_bI]
    · simp [upd, va_up, hz]
  rw [nI_clamp (Nat.lt_trans hj hn), hf, cx_lay_set] at hP1
  exact k p l e s m args below meth c H1 locs1 ls hE hC (by rw [List.length_set]; exact hw) hP1 hS1 hL
theorem Ev.alen {q n : Nat} {f : Nat → Int32} (d : decode (Mc M) pc = .ok (.arraylength, 1)) (he : w[q]? = some (.inl (cxC G 0, n, .inl f))) (k : Ev G M (pc + 1) L (.int (nI n) :: S) w E) : Ev G M pc L (.ref (cxa G q) :: S) w E := by
  intro p l e s m args below meth c H locs ls hE hC hw hP hS hL
  exact va_alen hC.1 hC.2.1 hC.2.2.2.2.2.2.2.1.1 hP q 0 (cx_lay_get he) rfl rfl d (k p l e s m args below meth c H locs ls hE hC hw hP hS hL)
/-! the static tables -/
def cx_sl (own : String) (index q : Nat) : Prop := ∃ host, Cond.fieldLinkNest own index "TurnedBar" (cx_stn q) "[I" host ∈ cx_nest
theorem Ev.getstatic {index : Nat} (q : Nat) (hq : q < 2) (d : decode (Mc M) pc = .ok (.getstatic index, 3)) (hf : cx_sl (Mo M) index q) (k : Ev G M (pc + 3) L (.ref (cxt G q) :: S) w E) : Ev G M pc L S w E := by
  intro p l e s m args below meth c H locs ls hE hC hw hP hS hL
  obtain ⟨host, h4⟩ := hf
  exact va_getsN hC.1 hC.2.1 (hC.2.2.2.2.2.2.2.2 q hq).1 hS hC.2.2.2.2.1 (va_Nw.use rfl (hC.2.2.2.2.2.2.2.1.2.2 _ h4)) (fun _ h9 => h9) d (k p l e s m args below meth c H locs ls hE hC hw hP hS hL)
theorem Ev.tload {q : Nat} {i : Int32} (d : decode (Mc M) pc = .ok (.iaload, 1)) (hq : q < 2) (j : Nat) (hi : i = nI j) (hj : j < 4) (k : Ev G M (pc + 1) L (.int (cx_stp q j) :: S) w E) : Ev G M pc L (.int i :: .ref (cxt G q) :: S) w E := by
  intro p l e s m args below meth c H locs ls hE hC hw hP hS hL
  subst hi
  exact va_ti hC.1 hC.2.1 (hC.2.2.2.2.2.2.2.2 q hq).2 hS (vp_in_nI hj (by decide)) (by rw [nI_clamp (Nat.lt_trans hj (by decide))]) d (k p l e s m args below meth c H locs ls hE hC hw hP hS hL)
/-! returns -/
theorem Ev.ireturn {v : Int32} (ty : FieldType) (d : decode (Mc M) pc = .ok (.ireturn, 1)) (hr : Mr M = some ty) (hn : narrow ty (.int v) = .int v) (k : post (some (.int v)) w) : Ev G M pc L [.int v] w (cx_e G M post) := by
  intro p l e s m args below meth c H locs ls hE hC hw hP hS hL
  have hlocks := hC.2.2.2.2.2.1
  exact W.zret hC.1 hC.2.1 (hC.2.2.1.trans hr) hn (fun t ht hW => ⟨⟨_, w, rfl, k, hw, by rw [ht]; exact hP⟩, hS.F ht⟩) hS.2.2 d
theorem nar_bI (b : Bool) : narrow .boolean (.int (bI b)) = .int (bI b) := by cases b <;> rfl
theorem Ev.zreturn {b : Bool} (d : decode (Mc M) pc = .ok (.ireturn, 1)) (hr : Mr M = some .boolean) (k : post (some (.int (bI b))) w) : Ev G M pc L [.int (bI b)] w (cx_e G M post) := Ev.ireturn .boolean d hr (nar_bI b) k
theorem Ev.areturn {a : Nat} (C : String) (d : decode (Mc M) pc = .ok (.areturn, 1)) (hr : Mr M = some (.object C)) (k : post (some (.ref a)) w) : Ev G M pc L [.ref a] w (cx_e G M post) := by
  intro p l e s m args below meth c H locs ls hE hC hw hP hS hL
  have hlocks := hC.2.2.2.2.2.1
  exact W.aret hC.1 hC.2.1 (hC.2.2.1.trans hr) (Or.inl ⟨C, rfl⟩) (Or.inr ⟨a, rfl⟩) (fun t ht hW => ⟨⟨_, w, rfl, k, hw, by rw [ht]; exact hP⟩, hS.F ht⟩) hS.2.2 d
theorem Ev.vreturn (d : decode (Mc M) pc = .ok (.return_, 1)) (hr : Mr M = none) (k : post none w) : Ev G M pc L [] w (cx_e G M post) := by
  intro p l e s m args below meth c H locs ls hE hC hw hP hS hL
  have hlocks := hC.2.2.2.2.2.1
  exact W.vret hC.1 hC.2.1 (hC.2.2.1.trans hr) (fun t ht hW => ⟨⟨_, w, rfl, k, hw, by rw [ht]; exact hP⟩, hS.F ht⟩) hS.2.2 d
/-! calls -/
theorem cx_go {cs ss : Nat} {p : Program} {l : Launch} {e : Env} {R : Room} {s : State} {m : MethodId} {args : Array Value} {below : List Frame} {meth : Method} {c : Code} {H : Heap} {locs : List Loc} {Q : State → Prop} {ls : Array Slot} {a : Array Value} (hr : va_Run p l e R s m args below meth c H locs cs ss 0 0 (F0 m pc ls st) S (cx_Q G post1 a) (cx_A G)) (hS : va_S (cx_A G) s.heap H locs)
    (kk : ∀ (r : Option Value) (w' : List va_E) (H1 : Heap) (locs1 : List Loc), post1 r w' → w'.length = cxn G → va_P (cxD G) vwCl (cx_lay G w') H1 → va_S (cx_A G) s.heap H1 locs1 → W p l e R s m args below meth c H1 locs1 cs ss Q (F0 m (pc + 3) ls (r.toList ++ S))) : W p l e R s m args below meth c H locs cs ss Q (F0 m pc ls st) := by
  intro T hT X
  obtain ⟨v, st₀, t, T', L, h0, X', hL, e1, e2, ⟨⟨r, w', hv, hp, hn, hPt⟩, hz, hk⟩, st⟩ := hr T hT X
  cases hv
  rw [h0] at hz hk
  obtain ⟨t2, a1, b1⟩ := kk v w' T'.heap (locs ++ L) hp hn (by rw [e1]; exact hPt)
    ⟨Nat.le_trans hS.1 (by rw [e1]; exact hz), fun q h1 h2 => by rw [e1, hk q (Nat.lt_of_lt_of_le h1 hS.1) h2]; exact hS.2.1 q h1 h2, fun q hq => by
      rcases List.mem_append.mp hq with h | h
      · exact hS.2.2 q h
      · exact hL q h⟩ T' rfl X'
  exact ⟨t2, st t2 a1, b1⟩
theorem cx_to {p : Program} {s : State} {m : MethodId} {args : Array Value} {meth : Method} {c : Code} {H : Heap} {locs : List Loc} (hC : cx_C G M p s m args meth c) (hw : w.length = cxn G) (hP : va_P (cxD G) vwCl (cx_lay G w) H) (hS : va_S (cx_A G) s.heap H locs) (U : State) (hU : U.heap = H) (hW : s.WarmedH U.vm) : cx_pre G w U := by
  obtain ⟨hK, hi, hN⟩ := hC.2.2.2.2.2.2.2.1
  refine ⟨hw, by rw [hU]; exact hP, ⟨va_K.moved hW.alike hK, hi, cx_N.warm cx_nest_ok hW hN⟩, ?_⟩
  rw [hU]
  exact cx_St.kept (cx_St.moved hW.alike hC.2.2.2.2.2.2.2.2) hS.2.1
theorem ws_at {w : Cond} (i : Nat) (h : tables_1[i]? = some w) (hg : goodWord w = true) : w ∈ WS := List.mem_filter.mpr ⟨List.mem_append_right _ (List.mem_of_getElem? h), hg⟩
theorem ws_good {M' : cx_M} (h : Cond.code (My M') (Mc M') (Ml M') (Mr M') ∈ WS) : GoodIn WS (Mw M') := fun w hw => by
  have hw' : w ∈ WS := by
    rcases List.mem_cons.mp hw with rfl | h1
    · exact h
    · exact h1
  exact ⟨hw', good_of_word (List.mem_filter.mp hw').2⟩
def cx_k0 (M' : cx_M) (nA : Nat) : Prop := Cond.code (My M') (Mc M') (Ml M') (Mr M') ∈ WS ∧ Cond.initialized (My M').cls ∈ WS ∧ (My M').cls ≠ "java/lang/invoke/MethodHandle" ∧ (My M').cls ≠ "java/lang/invoke/VarHandle" ∧ (parseMethodDescriptor (My M').desc).map (fun d => d.parameters.length) = some nA
def cx_kV (own : String) (M' : cx_M) (C : String) (idx nA : Nat) : Prop := cx_k0 M' nA ∧ (My M').cls = C ∧ Cond.methodLink own idx (My M') ∈ WS ∧ Cond.instanceMethod (My M') ∈ WS ∧ Cond.selects C (My M') (My M') ∈ WS
def cx_kS (own : String) (M' : cx_M) (idx nA : Nat) : Prop := cx_k0 M' nA ∧ Cond.methodLink own idx (My M') ∈ WS ∧ Cond.static (My M') ∈ WS
def cx_kN (own : String) (M' : cx_M) (idx nA : Nat) : Prop := cx_k0 M' nA ∧ (∃ host, Cond.methodLinkNest own idx (My M') host ∈ cx_nest) ∧ Cond.static (My M') ∈ WS
/-- the callee's room is in the caller's -/
def cx_kR (R : Room) (M' : cx_M) : Prop := Mf M' + 1 ≤ R.frames ∧ 8 + (Ml M' + 11) + Mk M' ≤ R.locals
theorem cx_kB {R : Room} {s : State} {args : Array Value} {own : String} {idx nA : Nat} (hts : ∀ w ∈ WS, w.before args s = true) (k0 : cx_k0 M' nA) (hl : Cond.methodLink own idx (My M') ∈ WS) (hR : cx_kR R M') : CallB R s args own idx (My M') (Mc M') (Ml M') (Mr M') (Mw M') (cx_rm M') 0 0 nA :=
  callB_of nA hts (ws_good k0.1) rfl rfl rfl (hts _ k0.2.1) (hts _ hl) k0.2.2 hR
theorem Ev.callV {C : String} {idx q ci nA : Nat} {fs As : List Value} {cq : vw_C} (d : decode (Mc M) pc = .ok (.invokevirtual idx, 3)) (lk : cx_kV (Mo M) M' C idx nA) (hR : cx_kR E.1 M') (he : w[q]? = some (.inr (ci, fs))) (hq : vwCl[ci]? = some cq) (hcC : cq.1 = C) (hc : Ct G M' (.ref (cxa G q) :: As) w post1) (hA : As.length = nA) (hst : st = As.reverse ++ .ref (cxa G q) :: st.drop (nA + 1)) (h8 : ((st.drop (nA + 1)).map fun v => v.category).sum ≤ 8)
    (k : ∀ r w', post1 r w' → Ev G M (pc + 3) L (r.toList ++ st.drop (nA + 1)) w' E) : Ev G M pc L st w E := by
  intro p l e s m args below meth c H locs ls hE hC hw hP hS hL
  subst hcC
  refine cx_go (post1 := post1) (va_runV (As := As) (rest := st.drop (nA + 1)) ⟨hC.1, hC.2.1, hC.2.2.2.1, hC.2.2.2.2.1, hC.2.2.2.2.2.2.1⟩ (hc l) ⟨cx_kB hC.2.2.2.2.2.2.1 lk.1 lk.2.2.1 hR, hC.2.2.2.2.2.2.1 _ lk.2.2.2.1, hC.2.2.2.2.2.2.1 _ lk.2.2.2.2⟩ ⟨cx_blind, va_recv hC.2.2.2.2.2.2.2.1.1 hP hq (cx_lay_get he), fun U hU hW => ⟨rfl, cx_to hC hw hP hS U hU hW⟩⟩ rfl hA hL.1 hst (lv_room h8) d hE) hS (fun r w' H1 locs1 h1 h2 h3 h4 => ?_)
  exact k r w' h1 p l e s m args below meth c H1 locs1 ls hE hC h2 h3 h4 hL
theorem Ev.callS {idx nA : Nat} {As : List Value} (d : decode (Mc M) pc = .ok (.invokestatic idx, 3)) (lk : cx_kS (Mo M) M' idx nA) (hR : cx_kR E.1 M') (hc : Ct G M' As w post1) (hA : As.length = nA) (hst : st = As.reverse ++ st.drop nA) (h8 : ((st.drop nA).map fun v => v.category).sum ≤ 8)
    (k : ∀ r w', post1 r w' → Ev G M (pc + 3) L (r.toList ++ st.drop nA) w' E) : Ev G M pc L st w E := by
  intro p l e s m args below meth c H locs ls hE hC hw hP hS hL
  refine cx_go (post1 := post1) (va_runS (As := As) (rest := st.drop nA) ⟨hC.1, hC.2.1, hC.2.2.2.1, hC.2.2.2.2.1, hC.2.2.2.2.2.2.1⟩ (hc l) ⟨cx_kB hC.2.2.2.2.2.2.1 lk.1 lk.2.1 hR, hC.2.2.2.2.2.2.1 _ lk.2.2⟩ ⟨cx_blind, fun U hU hW => ⟨rfl, cx_to hC hw hP hS U hU hW⟩⟩ rfl hA hL.1 hst (lv_room h8) d hE) hS (fun r w' H1 locs1 h1 h2 h3 h4 => ?_)
  exact k r w' h1 p l e s m args below meth c H1 locs1 ls hE hC h2 h3 h4 hL
theorem Ev.callN {idx nA : Nat} {As : List Value} (d : decode (Mc M) pc = .ok (.invokestatic idx, 3)) (lk : cx_kN (Mo M) M' idx nA) (hR : cx_kR E.1 M') (hc : Ct G M' As w post1) (hA : As.length = nA) (hst : st = As.reverse ++ st.drop nA) (h8 : ((st.drop nA).map fun v => v.category).sum ≤ 8)
    (k : ∀ r w', post1 r w' → Ev G M (pc + 3) L (r.toList ++ st.drop nA) w' E) : Ev G M pc L st w E := by
  intro p l e s m args below meth c H locs ls hE hC hw hP hS hL
  obtain ⟨k0, ⟨host, hn⟩, hs⟩ := lk
  have hcn : va_CN E.1 s args (Mo M) idx (My M') host (Mc M') (Ml M') (Mr M') (Mw M') (cx_rm M') 0 0 nA := va_cnB nA hC.2.2.2.2.2.2.1 (ws_good k0.1) rfl rfl rfl (hC.2.2.2.2.2.2.2.1.2.2 _ hn) (hC.2.2.2.2.2.2.1 _ k0.2.1) k0.2.2 hR
  refine cx_go (post1 := post1) (va_runSN (As := As) (rest := st.drop nA) ⟨hC.1, hC.2.1, hC.2.2.2.1, hC.2.2.2.2.1, hC.2.2.2.2.2.2.1⟩ (hc l) ⟨hcn, hC.2.2.2.2.2.2.1 _ hs, trivial⟩ ⟨cx_blind, fun U hU hW => ⟨rfl, cx_to hC hw hP hS U hU hW⟩⟩ rfl hA hL.1 hst (lv_room h8) d hE) hS (fun r w' H1 locs1 h1 h2 h3 h4 => ?_)
  exact k r w' h1 p l e s m args below meth c H1 locs1 ls hE hC h2 h3 h4 hL
/-! Math.min and System.arraycopy -/
def cx_kMin (R : Room) (M : cx_M) (idx : Nat) : Prop := Cond.methodLink (Mo M) idx Lib.Math.min.name ∈ WS ∧ Cond.static Lib.Math.min.name ∈ WS ∧ Cond.initialized "java/lang/Math" ∈ WS ∧ Cond.code Lib.Math.min.name Lib.Math.min.code 2 (some .int) ∈ WS ∧ 1 ≤ R.frames ∧ 21 ≤ R.locals
theorem Ev.min {idx : Nat} {x y : Int32} (d : decode (Mc M) pc = .ok (.invokestatic idx, 3)) (lk : cx_kMin E.1 M idx) (h8 : (S.map fun v => v.category).sum ≤ 8) (k : Ev G M (pc + 3) L (.int (if y.toInt < x.toInt then y else x) :: S) w E) : Ev G M pc L (.int y :: .int x :: S) w E := by
  intro p l e s m args below meth c H locs ls hE hC hw hP hS hL
  have hts := hC.2.2.2.2.2.2.1
  have e1 : (if y < x then y else x) = (if y.toInt < x.toInt then y else x) := by
    by_cases h : y < x
    · rw [if_pos h, if_pos (Int32.lt_iff_toInt_lt.mp h)]
    · rw [if_neg h, if_neg (fun q => h (Int32.lt_iff_toInt_lt.mpr q))]
  refine va_mmin hC.1 hC.2.1 (hC.2.2.2.1.trans hL.1.symm) hC.2.2.2.2.1 (hts _ lk.1) (hts _ lk.2.1) (hts _ lk.2.2.1) (hts _ lk.2.2.2.1) lk.2.2.2.2.1 (by have := lk.2.2.2.2.2; show _ + 13 ≤ E.1.locals; omega) hE.1 hE.2 d ?_
  rw [e1]
  exact (k p l e s m args below meth c H locs ls hE hC hw hP hS hL)
def cx_kCpy (R : Room) (M : cx_M) (idx : Nat) : Prop := Cond.methodLink (Mo M) idx arraycopyName ∈ WS ∧ Cond.native arraycopyName ∈ WS ∧ Cond.static arraycopyName ∈ WS ∧ Cond.initialized "java/lang/System" ∈ WS ∧ 1 ≤ R.frames ∧ nativeFrameWords "java/lang/System" "arraycopy" 5 + 19 ≤ R.locals
theorem Ev.copy {idx q0 q1 n0 n1 : Nat} {f g : Nat → Int32} {x y z : Int32} (d : decode (Mc M) pc = .ok (.invokestatic idx, 3)) (lk : cx_kCpy E.1 M idx) (he0 : w[q0]? = some (.inl (cxC G 0, n0, .inl f))) (he1 : w[q1]? = some (.inl (cxC G 0, n1, .inl g))) (j : Nat) (hx : x = nI 0) (hy : y = nI 0) (hz : z = nI j) (h0 : j ≤ n0) (h1 : j ≤ n1) (hn : n0 < 2 ^ 31) (h8 : (S.map fun v => v.category).sum ≤ 8)
    (k : Ev G M (pc + 3) L S (w.set q1 (.inl (cxC G 0, n1, .inl (va_cpy f g 0 0 j)))) E) : Ev G M pc L (.int z :: .int y :: .ref (cxa G q1) :: .int x :: .ref (cxa G q0) :: S) w E := by
  intro p l e s m args below meth c H locs ls hE hC hw hP hS hL
  have hts := hC.2.2.2.2.2.2.1
  subst hx; subst hy; subst hz
  have hj : j < 2 ^ 31 := Nat.lt_of_le_of_lt h0 hn
  have c0 : (nI 0).toNatClampNeg = 0 := nI_clamp (by decide)
  have cj : (nI j).toNatClampNeg = j := nI_clamp hj
  refine va_copyi hC.1 hC.2.1 (hC.2.2.2.1.trans hL.1.symm) hC.2.2.2.2.1 (hts _ lk.1) (hts _ lk.2.1) (hts _ lk.2.2.1) (hts _ lk.2.2.2.1) hC.2.2.2.2.2.2.2.1.1 hP (cx_D hw hC.2.2.2.2.2.2.2.1.2.1) hS q0 q1 0 0 (cx_lay_get he0) (cx_lay_get he1) rfl rfl rfl (nI_pos (by decide)) (nI_pos (by decide)) (nI_pos hj) (by rw [c0, cj]; omega) (by rw [c0, cj]; omega) (fun _ _ => rfl) lk.2.2.2.2.1 (by have := lk.2.2.2.2.2; show _ + _ ≤ E.1.locals; omega) d (fun H1 locs1 hP1 _ hS1 => ?_)
  rw [c0, cj, cx_lay_set] at hP1
  exact k p l e s m args below meth c H1 locs1 ls hE hC (by rw [List.length_set]; exact hw) hP1 hS1 hL
end EvRows
end
