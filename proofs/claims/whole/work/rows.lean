section
-- ===== PART A: goes FIRST, ahead of the names: the tables' words, and 'selects' of the private methods out of them =====
/-- a private method of a class that the tables say can be made, by its rows of tables_1 -/
def lw_okq (q : MethodName × Nat) : Prop := (q.1.cls ≠ "java/lang/invoke/MethodHandle" ∧ q.1.cls ≠ "java/lang/invoke/VarHandle") ∧ Cond.instantiable q.1.cls q.2 ∈ tables_1 ∧ Cond.privateMethod q.1 ∈ tables_1 ∧ Cond.instanceMethod q.1 ∈ tables_1
theorem lw_p0 : lw_okq (⟨"TurnedBar", "dropPlan", "()V"⟩, 12) := ⟨⟨by decide +kernel, by decide +kernel⟩, List.mem_of_getElem? (i := 15) (by decide +kernel), List.mem_of_getElem? (i := 248) (by decide +kernel), List.mem_of_getElem? (i := 249) (by decide +kernel)⟩
theorem lw_p1 : lw_okq (⟨"TurnedBar", "isInReach", "(LTurnedBar$Insert;II)Z"⟩, 12) := ⟨⟨by decide +kernel, by decide +kernel⟩, List.mem_of_getElem? (i := 15) (by decide +kernel), List.mem_of_getElem? (i := 302) (by decide +kernel), List.mem_of_getElem? (i := 303) (by decide +kernel)⟩
theorem lw_p2 : lw_okq (⟨"TurnedBar$Ways", "begin", "(I)V"⟩, 5) := ⟨⟨by decide +kernel, by decide +kernel⟩, List.mem_of_getElem? (i := 119) (by decide +kernel), List.mem_of_getElem? (i := 310) (by decide +kernel), List.mem_of_getElem? (i := 311) (by decide +kernel)⟩
theorem lw_p3 : lw_okq (⟨"TurnedBar$Ways", "spread", "(LTurnedBar$Insert;I)V"⟩, 5) := ⟨⟨by decide +kernel, by decide +kernel⟩, List.mem_of_getElem? (i := 119) (by decide +kernel), List.mem_of_getElem? (i := 317) (by decide +kernel), List.mem_of_getElem? (i := 318) (by decide +kernel)⟩
theorem lw_p4 : lw_okq (⟨"TurnedBar$Moves", "append", "(I)Z"⟩, 2) := ⟨⟨by decide +kernel, by decide +kernel⟩, List.mem_of_getElem? (i := 90) (by decide +kernel), List.mem_of_getElem? (i := 380) (by decide +kernel), List.mem_of_getElem? (i := 381) (by decide +kernel)⟩
theorem lw_p5 : lw_okq (⟨"TurnedBar$Planner", "useInsert", "(LTurnedBar$Insert;)Z"⟩, 6) := ⟨⟨by decide +kernel, by decide +kernel⟩, List.mem_of_getElem? (i := 141) (by decide +kernel), List.mem_of_getElem? (i := 385) (by decide +kernel), List.mem_of_getElem? (i := 386) (by decide +kernel)⟩
theorem lw_p6 : lw_okq (⟨"TurnedBar$Planner", "addWay", "(I)Z"⟩, 6) := ⟨⟨by decide +kernel, by decide +kernel⟩, List.mem_of_getElem? (i := 141) (by decide +kernel), List.mem_of_getElem? (i := 405) (by decide +kernel), List.mem_of_getElem? (i := 406) (by decide +kernel)⟩
theorem lw_p7 : lw_okq (⟨"TurnedBar", "isMove", "(I)Z"⟩, 12) := ⟨⟨by decide +kernel, by decide +kernel⟩, List.mem_of_getElem? (i := 15) (by decide +kernel), List.mem_of_getElem? (i := 448) (by decide +kernel), List.mem_of_getElem? (i := 449) (by decide +kernel)⟩
theorem lw_p8 : lw_okq (⟨"TurnedBar$Run", "goMove", "(ILTurnedBar$Stock;)I"⟩, 7) := ⟨⟨by decide +kernel, by decide +kernel⟩, List.mem_of_getElem? (i := 166) (by decide +kernel), List.mem_of_getElem? (i := 478) (by decide +kernel), List.mem_of_getElem? (i := 479) (by decide +kernel)⟩
theorem lw_p9 : lw_okq (⟨"TurnedBar$Run", "goChange", "()I"⟩, 7) := ⟨⟨by decide +kernel, by decide +kernel⟩, List.mem_of_getElem? (i := 166) (by decide +kernel), List.mem_of_getElem? (i := 483) (by decide +kernel), List.mem_of_getElem? (i := 484) (by decide +kernel)⟩
theorem lw_p10 : lw_okq (⟨"TurnedBar$Run", "goStep", "(IILTurnedBar$Stock;)I"⟩, 7) := ⟨⟨by decide +kernel, by decide +kernel⟩, List.mem_of_getElem? (i := 166) (by decide +kernel), List.mem_of_getElem? (i := 491) (by decide +kernel), List.mem_of_getElem? (i := 492) (by decide +kernel)⟩
theorem lw_p11 : lw_okq (⟨"TurnedBarModel", "drop", "()V"⟩, 28) := ⟨⟨by decide +kernel, by decide +kernel⟩, List.mem_of_getElem? (i := 523) (by decide +kernel), List.mem_of_getElem? (i := 618) (by decide +kernel), List.mem_of_getElem? (i := 619) (by decide +kernel)⟩
theorem lw_p12 : lw_okq (⟨"TurnedBarModel", "isSafe", "(II)Z"⟩, 28) := ⟨⟨by decide +kernel, by decide +kernel⟩, List.mem_of_getElem? (i := 523) (by decide +kernel), List.mem_of_getElem? (i := 655) (by decide +kernel), List.mem_of_getElem? (i := 656) (by decide +kernel)⟩
theorem lw_p13 : lw_okq (⟨"TurnedBarModel", "findReach", "(I)V"⟩, 28) := ⟨⟨by decide +kernel, by decide +kernel⟩, List.mem_of_getElem? (i := 523) (by decide +kernel), List.mem_of_getElem? (i := 665) (by decide +kernel), List.mem_of_getElem? (i := 666) (by decide +kernel)⟩
theorem lw_p14 : lw_okq (⟨"TurnedBarModel", "isBar", "(II)Z"⟩, 28) := ⟨⟨by decide +kernel, by decide +kernel⟩, List.mem_of_getElem? (i := 523) (by decide +kernel), List.mem_of_getElem? (i := 672) (by decide +kernel), List.mem_of_getElem? (i := 673) (by decide +kernel)⟩
theorem lw_p15 : lw_okq (⟨"TurnedBarModel", "covers", "(IIII)Z"⟩, 28) := ⟨⟨by decide +kernel, by decide +kernel⟩, List.mem_of_getElem? (i := 523) (by decide +kernel), List.mem_of_getElem? (i := 679) (by decide +kernel), List.mem_of_getElem? (i := 680) (by decide +kernel)⟩
def lw_privs_1 : List (MethodName × Nat) := [(⟨"TurnedBar", "dropPlan", "()V"⟩, 12), (⟨"TurnedBar", "isInReach", "(LTurnedBar$Insert;II)Z"⟩, 12), (⟨"TurnedBar$Ways", "begin", "(I)V"⟩, 5), (⟨"TurnedBar$Ways", "spread", "(LTurnedBar$Insert;I)V"⟩, 5), (⟨"TurnedBar$Moves", "append", "(I)Z"⟩, 2), (⟨"TurnedBar$Planner", "useInsert", "(LTurnedBar$Insert;)Z"⟩, 6), (⟨"TurnedBar$Planner", "addWay", "(I)Z"⟩, 6), (⟨"TurnedBar", "isMove", "(I)Z"⟩, 12), (⟨"TurnedBar$Run", "goMove", "(ILTurnedBar$Stock;)I"⟩, 7), (⟨"TurnedBar$Run", "goChange", "()I"⟩, 7), (⟨"TurnedBar$Run", "goStep", "(IILTurnedBar$Stock;)I"⟩, 7), (⟨"TurnedBarModel", "drop", "()V"⟩, 28), (⟨"TurnedBarModel", "isSafe", "(II)Z"⟩, 28), (⟨"TurnedBarModel", "findReach", "(I)V"⟩, 28), (⟨"TurnedBarModel", "isBar", "(II)Z"⟩, 28), (⟨"TurnedBarModel", "covers", "(IIII)Z"⟩, 28)]
theorem lw_r1 : ∀ q ∈ lw_privs_1, lw_okq q := List.forall_mem_cons.mpr ⟨lw_p0, List.forall_mem_cons.mpr ⟨lw_p1, List.forall_mem_cons.mpr ⟨lw_p2, List.forall_mem_cons.mpr ⟨lw_p3, List.forall_mem_cons.mpr ⟨lw_p4, List.forall_mem_cons.mpr ⟨lw_p5, List.forall_mem_cons.mpr ⟨lw_p6, List.forall_mem_cons.mpr ⟨lw_p7, List.forall_mem_cons.mpr ⟨lw_p8, List.forall_mem_cons.mpr ⟨lw_p9, List.forall_mem_cons.mpr ⟨lw_p10, List.forall_mem_cons.mpr ⟨lw_p11, List.forall_mem_cons.mpr ⟨lw_p12, List.forall_mem_cons.mpr ⟨lw_p13, List.forall_mem_cons.mpr ⟨lw_p14, List.forall_mem_cons.mpr ⟨lw_p15, fun _ h => absurd h List.not_mem_nil⟩⟩⟩⟩⟩⟩⟩⟩⟩⟩⟩⟩⟩⟩⟩⟩
theorem lw_p16 : lw_okq (⟨"TurnedBarModel", "isJob", "()Z"⟩, 28) := ⟨⟨by decide +kernel, by decide +kernel⟩, List.mem_of_getElem? (i := 523) (by decide +kernel), List.mem_of_getElem? (i := 691) (by decide +kernel), List.mem_of_getElem? (i := 692) (by decide +kernel)⟩
theorem lw_p17 : lw_okq (⟨"TurnedBarModel", "fill", "()V"⟩, 28) := ⟨⟨by decide +kernel, by decide +kernel⟩, List.mem_of_getElem? (i := 523) (by decide +kernel), List.mem_of_getElem? (i := 695) (by decide +kernel), List.mem_of_getElem? (i := 696) (by decide +kernel)⟩
theorem lw_p18 : lw_okq (⟨"TurnedBarModel", "add", "(II)V"⟩, 28) := ⟨⟨by decide +kernel, by decide +kernel⟩, List.mem_of_getElem? (i := 523) (by decide +kernel), List.mem_of_getElem? (i := 699) (by decide +kernel), List.mem_of_getElem? (i := 700) (by decide +kernel)⟩
theorem lw_p19 : lw_okq (⟨"TurnedBarModel", "measure", "([III)V"⟩, 28) := ⟨⟨by decide +kernel, by decide +kernel⟩, List.mem_of_getElem? (i := 523) (by decide +kernel), List.mem_of_getElem? (i := 703) (by decide +kernel), List.mem_of_getElem? (i := 704) (by decide +kernel)⟩
theorem lw_p20 : lw_okq (⟨"TurnedBarModel", "stockAt", "(IIZ)I"⟩, 28) := ⟨⟨by decide +kernel, by decide +kernel⟩, List.mem_of_getElem? (i := 523) (by decide +kernel), List.mem_of_getElem? (i := 708) (by decide +kernel), List.mem_of_getElem? (i := 709) (by decide +kernel)⟩
theorem lw_p21 : lw_okq (⟨"TurnedBarModel", "target", "(I)I"⟩, 28) := ⟨⟨by decide +kernel, by decide +kernel⟩, List.mem_of_getElem? (i := 523) (by decide +kernel), List.mem_of_getElem? (i := 712) (by decide +kernel), List.mem_of_getElem? (i := 713) (by decide +kernel)⟩
theorem lw_p22 : lw_okq (⟨"TurnedBarModel", "go", "(III)V"⟩, 28) := ⟨⟨by decide +kernel, by decide +kernel⟩, List.mem_of_getElem? (i := 523) (by decide +kernel), List.mem_of_getElem? (i := 716) (by decide +kernel), List.mem_of_getElem? (i := 717) (by decide +kernel)⟩
theorem lw_p23 : lw_okq (⟨"TurnedBarModel", "isOn", "(IIII)Z"⟩, 28) := ⟨⟨by decide +kernel, by decide +kernel⟩, List.mem_of_getElem? (i := 523) (by decide +kernel), List.mem_of_getElem? (i := 720) (by decide +kernel), List.mem_of_getElem? (i := 721) (by decide +kernel)⟩
theorem lw_p24 : lw_okq (⟨"TurnedBarModel", "copyBack", "(I)V"⟩, 28) := ⟨⟨by decide +kernel, by decide +kernel⟩, List.mem_of_getElem? (i := 523) (by decide +kernel), List.mem_of_getElem? (i := 724) (by decide +kernel), List.mem_of_getElem? (i := 725) (by decide +kernel)⟩
theorem lw_p25 : lw_okq (⟨"TurnedBarModel", "through", "(I)I"⟩, 28) := ⟨⟨by decide +kernel, by decide +kernel⟩, List.mem_of_getElem? (i := 523) (by decide +kernel), List.mem_of_getElem? (i := 744) (by decide +kernel), List.mem_of_getElem? (i := 745) (by decide +kernel)⟩
theorem lw_p26 : lw_okq (⟨"TurnedBarModel", "pass", "(I)I"⟩, 28) := ⟨⟨by decide +kernel, by decide +kernel⟩, List.mem_of_getElem? (i := 523) (by decide +kernel), List.mem_of_getElem? (i := 748) (by decide +kernel), List.mem_of_getElem? (i := 749) (by decide +kernel)⟩
theorem lw_p27 : lw_okq (⟨"TurnedBarModel", "step", "(II)I"⟩, 28) := ⟨⟨by decide +kernel, by decide +kernel⟩, List.mem_of_getElem? (i := 523) (by decide +kernel), List.mem_of_getElem? (i := 752) (by decide +kernel), List.mem_of_getElem? (i := 753) (by decide +kernel)⟩
def lw_privs_2 : List (MethodName × Nat) := [(⟨"TurnedBarModel", "isJob", "()Z"⟩, 28), (⟨"TurnedBarModel", "fill", "()V"⟩, 28), (⟨"TurnedBarModel", "add", "(II)V"⟩, 28), (⟨"TurnedBarModel", "measure", "([III)V"⟩, 28), (⟨"TurnedBarModel", "stockAt", "(IIZ)I"⟩, 28), (⟨"TurnedBarModel", "target", "(I)I"⟩, 28), (⟨"TurnedBarModel", "go", "(III)V"⟩, 28), (⟨"TurnedBarModel", "isOn", "(IIII)Z"⟩, 28), (⟨"TurnedBarModel", "copyBack", "(I)V"⟩, 28), (⟨"TurnedBarModel", "through", "(I)I"⟩, 28), (⟨"TurnedBarModel", "pass", "(I)I"⟩, 28), (⟨"TurnedBarModel", "step", "(II)I"⟩, 28)]
theorem lw_r2 : ∀ q ∈ lw_privs_2, lw_okq q := List.forall_mem_cons.mpr ⟨lw_p16, List.forall_mem_cons.mpr ⟨lw_p17, List.forall_mem_cons.mpr ⟨lw_p18, List.forall_mem_cons.mpr ⟨lw_p19, List.forall_mem_cons.mpr ⟨lw_p20, List.forall_mem_cons.mpr ⟨lw_p21, List.forall_mem_cons.mpr ⟨lw_p22, List.forall_mem_cons.mpr ⟨lw_p23, List.forall_mem_cons.mpr ⟨lw_p24, List.forall_mem_cons.mpr ⟨lw_p25, List.forall_mem_cons.mpr ⟨lw_p26, List.forall_mem_cons.mpr ⟨lw_p27, fun _ h => absurd h List.not_mem_nil⟩⟩⟩⟩⟩⟩⟩⟩⟩⟩⟩⟩
def lw_privs : List (MethodName × Nat) := lw_privs_1 ++ (lw_privs_2)
def lw_tbl : List Cond := k2_sels lw_privs ++ tables_1
theorem lw_privs_ok : ∀ q ∈ lw_privs, lw_okq q := by
  show ∀ q ∈ lw_privs_1 ++ (lw_privs_2), lw_okq q
  exact List.forall_mem_append.mpr ⟨lw_r1, lw_r2⟩
end
section
/-! names, fields, codes: by program out of the claim's files -/
def cx_El : String := "TurnedBar$Insert"
def WS : List Cond := lw_tbl.filter goodWord
def RB : String := "TurnedBar$Blank"
def FB : u_T := fun k => match k with
  | 0 => ("TurnedBar$Blank", "radius", "I", false)
  | 1 => ("TurnedBar$Blank", "length", "I", false)
  | 2 => ("TurnedBar$Blank", "chuck", "I", false)
  | _ => ("TurnedBar$Blank", "radiusToStay", "[I", true)
def tB : Nat → FieldType := fun k => match k with
  | 0 => .int
  | 1 => .int
  | 2 => .int
  | _ => .array .int
theorem nB_ok : ∀ a, a < 4 → ∀ b, b < 4 → a ≠ b → (FB a).2.1 ≠ (FB b).2.1 := by decide +kernel
theorem tB_ok : ∀ k, k < 4 → parseFieldDescriptor (FB k).2.2.1 = some (tB k) := by decide +kernel
def RI : String := "TurnedBar$Insert"
def FI : u_T := fun k => match k with
  | 0 => ("TurnedBar$Insert", "spots", "I", false)
  | 1 => ("TurnedBar$Insert", "dz", "[I", true)
  | _ => ("TurnedBar$Insert", "dr", "[I", true)
def tI : Nat → FieldType := fun k => match k with
  | 0 => .int
  | 1 => .array .int
  | _ => .array .int
theorem nI_ok : ∀ a, a < 3 → ∀ b, b < 3 → a ≠ b → (FI a).2.1 ≠ (FI b).2.1 := by decide +kernel
theorem tI_ok : ∀ k, k < 3 → parseFieldDescriptor (FI k).2.2.1 = some (tI k) := by decide +kernel
def RJ : String := "TurnedBar$Job"
def FJ : u_T := fun k => match k with
  | 0 => ("TurnedBar$Job", "inserts", "[LTurnedBar$Insert;", true)
  | 1 => ("TurnedBar$Job", "row", "[I", true)
  | _ => ("TurnedBar$Job", "chosen", "I", false)
def tJ : Nat → FieldType := fun k => match k with
  | 0 => .array (.object "TurnedBar$Insert")
  | 1 => .array .int
  | _ => .int
theorem nJ_ok : ∀ a, a < 3 → ∀ b, b < 3 → a ≠ b → (FJ a).2.1 ≠ (FJ b).2.1 := by decide +kernel
theorem tJ_ok : ∀ k, k < 3 → parseFieldDescriptor (FJ k).2.2.1 = some (tJ k) := by decide +kernel
def RM : String := "TurnedBar$Moves"
def FM : u_T := fun k => match k with
  | 0 => ("TurnedBar$Moves", "row", "[I", true)
  | _ => ("TurnedBar$Moves", "size", "I", false)
def tM : Nat → FieldType := fun k => match k with
  | 0 => .array .int
  | _ => .int
theorem nM_ok : ∀ a, a < 2 → ∀ b, b < 2 → a ≠ b → (FM a).2.1 ≠ (FM b).2.1 := by decide +kernel
theorem tM_ok : ∀ k, k < 2 → parseFieldDescriptor (FM k).2.2.1 = some (tM k) := by decide +kernel
def RP : String := "TurnedBar$Planner"
def FP : u_T := fun k => match k with
  | 0 => ("TurnedBar$Planner", "blank", "LTurnedBar$Blank;", true)
  | 1 => ("TurnedBar$Planner", "job", "LTurnedBar$Job;", true)
  | 2 => ("TurnedBar$Planner", "ways", "LTurnedBar$Ways;", true)
  | 3 => ("TurnedBar$Planner", "stock", "LTurnedBar$Stock;", true)
  | 4 => ("TurnedBar$Planner", "moves", "LTurnedBar$Moves;", true)
  | _ => ("TurnedBar$Planner", "directions", "[I", true)
def tP : Nat → FieldType := fun k => match k with
  | 0 => .object "TurnedBar$Blank"
  | 1 => .object "TurnedBar$Job"
  | 2 => .object "TurnedBar$Ways"
  | 3 => .object "TurnedBar$Stock"
  | 4 => .object "TurnedBar$Moves"
  | _ => .array .int
theorem nP_ok : ∀ a, a < 6 → ∀ b, b < 6 → a ≠ b → (FP a).2.1 ≠ (FP b).2.1 := by decide +kernel
theorem tP_ok : ∀ k, k < 6 → parseFieldDescriptor (FP k).2.2.1 = some (tP k) := by decide +kernel
def RR : String := "TurnedBar$Run"
def FR : u_T := fun k => match k with
  | 0 => ("TurnedBar$Run", "blank", "LTurnedBar$Blank;", true)
  | 1 => ("TurnedBar$Run", "job", "LTurnedBar$Job;", true)
  | 2 => ("TurnedBar$Run", "changes", "I", false)
  | 3 => ("TurnedBar$Run", "z", "I", false)
  | 4 => ("TurnedBar$Run", "\x72", "I", false)
  | 5 => ("TurnedBar$Run", "cells", "I", false)
  | _ => ("TurnedBar$Run", "firstFault", "I", false)
def tR : Nat → FieldType := fun k => match k with
  | 0 => .object "TurnedBar$Blank"
  | 1 => .object "TurnedBar$Job"
  | 2 => .int
  | 3 => .int
  | 4 => .int
  | 5 => .int
  | _ => .int
theorem nR_ok : ∀ a, a < 7 → ∀ b, b < 7 → a ≠ b → (FR a).2.1 ≠ (FR b).2.1 := by decide +kernel
theorem tR_ok : ∀ k, k < 7 → parseFieldDescriptor (FR k).2.2.1 = some (tR k) := by decide +kernel
def RS : String := "TurnedBar$Stock"
def FS : u_T := fun k => match k with
  | _ => ("TurnedBar$Stock", "uncut", "[Z", true)
def tS : Nat → FieldType := fun k => match k with
  | _ => .array .boolean
theorem nS_ok : ∀ a, a < 1 → ∀ b, b < 1 → a ≠ b → (FS a).2.1 ≠ (FS b).2.1 := by decide +kernel
theorem tS_ok : ∀ k, k < 1 → parseFieldDescriptor (FS k).2.2.1 = some (tS k) := by decide +kernel
def RW : String := "TurnedBar$Ways"
def FW : u_T := fun k => match k with
  | 0 => ("TurnedBar$Ways", "blank", "LTurnedBar$Blank;", true)
  | 1 => ("TurnedBar$Ways", "queue", "[I", true)
  | 2 => ("TurnedBar$Ways", "distance", "[I", true)
  | 3 => ("TurnedBar$Ways", "cameBy", "[I", true)
  | _ => ("TurnedBar$Ways", "found", "I", false)
def tW : Nat → FieldType := fun k => match k with
  | 0 => .object "TurnedBar$Blank"
  | 1 => .array .int
  | 2 => .array .int
  | 3 => .array .int
  | _ => .int
theorem nW_ok : ∀ a, a < 5 → ∀ b, b < 5 → a ≠ b → (FW a).2.1 ≠ (FW b).2.1 := by decide +kernel
theorem tW_ok : ∀ k, k < 5 → parseFieldDescriptor (FW k).2.2.1 = some (tW k) := by decide +kernel
def RT : String := "TurnedBar"
def FT : u_T := fun k => match k with
  | 0 => ("TurnedBar", "blank", "LTurnedBar$Blank;", true)
  | 1 => ("TurnedBar", "inserts", "[LTurnedBar$Insert;", true)
  | 2 => ("TurnedBar", "job", "LTurnedBar$Job;", true)
  | 3 => ("TurnedBar", "planned", "LTurnedBar$Moves;", true)
  | 4 => ("TurnedBar", "trial", "LTurnedBar$Moves;", true)
  | 5 => ("TurnedBar", "shown", "LTurnedBar$Stock;", true)
  | 6 => ("TurnedBar", "scratch", "LTurnedBar$Stock;", true)
  | 7 => ("TurnedBar", "ways", "LTurnedBar$Ways;", true)
  | 8 => ("TurnedBar", "planner", "LTurnedBar$Planner;", true)
  | 9 => ("TurnedBar", "run", "LTurnedBar$Run;", true)
  | 10 => ("TurnedBar", "hasPlan", "Z", false)
  | _ => ("TurnedBar", "leftByPlan", "I", false)
def tT : Nat → FieldType := fun k => match k with
  | 0 => .object "TurnedBar$Blank"
  | 1 => .array (.object "TurnedBar$Insert")
  | 2 => .object "TurnedBar$Job"
  | 3 => .object "TurnedBar$Moves"
  | 4 => .object "TurnedBar$Moves"
  | 5 => .object "TurnedBar$Stock"
  | 6 => .object "TurnedBar$Stock"
  | 7 => .object "TurnedBar$Ways"
  | 8 => .object "TurnedBar$Planner"
  | 9 => .object "TurnedBar$Run"
  | 10 => .boolean
  | _ => .int
theorem nT_ok : ∀ a, a < 12 → ∀ b, b < 12 → a ≠ b → (FT a).2.1 ≠ (FT b).2.1 := by decide +kernel
theorem tT_ok : ∀ k, k < 12 → parseFieldDescriptor (FT k).2.2.1 = some (tT k) := by decide +kernel
def RD : String := "TurnedBarModel"
def FD : u_T := fun k => match k with
  | 0 => ("TurnedBarModel", "radius", "I", false)
  | 1 => ("TurnedBarModel", "length", "I", false)
  | 2 => ("TurnedBarModel", "chuck", "I", false)
  | 3 => ("TurnedBarModel", "stays", "[I", true)
  | 4 => ("TurnedBarModel", "spots", "[I", true)
  | 5 => ("TurnedBarModel", "dzs", "[I", true)
  | 6 => ("TurnedBarModel", "drs", "[I", true)
  | 7 => ("TurnedBarModel", "chosen", "I", false)
  | 8 => ("TurnedBarModel", "job", "[I", true)
  | 9 => ("TurnedBarModel", "planned", "Z", false)
  | 10 => ("TurnedBarModel", "moves", "I", false)
  | 11 => ("TurnedBarModel", "kinds", "[I", true)
  | 12 => ("TurnedBarModel", "directions", "[I", true)
  | 13 => ("TurnedBarModel", "counts", "[I", true)
  | 14 => ("TurnedBarModel", "trialKinds", "[I", true)
  | 15 => ("TurnedBarModel", "trialDirections", "[I", true)
  | 16 => ("TurnedBarModel", "trialCounts", "[I", true)
  | 17 => ("TurnedBarModel", "remains", "I", false)
  | 18 => ("TurnedBarModel", "simulated", "Z", false)
  | 19 => ("TurnedBarModel", "seen", "[Z", true)
  | 20 => ("TurnedBarModel", "stock", "[Z", true)
  | 21 => ("TurnedBarModel", "inReach", "[Z", true)
  | 22 => ("TurnedBarModel", "from", "[I", true)
  | 23 => ("TurnedBarModel", "back", "[I", true)
  | 24 => ("TurnedBarModel", "insert", "I", false)
  | 25 => ("TurnedBarModel", "row", "I", false)
  | 26 => ("TurnedBarModel", "where", "I", false)
  | _ => ("TurnedBarModel", "cut", "I", false)
def tD : Nat → FieldType := fun k => match k with
  | 0 => .int
  | 1 => .int
  | 2 => .int
  | 3 => .array .int
  | 4 => .array .int
  | 5 => .array .int
  | 6 => .array .int
  | 7 => .int
  | 8 => .array .int
  | 9 => .boolean
  | 10 => .int
  | 11 => .array .int
  | 12 => .array .int
  | 13 => .array .int
  | 14 => .array .int
  | 15 => .array .int
  | 16 => .array .int
  | 17 => .int
  | 18 => .boolean
  | 19 => .array .boolean
  | 20 => .array .boolean
  | 21 => .array .boolean
  | 22 => .array .int
  | 23 => .array .int
  | 24 => .int
  | 25 => .int
  | 26 => .int
  | _ => .int
theorem nD_ok : ∀ a, a < 28 → ∀ b, b < 28 → a ≠ b → (FD a).2.1 ≠ (FD b).2.1 := by decide +kernel
theorem tD_ok : ∀ k, k < 28 → parseFieldDescriptor (FD k).2.2.1 = some (tD k) := by decide +kernel
def RL : String := "TurnedBarLaw"
def RA : String := "java/util/Arrays"
abbrev vwCl : List vw_C := [(RB, FB, 4), (RI, FI, 3), (RJ, FJ, 3), (RM, FM, 2), (RP, FP, 6), (RR, FR, 7), (RS, FS, 1), (RW, FW, 5), (RT, FT, 12), (RD, FD, 28)]
def cx_nest : List Cond := [(Cond.methodLinkNest "TurnedBar" (11 : Nat) ({ cls := "TurnedBar$Blank", name := "<init>", desc := "()V" } : MethodName) "TurnedBar"), (Cond.methodLinkNest "TurnedBar" (18 : Nat) ({ cls := "TurnedBar$Insert", name := "<init>", desc := "()V" } : MethodName) "TurnedBar"), (Cond.methodLinkNest "TurnedBar" (34 : Nat) ({ cls := "TurnedBar$Moves", name := "<init>", desc := "()V" } : MethodName) "TurnedBar"), (Cond.methodLinkNest "TurnedBar" (44 : Nat) ({ cls := "TurnedBar$Stock", name := "<init>", desc := "()V" } : MethodName) "TurnedBar"), (Cond.methodLinkNest "TurnedBar$Blank" (25 : Nat) ({ cls := "TurnedBar", name := "isCell", desc := "(II)Z" } : MethodName) "TurnedBar"), (Cond.methodLinkNest "TurnedBar$Ways" (37 : Nat) ({ cls := "TurnedBar", name := "zOf", desc := "(I)I" } : MethodName) "TurnedBar"), (Cond.fieldLinkNest "TurnedBar$Ways" (56 : Nat) "TurnedBar" "STEP_Z" "[I" "TurnedBar"), (Cond.methodLinkNest "TurnedBar$Ways" (41 : Nat) ({ cls := "TurnedBar", name := "rOf", desc := "(I)I" } : MethodName) "TurnedBar"), (Cond.fieldLinkNest "TurnedBar$Ways" (59 : Nat) "TurnedBar" "STEP_R" "[I" "TurnedBar"), (Cond.methodLinkNest "TurnedBar$Ways" (71 : Nat) ({ cls := "TurnedBar", name := "isPosition", desc := "(II)Z" } : MethodName) "TurnedBar"), (Cond.methodLinkNest "TurnedBar$Ways" (62 : Nat) ({ cls := "TurnedBar", name := "positionOf", desc := "(II)I" } : MethodName) "TurnedBar"), (Cond.methodLinkNest "TurnedBar$Stock" (21 : Nat) ({ cls := "TurnedBar", name := "isCell", desc := "(II)Z" } : MethodName) "TurnedBar"), (Cond.methodLinkNest "TurnedBar$Planner" (74 : Nat) ({ cls := "TurnedBar", name := "zOf", desc := "(I)I" } : MethodName) "TurnedBar"), (Cond.methodLinkNest "TurnedBar$Planner" (78 : Nat) ({ cls := "TurnedBar", name := "rOf", desc := "(I)I" } : MethodName) "TurnedBar"), (Cond.methodLinkNest "TurnedBar$Run" (83 : Nat) ({ cls := "TurnedBar", name := "zOf", desc := "(I)I" } : MethodName) "TurnedBar"), (Cond.methodLinkNest "TurnedBar$Run" (86 : Nat) ({ cls := "TurnedBar", name := "rOf", desc := "(I)I" } : MethodName) "TurnedBar"), (Cond.fieldLinkNest "TurnedBar$Run" (93 : Nat) "TurnedBar" "STEP_Z" "[I" "TurnedBar"), (Cond.fieldLinkNest "TurnedBar$Run" (96 : Nat) "TurnedBar" "STEP_R" "[I" "TurnedBar"), (Cond.methodLinkNest "TurnedBar$Run" (99 : Nat) ({ cls := "TurnedBar", name := "isPosition", desc := "(II)Z" } : MethodName) "TurnedBar")]
theorem cx_nest_in : ∀ w ∈ cx_nest, w ∈ tables_1 := by decide +kernel
end
section
/-! The walk of a method that makes no cell, over a fixed list of cells: 'Ev' (the machine at a pc, over a world) and 'Ct' (a contract), with one row an instruction. A world is a list of cells w; cell k lies at the address cxa G k; nobody makes cells. -/
/-- D; the classes of int[], boolean[], Insert[]; the cells' addresses; how many cells; the addresses of the static tables -/
abbrev cx_G : Type := va_G × (Nat → ClassId) × (Nat → Nat) × Nat × (Nat → Nat)
abbrev cxD (G : cx_G) : va_G := G.1
abbrev cxC (G : cx_G) : Nat → ClassId := G.2.1
abbrev cxa (G : cx_G) : Nat → Nat := G.2.2.1
abbrev cxn (G : cx_G) : Nat := G.2.2.2.1
abbrev cxt (G : cx_G) : Nat → Nat := G.2.2.2.2
def cx_tys (G : cx_G) : List (ClassId × FieldType) := [(cxC G 0, .int), (cxC G 1, .boolean), (cxC G 2, .object cx_El)]
def cx_lay (G : cx_G) (w : List va_E) : va_W := w.mapIdx (fun k e => (cxa G k, e))
theorem cx_lay_get {G : cx_G} {w : List va_E} {k : Nat} {e : va_E} (h : w[k]? = some e) : (cx_lay G w)[k]? = some (cxa G k, e) := by
  simp [cx_lay, h]
theorem cx_lay_of {G : cx_G} {w : List va_E} {k : Nat} {q : Nat × va_E} (h : (cx_lay G w)[k]? = some q) : w[k]? = some q.2 ∧ q.1 = cxa G k := by
  simp only [cx_lay, List.getElem?_mapIdx, Option.map_eq_some_iff] at h
  obtain ⟨e, h1, rfl⟩ := h
  exact ⟨h1, rfl⟩
theorem cx_lay_set {G : cx_G} {w : List va_E} {k : Nat} {e : va_E} : (cx_lay G w).set k (cxa G k, e) = cx_lay G (w.set k e) := by
  apply List.ext_getElem?
  intro i
  simp only [cx_lay, List.getElem?_set, List.getElem?_mapIdx, List.length_mapIdx]
  by_cases h : k = i
  · subst h
    by_cases h2 : k < w.length
    · simp [h2]
    · simp [h2]
  · simp [h]
def cx_A (G : cx_G) : Nat → Prop := fun q => ∃ k, k < cxn G ∧ q = cxa G k
def cx_inj (G : cx_G) : Prop := ∀ i j, i < cxn G → j < cxn G → cxa G i = cxa G j → i = j
theorem cx_D {G : cx_G} {w : List va_E} (hn : w.length = cxn G) (hi : cx_inj G) : va_D (cx_A G) (cx_lay G w) := by
  refine ⟨fun i j p q hp hq e => ?_, fun k q hk => ?_⟩
  · obtain ⟨a1, a2⟩ := cx_lay_of hp
    obtain ⟨b1, b2⟩ := cx_lay_of hq
    have l1 := (List.getElem?_eq_some_iff.mp a1).1
    have l2 := (List.getElem?_eq_some_iff.mp b1).1
    exact hi i j (by omega) (by omega) (by rw [← a2, ← b2]; exact e)
  · obtain ⟨a1, a2⟩ := cx_lay_of hk
    have l1 := (List.getElem?_eq_some_iff.mp a1).1
    exact ⟨k, by omega, a2⟩
/-- the static tables STEP_Z and STEP_R -/
def cx_stp (q j : Nat) : Int32 := match q, j with
  | 0, 0 => 1
  | 0, 1 => -1
  | 1, 2 => -1
  | 1, 3 => 1
  | _, _ => 0
def cx_stn (q : Nat) : String := match q with
  | 0 => "STEP_Z"
  | _ => "STEP_R"
def cx_St (G : cx_G) (U : State) (H : Heap) : Prop := ∀ q, q < 2 → va_Z "TurnedBar" (cx_stn q) "[I" (.ref (cxt G q)) (cx_A G) U H ∧ va_T .int (cxt G q) 4 (fun j => .int (cx_stp q j)) (cx_A G) U H
theorem cx_St.moved {G : cx_G} {u U : State} {H : Heap} (hvm : u.vm.Alike U.vm) (h : cx_St G u H) : cx_St G U H := fun q hq => ⟨va_Z.moved hvm (h q hq).1, va_T.moved hvm (h q hq).2⟩
theorem cx_St.kept {G : cx_G} {U : State} {H H1 : Heap} (h : cx_St G U H) (hq : ∀ a : Nat, a < H.size → ¬ cx_A G a → H1[a]? = H[a]?) : cx_St G U H1 := fun q h2 => ⟨va_Z.kept (h q h2).1 hq, va_T.kept (h q h2).2 hq⟩
/-- nest mates' links: they aren't among a method's words -/
def cx_N (U : State) : Prop := ∀ w ∈ cx_nest, va_Nw w U
def cx_isN (w : Cond) : Prop := (∃ a i b n d h, w = .fieldLinkNest a i b n d h) ∨ ∃ a i x h, w = .methodLinkNest a i x h
theorem cx_nest_ok : ∀ w ∈ cx_nest, cx_isN w := by
  have h : ∀ w ∈ cx_nest, (match w with | .fieldLinkNest .. => true | .methodLinkNest .. => true | _ => false) = true := by decide +kernel
  intro w hw
  have h1 := h w hw
  cases w <;> first | exact Or.inl ⟨_, _, _, _, _, _, rfl⟩ | exact Or.inr ⟨_, _, _, _, rfl⟩ | cases h1
theorem cx_N.warm {s U : State} (hn : ∀ w ∈ cx_nest, cx_isN w) (hW : s.WarmedH U.vm) (h : cx_N s) : cx_N U := fun w hw => by
  rcases hn w hw with ⟨a, i, b, n, d, q, rfl⟩ | ⟨a, i, x, q, rfl⟩
  · exact va_Nw.warmF hW (h _ hw)
  · exact va_Nw.warmM hW (h _ hw)
theorem cx_N.same {s U : State} (hn : ∀ w ∈ cx_nest, cx_isN w) (e : s.vm = U.vm) (h : cx_N s) : cx_N U := fun w hw => by
  rcases hn w hw with ⟨a, i, b, n, d, q, rfl⟩ | ⟨a, i, x, q, rfl⟩
  · exact va_Nw.same rfl e (h _ hw)
  · exact va_Nw.same rfl e (h _ hw)
def cx_Y (G : cx_G) (U : State) : Prop := va_K (cxD G) vwCl (cx_tys G) U ∧ cx_inj G ∧ cx_N U
def cx_pre (G : cx_G) (w : List va_E) (U : State) : Prop := w.length = cxn G ∧ va_P (cxD G) vwCl (cx_lay G w) U.heap ∧ cx_Y G U ∧ cx_St G U U.heap
def cx_Q (G : cx_G) (post : Option Value → List va_E → Prop) : Array Value → State → Outcome → State → Prop := fun _ st oc t =>
  (∃ (r : Option Value) (w' : List va_E), oc = .returned r ∧ post r w' ∧ w'.length = cxn G ∧ va_P (cxD G) vwCl (cx_lay G w') t.heap) ∧ va_F (cx_A G) st t
/-- a method: name, its place's name, code, maxLocals, return type, frames, words of locals -/
abbrev cx_M : Type := MethodName × String × ByteArray × Nat × Option FieldType × Nat × Nat
abbrev My (M : cx_M) : MethodName := M.1
abbrev Mo (M : cx_M) : String := M.2.1
abbrev Mc (M : cx_M) : ByteArray := M.2.2.1
abbrev Ml (M : cx_M) : Nat := M.2.2.2.1
abbrev Mr (M : cx_M) : Option FieldType := M.2.2.2.2.1
abbrev Mf (M : cx_M) : Nat := M.2.2.2.2.2.1
abbrev Mk (M : cx_M) : Nat := M.2.2.2.2.2.2
abbrev Mw (M : cx_M) : List Cond := Cond.code (My M) (Mc M) (Ml M) (Mr M) :: WS
abbrev cx_rm (M : cx_M) : Room := { frames := Mf M, cells := 0, slots := 0, locals := Mk M }
def Ct (G : cx_G) (M : cx_M) (av : List Value) (w : List va_E) (post : Option Value → List va_E → Prop) : Prop :=
  ∀ l : Launch, Met l (My M) (Mw M) (cx_rm M) (va_Pc av (cx_pre G w)) (cx_Q G post) 0 0 (cx_A G)
def cx_L (ls : Array Slot) (nL : Nat) (L : List (Option Value)) : Prop := ls.size = nL ∧ lv_wf ls ∧ ∀ (i : Nat) (v : Value), L[i]? = some (some v) → ls[i]? = some (.val v) ∧ v.category = 1
def cx_C (G : cx_G) (M : cx_M) (p : Program) (s : State) (m : MethodId) (args : Array Value) (meth : Method) (c : Code) : Prop :=
  p.tables.exec = Jvm.exec ∧ c.code = Mc M ∧ meth.sig.returnType = Mr M ∧ c.maxLocals = Ml M ∧ s.vm.findClass (Mo M) = some m.cls ∧ meth.locks = false ∧ (∀ w ∈ WS, w.before args s = true) ∧ cx_Y G s ∧ cx_St G s s.heap
/-- an end: room, cells and slots made so far, what is to hold behind -/
abbrev cx_E : Type := Room × Nat × Nat × (Array Value → List Frame → State → State → Prop)
def cx_ok (E : cx_E) : Prop := E.2.1 ≤ E.1.cells ∧ E.2.2.1 ≤ E.1.slots
/-- a method's end -/
def cx_e (G : cx_G) (M : cx_M) (post : Option Value → List va_E → Prop) : cx_E := (cx_rm M, 0, 0, fun args below s => MQ below (cx_Q G post) args s 0 0 (cx_A G))
def Ev (G : cx_G) (M : cx_M) (pc : Nat) (L : List (Option Value)) (S : List Value) (w : List va_E) (E : cx_E) : Prop :=
  ∀ (p : Program) (l : Launch) (e : Env) (s : State) (m : MethodId) (args : Array Value) (below : List Frame) (meth : Method) (c : Code) (H : Heap) (locs : List Loc) (ls : Array Slot),
    cx_ok E → cx_C G M p s m args meth c → w.length = cxn G → va_P (cxD G) vwCl (cx_lay G w) H → va_S (cx_A G) s.heap H locs → cx_L ls (Ml M) L →
    W p l e E.1 s m args below meth c H locs E.2.1 E.2.2.1 (E.2.2.2 args below s) (F0 m pc ls S)
/-! locals by their places -/
def cx_as (L : List (Option Value)) : List (Nat × Value) := (List.range L.length).filterMap (fun j => (L[j]?.getD none).map (fun v => (j, v)))
theorem cx_as_mem {L : List (Option Value)} {q : Nat × Value} : q ∈ cx_as L ↔ L[q.1]? = some (some q.2) := by
  obtain ⟨i, v⟩ := q
  simp only [cx_as, List.mem_filterMap, List.mem_range, Option.map_eq_some_iff, Prod.mk.injEq]
  constructor
  · rintro ⟨j, hj, u, hu, rfl, rfl⟩
    rw [List.getElem?_eq_getElem hj] at hu ⊢
    simpa using hu
  · intro h
    exact ⟨i, (List.getElem?_eq_some_iff.mp h).1, v, by rw [h]; rfl, rfl, rfl⟩
theorem cx_L.has {ls : Array Slot} {nL : Nat} {L : List (Option Value)} (h : cx_L ls nL L) : lv_has ls nL (cx_as L) :=
  ⟨h.1, h.2.1, fun q hq => (h.2.2 q.1 q.2 (cx_as_mem.mp hq)).1⟩
theorem cx_L.put {ls ls' : Array Slot} {nL i : Nat} {v : Value} {L : List (Option Value)} (h : cx_L ls nL L) (hv : v.category = 1)
    (h' : lv_has ls' nL ((i, v) :: (cx_as L).filter (fun q => !(q.1 == i) && !(q.1 + 1 == i && q.2.category == 2)))) : cx_L ls' nL (L.set i (some v)) := by
  refine ⟨h'.1, h'.2.1, fun j u hj => ?_⟩
  rw [List.getElem?_set] at hj
  by_cases e : i = j
  · subst e
    rw [if_pos rfl] at hj
    by_cases e2 : i < L.length
    · rw [if_pos e2] at hj
      have : v = u := by simpa using hj
      subst this
      exact ⟨h'.2.2 (i, v) List.mem_cons_self, hv⟩
    · rw [if_neg e2] at hj
      cases hj
  · rw [if_neg e] at hj
    have hc := (h.2.2 j u hj).2
    refine ⟨h'.2.2 (j, u) (List.mem_cons_of_mem _ (List.mem_filter.mpr ⟨cx_as_mem.mpr hj, ?_⟩)), hc⟩
    have e' : ¬ j = i := fun q => e q.symm
    simp [e', hc]
theorem cx_L.entry (vs : List Value) {n : Nat} (hc : vs.all (fun v => v.category == 1) = true) (h : vs.length ≤ n) : cx_L ((lg_sl vs ++ List.replicate (n - (lg_sl vs).length) Slot.unset).toArray) n (vs.map some ++ List.replicate (n - vs.length) none) := by
  have hsl : lg_sl vs = vs.map Slot.val := by
    clear h
    induction vs with
    | nil => rfl
    | cons v vs ih =>
      rw [List.all_cons, Bool.and_eq_true] at hc
      have h1 : ¬ v.category = 2 := by have := hc.1; simp at this; omega
      have h2 := ih hc.2
      simp only [lg_sl] at h2
      simp [lg_sl, h1, h2]
  have hl : (lg_sl vs).length ≤ n := by rw [hsl]; simpa using h
  have h0 := lv_entry vs hl
  refine ⟨h0.1, h0.2.1, fun i v hi => ?_⟩
  by_cases hlt : i < vs.length
  · rw [List.getElem?_append_left (by simpa using hlt)] at hi
    simp only [List.getElem?_map, Option.map_eq_some_iff, Option.some.injEq] at hi
    obtain ⟨u, hu, rfl⟩ := hi
    refine ⟨?_, ?_⟩
    · simp only [List.getElem?_toArray]
      rw [List.getElem?_append_left (by rw [hsl]; simpa using hlt), hsl]
      simp [hu]
    · have := List.all_eq_true.mp hc u (List.mem_of_getElem? hu)
      simpa using this
  · rw [List.getElem?_append_right (by simpa using hlt)] at hi
    have := List.eq_of_mem_replicate (List.mem_of_getElem? hi)
    cases this
/-! a method's beginning -/
theorem Ct.of {G : cx_G} {M : cx_M} {av : List Value} {w : List va_E} {post : Option Value → List va_E → Prop} (hy : plainName (My M).cls = true) (ho : (My M).cls = Mo M) (hav : av.all (fun v => v.category == 1) = true) (hlen : av.length ≤ Ml M)
    (k : Ev G M 0 (av.map some ++ List.replicate (Ml M - av.length) none) [] w (cx_e G M post)) : Ct G M av w post := by
  intro l
  refine Met.ofW (cc := Mc M) (maxL := Ml M) (ret := Mr M) hy rfl ?_
  intro p e s m args below meth c s₁ B hml hv
  obtain ⟨rfl, hn, hP, hY, hSt⟩ := hv
  have hown : s.vm.findClass (Mo M) = some m.cls := by rw [← ho]; exact findClass_of_methodNamed B.named
  rw [lg_entry_eq]
  exact k p l e s m _ below meth c s.heap [] _ ⟨Nat.le_refl _, Nat.le_refl _⟩ ⟨B.exec, B.bytes, B.returns, hml, hown, B.notSynchronized, fun w hw => atoms_spec (ws := Mw M) B.pre w (List.mem_cons_of_mem _ hw), hY, hSt⟩ hn hP va_S.rf (cx_L.entry av hav hlen)
theorem Ct.mono {G : cx_G} {M : cx_M} {av : List Value} {w : List va_E} {post post' : Option Value → List va_E → Prop} (h : Ct G M av w post) (hi : ∀ r w', post r w' → post' r w') : Ct G M av w post' := by
  intro l p e ha hc hk s m args below hf happ hP hK
  obtain ⟨t, o, h1, h2, h3, ⟨⟨r, w', a1, a2, a3, a4⟩, a5⟩, a6⟩ := h l p e ha hc hk s m args below hf happ hP hK
  exact ⟨t, o, h1, h2, h3, ⟨⟨r, w', a1, hi r w' a2, a3, a4⟩, a5⟩, a6⟩
end
section
/-! one row an instruction -/
def bI : Bool → Int32
  | true => 1
  | false => 0
theorem cx_blind {G : cx_G} {av : List Value} {w : List va_E} : FrameBlind (va_Pc av (cx_pre G w)) := fun a U g mk q => by
  obtain ⟨q0, hn, hP, ⟨hK, hi, hN⟩, hSt⟩ := q
  exact ⟨q0, hn, hP, ⟨va_K.moved (u := U) (U := U.calling g mk a) (Vm.Alike.refl U.vm) hK, hi, cx_N.same (s := U) (U := U.calling g mk a) cx_nest_ok rfl hN⟩, cx_St.moved (u := U) (U := U.calling g mk a) (Vm.Alike.refl U.vm) hSt⟩
theorem i0_z : (0 : Int32).toInt = 0 := by decide
theorem i0_eq (x : Int32) : x.toInt = 0 ↔ x = 0 := by rw [← i0_z]; exact Int32.toInt_inj
theorem i0_ne (x : Int32) : x.toInt = 0 ↔ x = 0 := i0_eq x
theorem i0_lt (x : Int32) : x.toInt < 0 ↔ x < 0 := by rw [← i0_z]; exact Int32.lt_iff_toInt_lt.symm
theorem i0_ge (x : Int32) : 0 ≤ x.toInt ↔ 0 ≤ x := by rw [← i0_z]; exact Int32.le_iff_toInt_le.symm
theorem i0_gt (x : Int32) : 0 < x.toInt ↔ 0 < x := by rw [← i0_z]; exact Int32.lt_iff_toInt_lt.symm
theorem i0_le (x : Int32) : x.toInt ≤ 0 ↔ x ≤ 0 := by rw [← i0_z]; exact Int32.le_iff_toInt_le.symm
section EvRows
variable {G : cx_G} {M M' : cx_M} {pc : Nat} {L : List (Option Value)} {S st : List Value} {w w' : List va_E} {post post1 : Option Value → List va_E → Prop} {E : cx_E}
theorem Ev.world (h : w = w') (k : Ev G M pc L S w' E) : Ev G M pc L S w E := h ▸ k
theorem Ev.mono {post' : Option Value → List va_E → Prop} (k : Ev G M pc L S w (cx_e G M post')) (hi : ∀ r w', post' r w' → post r w') : Ev G M pc L S w (cx_e G M post) := by
  intro p l e s m args below meth c H locs ls hE hC hw hP hS hL T hT X
  obtain ⟨t, h0, o, h1, h2, ⟨⟨r, w', a1, a2, a3, a4⟩, a5⟩, a6⟩ := k p l e s m args below meth c H locs ls hE hC hw hP hS hL T hT X
  exact ⟨t, h0, o, h1, h2, ⟨⟨r, w', a1, hi r w' a2, a3, a4⟩, a5⟩, a6⟩
theorem Ev.iconst {n : Int} {v : Int32} (d : decode (Mc M) pc = .ok (.iconst n, 1)) (hv : Int32.ofInt n = v) (k : Ev G M (pc + 1) L (.int v :: S) w E) : Ev G M pc L S w E := by
  intro p l e s m args below meth c H locs ls hE hC hw hP hS hL
  exact lv_iconst hC.1 hC.2.1 d hv (k p l e s m args below meth c H locs ls hE hC hw hP hS hL)
theorem Ev.bipush {n : Int} {v : Int32} (d : decode (Mc M) pc = .ok (.bipush n, 2)) (hv : (Int8.ofInt n).toInt32 = v) (k : Ev G M (pc + 2) L (.int v :: S) w E) : Ev G M pc L S w E := by
  intro p l e s m args below meth c H locs ls hE hC hw hP hS hL
  exact lv_bipush hC.1 hC.2.1 d hv (k p l e s m args below meth c H locs ls hE hC hw hP hS hL)
theorem Ev.sipush {n : Int} {v : Int32} (d : decode (Mc M) pc = .ok (.sipush n, 3)) (hv : (Int16.ofInt n).toInt32 = v) (k : Ev G M (pc + 3) L (.int v :: S) w E) : Ev G M pc L S w E := by
  intro p l e s m args below meth c H locs ls hE hC hw hP hS hL
  exact lv_sipush hC.1 hC.2.1 d hv (k p l e s m args below meth c H locs ls hE hC hw hP hS hL)
theorem Ev.ldc {index : Nat} {v : Int32} (d : decode (Mc M) pc = .ok (.ldc index, 2)) (hc : Cond.constant (Mo M) index v ∈ WS) (k : Ev G M (pc + 2) L (.int v :: S) w E) : Ev G M pc L S w E := by
  intro p l e s m args below meth c H locs ls hE hC hw hP hS hL
  exact lv_ldc hC.1 hC.2.1 hC.2.2.2.2.1 (hC.2.2.2.2.2.2.1 _ hc) d (k p l e s m args below meth c H locs ls hE hC hw hP hS hL)
theorem Ev.iload_n {j : Fin 4} {i : Nat} {x : Int32} (d : decode (Mc M) pc = .ok (.iload_n j, 1)) (hi : (j : Nat) = i) (hl : L[i]? = some (some (.int x))) (k : Ev G M (pc + 1) L (.int x :: S) w E) : Ev G M pc L S w E := by
  intro p l e s m args below meth c H locs ls hE hC hw hP hS hL
  exact lv_iload_n hC.1 hC.2.1 d hi (hL.2.2 _ _ hl).1 (k p l e s m args below meth c H locs ls hE hC hw hP hS hL)
theorem Ev.iload {j : Nat} {x : Int32} (d : decode (Mc M) pc = .ok (.iload j, 2)) (hl : L[j]? = some (some (.int x))) (k : Ev G M (pc + 2) L (.int x :: S) w E) : Ev G M pc L S w E := by
  intro p l e s m args below meth c H locs ls hE hC hw hP hS hL
  exact lv_iload hC.1 hC.2.1 d (hL.2.2 _ _ hl).1 (k p l e s m args below meth c H locs ls hE hC hw hP hS hL)
theorem Ev.aload_n {j : Fin 4} {i : Nat} {x : Nat} (d : decode (Mc M) pc = .ok (.aload_n j, 1)) (hi : (j : Nat) = i) (hl : L[i]? = some (some (.ref x))) (k : Ev G M (pc + 1) L (.ref x :: S) w E) : Ev G M pc L S w E := by
  intro p l e s m args below meth c H locs ls hE hC hw hP hS hL
  exact lv_aload_n hC.1 hC.2.1 d hi (hL.2.2 _ _ hl).1 (k p l e s m args below meth c H locs ls hE hC hw hP hS hL)
theorem Ev.aload {j : Nat} {x : Nat} (d : decode (Mc M) pc = .ok (.aload j, 2)) (hl : L[j]? = some (some (.ref x))) (k : Ev G M (pc + 2) L (.ref x :: S) w E) : Ev G M pc L S w E := by
  intro p l e s m args below meth c H locs ls hE hC hw hP hS hL
  exact lv_aload hC.1 hC.2.1 d (hL.2.2 _ _ hl).1 (k p l e s m args below meth c H locs ls hE hC hw hP hS hL)
theorem Ev.istore_n {j : Fin 4} {i : Nat} {x : Int32} (d : decode (Mc M) pc = .ok (.istore_n j, 1)) (hi : (j : Nat) = i) (hn : i < Ml M) (k : Ev G M (pc + 1) (L.set i (some (.int x))) S w E) : Ev G M pc L (.int x :: S) w E := by
  intro p l e s m args below meth c H locs ls hE hC hw hP hS hL
  exact lv_istore_n hC.1 hC.2.1 d hi hL.has hn rfl (fun ls' h' => k p l e s m args below meth c H locs ls' hE hC hw hP hS (hL.put rfl h'))
theorem Ev.istore {j : Nat} {x : Int32} (d : decode (Mc M) pc = .ok (.istore j, 2)) (hn : j < Ml M) (k : Ev G M (pc + 2) (L.set j (some (.int x))) S w E) : Ev G M pc L (.int x :: S) w E := by
  intro p l e s m args below meth c H locs ls hE hC hw hP hS hL
  exact lv_istore hC.1 hC.2.1 d hL.has hn rfl (fun ls' h' => k p l e s m args below meth c H locs ls' hE hC hw hP hS (hL.put rfl h'))
theorem Ev.astore_n {j : Fin 4} {i : Nat} {x : Nat} (d : decode (Mc M) pc = .ok (.astore_n j, 1)) (hi : (j : Nat) = i) (hn : i < Ml M) (k : Ev G M (pc + 1) (L.set i (some (.ref x))) S w E) : Ev G M pc L (.ref x :: S) w E := by
  intro p l e s m args below meth c H locs ls hE hC hw hP hS hL
  exact lv_astore_n hC.1 hC.2.1 d hi hL.has hn rfl (fun ls' h' => k p l e s m args below meth c H locs ls' hE hC hw hP hS (hL.put rfl h'))
theorem Ev.astore {j : Nat} {x : Nat} (d : decode (Mc M) pc = .ok (.astore j, 2)) (hn : j < Ml M) (k : Ev G M (pc + 2) (L.set j (some (.ref x))) S w E) : Ev G M pc L (.ref x :: S) w E := by
  intro p l e s m args below meth c H locs ls hE hC hw hP hS hL
  exact lv_astore hC.1 hC.2.1 d hL.has hn rfl (fun ls' h' => k p l e s m args below meth c H locs ls' hE hC hw hP hS (hL.put rfl h'))
theorem Ev.iinc {j : Nat} {n : Int} {x v : Int32} (d : decode (Mc M) pc = .ok (.iinc j n, 3)) (hl : L[j]? = some (some (.int x))) (hv : x + Int32.ofInt n = v) (hn : j < Ml M) (k : Ev G M (pc + 3) (L.set j (some (.int v))) S w E) : Ev G M pc L S w E := by
  intro p l e s m args below meth c H locs ls hE hC hw hP hS hL
  obtain ⟨q, hq⟩ := List.getElem?_of_mem ((cx_as_mem (L := L) (q := (j, Value.int x))).mpr hl)
  exact lv_iinc hC.1 hC.2.1 d hL.has hq hv hn rfl (fun ls' h' => k p l e s m args below meth c H locs ls' hE hC hw hP hS (hL.put rfl h'))
theorem Ev.iadd {x y : Int32} (d : decode (Mc M) pc = .ok (.iadd, 1)) (k : Ev G M (pc + 1) L (.int (x + y) :: S) w E) : Ev G M pc L (.int y :: .int x :: S) w E := by
  intro p l e s m args below meth c H locs ls hE hC hw hP hS hL
  exact lv_iadd hC.1 hC.2.1 d (k p l e s m args below meth c H locs ls hE hC hw hP hS hL)
theorem Ev.isub {x y : Int32} (d : decode (Mc M) pc = .ok (.isub, 1)) (k : Ev G M (pc + 1) L (.int (x - y) :: S) w E) : Ev G M pc L (.int y :: .int x :: S) w E := by
  intro p l e s m args below meth c H locs ls hE hC hw hP hS hL
  exact lv_isub hC.1 hC.2.1 d (k p l e s m args below meth c H locs ls hE hC hw hP hS hL)
theorem Ev.imul {x y : Int32} (d : decode (Mc M) pc = .ok (.imul, 1)) (k : Ev G M (pc + 1) L (.int (x * y) :: S) w E) : Ev G M pc L (.int y :: .int x :: S) w E := by
  intro p l e s m args below meth c H locs ls hE hC hw hP hS hL
  exact lv_imul hC.1 hC.2.1 d (k p l e s m args below meth c H locs ls hE hC hw hP hS hL)
theorem Ev.iand {x y : Int32} (d : decode (Mc M) pc = .ok (.iand, 1)) (k : Ev G M (pc + 1) L (.int (x &&& y) :: S) w E) : Ev G M pc L (.int y :: .int x :: S) w E := by
  intro p l e s m args below meth c H locs ls hE hC hw hP hS hL
  exact lv_iand hC.1 hC.2.1 d (k p l e s m args below meth c H locs ls hE hC hw hP hS hL)
theorem Ev.ior {x y : Int32} (d : decode (Mc M) pc = .ok (.ior, 1)) (k : Ev G M (pc + 1) L (.int (x ||| y) :: S) w E) : Ev G M pc L (.int y :: .int x :: S) w E := by
  intro p l e s m args below meth c H locs ls hE hC hw hP hS hL
  exact lv_ior hC.1 hC.2.1 d (k p l e s m args below meth c H locs ls hE hC hw hP hS hL)
theorem Ev.ishl {x y : Int32} (d : decode (Mc M) pc = .ok (.ishl, 1)) (k : Ev G M (pc + 1) L (.int (x <<< (y &&& 31)) :: S) w E) : Ev G M pc L (.int y :: .int x :: S) w E := by
  intro p l e s m args below meth c H locs ls hE hC hw hP hS hL
  exact lv_ishl hC.1 hC.2.1 d (k p l e s m args below meth c H locs ls hE hC hw hP hS hL)
theorem Ev.ishr {x y : Int32} (d : decode (Mc M) pc = .ok (.ishr, 1)) (k : Ev G M (pc + 1) L (.int (x >>> (y &&& 31)) :: S) w E) : Ev G M pc L (.int y :: .int x :: S) w E := by
  intro p l e s m args below meth c H locs ls hE hC hw hP hS hL
  exact lv_ishr hC.1 hC.2.1 d (k p l e s m args below meth c H locs ls hE hC hw hP hS hL)
theorem Ev.idiv {x y : Int32} (d : decode (Mc M) pc = .ok (.idiv, 1)) (hne : ¬ y = 0) (k : Ev G M (pc + 1) L (.int (x / y) :: S) w E) : Ev G M pc L (.int y :: .int x :: S) w E := by
  intro p l e s m args below meth c H locs ls hE hC hw hP hS hL
  exact lv_idiv hC.1 hC.2.1 d hne (k p l e s m args below meth c H locs ls hE hC hw hP hS hL)
theorem Ev.irem {x y : Int32} (d : decode (Mc M) pc = .ok (.irem, 1)) (hne : ¬ y = 0) (k : Ev G M (pc + 1) L (.int (x - x / y * y) :: S) w E) : Ev G M pc L (.int y :: .int x :: S) w E := by
  intro p l e s m args below meth c H locs ls hE hC hw hP hS hL
  exact lv_irem hC.1 hC.2.1 d hne (k p l e s m args below meth c H locs ls hE hC hw hP hS hL)
theorem Ev.topi {x y : Int32} (h : x = y) (k : Ev G M pc L (.int y :: S) w E) : Ev G M pc L (.int x :: S) w E := h ▸ k
theorem Ev.dup {v : Value} (d : decode (Mc M) pc = .ok (.dup, 1)) (hv : v.category = 1) (k : Ev G M (pc + 1) L (v :: v :: S) w E) : Ev G M pc L (v :: S) w E := by
  intro p l e s m args below meth c H locs ls hE hC hw hP hS hL
  exact lv_dup hC.1 hC.2.1 d hv (k p l e s m args below meth c H locs ls hE hC hw hP hS hL)
theorem Ev.pop {v : Value} (d : decode (Mc M) pc = .ok (.pop, 1)) (hv : v.category = 1) (k : Ev G M (pc + 1) L S w E) : Ev G M pc L (v :: S) w E := by
  intro p l e s m args below meth c H locs ls hE hC hw hP hS hL
  exact lv_pop hC.1 hC.2.1 d hv (k p l e s m args below meth c H locs ls hE hC hw hP hS hL)
theorem Ev.dup_x1 {v u : Value} (d : decode (Mc M) pc = .ok (.dup_x1, 1)) (hv : v.category = 1) (hu : u.category = 1) (k : Ev G M (pc + 1) L (v :: u :: v :: S) w E) : Ev G M pc L (v :: u :: S) w E := by
  intro p l e s m args below meth c H locs ls hE hC hw hP hS hL
  exact lv_dup_x1 hC.1 hC.2.1 d hv hu (k p l e s m args below meth c H locs ls hE hC hw hP hS hL)
theorem Ev.dup_x2 {v u t : Value} (d : decode (Mc M) pc = .ok (.dup_x2, 1)) (hv : v.category = 1) (hu : u.category = 1) (ht : t.category = 1) (k : Ev G M (pc + 1) L (v :: u :: t :: v :: S) w E) : Ev G M pc L (v :: u :: t :: S) w E := by
  intro p l e s m args below meth c H locs ls hE hC hw hP hS hL
  exact lv_dup_x2 hC.1 hC.2.1 d hv hu ht (k p l e s m args below meth c H locs ls hE hC hw hP hS hL)
theorem Ev.dup2 {v u : Value} (d : decode (Mc M) pc = .ok (.dup2, 1)) (hv : v.category = 1) (hu : u.category = 1) (k : Ev G M (pc + 1) L (v :: u :: v :: u :: S) w E) : Ev G M pc L (v :: u :: S) w E := by
  intro p l e s m args below meth c H locs ls hE hC hw hP hS hL
  exact lv_dup2_11 hC.1 hC.2.1 d hv hu (k p l e s m args below meth c H locs ls hE hC hw hP hS hL)
theorem Ev.if_eq {x : Int32} {off : Int} {tgt : Nat} (d : decode (Mc M) pc = .ok (.ifCond .eq off, 3)) (ht : (pc : Int) + off = (tgt : Int)) (kt : x.toInt = 0 → Ev G M tgt L S w E) (kf : ¬ x.toInt = 0 → Ev G M (pc + 3) L S w E) : Ev G M pc L (.int x :: S) w E := by
  intro p l e s m args below meth c H locs ls hE hC hw hP hS hL
  exact lv_if_eq hC.1 hC.2.1 d ht (fun h => kt ((i0_eq x).mpr h) p l e s m args below meth c H locs ls hE hC hw hP hS hL) (fun h => kf (fun q => h ((i0_eq x).mp q)) p l e s m args below meth c H locs ls hE hC hw hP hS hL)
theorem Ev.icmp_eq {x y : Int32} {off : Int} {tgt : Nat} (d : decode (Mc M) pc = .ok (.if_icmp .eq off, 3)) (ht : (pc : Int) + off = (tgt : Int)) (kt : x.toInt = y.toInt → Ev G M tgt L S w E) (kf : ¬ x.toInt = y.toInt → Ev G M (pc + 3) L S w E) : Ev G M pc L (.int y :: .int x :: S) w E := by
  intro p l e s m args below meth c H locs ls hE hC hw hP hS hL
  exact lv_icmp_eq hC.1 hC.2.1 d ht (fun h => kt ((show x.toInt = y.toInt ↔ x = y from Int32.toInt_inj).mpr h) p l e s m args below meth c H locs ls hE hC hw hP hS hL) (fun h => kf (fun q => h ((show x.toInt = y.toInt ↔ x = y from Int32.toInt_inj).mp q)) p l e s m args below meth c H locs ls hE hC hw hP hS hL)
theorem Ev.if_ne {x : Int32} {off : Int} {tgt : Nat} (d : decode (Mc M) pc = .ok (.ifCond .ne off, 3)) (ht : (pc : Int) + off = (tgt : Int)) (kt : ¬ x.toInt = 0 → Ev G M tgt L S w E) (kf : x.toInt = 0 → Ev G M (pc + 3) L S w E) : Ev G M pc L (.int x :: S) w E := by
  intro p l e s m args below meth c H locs ls hE hC hw hP hS hL
  exact lv_if_ne hC.1 hC.2.1 d ht (fun h => kt (fun q => h ((i0_ne x).mp q)) p l e s m args below meth c H locs ls hE hC hw hP hS hL) (fun h => kf ((i0_ne x).mpr h) p l e s m args below meth c H locs ls hE hC hw hP hS hL)
theorem Ev.icmp_ne {x y : Int32} {off : Int} {tgt : Nat} (d : decode (Mc M) pc = .ok (.if_icmp .ne off, 3)) (ht : (pc : Int) + off = (tgt : Int)) (kt : ¬ x.toInt = y.toInt → Ev G M tgt L S w E) (kf : x.toInt = y.toInt → Ev G M (pc + 3) L S w E) : Ev G M pc L (.int y :: .int x :: S) w E := by
  intro p l e s m args below meth c H locs ls hE hC hw hP hS hL
  exact lv_icmp_ne hC.1 hC.2.1 d ht (fun h => kt (fun q => h ((show x.toInt = y.toInt ↔ x = y from Int32.toInt_inj).mp q)) p l e s m args below meth c H locs ls hE hC hw hP hS hL) (fun h => kf ((show x.toInt = y.toInt ↔ x = y from Int32.toInt_inj).mpr h) p l e s m args below meth c H locs ls hE hC hw hP hS hL)
theorem Ev.if_lt {x : Int32} {off : Int} {tgt : Nat} (d : decode (Mc M) pc = .ok (.ifCond .lt off, 3)) (ht : (pc : Int) + off = (tgt : Int)) (kt : x.toInt < 0 → Ev G M tgt L S w E) (kf : ¬ x.toInt < 0 → Ev G M (pc + 3) L S w E) : Ev G M pc L (.int x :: S) w E := by
  intro p l e s m args below meth c H locs ls hE hC hw hP hS hL
  exact lv_if_lt hC.1 hC.2.1 d ht (fun h => kt ((i0_lt x).mpr h) p l e s m args below meth c H locs ls hE hC hw hP hS hL) (fun h => kf (fun q => h ((i0_lt x).mp q)) p l e s m args below meth c H locs ls hE hC hw hP hS hL)
theorem Ev.icmp_lt {x y : Int32} {off : Int} {tgt : Nat} (d : decode (Mc M) pc = .ok (.if_icmp .lt off, 3)) (ht : (pc : Int) + off = (tgt : Int)) (kt : x.toInt < y.toInt → Ev G M tgt L S w E) (kf : ¬ x.toInt < y.toInt → Ev G M (pc + 3) L S w E) : Ev G M pc L (.int y :: .int x :: S) w E := by
  intro p l e s m args below meth c H locs ls hE hC hw hP hS hL
  exact lv_icmp_lt hC.1 hC.2.1 d ht (fun h => kt ((show x.toInt < y.toInt ↔ x < y from Int32.lt_iff_toInt_lt.symm).mpr h) p l e s m args below meth c H locs ls hE hC hw hP hS hL) (fun h => kf (fun q => h ((show x.toInt < y.toInt ↔ x < y from Int32.lt_iff_toInt_lt.symm).mp q)) p l e s m args below meth c H locs ls hE hC hw hP hS hL)
theorem Ev.if_ge {x : Int32} {off : Int} {tgt : Nat} (d : decode (Mc M) pc = .ok (.ifCond .ge off, 3)) (ht : (pc : Int) + off = (tgt : Int)) (kt : 0 ≤ x.toInt → Ev G M tgt L S w E) (kf : ¬ 0 ≤ x.toInt → Ev G M (pc + 3) L S w E) : Ev G M pc L (.int x :: S) w E := by
  intro p l e s m args below meth c H locs ls hE hC hw hP hS hL
  exact lv_if_ge hC.1 hC.2.1 d ht (fun h => kt ((i0_ge x).mpr h) p l e s m args below meth c H locs ls hE hC hw hP hS hL) (fun h => kf (fun q => h ((i0_ge x).mp q)) p l e s m args below meth c H locs ls hE hC hw hP hS hL)
theorem Ev.icmp_ge {x y : Int32} {off : Int} {tgt : Nat} (d : decode (Mc M) pc = .ok (.if_icmp .ge off, 3)) (ht : (pc : Int) + off = (tgt : Int)) (kt : y.toInt ≤ x.toInt → Ev G M tgt L S w E) (kf : ¬ y.toInt ≤ x.toInt → Ev G M (pc + 3) L S w E) : Ev G M pc L (.int y :: .int x :: S) w E := by
  intro p l e s m args below meth c H locs ls hE hC hw hP hS hL
  exact lv_icmp_ge hC.1 hC.2.1 d ht (fun h => kt ((show y.toInt ≤ x.toInt ↔ y ≤ x from Int32.le_iff_toInt_le.symm).mpr h) p l e s m args below meth c H locs ls hE hC hw hP hS hL) (fun h => kf (fun q => h ((show y.toInt ≤ x.toInt ↔ y ≤ x from Int32.le_iff_toInt_le.symm).mp q)) p l e s m args below meth c H locs ls hE hC hw hP hS hL)
theorem Ev.if_gt {x : Int32} {off : Int} {tgt : Nat} (d : decode (Mc M) pc = .ok (.ifCond .gt off, 3)) (ht : (pc : Int) + off = (tgt : Int)) (kt : 0 < x.toInt → Ev G M tgt L S w E) (kf : ¬ 0 < x.toInt → Ev G M (pc + 3) L S w E) : Ev G M pc L (.int x :: S) w E := by
  intro p l e s m args below meth c H locs ls hE hC hw hP hS hL
  exact lv_if_gt hC.1 hC.2.1 d ht (fun h => kt ((i0_gt x).mpr h) p l e s m args below meth c H locs ls hE hC hw hP hS hL) (fun h => kf (fun q => h ((i0_gt x).mp q)) p l e s m args below meth c H locs ls hE hC hw hP hS hL)
theorem Ev.icmp_gt {x y : Int32} {off : Int} {tgt : Nat} (d : decode (Mc M) pc = .ok (.if_icmp .gt off, 3)) (ht : (pc : Int) + off = (tgt : Int)) (kt : y.toInt < x.toInt → Ev G M tgt L S w E) (kf : ¬ y.toInt < x.toInt → Ev G M (pc + 3) L S w E) : Ev G M pc L (.int y :: .int x :: S) w E := by
  intro p l e s m args below meth c H locs ls hE hC hw hP hS hL
  exact lv_icmp_gt hC.1 hC.2.1 d ht (fun h => kt ((show y.toInt < x.toInt ↔ y < x from Int32.lt_iff_toInt_lt.symm).mpr h) p l e s m args below meth c H locs ls hE hC hw hP hS hL) (fun h => kf (fun q => h ((show y.toInt < x.toInt ↔ y < x from Int32.lt_iff_toInt_lt.symm).mp q)) p l e s m args below meth c H locs ls hE hC hw hP hS hL)
theorem Ev.if_le {x : Int32} {off : Int} {tgt : Nat} (d : decode (Mc M) pc = .ok (.ifCond .le off, 3)) (ht : (pc : Int) + off = (tgt : Int)) (kt : x.toInt ≤ 0 → Ev G M tgt L S w E) (kf : ¬ x.toInt ≤ 0 → Ev G M (pc + 3) L S w E) : Ev G M pc L (.int x :: S) w E := by
  intro p l e s m args below meth c H locs ls hE hC hw hP hS hL
  exact lv_if_le hC.1 hC.2.1 d ht (fun h => kt ((i0_le x).mpr h) p l e s m args below meth c H locs ls hE hC hw hP hS hL) (fun h => kf (fun q => h ((i0_le x).mp q)) p l e s m args below meth c H locs ls hE hC hw hP hS hL)
theorem Ev.icmp_le {x y : Int32} {off : Int} {tgt : Nat} (d : decode (Mc M) pc = .ok (.if_icmp .le off, 3)) (ht : (pc : Int) + off = (tgt : Int)) (kt : x.toInt ≤ y.toInt → Ev G M tgt L S w E) (kf : ¬ x.toInt ≤ y.toInt → Ev G M (pc + 3) L S w E) : Ev G M pc L (.int y :: .int x :: S) w E := by
  intro p l e s m args below meth c H locs ls hE hC hw hP hS hL
  exact lv_icmp_le hC.1 hC.2.1 d ht (fun h => kt ((show x.toInt ≤ y.toInt ↔ x ≤ y from Int32.le_iff_toInt_le.symm).mpr h) p l e s m args below meth c H locs ls hE hC hw hP hS hL) (fun h => kf (fun q => h ((show x.toInt ≤ y.toInt ↔ x ≤ y from Int32.le_iff_toInt_le.symm).mp q)) p l e s m args below meth c H locs ls hE hC hw hP hS hL)
theorem bI_eq {b : Bool} : (bI b).toInt = 0 ↔ b = false := by cases b <;> decide
theorem Ev.if_eqB {b : Bool} {off : Int} {tgt : Nat} (d : decode (Mc M) pc = .ok (.ifCond .eq off, 3)) (ht : (pc : Int) + off = (tgt : Int)) (kt : b = false → Ev G M tgt L S w E) (kf : b = true → Ev G M (pc + 3) L S w E) : Ev G M pc L (.int (bI b) :: S) w E :=
  Ev.if_eq d ht (fun h => kt (bI_eq.mp h)) (fun h => kf (by cases b; exact absurd (bI_eq.mpr rfl) h; rfl))
theorem Ev.if_neB {b : Bool} {off : Int} {tgt : Nat} (d : decode (Mc M) pc = .ok (.ifCond .ne off, 3)) (ht : (pc : Int) + off = (tgt : Int)) (kt : b = true → Ev G M tgt L S w E) (kf : b = false → Ev G M (pc + 3) L S w E) : Ev G M pc L (.int (bI b) :: S) w E :=
  Ev.if_ne d ht (fun h => kt (by cases b; exact absurd (bI_eq.mpr rfl) h; rfl)) (fun h => kf (bI_eq.mp h))
theorem Ev.goto {off : Int} {tgt : Nat} (d : decode (Mc M) pc = .ok (.goto off, 3)) (ht : (pc : Int) + off = (tgt : Int)) (k : Ev G M tgt L S w E) : Ev G M pc L S w E := by
  intro p l e s m args below meth c H locs ls hE hC hw hP hS hL
  exact lv_goto hC.1 hC.2.1 d ht (k p l e s m args below meth c H locs ls hE hC hw hP hS hL)
theorem Ev.tableOut {dflt lo hi : Int} {offs : Array Int} {len : Nat} {x : Int32} {tgt : Nat} (d : decode (Mc M) pc = .ok (.tableswitch dflt lo hi offs, len)) (h : x.toInt < lo ∨ hi < x.toInt) (ht : (pc : Int) + dflt = (tgt : Int)) (k : Ev G M tgt L S w E) : Ev G M pc L (.int x :: S) w E := by
  intro p l e s m args below meth c H locs ls hE hC hw hP hS hL
  exact lv_tableOut hC.1 hC.2.1 d h ht (k p l e s m args below meth c H locs ls hE hC hw hP hS hL)
theorem Ev.tableIn {dflt lo hi off : Int} {offs : Array Int} {len : Nat} {x : Int32} {tgt : Nat} (d : decode (Mc M) pc = .ok (.tableswitch dflt lo hi offs, len)) (j : Nat) (hj : x.toInt = lo + j) (h2 : lo + j ≤ hi) (ho : offs[j]? = some off) (ht : (pc : Int) + off = (tgt : Int)) (k : Ev G M tgt L S w E) : Ev G M pc L (.int x :: S) w E := by
  intro p l e s m args below meth c H locs ls hE hC hw hP hS hL
  exact lv_tableIn hC.1 hC.2.1 d (by omega) (by omega) (by rw [show (x.toInt - lo).toNat = j by omega]; exact ho) ht (k p l e s m args below meth c H locs ls hE hC hw hP hS hL)
theorem Ev.lookup {dflt off : Int} {ps : Array (Int × Int)} {len : Nat} {x : Int32} {tgt : Nat} (d : decode (Mc M) pc = .ok (.lookupswitch dflt ps, len)) (hp : (ps.toList.zip (ps.toList.drop 1)).all (fun (a, next) => a.1 < next.1) = true) (ho : Op.lookupswitch.offset ps.toList dflt x.toInt = off) (ht : (pc : Int) + off = (tgt : Int)) (k : Ev G M tgt L S w E) : Ev G M pc L (.int x :: S) w E := by
  intro p l e s m args below meth c H locs ls hE hC hw hP hS hL
  exact lv_lookup hC.1 hC.2.1 d hp ho ht (k p l e s m args below meth c H locs ls hE hC hw hP hS hL)
/-! fields and arrays -/
/-- a field of a class of ours, read or written by a method of M: place ci in vwCl, slot f -/
def cx_fl (own : String) (index ci f : Nat) : Prop := ∃ (C : String) (T : u_T) (N : Nat), vwCl[ci]? = some (C, T, N) ∧ f < N ∧ (∀ w ∈ u_ws C T N, w ∈ WS) ∧ Cond.fieldLink own index (T f).1 (T f).2.1 (T f).2.2.1 ∈ WS
/-- and it may be written: its type, not final -/
def cx_fp (ci f : Nat) (ty : FieldType) : Prop := ∃ (C : String) (T : u_T) (N : Nat) (t : Nat → FieldType), vwCl[ci]? = some (C, T, N) ∧ (∀ k, k < N → parseFieldDescriptor (T k).2.2.1 = some (t k)) ∧ (∀ a, a < N → ∀ b, b < N → a ≠ b → (T a).2.1 ≠ (T b).2.1) ∧ (T f).2.2.2 = false ∧ parseFieldDescriptor (T f).2.2.1 = some ty
theorem Ev.getfield {index ci f q : Nat} {fs : List Value} {v : Value} (d : decode (Mc M) pc = .ok (.getfield index, 3)) (hf : cx_fl (Mo M) index ci f) (he : w[q]? = some (.inr (ci, fs))) (hv : fs[f]? = some v) (k : Ev G M (pc + 3) L (v :: S) w E) : Ev G M pc L (.ref (cxa G q) :: S) w E := by
  intro p l e s m args below meth c H locs ls hE hC hw hP hS hL
  obtain ⟨C, T, N, h1, h2, h3, h4⟩ := hf
  exact va_get (D := cxD G) (ci := ci) (v := v) (C := C) (T := T) (N := N) hC.1 hC.2.1 hC.2.2.2.2.2.2.1 h3 hC.2.2.2.2.1 hC.2.2.2.2.2.2.2.1.1 hP q (cx_lay_get he) h1 f h2 (hC.2.2.2.2.2.2.1 _ h4) (fun _ h9 => h9) hv d (k p l e s m args below meth c H locs ls hE hC hw hP hS hL)
theorem Ev.putfield {index ci f q : Nat} {fs : List Value} {v : Value} (ty : FieldType) (d : decode (Mc M) pc = .ok (.putfield index, 3)) (hf : cx_fl (Mo M) index ci f) (hg : cx_fp ci f ty) (he : w[q]? = some (.inr (ci, fs))) (hn : narrow ty v = v) (ht : fits ty v = true) (hl : f < fs.length) (k : Ev G M (pc + 3) L S (w.set q (.inr (ci, fs.set f v))) E) : Ev G M pc L (v :: .ref (cxa G q) :: S) w E := by
  intro p l e s m args below meth c H locs ls hE hC hw hP hS hL
  obtain ⟨C, T, N, h1, h2, h3, h4⟩ := hf
  obtain ⟨C', T', N', t, g1, g2, g3, g4, g5⟩ := hg
  cases h1.symm.trans g1
  refine va_put (D := cxD G) (ci := ci) (v := v) (ty := ty) (C := C) (T := T) (N := N) hC.1 hC.2.1 hC.2.2.2.2.2.2.1 h3 t g2 g3 hC.2.2.2.2.1 hC.2.2.2.2.2.2.2.1.1 hP (cx_D hw hC.2.2.2.2.2.2.2.1.2.1) hS q (cx_lay_get he) h1 f h2 (hC.2.2.2.2.2.2.1 _ h4) (fun _ h9 => h9) g4 g5 hn ht hl d (fun H1 locs1 hP1 _ hS1 => ?_)
  rw [cx_lay_set] at hP1
  exact k p l e s m args below meth c H1 locs1 ls hE hC (by rw [List.length_set]; exact hw) hP1 hS1 hL
theorem Ev.iaload {q n : Nat} {f : Nat → Int32} {i : Int32} (d : decode (Mc M) pc = .ok (.iaload, 1)) (he : w[q]? = some (.inl (cxC G 0, n, .inl f))) (j : Nat) (hi : i = nI j) (hj : j < n) (hn : n < 2 ^ 31) (k : Ev G M (pc + 1) L (.int (f j) :: S) w E) : Ev G M pc L (.int i :: .ref (cxa G q) :: S) w E := by
  intro p l e s m args below meth c H locs ls hE hC hw hP hS hL
  subst hi
  refine va_iald hC.1 hC.2.1 hC.2.2.2.2.2.2.2.1.1 hP q 0 (cx_lay_get he) rfl (vp_in_nI hj hn) d ?_
  rw [nI_clamp (Nat.lt_trans hj hn)]
  exact (k p l e s m args below meth c H locs ls hE hC hw hP hS hL)
theorem Ev.baload {q n : Nat} {f : Nat → Bool} {i : Int32} (d : decode (Mc M) pc = .ok (.baload, 1)) (he : w[q]? = some (.inl (cxC G 1, n, .inl (fun j => bI (f j))))) (j : Nat) (hi : i = nI j) (hj : j < n) (hn : n < 2 ^ 31) (k : Ev G M (pc + 1) L (.int (bI (f j)) :: S) w E) : Ev G M pc L (.int i :: .ref (cxa G q) :: S) w E := by
  intro p l e s m args below meth c H locs ls hE hC hw hP hS hL
  subst hi
  refine va_zald hC.1 hC.2.1 hC.2.2.2.2.2.2.2.1.1 hP q 1 (cx_lay_get he) rfl (vp_in_nI hj hn) d ?_
  rw [nI_clamp (Nat.lt_trans hj hn)]
  exact (k p l e s m args below meth c H locs ls hE hC hw hP hS hL)
theorem Ev.aaload {q n a : Nat} {f : Nat → Option Nat} {i : Int32} (d : decode (Mc M) pc = .ok (.aaload, 1)) (he : w[q]? = some (.inl (cxC G 2, n, .inr (.inr (.inr (.inr f)))))) (j : Nat) (hi : i = nI j) (hj : j < n) (hn : n < 2 ^ 31) (ha : f j = some a) (k : Ev G M (pc + 1) L (.ref a :: S) w E) : Ev G M pc L (.int i :: .ref (cxa G q) :: S) w E := by
  intro p l e s m args below meth c H locs ls hE hC hw hP hS hL
  subst hi
  refine va_aldq hC.1 hC.2.1 hC.2.2.2.2.2.2.2.1.1 hP q 2 (cx_lay_get he) rfl (vp_in_nI hj hn) d ?_
  rw [nI_clamp (Nat.lt_trans hj hn), ha]
  exact (k p l e s m args below meth c H locs ls hE hC hw hP hS hL)
theorem Ev.iastore {q n : Nat} {f : Nat → Int32} {i x : Int32} (d : decode (Mc M) pc = .ok (.iastore, 1)) (he : w[q]? = some (.inl (cxC G 0, n, .inl f))) (j : Nat) (hi : i = nI j) (hj : j < n) (hn : n < 2 ^ 31) (k : Ev G M (pc + 1) L S (w.set q (.inl (cxC G 0, n, .inl (va_up f j x)))) E) : Ev G M pc L (.int x :: .int i :: .ref (cxa G q) :: S) w E := by
  intro p l e s m args below meth c H locs ls hE hC hw hP hS hL
  subst hi
  refine va_iast hC.1 hC.2.1 hC.2.2.2.2.2.2.2.1.1 hP (cx_D hw hC.2.2.2.2.2.2.2.1.2.1) hS q 0 (cx_lay_get he) rfl (vp_in_nI hj hn) d (fun H1 locs1 hP1 _ hS1 => ?_)
  rw [nI_clamp (Nat.lt_trans hj hn), cx_lay_set] at hP1
  exact k p l e s m args below meth c H1 locs1 ls hE hC (by rw [List.length_set]; exact hw) hP1 hS1 hL
theorem vp_nar_bI (b : Bool) : vp_nar .boolean (bI b) = bI b := by cases b <;> rfl
theorem Ev.bastore {q n : Nat} {f : Nat → Bool} {i : Int32} {b : Bool} (d : decode (Mc M) pc = .ok (.bastore, 1)) (he : w[q]? = some (.inl (cxC G 1, n, .inl (fun j => bI (f j))))) (j : Nat) (hi : i = nI j) (hj : j < n) (hn : n < 2 ^ 31) (k : Ev G M (pc + 1) L S (w.set q (.inl (cxC G 1, n, .inl (fun z => bI (va_up f j b z))))) E) : Ev G M pc L (.int (bI b) :: .int i :: .ref (cxa G q) :: S) w E := by
  intro p l e s m args below meth c H locs ls hE hC hw hP hS hL
  subst hi
  refine va_zast hC.1 hC.2.1 hC.2.2.2.2.2.2.2.1.1 hP (cx_D hw hC.2.2.2.2.2.2.2.1.2.1) hS q 1 (cx_lay_get he) rfl (vp_in_nI hj hn) d (fun H1 locs1 hP1 _ hS1 => ?_)
  have hf : upd (fun z => bI (f z)) j (vp_nar .boolean (bI b)) = fun z => bI (va_up f j b z) := by
    funext z
    by_cases hz : z = j
    · simp [upd, va_up, hz, vp_nar_bI]
    · simp [upd, va_up, hz]
  rw [nI_clamp (Nat.lt_trans hj hn), hf, cx_lay_set] at hP1
  exact k p l e s m args below meth c H1 locs1 ls hE hC (by rw [List.length_set]; exact hw) hP1 hS1 hL
theorem Ev.alen {q n : Nat} {f : Nat → Int32} (d : decode (Mc M) pc = .ok (.arraylength, 1)) (he : w[q]? = some (.inl (cxC G 0, n, .inl f))) (k : Ev G M (pc + 1) L (.int (nI n) :: S) w E) : Ev G M pc L (.ref (cxa G q) :: S) w E := by
  intro p l e s m args below meth c H locs ls hE hC hw hP hS hL
  exact va_alen hC.1 hC.2.1 hC.2.2.2.2.2.2.2.1.1 hP q 0 (cx_lay_get he) rfl rfl d (k p l e s m args below meth c H locs ls hE hC hw hP hS hL)
/-! the static tables -/
def cx_sl (own : String) (index q : Nat) : Prop := ∃ host, Cond.fieldLinkNest own index "TurnedBar" (cx_stn q) "[I" host ∈ cx_nest
theorem Ev.getstatic {index : Nat} (q : Nat) (hq : q < 2) (d : decode (Mc M) pc = .ok (.getstatic index, 3)) (hf : cx_sl (Mo M) index q) (k : Ev G M (pc + 3) L (.ref (cxt G q) :: S) w E) : Ev G M pc L S w E := by
  intro p l e s m args below meth c H locs ls hE hC hw hP hS hL
  obtain ⟨host, h4⟩ := hf
  exact va_getsN hC.1 hC.2.1 (hC.2.2.2.2.2.2.2.2 q hq).1 hS hC.2.2.2.2.1 (va_Nw.use rfl (hC.2.2.2.2.2.2.2.1.2.2 _ h4)) (fun _ h9 => h9) d (k p l e s m args below meth c H locs ls hE hC hw hP hS hL)
theorem Ev.tload {q : Nat} {i : Int32} (d : decode (Mc M) pc = .ok (.iaload, 1)) (hq : q < 2) (j : Nat) (hi : i = nI j) (hj : j < 4) (k : Ev G M (pc + 1) L (.int (cx_stp q j) :: S) w E) : Ev G M pc L (.int i :: .ref (cxt G q) :: S) w E := by
  intro p l e s m args below meth c H locs ls hE hC hw hP hS hL
  subst hi
  exact va_ti hC.1 hC.2.1 (hC.2.2.2.2.2.2.2.2 q hq).2 hS (vp_in_nI hj (by decide)) (by rw [nI_clamp (Nat.lt_trans hj (by decide))]) d (k p l e s m args below meth c H locs ls hE hC hw hP hS hL)
/-! returns -/
theorem Ev.ireturn {v : Int32} (ty : FieldType) (d : decode (Mc M) pc = .ok (.ireturn, 1)) (hr : Mr M = some ty) (hn : narrow ty (.int v) = .int v) (k : post (some (.int v)) w) : Ev G M pc L [.int v] w (cx_e G M post) := by
  intro p l e s m args below meth c H locs ls hE hC hw hP hS hL
  have hlocks := hC.2.2.2.2.2.1
  exact W.zret hC.1 hC.2.1 (hC.2.2.1.trans hr) hn (fun t ht hW => ⟨⟨_, w, rfl, k, hw, by rw [ht]; exact hP⟩, hS.F ht⟩) hS.2.2 d
theorem nar_bI (b : Bool) : narrow .boolean (.int (bI b)) = .int (bI b) := by cases b <;> rfl
theorem Ev.zreturn {b : Bool} (d : decode (Mc M) pc = .ok (.ireturn, 1)) (hr : Mr M = some .boolean) (k : post (some (.int (bI b))) w) : Ev G M pc L [.int (bI b)] w (cx_e G M post) := Ev.ireturn .boolean d hr (nar_bI b) k
theorem Ev.areturn {a : Nat} (C : String) (d : decode (Mc M) pc = .ok (.areturn, 1)) (hr : Mr M = some (.object C)) (k : post (some (.ref a)) w) : Ev G M pc L [.ref a] w (cx_e G M post) := by
  intro p l e s m args below meth c H locs ls hE hC hw hP hS hL
  have hlocks := hC.2.2.2.2.2.1
  exact W.aret hC.1 hC.2.1 (hC.2.2.1.trans hr) (Or.inl ⟨C, rfl⟩) (Or.inr ⟨a, rfl⟩) (fun t ht hW => ⟨⟨_, w, rfl, k, hw, by rw [ht]; exact hP⟩, hS.F ht⟩) hS.2.2 d
theorem Ev.vreturn (d : decode (Mc M) pc = .ok (.return_, 1)) (hr : Mr M = none) (k : post none w) : Ev G M pc L [] w (cx_e G M post) := by
  intro p l e s m args below meth c H locs ls hE hC hw hP hS hL
  have hlocks := hC.2.2.2.2.2.1
  exact W.vret hC.1 hC.2.1 (hC.2.2.1.trans hr) (fun t ht hW => ⟨⟨_, w, rfl, k, hw, by rw [ht]; exact hP⟩, hS.F ht⟩) hS.2.2 d
/-! calls -/
theorem cx_go {cs ss : Nat} {p : Program} {l : Launch} {e : Env} {R : Room} {s : State} {m : MethodId} {args : Array Value} {below : List Frame} {meth : Method} {c : Code} {H : Heap} {locs : List Loc} {Q : State → Prop} {ls : Array Slot} {a : Array Value} (hr : va_Run p l e R s m args below meth c H locs cs ss 0 0 (F0 m pc ls st) S (cx_Q G post1 a) (cx_A G)) (hS : va_S (cx_A G) s.heap H locs)
    (kk : ∀ (r : Option Value) (w' : List va_E) (H1 : Heap) (locs1 : List Loc), post1 r w' → w'.length = cxn G → va_P (cxD G) vwCl (cx_lay G w') H1 → va_S (cx_A G) s.heap H1 locs1 → W p l e R s m args below meth c H1 locs1 cs ss Q (F0 m (pc + 3) ls (r.toList ++ S))) : W p l e R s m args below meth c H locs cs ss Q (F0 m pc ls st) := by
  intro T hT X
  obtain ⟨v, st₀, t, T', L, h0, X', hL, e1, e2, ⟨⟨r, w', hv, hp, hn, hPt⟩, hz, hk⟩, st⟩ := hr T hT X
  cases hv
  rw [h0] at hz hk
  obtain ⟨t2, a1, b1⟩ := kk v w' T'.heap (locs ++ L) hp hn (by rw [e1]; exact hPt)
    ⟨Nat.le_trans hS.1 (by rw [e1]; exact hz), fun q h1 h2 => by rw [e1, hk q (Nat.lt_of_lt_of_le h1 hS.1) h2]; exact hS.2.1 q h1 h2, fun q hq => by
      rcases List.mem_append.mp hq with h | h
      · exact hS.2.2 q h
      · exact hL q h⟩ T' rfl X'
  exact ⟨t2, st t2 a1, b1⟩
theorem cx_to {p : Program} {s : State} {m : MethodId} {args : Array Value} {meth : Method} {c : Code} {H : Heap} {locs : List Loc} (hC : cx_C G M p s m args meth c) (hw : w.length = cxn G) (hP : va_P (cxD G) vwCl (cx_lay G w) H) (hS : va_S (cx_A G) s.heap H locs) (U : State) (hU : U.heap = H) (hW : s.WarmedH U.vm) : cx_pre G w U := by
  obtain ⟨hK, hi, hN⟩ := hC.2.2.2.2.2.2.2.1
  refine ⟨hw, by rw [hU]; exact hP, ⟨va_K.moved hW.alike hK, hi, cx_N.warm cx_nest_ok hW hN⟩, ?_⟩
  rw [hU]
  exact cx_St.kept (cx_St.moved hW.alike hC.2.2.2.2.2.2.2.2) hS.2.1
theorem ws_at {w : Cond} (i : Nat) (h : tables_1[i]? = some w) (hg : goodWord w = true) : w ∈ WS := List.mem_filter.mpr ⟨List.mem_append_right _ (List.mem_of_getElem? h), hg⟩
theorem ws_good {M' : cx_M} (h : Cond.code (My M') (Mc M') (Ml M') (Mr M') ∈ WS) : GoodIn WS (Mw M') := fun w hw => by
  have hw' : w ∈ WS := by
    rcases List.mem_cons.mp hw with rfl | h1
    · exact h
    · exact h1
  exact ⟨hw', good_of_word (List.mem_filter.mp hw').2⟩
def cx_k0 (M' : cx_M) (nA : Nat) : Prop := Cond.code (My M') (Mc M') (Ml M') (Mr M') ∈ WS ∧ Cond.initialized (My M').cls ∈ WS ∧ (My M').cls ≠ "java/lang/invoke/MethodHandle" ∧ (My M').cls ≠ "java/lang/invoke/VarHandle" ∧ (parseMethodDescriptor (My M').desc).map (fun d => d.parameters.length) = some nA
def cx_kV (own : String) (M' : cx_M) (C : String) (idx nA : Nat) : Prop := cx_k0 M' nA ∧ (My M').cls = C ∧ Cond.methodLink own idx (My M') ∈ WS ∧ Cond.instanceMethod (My M') ∈ WS ∧ Cond.selects C (My M') (My M') ∈ WS
def cx_kS (own : String) (M' : cx_M) (idx nA : Nat) : Prop := cx_k0 M' nA ∧ Cond.methodLink own idx (My M') ∈ WS ∧ Cond.static (My M') ∈ WS
def cx_kN (own : String) (M' : cx_M) (idx nA : Nat) : Prop := cx_k0 M' nA ∧ (∃ host, Cond.methodLinkNest own idx (My M') host ∈ cx_nest) ∧ Cond.static (My M') ∈ WS
/-- the callee's room is in the caller's -/
def cx_kR (R : Room) (M' : cx_M) : Prop := Mf M' + 1 ≤ R.frames ∧ 8 + (Ml M' + 11) + Mk M' ≤ R.locals
theorem cx_kB {R : Room} {s : State} {args : Array Value} {own : String} {idx nA : Nat} (hts : ∀ w ∈ WS, w.before args s = true) (k0 : cx_k0 M' nA) (hl : Cond.methodLink own idx (My M') ∈ WS) (hR : cx_kR R M') : CallB R s args own idx (My M') (Mc M') (Ml M') (Mr M') (Mw M') (cx_rm M') 0 0 nA :=
  callB_of nA hts (ws_good k0.1) rfl rfl rfl (hts _ k0.2.1) (hts _ hl) k0.2.2 hR
theorem Ev.callV {C : String} {idx q ci nA : Nat} {fs As : List Value} {cq : vw_C} (d : decode (Mc M) pc = .ok (.invokevirtual idx, 3)) (lk : cx_kV (Mo M) M' C idx nA) (hR : cx_kR E.1 M') (he : w[q]? = some (.inr (ci, fs))) (hq : vwCl[ci]? = some cq) (hcC : cq.1 = C) (hc : Ct G M' (.ref (cxa G q) :: As) w post1) (hA : As.length = nA) (hst : st = As.reverse ++ .ref (cxa G q) :: st.drop (nA + 1)) (h8 : ((st.drop (nA + 1)).map fun v => v.category).sum ≤ 8)
    (k : ∀ r w', post1 r w' → Ev G M (pc + 3) L (r.toList ++ st.drop (nA + 1)) w' E) : Ev G M pc L st w E := by
  intro p l e s m args below meth c H locs ls hE hC hw hP hS hL
  subst hcC
  refine cx_go (post1 := post1) (va_runV (As := As) (rest := st.drop (nA + 1)) ⟨hC.1, hC.2.1, hC.2.2.2.1, hC.2.2.2.2.1, hC.2.2.2.2.2.2.1⟩ (hc l) ⟨cx_kB hC.2.2.2.2.2.2.1 lk.1 lk.2.2.1 hR, hC.2.2.2.2.2.2.1 _ lk.2.2.2.1, hC.2.2.2.2.2.2.1 _ lk.2.2.2.2⟩ ⟨cx_blind, va_recv hC.2.2.2.2.2.2.2.1.1 hP hq (cx_lay_get he), fun U hU hW => ⟨rfl, cx_to hC hw hP hS U hU hW⟩⟩ rfl hA hL.1 hst (lv_room h8) d hE) hS (fun r w' H1 locs1 h1 h2 h3 h4 => ?_)
  exact k r w' h1 p l e s m args below meth c H1 locs1 ls hE hC h2 h3 h4 hL
theorem Ev.callS {idx nA : Nat} {As : List Value} (d : decode (Mc M) pc = .ok (.invokestatic idx, 3)) (lk : cx_kS (Mo M) M' idx nA) (hR : cx_kR E.1 M') (hc : Ct G M' As w post1) (hA : As.length = nA) (hst : st = As.reverse ++ st.drop nA) (h8 : ((st.drop nA).map fun v => v.category).sum ≤ 8)
    (k : ∀ r w', post1 r w' → Ev G M (pc + 3) L (r.toList ++ st.drop nA) w' E) : Ev G M pc L st w E := by
  intro p l e s m args below meth c H locs ls hE hC hw hP hS hL
  refine cx_go (post1 := post1) (va_runS (As := As) (rest := st.drop nA) ⟨hC.1, hC.2.1, hC.2.2.2.1, hC.2.2.2.2.1, hC.2.2.2.2.2.2.1⟩ (hc l) ⟨cx_kB hC.2.2.2.2.2.2.1 lk.1 lk.2.1 hR, hC.2.2.2.2.2.2.1 _ lk.2.2⟩ ⟨cx_blind, fun U hU hW => ⟨rfl, cx_to hC hw hP hS U hU hW⟩⟩ rfl hA hL.1 hst (lv_room h8) d hE) hS (fun r w' H1 locs1 h1 h2 h3 h4 => ?_)
  exact k r w' h1 p l e s m args below meth c H1 locs1 ls hE hC h2 h3 h4 hL
theorem Ev.callN {idx nA : Nat} {As : List Value} (d : decode (Mc M) pc = .ok (.invokestatic idx, 3)) (lk : cx_kN (Mo M) M' idx nA) (hR : cx_kR E.1 M') (hc : Ct G M' As w post1) (hA : As.length = nA) (hst : st = As.reverse ++ st.drop nA) (h8 : ((st.drop nA).map fun v => v.category).sum ≤ 8)
    (k : ∀ r w', post1 r w' → Ev G M (pc + 3) L (r.toList ++ st.drop nA) w' E) : Ev G M pc L st w E := by
  intro p l e s m args below meth c H locs ls hE hC hw hP hS hL
  obtain ⟨k0, ⟨host, hn⟩, hs⟩ := lk
  have hcn : va_CN E.1 s args (Mo M) idx (My M') host (Mc M') (Ml M') (Mr M') (Mw M') (cx_rm M') 0 0 nA := va_cnB nA hC.2.2.2.2.2.2.1 (ws_good k0.1) rfl rfl rfl (hC.2.2.2.2.2.2.2.1.2.2 _ hn) (hC.2.2.2.2.2.2.1 _ k0.2.1) k0.2.2 hR
  refine cx_go (post1 := post1) (va_runSN (As := As) (rest := st.drop nA) ⟨hC.1, hC.2.1, hC.2.2.2.1, hC.2.2.2.2.1, hC.2.2.2.2.2.2.1⟩ (hc l) ⟨hcn, hC.2.2.2.2.2.2.1 _ hs, trivial⟩ ⟨cx_blind, fun U hU hW => ⟨rfl, cx_to hC hw hP hS U hU hW⟩⟩ rfl hA hL.1 hst (lv_room h8) d hE) hS (fun r w' H1 locs1 h1 h2 h3 h4 => ?_)
  exact k r w' h1 p l e s m args below meth c H1 locs1 ls hE hC h2 h3 h4 hL
/-! Math.min and System.arraycopy -/
def cx_kMin (R : Room) (M : cx_M) (idx : Nat) : Prop := Cond.methodLink (Mo M) idx Lib.Math.min.name ∈ WS ∧ Cond.static Lib.Math.min.name ∈ WS ∧ Cond.initialized "java/lang/Math" ∈ WS ∧ Cond.code Lib.Math.min.name Lib.Math.min.code 2 (some .int) ∈ WS ∧ 1 ≤ R.frames ∧ 21 ≤ R.locals
theorem Ev.min {idx : Nat} {x y : Int32} (d : decode (Mc M) pc = .ok (.invokestatic idx, 3)) (lk : cx_kMin E.1 M idx) (h8 : (S.map fun v => v.category).sum ≤ 8) (k : Ev G M (pc + 3) L (.int (if y.toInt < x.toInt then y else x) :: S) w E) : Ev G M pc L (.int y :: .int x :: S) w E := by
  intro p l e s m args below meth c H locs ls hE hC hw hP hS hL
  have hts := hC.2.2.2.2.2.2.1
  have e1 : (if y < x then y else x) = (if y.toInt < x.toInt then y else x) := by
    by_cases h : y < x
    · rw [if_pos h, if_pos (Int32.lt_iff_toInt_lt.mp h)]
    · rw [if_neg h, if_neg (fun q => h (Int32.lt_iff_toInt_lt.mpr q))]
  refine va_mmin hC.1 hC.2.1 (hC.2.2.2.1.trans hL.1.symm) hC.2.2.2.2.1 (hts _ lk.1) (hts _ lk.2.1) (hts _ lk.2.2.1) (hts _ lk.2.2.2.1) lk.2.2.2.2.1 (by have := lk.2.2.2.2.2; show _ + 13 ≤ E.1.locals; omega) hE.1 hE.2 d ?_
  rw [e1]
  exact (k p l e s m args below meth c H locs ls hE hC hw hP hS hL)
def cx_kCpy (R : Room) (M : cx_M) (idx : Nat) : Prop := Cond.methodLink (Mo M) idx arraycopyName ∈ WS ∧ Cond.native arraycopyName ∈ WS ∧ Cond.static arraycopyName ∈ WS ∧ Cond.initialized "java/lang/System" ∈ WS ∧ 1 ≤ R.frames ∧ nativeFrameWords "java/lang/System" "arraycopy" 5 + 19 ≤ R.locals
theorem Ev.copy {idx q0 q1 n0 n1 : Nat} {f g : Nat → Int32} {x y z : Int32} (d : decode (Mc M) pc = .ok (.invokestatic idx, 3)) (lk : cx_kCpy E.1 M idx) (he0 : w[q0]? = some (.inl (cxC G 0, n0, .inl f))) (he1 : w[q1]? = some (.inl (cxC G 0, n1, .inl g))) (j : Nat) (hx : x = nI 0) (hy : y = nI 0) (hz : z = nI j) (h0 : j ≤ n0) (h1 : j ≤ n1) (hn : n0 < 2 ^ 31) (h8 : (S.map fun v => v.category).sum ≤ 8)
    (k : Ev G M (pc + 3) L S (w.set q1 (.inl (cxC G 0, n1, .inl (va_cpy f g 0 0 j)))) E) : Ev G M pc L (.int z :: .int y :: .ref (cxa G q1) :: .int x :: .ref (cxa G q0) :: S) w E := by
  intro p l e s m args below meth c H locs ls hE hC hw hP hS hL
  have hts := hC.2.2.2.2.2.2.1
  subst hx; subst hy; subst hz
  have hj : j < 2 ^ 31 := Nat.lt_of_le_of_lt h0 hn
  have c0 : (nI 0).toNatClampNeg = 0 := nI_clamp (by decide)
  have cj : (nI j).toNatClampNeg = j := nI_clamp hj
  refine va_copyi hC.1 hC.2.1 (hC.2.2.2.1.trans hL.1.symm) hC.2.2.2.2.1 (hts _ lk.1) (hts _ lk.2.1) (hts _ lk.2.2.1) (hts _ lk.2.2.2.1) hC.2.2.2.2.2.2.2.1.1 hP (cx_D hw hC.2.2.2.2.2.2.2.1.2.1) hS q0 q1 0 0 (cx_lay_get he0) (cx_lay_get he1) rfl rfl rfl (nI_pos (by decide)) (nI_pos (by decide)) (nI_pos hj) (by rw [c0, cj]; omega) (by rw [c0, cj]; omega) (fun _ _ => rfl) lk.2.2.2.2.1 (by have := lk.2.2.2.2.2; show _ + _ ≤ E.1.locals; omega) d (fun H1 locs1 hP1 _ hS1 => ?_)
  rw [c0, cj, cx_lay_set] at hP1
  exact k p l e s m args below meth c H1 locs1 ls hE hC (by rw [List.length_set]; exact hw) hP1 hS1 hL
end EvRows
end
section
/-! Shortest ways over a small graph, pure: valid ways, the order of ways, what a breadth-first queue knows, what a table of distances knows. -/
def allB : Nat → (Nat → Bool) → Bool
  | 0, _ => true
  | n + 1, f => allB n f && f n
def anyB : Nat → (Nat → Bool) → Bool
  | 0, _ => false
  | n + 1, f => anyB n f || f n
def cntB : Nat → (Nat → Bool) → Nat
  | 0, _ => 0
  | n + 1, f => cntB n f + (if f n = true then 1 else 0)
theorem allB_iff {n : Nat} {f : Nat → Bool} : allB n f = true ↔ ∀ i, i < n → f i = true := by
  induction n with
  | zero => simp [allB]
  | succ n ih =>
    simp only [allB, Bool.and_eq_true, ih]
    constructor
    · rintro ⟨h1, h2⟩ i hi
      by_cases e : i = n
      · rw [e]; exact h2
      · exact h1 i (by omega)
    · intro h
      exact ⟨fun i hi => h i (by omega), h n (by omega)⟩
theorem anyB_iff {n : Nat} {f : Nat → Bool} : anyB n f = true ↔ ∃ i, i < n ∧ f i = true := by
  induction n with
  | zero => simp [anyB]
  | succ n ih =>
    simp only [anyB, Bool.or_eq_true, ih]
    constructor
    · rintro (⟨i, h1, h2⟩ | h)
      · exact ⟨i, by omega, h2⟩
      · exact ⟨n, by omega, h⟩
    · rintro ⟨i, h1, h2⟩
      by_cases e : i = n
      · rw [e] at h2; exact Or.inr h2
      · exact Or.inl ⟨i, by omega, h2⟩
theorem anyB_false {n : Nat} {f : Nat → Bool} : anyB n f = false ↔ ∀ i, i < n → f i = false := by
  rw [← Bool.not_eq_true, anyB_iff]
  constructor
  · intro h i hi
    cases e : f i with
    | false => rfl
    | true => exact absurd ⟨i, hi, e⟩ h
  · rintro h ⟨i, hi, e⟩
    rw [h i hi] at e
    cases e
theorem allB_congr {n : Nat} {f g : Nat → Bool} (h : ∀ i, i < n → f i = g i) : allB n f = allB n g := by
  induction n with
  | zero => rfl
  | succ n ih => simp only [allB]; rw [ih (fun i hi => h i (by omega)), h n (by omega)]
theorem anyB_congr {n : Nat} {f g : Nat → Bool} (h : ∀ i, i < n → f i = g i) : anyB n f = anyB n g := by
  induction n with
  | zero => rfl
  | succ n ih => simp only [anyB]; rw [ih (fun i hi => h i (by omega)), h n (by omega)]
theorem cntB_congr {n : Nat} {f g : Nat → Bool} (h : ∀ i, i < n → f i = g i) : cntB n f = cntB n g := by
  induction n with
  | zero => rfl
  | succ n ih => simp only [cntB]; rw [ih (fun i hi => h i (by omega)), h n (by omega)]
theorem cntB_le {n : Nat} {f : Nat → Bool} : cntB n f ≤ n := by
  induction n with
  | zero => exact Nat.le_refl _
  | succ n ih => simp only [cntB]; split <;> omega
theorem nil_or_snoc (u : List Nat) : u = [] ∨ ∃ v d, u = v ++ [d] := by
  rcases List.eq_nil_or_concat u with h | ⟨v, d, h⟩
  · exact Or.inl h
  · exact Or.inr ⟨v, d, by rw [h, List.concat_eq_append]⟩
/-! ways -/
section Ways
variable (nx : Nat → Nat → Option Nat) (ok ex : Nat → Bool)
def wk : Nat → List Nat → Option Nat
  | p, [] => some p
  | p, d :: ds => if ex p = true then (match nx p d with | some q => if ok q = true then wk q ds else none | none => none) else none
end Ways
section Ways2
variable {nx : Nat → Nat → Option Nat} {ok ex : Nat → Bool}
theorem wk_cons {p d : Nat} {ds : List Nat} {z : Nat} : wk nx ok ex p (d :: ds) = some z ↔ ex p = true ∧ ∃ q, nx p d = some q ∧ ok q = true ∧ wk nx ok ex q ds = some z := by
  simp only [wk]
  by_cases h : ex p = true
  · rw [if_pos h]
    cases hq : nx p d with
    | none => simp
    | some q =>
      by_cases h2 : ok q = true
      · simp [h, h2]
      · simp [h2]
  · rw [if_neg h]
    simp [h]
theorem wk_app {u v : List Nat} : ∀ {p z : Nat}, wk nx ok ex p (u ++ v) = some z ↔ ∃ q, wk nx ok ex p u = some q ∧ wk nx ok ex q v = some z := by
  induction u with
  | nil => intro p z; simp [wk]
  | cons d u ih =>
    intro p z
    rw [List.cons_append, wk_cons]
    constructor
    · rintro ⟨h1, q, h2, h3, h4⟩
      obtain ⟨m, h5, h6⟩ := ih.mp h4
      exact ⟨m, wk_cons.mpr ⟨h1, q, h2, h3, h5⟩, h6⟩
    · rintro ⟨m, h1, h2⟩
      obtain ⟨h3, q, h4, h5, h6⟩ := wk_cons.mp h1
      exact ⟨h3, q, h4, h5, ih.mpr ⟨m, h6, h2⟩⟩
theorem wk_snoc {u : List Nat} {d p z : Nat} : wk nx ok ex p (u ++ [d]) = some z ↔ ∃ q, wk nx ok ex p u = some q ∧ ex q = true ∧ nx q d = some z ∧ ok z = true := by
  rw [wk_app]
  constructor
  · rintro ⟨q, h1, h2⟩
    obtain ⟨h3, z', h4, h5, h6⟩ := wk_cons.mp h2
    simp only [wk, Option.some.injEq] at h6
    subst h6
    exact ⟨q, h1, h3, h4, h5⟩
  · rintro ⟨q, h1, h3, h4, h5⟩
    exact ⟨q, h1, wk_cons.mpr ⟨h3, z, h4, h5, rfl⟩⟩
end Ways2
/-! the order of ways: shorter first, then the first direction that differs -/
def lxl : List Nat → List Nat → Prop
  | a :: u, b :: v => a < b ∨ (a = b ∧ lxl u v)
  | _, _ => False
theorem lxl_irr : ∀ (u : List Nat), ¬ lxl u u
  | [], h => h
  | a :: u, h => by
    rcases h with h | ⟨-, h⟩
    · omega
    · exact lxl_irr u h
theorem lxl_tr : ∀ {u v w : List Nat}, lxl u v → lxl v w → lxl u w
  | a :: u, b :: v, c :: w, h1, h2 => by
    rcases h1 with h1 | ⟨rfl, h1⟩
    · rcases h2 with h2 | ⟨rfl, h2⟩
      · exact Or.inl (by omega)
      · exact Or.inl h1
    · rcases h2 with h2 | ⟨rfl, h2⟩
      · exact Or.inl h2
      · exact Or.inr ⟨rfl, lxl_tr h1 h2⟩
  | [], _, _, h1, _ => h1.elim
  | _ :: _, [], _, h1, _ => h1.elim
  | _ :: _, _ :: _, [], _, h2 => h2.elim
theorem lxl_app {x y : List Nat} : ∀ {u v : List Nat}, u.length = v.length → lxl u v → lxl (u ++ x) (v ++ y)
  | a :: u, b :: v, hl, h => by
    rcases h with h | ⟨rfl, h⟩
    · exact Or.inl h
    · exact Or.inr ⟨rfl, lxl_app (by simpa using hl) h⟩
  | [], _, _, h => h.elim
  | _ :: _, [], _, h => h.elim
theorem lxl_same {x y : List Nat} (h : lxl x y) : ∀ (u : List Nat), lxl (u ++ x) (u ++ y)
  | [] => h
  | _ :: u => Or.inr ⟨rfl, lxl_same h u⟩
def slx (u v : List Nat) : Prop := u.length < v.length ∨ (u.length = v.length ∧ lxl u v)
def sle (u v : List Nat) : Prop := u = v ∨ slx u v
theorem slx_tr {u v w : List Nat} (h1 : slx u v) (h2 : slx v w) : slx u w := by
  rcases h1 with h1 | ⟨e1, h1⟩ <;> rcases h2 with h2 | ⟨e2, h2⟩
  · exact Or.inl (by omega)
  · exact Or.inl (by omega)
  · exact Or.inl (by omega)
  · exact Or.inr ⟨by omega, lxl_tr h1 h2⟩
theorem slx_irr {u : List Nat} : ¬ slx u u := by
  rintro (h | ⟨-, h⟩)
  · omega
  · exact lxl_irr u h
theorem sle_slx {u v w : List Nat} (h1 : sle u v) (h2 : slx v w) : slx u w := by
  rcases h1 with rfl | h1
  · exact h2
  · exact slx_tr h1 h2
theorem slx_sle {u v w : List Nat} (h1 : slx u v) (h2 : sle v w) : slx u w := by
  rcases h2 with rfl | h2
  · exact h1
  · exact slx_tr h1 h2
theorem sle_tr {u v w : List Nat} (h1 : sle u v) (h2 : sle v w) : sle u w := by
  rcases h1 with rfl | h1
  · exact h2
  · exact Or.inr (slx_sle h1 h2)
theorem sle_anti {u v : List Nat} (h1 : sle u v) (h2 : sle v u) : u = v := by
  rcases h1 with rfl | h1
  · rfl
  · exact absurd (slx_sle h1 h2) slx_irr
theorem sle_len {u v : List Nat} (h : sle u v) : u.length ≤ v.length := by
  rcases h with rfl | h | ⟨h, -⟩ <;> omega
theorem slx_snoc {u v : List Nat} {a b : Nat} (h : slx u v) : slx (u ++ [a]) (v ++ [b]) := by
  rcases h with h | ⟨e, h⟩
  · exact Or.inl (by simp; omega)
  · exact Or.inr ⟨by simp; omega, lxl_app e h⟩
theorem sle_snoc {u v : List Nat} {a b : Nat} (h : sle u v) (hab : a ≤ b) : sle (u ++ [a]) (v ++ [b]) := by
  rcases h with rfl | h
  · by_cases e : a = b
    · rw [e]; exact Or.inl rfl
    · exact Or.inr (Or.inr ⟨by simp, lxl_same (x := [a]) (y := [b]) (Or.inl (by omega)) u⟩)
  · exact Or.inr (slx_snoc h)
theorem slx_snocd {u : List Nat} {a b : Nat} (h : a < b) : slx (u ++ [a]) (u ++ [b]) := Or.inr ⟨by simp, lxl_same (x := [a]) (y := [b]) (Or.inl h) u⟩
/-! what a queue knows: places 0 .. f - 1 found, those below i have told all their neighbours -/
section Queue
variable (nx : Nat → Nat → Option Nat) (ok ex : Nat → Bool)
def qk (s f i : Nat) (pos par dr : Nat → Nat) : Prop :=
  0 < f ∧ pos 0 = s ∧ (∀ k, 0 < k → k < f → par k < k ∧ ex (pos (par k)) = true ∧ nx (pos (par k)) (dr k) = some (pos k) ∧ ok (pos k) = true) ∧
  (∀ j k, 0 < j → j < k → k < f → par j < par k ∨ (par j = par k ∧ dr j < dr k)) ∧
  (∀ j, j < i → ∀ d q, nx (pos j) d = some q → ok q = true → ∃ k, k < f ∧ pos k = q ∧ (k = 0 ∨ par k < j ∨ (par k = j ∧ dr k ≤ d)))
end Queue
/-- the way to place k, by the parents -/
def pth (par dr : Nat → Nat) : Nat → Nat → List Nat
  | 0, _ => []
  | n + 1, k => if k = 0 then [] else pth par dr n (par k) ++ [dr k]
section Queue2
variable {nx : Nat → Nat → Option Nat} {ok ex : Nat → Bool} {s f i : Nat} {pos par dr : Nat → Nat}
theorem pth_fuel (hp : ∀ k, 0 < k → k < f → par k < k) : ∀ (n m k : Nat), k < f → k ≤ n → k ≤ m → pth par dr n k = pth par dr m k := by
  intro n
  induction n with
  | zero =>
    intro m k hk h1 h2
    have : k = 0 := by omega
    subst this
    cases m <;> simp [pth]
  | succ n ih =>
    intro m k hk h1 h2
    by_cases h0 : k = 0
    · subst h0
      cases m <;> simp [pth]
    · cases m with
      | zero => omega
      | succ m =>
        have h3 := hp k (by omega) hk
        simp only [pth, if_neg h0]
        rw [ih m (par k) (by omega) (by omega) (by omega)]
theorem pth_step (hp : ∀ k, 0 < k → k < f → par k < k) {k : Nat} (h0 : 0 < k) (hk : k < f) : pth par dr k k = pth par dr (par k) (par k) ++ [dr k] := by
  obtain ⟨k', rfl⟩ : ∃ k', k = k' + 1 := ⟨k - 1, by omega⟩
  have h3 := hp (k' + 1) h0 hk
  have h4 : pth par dr (k' + 1) (k' + 1) = pth par dr k' (par (k' + 1)) ++ [dr (k' + 1)] := by
    simp [pth]
  rw [h4, pth_fuel hp k' (par (k' + 1)) (par (k' + 1)) (by omega) (by omega) (by omega)]
theorem qk.lt (h : qk nx ok ex s f i pos par dr) : ∀ k, 0 < k → k < f → par k < k := fun k h0 hk => (h.2.2.1 k h0 hk).1
theorem qk.way (h : qk nx ok ex s f i pos par dr) : ∀ k, k < f → wk nx ok ex s (pth par dr k k) = some (pos k) := by
  intro k
  induction k using Nat.strongRecOn with
  | ind k ih =>
    intro hk
    by_cases h0 : k = 0
    · subst h0
      simp [pth, wk, h.2.1]
    · obtain ⟨a1, a2, a3, a4⟩ := h.2.2.1 k (by omega) hk
      rw [pth_step h.lt (by omega) hk, wk_snoc]
      exact ⟨_, ih _ a1 (by omega), a2, a3, a4⟩
theorem qk.mono (h : qk nx ok ex s f i pos par dr) : ∀ k j, j < k → k < f → slx (pth par dr j j) (pth par dr k k) := by
  intro k
  induction k using Nat.strongRecOn with
  | ind k ih =>
    intro j hj hk
    have a1 := h.lt k (by omega) hk
    by_cases h0 : j = 0
    · subst h0
      rw [pth_step h.lt (by omega) hk]
      exact Or.inl (by simp [pth])
    · rw [pth_step h.lt (by omega) hk, pth_step h.lt (by omega) (by omega : j < f)]
      rcases h.2.2.2.1 j k (by omega) hj hk with h2 | ⟨h2, h3⟩
      · exact slx_snoc (ih _ a1 _ h2 (by omega))
      · rw [h2]
        exact slx_snocd h3
theorem qk.len (h : qk nx ok ex s f i pos par dr) {j k : Nat} (hj : j ≤ k) (hk : k < f) : (pth par dr j j).length ≤ (pth par dr k k).length := by
  by_cases e : j = k
  · rw [e]; exact Nat.le_refl _
  · exact sle_len (Or.inr (h.mono k j (by omega) hk))
/-- every way whose turns were all told is found, by the least way -/
theorem qk.least (h : qk nx ok ex s f i pos par dr) {D : Nat} (hD : ∀ k, k < f → (pth par dr k k).length < D → k < i) : ∀ (n : Nat) (u : List Nat) (q : Nat), u.length = n → n ≤ D → wk nx ok ex s u = some q → ∃ k, k < f ∧ pos k = q ∧ sle (pth par dr k k) u := by
  intro n
  induction n with
  | zero =>
    intro u q hu _ hw
    have : u = [] := List.length_eq_zero_iff.mp hu
    subst this
    simp only [wk, Option.some.injEq] at hw
    exact ⟨0, h.1, h.2.1.trans hw, Or.inl (by simp [pth])⟩
  | succ n ih =>
    intro u q hu hn hw
    rcases nil_or_snoc u with rfl | ⟨v, d, rfl⟩
    · simp at hu
    · have hv : v.length = n := by simpa using hu
      obtain ⟨m, w1, w2, w3, w4⟩ := wk_snoc.mp hw
      obtain ⟨j, j1, j2, j3⟩ := ih v m hv (by omega) w1
      have hji : j < i := hD j j1 (by have := sle_len j3; omega)
      obtain ⟨k, k1, k2, k3⟩ := h.2.2.2.2 j hji d q (by rw [j2]; exact w3) w4
      refine ⟨k, k1, k2, ?_⟩
      by_cases h0 : k = 0
      · subst h0
        exact Or.inr (Or.inl (by simp [pth]))
      · rw [pth_step h.lt (by omega) k1]
        rcases k3 with k3 | k3 | ⟨k3, k4⟩
        · exact absurd k3 h0
        · exact Or.inr (slx_snoc (slx_sle (h.mono j _ k3 j1) j3))
        · rw [k3]
          exact sle_snoc j3 k4
end Queue2
end
section
/-! What a table of distances knows, and the way that is read off it. -/
section Table
variable (nx : Nat → Nat → Option Nat) (ok ex : Nat → Bool)
/-- behind pass n: t holds every least length up to n -/
def tk (g n : Nat) (t : Nat → Nat) : Prop :=
  (∀ q, t q ≤ n ∨ t q = 100000) ∧ (∀ q, t q ≠ 100000 → ∃ u, u.length = t q ∧ wk nx ok ex g u = some q) ∧ (∀ u q, u.length ≤ n → wk nx ok ex g u = some q → t q ≤ u.length)
/-- the whole table -/
def dk (g : Nat) (t : Nat → Nat) : Prop :=
  (∀ q, t q ≠ 100000 → ∃ u, u.length = t q ∧ wk nx ok ex g u = some q) ∧ (∀ u q, wk nx ok ex g u = some q → t q ≤ u.length ∧ t q ≠ 100000)
/-- pass n makes t2 out of t -/
def tp (n : Nat) (t t2 : Nat → Nat) : Prop :=
  (∀ q, t q ≠ 100000 → t2 q = t q) ∧ (∀ q, t q = 100000 → t2 q = 100000 ∨ (t2 q = n + 1 ∧ ok q = true ∧ ∃ p d, t p = n ∧ ex p = true ∧ nx p d = some q)) ∧
  (∀ p d q, t p = n → ex p = true → nx p d = some q → ok q = true → t2 q ≠ 100000)
end Table
section Table2
variable {nx : Nat → Nat → Option Nat} {ok ex : Nat → Bool} {g n : Nat} {t t2 : Nat → Nat}
theorem tk_0 : tk nx ok ex g 0 (fun p => if p = g then 0 else 100000) := by
  refine ⟨fun q => ?_, fun q h => ?_, fun u q hu hw => ?_⟩
  · by_cases h : q = g
    · simp [h]
    · simp [h]
  · by_cases e : q = g
    · subst e
      exact ⟨[], by simp, rfl⟩
    · simp [e] at h
  · have : u = [] := List.length_eq_zero_iff.mp (by omega)
    subst this
    simp only [wk, Option.some.injEq] at hw
    simp [hw]
theorem tk.next (h : tk nx ok ex g n t) (hn : n + 1 < 100000) (hp : tp nx ok ex n t t2) : tk nx ok ex g (n + 1) t2 := by
  obtain ⟨a, b, c⟩ := h
  obtain ⟨p1, p2, p3⟩ := hp
  refine ⟨fun q => ?_, fun q hq => ?_, fun u q hu hw => ?_⟩
  · by_cases e : t q = 100000
    · rcases p2 q e with h | ⟨h, -⟩
      · exact Or.inr h
      · exact Or.inl (by omega)
    · rw [p1 q e]
      rcases a q with h | h
      · exact Or.inl (by omega)
      · exact absurd h e
  · by_cases e : t q = 100000
    · rcases p2 q e with h | ⟨h, ho, p, d, e1, e2, e3⟩
      · exact absurd h hq
      · obtain ⟨u, hu, hw⟩ := b p (by omega)
        exact ⟨u ++ [d], by simp; omega, wk_snoc.mpr ⟨p, hw, e2, e3, ho⟩⟩
    · rw [p1 q e]
      exact b q e
  · by_cases hle : u.length ≤ n
    · have h1 := c u q hle hw
      rw [p1 q (by omega)]
      exact h1
    · have hlen : u.length = n + 1 := by omega
      rcases nil_or_snoc u with rfl | ⟨v, d, rfl⟩
      · simp at hlen
      · have hv : v.length = n := by simpa using hlen
        obtain ⟨p, w1, w2, w3, w4⟩ := wk_snoc.mp hw
        have h1 := c v p (by omega) w1
        by_cases e : t p = n
        · have h2 := p3 p d q e w2 w3 w4
          by_cases e2 : t q = 100000
          · rcases p2 q e2 with h | ⟨h, -⟩
            · exact absurd h h2
            · omega
          · rw [p1 q e2]
            rcases a q with h | h
            · omega
            · exact absurd h e2
        · obtain ⟨u', hu', hw'⟩ := b p (by omega)
          have h3 := c (u' ++ [d]) q (by simp; omega) (wk_snoc.mpr ⟨p, hw', w2, w3, w4⟩)
          simp only [List.length_append, List.length_cons, List.length_nil] at h3
          rw [p1 q (by omega)]
          omega
theorem tk.done (h : tk nx ok ex g n t) (hn : n < 100000) (hp : tp nx ok ex n t t) : dk nx ok ex g t := by
  obtain ⟨a, b, c⟩ := h
  obtain ⟨p1, p2, p3⟩ := hp
  refine ⟨b, ?_⟩
  have key : ∀ (m : Nat) (u : List Nat) (q : Nat), u.length = m → wk nx ok ex g u = some q → t q ≤ u.length ∧ t q ≠ 100000 := by
    intro m
    induction m with
    | zero =>
      intro u q hu hw
      have := c u q (by omega) hw
      exact ⟨this, by omega⟩
    | succ m ih =>
      intro u q hu hw
      by_cases hle : u.length ≤ n
      · have := c u q hle hw
        exact ⟨this, by omega⟩
      · rcases nil_or_snoc u with rfl | ⟨v, d, rfl⟩
        · simp at hu
        · have hv : v.length = m := by simpa using hu
          obtain ⟨p, w1, w2, w3, w4⟩ := wk_snoc.mp hw
          obtain ⟨i1, i2⟩ := ih v p hv w1
          by_cases e : t p = n
          · have h2 := p3 p d q e w2 w3 w4
            refine ⟨?_, h2⟩
            rcases a q with h | h
            · omega
            · exact absurd h h2
          · obtain ⟨u', hu', hw'⟩ := b p i2
            have h4 : t p ≤ n := by
              rcases a p with h | h
              · exact h
              · exact absurd h i2
            have h3 := c (u' ++ [d]) q (by simp; omega) (wk_snoc.mpr ⟨p, hw', w2, w3, w4⟩)
            simp only [List.length_append, List.length_cons, List.length_nil] at h3
            exact ⟨by omega, by omega⟩
  exact fun u q hw => key u.length u q rfl hw
end Table2
/-! the way back -/
section Greedy
variable (nx : Nat → Nat → Option Nat) (ok ex : Nat → Bool)
def gon (g : Nat) (t : Nat → Nat) (q m : Nat) : Prop := ok q = true ∧ t q = m ∧ (q = g ∨ ex q = true)
def gr (g : Nat) (t : Nat → Nat) : Nat → List Nat → Prop
  | p, [] => p = g
  | p, d :: ds => p ≠ g ∧ ∃ q, nx p d = some q ∧ gon ok ex g t q (t p - 1) ∧ (∀ d' q', d' < d → nx p d' = some q' → ¬ gon ok ex g t q' (t p - 1)) ∧ gr g t q ds
end Greedy
section Greedy2
variable {nx : Nat → Nat → Option Nat} {ok ex : Nat → Bool} {op : Nat → Nat} {g : Nat} {t : Nat → Nat}
/-- a way to g, gone back -/
theorem wk_back (hs : ∀ p d q, nx p d = some q → nx q (op d) = some p) : ∀ (u : List Nat) (p : Nat), ok p = true → wk nx ok ex p u = some g → ∃ u', u'.length = u.length ∧ wk nx ok (fun q => q == g || ex q) g u' = some p
  | [], p, _, hw => by
    simp only [wk, Option.some.injEq] at hw
    subst hw
    exact ⟨[], rfl, rfl⟩
  | d :: ds, p, hp, hw => by
    obtain ⟨h1, q, h2, h3, h4⟩ := wk_cons.mp hw
    obtain ⟨u', h5, h6⟩ := wk_back hs ds q h3 h4
    refine ⟨u' ++ [op d], by simp [h5], wk_snoc.mpr ⟨q, h6, ?_, hs p d q h2, hp⟩⟩
    cases ds with
    | nil =>
      simp only [wk, Option.some.injEq] at h4
      simp [h4]
    | cons d2 ds2 =>
      have := (wk_cons.mp h4).1
      simp [this]
/-- from a place with a distance there is a turn nearer -/
theorem dk.turn (hs : ∀ p d q, nx p d = some q → nx q (op d) = some p) (hg : ok g = true) (h : dk nx ok (fun q => q == g || ex q) g t) {p : Nat} (hp : p ≠ g) (ht : t p ≠ 100000) : 0 < t p ∧ ∃ d q, nx p d = some q ∧ gon ok ex g t q (t p - 1) := by
  obtain ⟨b, c⟩ := h
  obtain ⟨u, hu, hw⟩ := b p ht
  rcases nil_or_snoc u with rfl | ⟨v, d, rfl⟩
  · simp only [wk, Option.some.injEq] at hw
    exact absurd hw.symm hp
  · have hv : v.length + 1 = t p := by simpa using hu
    obtain ⟨y, w1, w2, w3, w4⟩ := wk_snoc.mp hw
    obtain ⟨c1, c2⟩ := c v y w1
    obtain ⟨u2, hu2, hw2⟩ := b y c2
    have c3 := (c (u2 ++ [d]) p (wk_snoc.mpr ⟨y, hw2, w2, w3, w4⟩)).1
    simp only [List.length_append, List.length_cons, List.length_nil] at c3
    refine ⟨by omega, op d, y, hs _ _ _ w3, ?_, by omega, ?_⟩
    · rcases nil_or_snoc v with rfl | ⟨v2, d2, rfl⟩
      · simp only [wk, Option.some.injEq] at w1
        rw [← w1]; exact hg
      · obtain ⟨_, _, _, _, h9⟩ := wk_snoc.mp w1
        exact h9
    · simpa using w2
theorem gr.spec (hs : ∀ p d q, nx p d = some q → nx q (op d) = some p) (h : dk nx ok (fun q => q == g || ex q) g t) : ∀ (u : List Nat) (p : Nat), ok p = true → (p = g ∨ ex p = true) → t p ≠ 100000 → gr nx ok ex g t p u →
    u.length = t p ∧ wk nx ok ex p u = some g ∧ ∀ v, v.length = t p → wk nx ok ex p v = some g → sle u v
  | [], p, _, _, _, hu => by
    have hu : p = g := hu
    subst hu
    have h0 := (h.2 [] p rfl).1
    simp only [List.length_nil, Nat.le_zero_eq] at h0
    refine ⟨by simp [h0], rfl, fun v hv _ => ?_⟩
    rw [h0] at hv
    exact Or.inl (List.length_eq_zero_iff.mp hv).symm
  | d :: ds, p, ho, he, htp, hu => by
    obtain ⟨h0, q, h1, ⟨q1, q2, q3⟩, h3, h4⟩ := hu
    have hex : ex p = true := by
      rcases he with e | e
      · exact absurd e h0
      · exact e
    have hpos : 0 < t p := by
      obtain ⟨u2, hu2, hw2⟩ := h.1 p htp
      cases u2 with
      | nil =>
        simp only [wk, Option.some.injEq] at hw2
        exact absurd hw2.symm h0
      | cons a b => simp at hu2; omega
    have hnf : t q ≠ 100000 := by
      obtain ⟨u2, hu2, hw2⟩ := h.1 p htp
      rcases Nat.lt_or_ge (t p) 100001 with hlt | hge
      · omega
      · intro e
        have : t p = 100001 := by omega
        rcases nil_or_snoc u2 with rfl | ⟨v, d2, rfl⟩
        · simp at hu2; omega
        · obtain ⟨y, w1, w2, w3, w4⟩ := wk_snoc.mp hw2
          obtain ⟨c1, c2⟩ := h.2 v y w1
          obtain ⟨u3, hu3, hw3⟩ := h.1 y c2
          have c3 := (h.2 (u3 ++ [d2]) p (wk_snoc.mpr ⟨y, hw3, w2, w3, w4⟩)).1
          have hv : v.length + 1 = t p := by simpa using hu2
          simp only [List.length_append, List.length_cons, List.length_nil] at c3
          omega
    obtain ⟨i1, i2, i3⟩ := gr.spec hs h ds q q1 q3 hnf h4
    refine ⟨by simp; omega, wk_cons.mpr ⟨hex, q, h1, q1, i2⟩, fun v hv hw => ?_⟩
    cases v with
    | nil => simp at hv; omega
    | cons d' v =>
      obtain ⟨w1, q', w2, w3, w4⟩ := wk_cons.mp hw
      have hlv : v.length = t p - 1 := by simp at hv; omega
      obtain ⟨u', hu', hw'⟩ := wk_back hs v q' w3 w4
      have c1 := h.2 u' q' hw'
      have hq'e : q' = g ∨ ex q' = true := by
        cases v with
        | nil =>
          simp only [wk, Option.some.injEq] at w4
          exact Or.inl w4
        | cons a b => exact Or.inr (wk_cons.mp w4).1
      have c3 : t p ≤ t q' + 1 := by
        obtain ⟨u3, hu3, hw3⟩ := h.1 q' c1.2
        have := (h.2 (u3 ++ [op d']) p (wk_snoc.mpr ⟨q', hw3, by simpa using hq'e, hs _ _ _ w2, ho⟩)).1
        simp only [List.length_append, List.length_cons, List.length_nil] at this
        omega
      have hon : gon ok ex g t q' (t p - 1) := ⟨w3, by omega, hq'e⟩
      have hdd : d ≤ d' := by
        rcases Nat.lt_or_ge d' d with hlt | hge
        · exact absurd hon (h3 d' q' hlt w2)
        · exact hge
      by_cases e : d = d'
      · subst e
        have e2 : q = q' := Option.some.inj (h1.symm.trans w2)
        subst e2
        have hv2 : v.length = t q := by omega
        rcases i3 v hv2 w4 with rfl | h5 | ⟨h5, h6⟩
        · exact Or.inl rfl
        · exact Or.inr (Or.inl (by simp; omega))
        · exact Or.inr (Or.inr ⟨by simp [h5], Or.inr ⟨rfl, h6⟩⟩)
      · exact Or.inr (Or.inr ⟨by simp; omega, Or.inl (by omega)⟩)
end Greedy2
/-! a leg: the nearest covered place, the one with the least number among these, and the least way to it -/
section Leg
variable (nx : Nat → Nat → Option Nat) (ok cov : Nat → Bool)
def legS (s : Nat) : Option (Nat × List Nat) → Prop
  | none => ∀ q u, cov q = true → wk nx ok (fun p => !cov p) s u ≠ some q
  | some (g, π) => cov g = true ∧ wk nx ok (fun p => !cov p) s π = some g ∧ (∀ q u, cov q = true → wk nx ok (fun p => !cov p) s u = some q → π.length < u.length ∨ (π.length = u.length ∧ g ≤ q)) ∧ ∀ u, u.length = π.length → wk nx ok (fun p => !cov p) s u = some g → sle π u
theorem legS_uniq {s : Nat} {a b : Option (Nat × List Nat)} (ha : legS nx ok cov s a) (hb : legS nx ok cov s b) : a = b := by
  cases a with
  | none =>
    cases b with
    | none => rfl
    | some y =>
      obtain ⟨g, π⟩ := y
      exact absurd hb.2.1 (ha g π hb.1)
  | some x =>
    obtain ⟨g, π⟩ := x
    cases b with
    | none => exact absurd ha.2.1 (hb g π ha.1)
    | some y =>
      obtain ⟨g', π'⟩ := y
      have h1 := ha.2.2.1 g' π' hb.1 hb.2.1
      have h2 := hb.2.2.1 g π ha.1 ha.2.1
      have e1 : π.length = π'.length := by omega
      have e2 : g = g' := by omega
      subst e2
      have h3 := ha.2.2.2 π' e1.symm hb.2.1
      have h4 := hb.2.2.2 π e1 ha.2.1
      rw [sle_anti h3 h4]
noncomputable def leg (s : Nat) : Option (Nat × List Nat) := Classical.epsilon (legS nx ok cov s)
theorem leg_eq {s : Nat} {r : Option (Nat × List Nat)} (h : legS nx ok cov s r) : leg nx ok cov s = r := legS_uniq nx ok cov (Classical.epsilon_spec (p := legS nx ok cov s) ⟨r, h⟩) h
end Leg
section Leg2
variable {nx : Nat → Nat → Option Nat} {ok cov : Nat → Bool} {s f i : Nat} {pos par dr : Nat → Nat}
theorem qk_none (h : qk nx ok (fun p => !cov p) s f f pos par dr) (hc : ∀ k, k < f → cov (pos k) = false) : legS nx ok cov s none := by
  intro q u hq hw
  obtain ⟨k, k1, k2, -⟩ := h.least (D := u.length) (fun k hk _ => hk) u.length u q rfl (Nat.le_refl _) hw
  rw [← k2, hc k k1] at hq
  cases hq
theorem qk_some (h : qk nx ok (fun p => !cov p) s f i pos par dr) (hinj : ∀ j k, j < f → k < f → pos j = pos k → j = k) {b : Nat} (hb : b < f) (hcb : cov (pos b) = true)
    (h1 : ∀ k, k < f → (pth par dr k k).length < (pth par dr b b).length → k < i ∧ cov (pos k) = false) (h2 : ∀ k, k < f → (pth par dr k k).length = (pth par dr b b).length → cov (pos k) = true → pos b ≤ pos k) : legS nx ok cov s (some (pos b, pth par dr b b)) := by
  have hl := h.least (D := (pth par dr b b).length) (fun k hk hlt => (h1 k hk hlt).1)
  refine ⟨hcb, h.way b hb, fun q u hq hw => ?_, fun u hu hw => ?_⟩
  · rcases Nat.lt_or_ge (pth par dr b b).length u.length with hlt | hge
    · exact Or.inl hlt
    · obtain ⟨k, k1, k2, k3⟩ := hl u.length u q rfl hge hw
      have k4 := sle_len k3
      rcases Nat.lt_or_ge (pth par dr k k).length (pth par dr b b).length with hlt2 | hge2
      · have := (h1 k k1 hlt2).2
        rw [k2, hq] at this
        cases this
      · exact Or.inr ⟨by omega, by rw [← k2]; exact h2 k k1 (by omega) (by rw [k2]; exact hq)⟩
  · obtain ⟨k, k1, k2, k3⟩ := hl u.length u _ rfl (by omega) hw
    have : k = b := hinj k b k1 hb k2
    subst this
    exact k3
theorem dk_none {t : Nat → Nat} (h : dk nx ok (fun p => !cov p) s t) (hc : ∀ q, cov q = true → t q = 100000) : legS nx ok cov s none := by
  intro q u hq hw
  exact (h.2 u q hw).2 (hc q hq)
theorem dk_some {op : Nat → Nat} (hs : ∀ p d q, nx p d = some q → nx q (op d) = some p) {t tb : Nat → Nat} {g : Nat} {π : List Nat} (h : dk nx ok (fun p => !cov p) s t) (hg : cov g = true) (htg : t g ≠ 100000) (hm : ∀ q, cov q = true → t q ≠ 100000 → t g < t q ∨ (t g = t q ∧ g ≤ q))
    (hb : dk nx ok (fun q => q == g || !cov q) g tb) (hos : ok s = true) (hcs : cov s = false) (hr : gr nx ok (fun p => !cov p) g tb s π) : legS nx ok cov s (some (g, π)) := by
  obtain ⟨u, hu, hw⟩ := h.1 g htg
  obtain ⟨u', hu', hw'⟩ := wk_back (ex := fun p => !cov p) hs u s hos hw
  obtain ⟨c1, c2⟩ := hb.2 u' s hw'
  obtain ⟨s1, s2, s3⟩ := gr.spec (ex := fun p => !cov p) hs hb π s hos (Or.inr (by simp [hcs])) c2 hr
  have c3 := (h.2 π g s2).1
  have e : π.length = t g := by omega
  refine ⟨hg, s2, fun q v hq hv => ?_, fun v hv hvw => s3 v (by omega) hvw⟩
  obtain ⟨d1, d2⟩ := h.2 v q hv
  rcases hm q hq d2 with h3 | ⟨h3, h4⟩
  · exact Or.inl (by omega)
  · rcases Nat.lt_or_ge π.length v.length with h5 | h5
    · exact Or.inl h5
    · exact Or.inr ⟨by omega, h4⟩
end Leg2
end
section
/-! The words of the document over the numbers as the cells hold them: an insert is (n, dz, dr), a stock X says which of the 96 cells stand. -/
def freeB (C : Int32) (sy : Nat → Int32) (z r : Int32) : Bool := decide (z.toInt < C.toInt) && (decide (z.toInt < 0) || decide (12 ≤ z.toInt) || decide ((sy z.toInt.toNat).toInt ≤ r.toInt))
def safeB (C : Int32) (sy : Nat → Int32) (n : Nat) (dz dr : Nat → Int32) (z r : Int32) : Bool := allB n (fun i => freeB C sy (z + dz i) (r + dr i))
def cellB (z r : Int32) : Bool := decide (0 ≤ z.toInt) && decide (z.toInt < 12) && decide (0 ≤ r.toInt) && decide (r.toInt < 8)
def posB (z r : Int32) : Bool := decide (-4 ≤ z.toInt) && decide (z.toInt < 16) && decide (0 ≤ r.toInt) && decide (r.toInt < 16)
def cix (z r : Int32) : Nat := 8 * z.toInt.toNat + r.toInt.toNat
def barB (Rd Ln z r : Int32) : Bool := cellB z r && decide (z.toInt < Ln.toInt) && decide (r.toInt < Rd.toInt)
def wasteB (Rd Ln : Int32) (sy : Nat → Int32) (z r : Int32) : Bool := barB Rd Ln z r && decide ((sy z.toInt.toNat).toInt ≤ r.toInt)
def hasB (X : Nat → Bool) (z r : Int32) : Bool := cellB z r && X (cix z r)
def covB (X : Nat → Bool) (n : Nat) (dz dr : Nat → Int32) (z r : Int32) : Bool := anyB n (fun i => hasB X (z + dz i) (r + dr i))
def cutF (X : Nat → Bool) (dz dr : Nat → Int32) (z r : Int32) : Nat → Nat × (Nat → Bool)
  | 0 => (0, X)
  | k + 1 => if hasB (cutF X dz dr z r k).2 (z + dz k) (r + dr k) = true then ((cutF X dz dr z r k).1 + 1, va_up (cutF X dz dr z r k).2 (cix (z + dz k) (r + dr k)) false) else cutF X dz dr z r k
def fillB (Rd Ln : Int32) : Nat → Bool := fun c => barB Rd Ln (nI (c / 8)) (nI (c % 8))
/-! positions by their numbers -/
def zP (p : Nat) : Int32 := nI (p / 16) - 4
def rP (p : Nat) : Int32 := nI (p % 16)
def nxt (p d : Nat) : Option Nat := if p < 320 then (match d with
  | 0 => if p / 16 < 19 then some (p + 16) else none
  | 1 => if 0 < p / 16 then some (p - 16) else none
  | 2 => if 0 < p % 16 then some (p - 1) else none
  | 3 => if p % 16 < 15 then some (p + 1) else none
  | _ => none) else none
def opp (d : Nat) : Nat := match d with
  | 0 => 1
  | 1 => 0
  | 2 => 3
  | _ => 2
theorem nxt_cases {p d q : Nat} (h : nxt p d = some q) : p < 320 ∧ ((d = 0 ∧ p / 16 < 19 ∧ q = p + 16) ∨ (d = 1 ∧ 0 < p / 16 ∧ q = p - 16) ∨ (d = 2 ∧ 0 < p % 16 ∧ q = p - 1) ∨ (d = 3 ∧ p % 16 < 15 ∧ q = p + 1)) := by
  unfold nxt at h
  split at h
  · rename_i hp
    refine ⟨hp, ?_⟩
    split at h
    · split at h
      · cases h; exact Or.inl ⟨rfl, by assumption, rfl⟩
      · cases h
    · split at h
      · cases h; exact Or.inr (Or.inl ⟨rfl, by assumption, rfl⟩)
      · cases h
    · split at h
      · cases h; exact Or.inr (Or.inr (Or.inl ⟨rfl, by assumption, rfl⟩))
      · cases h
    · split at h
      · cases h; exact Or.inr (Or.inr (Or.inr ⟨rfl, by assumption, rfl⟩))
      · cases h
    · cases h
  · cases h
theorem nxt_0 {p : Nat} (h : p / 16 < 19) : nxt p 0 = some (p + 16) := by
  unfold nxt
  rw [if_pos (by omega)]
  exact if_pos h
theorem nxt_1 {p : Nat} (hp : p < 320) (h : 0 < p / 16) : nxt p 1 = some (p - 16) := by
  unfold nxt
  rw [if_pos hp]
  exact if_pos h
theorem nxt_2 {p : Nat} (hp : p < 320) (h : 0 < p % 16) : nxt p 2 = some (p - 1) := by
  unfold nxt
  rw [if_pos hp]
  exact if_pos h
theorem nxt_3 {p : Nat} (hp : p < 320) (h : p % 16 < 15) : nxt p 3 = some (p + 1) := by
  unfold nxt
  rw [if_pos hp]
  exact if_pos h
theorem nxt_lt {p d q : Nat} (h : nxt p d = some q) : p < 320 ∧ q < 320 ∧ d < 4 := by
  obtain ⟨h0, h1⟩ := nxt_cases h
  exact ⟨h0, by omega, by omega⟩
theorem nxt_opp (p d q : Nat) (h : nxt p d = some q) : nxt q (opp d) = some p := by
  obtain ⟨h0, ⟨rfl, h1, rfl⟩ | ⟨rfl, h1, rfl⟩ | ⟨rfl, h1, rfl⟩ | ⟨rfl, h1, rfl⟩⟩ := nxt_cases h
  · exact (nxt_1 (by omega) (by omega)).trans (congrArg some (by omega))
  · exact (nxt_0 (by omega)).trans (congrArg some (by omega))
  · exact (nxt_3 (by omega) (by omega)).trans (congrArg some (by omega))
  · exact (nxt_2 (by omega) (by omega)).trans (congrArg some (by omega))
/-- a set that has home and is closed under steps onto good positions has every good position -/
theorem reach_all {ok F : Nat → Bool} (h1 : ∀ p, p < 320 → ok p = true → p % 16 < 15 → ok (p + 1) = true) (h2 : ∀ p, p < 320 → p % 16 = 15 → ok p = true → 16 ≤ p → ok (p - 16) = true)
    (h0 : F 15 = true) (hc : ∀ p d q, F p = true → nxt p d = some q → ok q = true → F q = true) : ∀ p, p < 320 → ok p = true → F p = true := by
  intro p hp ho
  have up : ∀ k, p % 16 + k ≤ 15 → ok (p + k) = true := by
    intro k
    induction k with
    | zero => intro _; exact ho
    | succ k ih =>
      intro hk
      exact h1 (p + k) (by omega) (ih (by omega)) (by omega)
  have top : ∀ k, k ≤ p / 16 → ok (16 * (p / 16 - k) + 15) = true := by
    intro k
    induction k with
    | zero =>
      intro _
      have := up (15 - p % 16) (by omega)
      rw [show 16 * (p / 16 - 0) + 15 = p + (15 - p % 16) by omega]
      exact this
    | succ k ih =>
      intro hk
      have := h2 (16 * (p / 16 - k) + 15) (by omega) (by omega) (ih (by omega)) (by omega)
      rw [show 16 * (p / 16 - (k + 1)) + 15 = 16 * (p / 16 - k) + 15 - 16 by omega]
      exact this
  have along : ∀ k, k ≤ p / 16 → F (16 * k + 15) = true := by
    intro k
    induction k with
    | zero => intro _; exact h0
    | succ k ih =>
      intro hk
      refine hc (16 * k + 15) 0 (16 * (k + 1) + 15) (ih (by omega)) ?_ ?_
      · rw [nxt_0 (by omega)]
        exact congrArg some (by omega)
      · have := top (p / 16 - (k + 1)) (by omega)
        rw [show 16 * (k + 1) + 15 = 16 * (p / 16 - (p / 16 - (k + 1))) + 15 by omega]
        exact this
  have down : ∀ k, k + p % 16 ≤ 15 → F (16 * (p / 16) + 15 - k) = true := by
    intro k
    induction k with
    | zero => intro _; exact along _ (Nat.le_refl _)
    | succ k ih =>
      intro hk
      refine hc (16 * (p / 16) + 15 - k) 2 (16 * (p / 16) + 15 - (k + 1)) (ih (by omega)) ?_ ?_
      · rw [nxt_2 (by omega) (by omega)]
        exact congrArg some (by omega)
      · have := up (15 - (k + 1) - p % 16) (by omega)
        rw [show 16 * (p / 16) + 15 - (k + 1) = p + (15 - (k + 1) - p % 16) by omega]
        exact this
  have := down (15 - p % 16) (by omega)
  rw [show 16 * (p / 16) + 15 - (15 - p % 16) = p by omega] at this
  exact this
/-! numbers -/
theorem i3_add {a b : Int32} (h1 : -1000000 ≤ a.toInt) (h2 : a.toInt ≤ 1000000) (h3 : -1000000 ≤ b.toInt) (h4 : b.toInt ≤ 1000000) : (a + b).toInt = a.toInt + b.toInt := by
  rw [Int32.toInt_add]
  exact Int.bmod_eq_of_le (by omega) (by omega)
theorem i3_sub {a b : Int32} (h1 : -1000000 ≤ a.toInt) (h2 : a.toInt ≤ 1000000) (h3 : -1000000 ≤ b.toInt) (h4 : b.toInt ≤ 1000000) : (a - b).toInt = a.toInt - b.toInt := by
  rw [Int32.toInt_sub]
  exact Int.bmod_eq_of_le (by omega) (by omega)
theorem zP_toInt {p : Nat} (h : p < 320) : (zP p).toInt = (p / 16 : Nat) - 4 := by
  unfold zP
  have h4 : (4 : Int32).toInt = 4 := by decide
  have h5 : (nI (p / 16)).toInt = ((p / 16 : Nat) : Int) := nI_toInt (by omega)
  rw [i3_sub (by omega) (by omega) (by omega) (by omega), h4, h5]
theorem rP_toInt (p : Nat) : (rP p).toInt = (p % 16 : Nat) := nI_toInt (by omega)
def safeP (C : Int32) (sy : Nat → Int32) (n : Nat) (dz dr : Nat → Int32) (p : Nat) : Bool := safeB C sy n dz dr (zP p) (rP p)
def covP (X : Nat → Bool) (n : Nat) (dz dr : Nat → Int32) (p : Nat) : Bool := covB X n dz dr (zP p) (rP p)
/-- the spots are small, the profile is at most 8 -/
def smallI (n : Nat) (dz dr : Nat → Int32) : Prop := ∀ i, i < n → -2 ≤ (dz i).toInt ∧ (dz i).toInt ≤ 2 ∧ 0 ≤ (dr i).toInt ∧ (dr i).toInt ≤ 4
theorem safeP_up {C : Int32} {sy : Nat → Int32} {n : Nat} {dz dr : Nat → Int32} (hs : smallI n dz dr) (p : Nat) (hp : p < 320) (h : safeP C sy n dz dr p = true) (hr : p % 16 < 15) : safeP C sy n dz dr (p + 1) = true := by
  refine allB_iff.mpr (fun i hi => ?_)
  have h1 := allB_iff.mp h i hi
  obtain ⟨s1, s2, s3, s4⟩ := hs i hi
  have z1 := zP_toInt hp
  have z2 := zP_toInt (p := p + 1) (by omega)
  have r1 := rP_toInt p
  have r2 := rP_toInt (p + 1)
  have ez : zP (p + 1) = zP p := Int32.toInt_inj.mp (by rw [z1, z2]; congr 2; omega)
  have a1 : (rP p + dr i).toInt = (rP p).toInt + (dr i).toInt := i3_add (by omega) (by omega) (by omega) (by omega)
  have a2 : (rP (p + 1) + dr i).toInt = (rP (p + 1)).toInt + (dr i).toInt := i3_add (by omega) (by omega) (by omega) (by omega)
  simp only [freeB, Bool.and_eq_true, Bool.or_eq_true, decide_eq_true_eq] at h1 ⊢
  rw [ez]
  refine ⟨h1.1, h1.2.imp id (fun h => ?_)⟩
  rw [a1] at h
  rw [a2]
  omega
theorem safeP_left {C : Int32} {sy : Nat → Int32} {n : Nat} {dz dr : Nat → Int32} (hs : smallI n dz dr) (hy : ∀ j, j < 12 → (sy j).toInt ≤ 8) (p : Nat) (hp : p < 320) (hr : p % 16 = 15) (h : safeP C sy n dz dr p = true) (h16 : 16 ≤ p) : safeP C sy n dz dr (p - 16) = true := by
  refine allB_iff.mpr (fun i hi => ?_)
  have h1 := allB_iff.mp h i hi
  obtain ⟨s1, s2, s3, s4⟩ := hs i hi
  have z1 := zP_toInt hp
  have z2 := zP_toInt (p := p - 16) (by omega)
  have r2 := rP_toInt (p - 16)
  have a1 : (zP p + dz i).toInt = (zP p).toInt + (dz i).toInt := i3_add (by omega) (by omega) (by omega) (by omega)
  have a2 : (zP (p - 16) + dz i).toInt = (zP (p - 16)).toInt + (dz i).toInt := i3_add (by omega) (by omega) (by omega) (by omega)
  have a3 : (rP (p - 16) + dr i).toInt = (rP (p - 16)).toInt + (dr i).toInt := i3_add (by omega) (by omega) (by omega) (by omega)
  simp only [freeB, Bool.and_eq_true, Bool.or_eq_true, decide_eq_true_eq] at h1 ⊢
  refine ⟨by omega, ?_⟩
  by_cases c1 : (zP (p - 16) + dz i).toInt < 0
  · exact Or.inl (Or.inl c1)
  · by_cases c2 : 12 ≤ (zP (p - 16) + dz i).toInt
    · exact Or.inl (Or.inr c2)
    · have := hy (zP (p - 16) + dz i).toInt.toNat (by omega)
      exact Or.inr (by omega)
end
section
/-! Moves and plans: a move is (kind, direction, steps). -/
abbrev Mv : Type := Nat × Nat × Nat
def addS (M : List Mv) (k d : Nat) : List Mv := match M.getLast? with
  | some q => if q.1 = k ∧ q.2.1 = d then M.dropLast ++ [(k, d, q.2.2 + 1)] else M ++ [(k, d, 1)]
  | none => [(k, d, 1)]
def addW : List Mv → List Nat → List Mv
  | M, [] => M
  | M, d :: ds => addW (addS M (if ds = [] then 1 else 0) d) ds
theorem addS_len (M : List Mv) (k d : Nat) : M.length ≤ (addS M k d).length ∧ (addS M k d).length ≤ M.length + 1 := by
  unfold addS
  split
  · rename_i q h
    have hne : M ≠ [] := by
      intro e
      rw [e] at h
      cases h
    have hl : 0 < M.length := List.length_pos_iff.mpr hne
    split
    · simp only [List.length_append, List.length_dropLast, List.length_cons, List.length_nil]
      omega
    · simp
  · rename_i h
    have : M = [] := List.getLast?_eq_none_iff.mp h
    simp [this]
theorem addW_len : ∀ (ds : List Nat) (M : List Mv), M.length ≤ (addW M ds).length
  | [], M => Nat.le_refl _
  | d :: ds, M => Nat.le_trans (addS_len M _ d).1 (addW_len ds _)
/-- every move has a kind, a direction, and steps up to B -/
def okM (B : Nat) (M : List Mv) : Prop := ∀ q ∈ M, (q.1 < 2 ∧ q.2.1 < 4 ∧ 1 ≤ q.2.2 ∧ q.2.2 ≤ B) ∨ q = (2, 0, 0)
theorem okM.mono {B B' : Nat} {M : List Mv} (h : okM B M) (hB : B ≤ B') : okM B' M := fun q hq => by
  rcases h q hq with ⟨h1, h2, h3, h4⟩ | h
  · exact Or.inl ⟨h1, h2, h3, by omega⟩
  · exact Or.inr h
theorem okM.change {B : Nat} {M : List Mv} (h : okM B M) : okM B (M ++ [(2, 0, 0)]) := fun q hq => by
  rcases List.mem_append.mp hq with h1 | h1
  · exact h q h1
  · exact Or.inr (List.mem_singleton.mp h1)
theorem okM_addS {B : Nat} {M : List Mv} {k d : Nat} (h : okM B M) (hk : k < 2) (hd : d < 4) : okM (B + 1) (addS M k d) := by
  have h' : okM (B + 1) M := h.mono (by omega)
  intro q hq
  unfold addS at hq
  split at hq
  · rename_i x hx
    have hxm : x ∈ M := List.mem_of_getLast? hx
    split at hq
    · rename_i he
      rcases List.mem_append.mp hq with h1 | h1
      · exact h' q (List.dropLast_subset M h1)
      · have e := List.mem_singleton.mp h1
        subst e
        rcases h x hxm with ⟨a1, a2, a3, a4⟩ | e
        · exact Or.inl ⟨hk, hd, by simp, by simp; omega⟩
        · rw [e] at he
          have := he.1
          simp at this
          omega
    · rcases List.mem_append.mp hq with h1 | h1
      · exact h' q h1
      · have e := List.mem_singleton.mp h1
        subst e
        exact Or.inl ⟨hk, hd, by simp, by simp⟩
  · have e := List.mem_singleton.mp hq
    subst e
    exact Or.inl ⟨hk, hd, by simp, by simp⟩
theorem okM_addW : ∀ (ds : List Nat) {B : Nat} {M : List Mv}, okM B M → (∀ d ∈ ds, d < 4) → okM (B + ds.length) (addW M ds)
  | [], _, _, h, _ => h
  | d :: ds, B, M, h, hd => by
    have h1 : okM (B + 1) (addS M (if ds = [] then 1 else 0) d) := okM_addS h (by split <;> omega) (hd d List.mem_cons_self)
    have h2 := okM_addW ds h1 (fun x hx => hd x (List.mem_cons_of_mem _ hx))
    have e : B + 1 + ds.length = B + (d :: ds).length := by simp; omega
    rw [e] at h2
    exact h2
end
section
/-! A trial, step by step: (position, cells cut so far, stock); an insert is (n, dz, dr). -/
abbrev Ins : Type := Nat × (Nat → Int32) × (Nat → Int32)
def okI (C : Int32) (sy : Nat → Int32) (I : Ins) (p : Nat) : Bool := safeP C sy I.1 I.2.1 I.2.2 p
def cvI (X : Nat → Bool) (I : Ins) (p : Nat) : Bool := covP X I.1 I.2.1 I.2.2 p
def ctI (X : Nat → Bool) (I : Ins) (p : Nat) : Nat × (Nat → Bool) := cutF X I.2.1 I.2.2 (zP p) (rP p) I.1
abbrev Sm : Type := Nat × Int32 × (Nat → Bool)
/-- one step: 0, or what is wrong; and what is behind it -/
def smS (C : Int32) (sy : Nat → Int32) (I : Ins) (k d : Nat) (x : Sm) : Nat × Sm := match nxt x.1 d with
  | none => (1, x)
  | some q => if okI C sy I q = true then (if k = 0 ∧ cvI x.2.2 I q = true then (2, x) else if k = 1 then (0, q, x.2.1 + nI (ctI x.2.2 I q).1, (ctI x.2.2 I q).2) else (0, q, x.2.1, x.2.2)) else (1, x)
/-- up to c steps -/
def smC (C : Int32) (sy : Nat → Int32) (I : Ins) (k d : Nat) : Nat → Sm → Nat × Sm
  | 0, x => (0, x)
  | c + 1, x => if (smS C sy I k d x).1 = 0 then smC C sy I k d c (smS C sy I k d x).2 else smS C sy I k d x
/-- one move: the job is ns inserts J 0 .. J (ns - 1), ch of them were changed to -/
def smM (C : Int32) (sy : Nat → Int32) (ns : Nat) (J : Nat → Ins) (q : Mv) (x : Nat × Sm) : Nat × Nat × Sm :=
  if q.1 = 2 then (if ns ≤ x.1 then (4, x) else (0, x.1 + 1, 15, x.2.2))
  else if x.1 = 0 then (3, x) else ((smC C sy (J (x.1 - 1)) q.1 q.2.1 q.2.2 x.2).1, x.1, (smC C sy (J (x.1 - 1)) q.1 q.2.1 q.2.2 x.2).2)
/-- the moves i .. i + c - 1: the first fault as it is told (or none), and what is behind -/
def smA (C : Int32) (sy : Nat → Int32) (ns : Nat) (J : Nat → Ins) (mv : Nat → Mv) : Nat → Nat → Nat × Sm → Option Nat × Nat × Sm
  | _, 0, x => (none, x)
  | i, c + 1, x => if (smM C sy ns J (mv i) x).1 = 0 then smA C sy ns J mv (i + 1) c (smM C sy ns J (mv i) x).2 else (some (10 * i + (smM C sy ns J (mv i) x).1), (smM C sy ns J (mv i) x).2)
/-! a plan -/
noncomputable def plR (C : Int32) (sy : Nat → Int32) (I : Ins) : Nat → List Mv × (Nat → Bool) × Nat → List Mv × (Nat → Bool)
  | 0, x => (x.1, x.2.1)
  | n + 1, x => match leg nxt (okI C sy I) (cvI x.2.1 I) x.2.2 with
    | none => (x.1, x.2.1)
    | some y => plR C sy I n (addW x.1 y.2, (ctI x.2.1 I y.1).2, y.1)
noncomputable def plA (C : Int32) (sy : Nat → Int32) (J : Nat → Ins) (X : Nat → Bool) : Nat → List Mv × (Nat → Bool)
  | 0 => ([], X)
  | k + 1 => plR C sy (J k) 96 ((plA C sy J X k).1 ++ [(2, 0, 0)], (plA C sy J X k).2, 15)
end
section
/-! The queue as it grows: places below i have told all, place i its directions below d. -/
theorem pigeon : ∀ (n f : Nat) (pos : Nat → Nat), (∀ k, k < f → pos k < n) → (∀ j k, j < f → k < f → pos j = pos k → j = k) → f ≤ n := by
  intro n
  induction n with
  | zero =>
    intro f pos h _
    cases f with
    | zero => exact Nat.le_refl _
    | succ f => exact absurd (h 0 (by omega)) (by omega)
  | succ n ih =>
    intro f pos h hi
    by_cases hx : ∃ m, m < f ∧ pos m = n
    · obtain ⟨m, hm, e⟩ := hx
      have h2 := ih (f - 1) (fun k => if k < m then pos k else pos (k + 1)) (fun k hk => by
        show (if k < m then pos k else pos (k + 1)) < n
        split
        · have a := h k (by omega)
          have b : pos k ≠ n := fun q => by have := hi k m (by omega) hm (by omega); omega
          omega
        · have a := h (k + 1) (by omega)
          have b : pos (k + 1) ≠ n := fun q => by have := hi (k + 1) m (by omega) hm (by omega); omega
          omega) (fun j k hj hk => by
        show (if j < m then pos j else pos (j + 1)) = (if k < m then pos k else pos (k + 1)) → j = k
        split <;> split
        · intro q
          exact hi j k (by omega) (by omega) q
        · intro q
          have := hi j (k + 1) (by omega) (by omega) q
          omega
        · intro q
          have := hi (j + 1) k (by omega) (by omega) q
          omega
        · intro q
          have := hi (j + 1) (k + 1) (by omega) (by omega) q
          omega)
      omega
    · have h2 := ih f pos (fun k hk => by
        have a := h k hk
        have b : pos k ≠ n := fun q => hx ⟨k, hk, q⟩
        omega) hi
      omega
section Grow
variable (nx : Nat → Nat → Option Nat) (ok ex : Nat → Bool)
def qg (s f i d : Nat) (pos par dr : Nat → Nat) : Prop :=
  0 < f ∧ pos 0 = s ∧ (∀ k, 0 < k → k < f → par k < k ∧ ex (pos (par k)) = true ∧ nx (pos (par k)) (dr k) = some (pos k) ∧ ok (pos k) = true) ∧
  (∀ j k, 0 < j → j < k → k < f → par j < par k ∨ (par j = par k ∧ dr j < dr k)) ∧
  (∀ j d', (j < i ∨ (j = i ∧ d' < d)) → ∀ q, nx (pos j) d' = some q → ok q = true → ∃ k, k < f ∧ pos k = q ∧ (k = 0 ∨ par k < j ∨ (par k = j ∧ dr k ≤ d'))) ∧
  (∀ k, 0 < k → k < f → par k < i ∨ (par k = i ∧ dr k < d)) ∧ (∀ j k, j < f → k < f → pos j = pos k → j = k)
end Grow
section Grow2
variable {nx : Nat → Nat → Option Nat} {ok ex : Nat → Bool} {s f i d : Nat} {pos par dr : Nat → Nat}
theorem qg_0 {pos par dr : Nat → Nat} (h : pos 0 = s) : qg nx ok ex s 1 0 0 pos par dr := by
  refine ⟨by omega, h, fun k h1 h2 => by omega, fun j k h1 h2 h3 => by omega, fun j d' h1 => by omega, fun k h1 h2 => by omega, fun j k h1 h2 _ => by omega⟩
theorem qg.all (h : qg nx ok ex s f i 0 pos par dr) : qk nx ok ex s f i pos par dr :=
  ⟨h.1, h.2.1, h.2.2.1, h.2.2.2.1, fun j hj d q => h.2.2.2.2.1 j d (Or.inl hj) q⟩
theorem qg.inj (h : qg nx ok ex s f i d pos par dr) : ∀ j k, j < f → k < f → pos j = pos k → j = k := h.2.2.2.2.2.2
/-- nothing new in direction d -/
theorem qg.skip (h : qg nx ok ex s f i d pos par dr) (hq : ∀ q, nx (pos i) d = some q → ok q = true → ∃ k, k < f ∧ pos k = q) : qg nx ok ex s f i (d + 1) pos par dr := by
  refine ⟨h.1, h.2.1, h.2.2.1, h.2.2.2.1, fun j d' hj q h1 h2 => ?_, fun k h1 h2 => ?_, h.inj⟩
  · by_cases e : j = i ∧ d' = d
    · obtain ⟨rfl, rfl⟩ := e
      obtain ⟨k, k1, k2⟩ := hq q h1 h2
      refine ⟨k, k1, k2, ?_⟩
      by_cases h0 : k = 0
      · exact Or.inl h0
      · rcases h.2.2.2.2.2.1 k (by omega) k1 with h3 | ⟨h3, h4⟩
        · exact Or.inr (Or.inl h3)
        · exact Or.inr (Or.inr ⟨h3, by omega⟩)
    · exact h.2.2.2.2.1 j d' (by omega) q h1 h2
  · have := h.2.2.2.2.2.1 k h1 h2
    omega
/-- a new place in direction d -/
theorem qg.new (h : qg nx ok ex s f i d pos par dr) (hi : i < f) (he : ex (pos i) = true) {q : Nat} (hq : nx (pos i) d = some q) (ho : ok q = true) (hn : ∀ k, k < f → pos k ≠ q) : qg nx ok ex s (f + 1) i (d + 1) (va_up pos f q) (va_up par f i) (va_up dr f d) := by
  have u1 : ∀ (g : Nat → Nat) (x k : Nat), k < f → va_up g f x k = g k := fun g x k hk => by
    unfold va_up
    rw [if_neg (by omega)]
  have u2 : ∀ (g : Nat → Nat) (x : Nat), va_up g f x f = x := fun g x => by
    unfold va_up
    rw [if_pos rfl]
  refine ⟨by omega, ?_, fun k h1 h2 => ?_, fun j k h1 h2 h3 => ?_, fun j d' hj z h1 h2 => ?_, fun k h1 h2 => ?_, fun j k h1 h2 e => ?_⟩
  · rw [u1 _ _ _ h.1]
    exact h.2.1
  · by_cases e : k = f
    · subst e
      rw [u2, u2, u2, u1 _ _ _ hi]
      exact ⟨hi, he, hq, ho⟩
    · have hk : k < f := by omega
      have a := h.2.2.1 k h1 hk
      rw [u1 _ _ _ hk, u1 _ _ _ hk, u1 _ _ _ hk, u1 _ _ _ (by omega)]
      exact a
  · by_cases e : k = f
    · subst e
      rw [u2, u2, u1 _ _ _ h2, u1 _ _ _ h2]
      have := h.2.2.2.2.2.1 j h1 h2
      omega
    · have hk : k < f := by omega
      rw [u1 _ _ _ hk, u1 _ _ _ hk, u1 _ _ _ (by omega), u1 _ _ _ (by omega)]
      exact h.2.2.2.1 j k h1 h2 hk
  · have hj2 : j < f := by omega
    rw [u1 _ _ _ hj2] at h1
    by_cases e : j = i ∧ d' = d
    · obtain ⟨rfl, rfl⟩ := e
      have ez : q = z := Option.some.inj (hq.symm.trans h1)
      subst ez
      exact ⟨f, by omega, u2 _ _, Or.inr (Or.inr ⟨u2 _ _, by rw [u2]; exact Nat.le_refl _⟩)⟩
    · obtain ⟨k, k1, k2, k3⟩ := h.2.2.2.2.1 j d' (by omega) z h1 h2
      refine ⟨k, by omega, by rw [u1 _ _ _ k1]; exact k2, ?_⟩
      rw [u1 _ _ _ k1, u1 _ _ _ k1]
      exact k3
  · by_cases e : k = f
    · subst e
      rw [u2, u2]
      exact Or.inr ⟨rfl, by omega⟩
    · have hk : k < f := by omega
      rw [u1 _ _ _ hk, u1 _ _ _ hk]
      have := h.2.2.2.2.2.1 k h1 hk
      omega
  · by_cases e1 : j = f
    · by_cases e2 : k = f
      · omega
      · rw [e1, u2, u1 _ _ _ (by omega)] at e
        exact absurd e.symm (hn k (by omega))
    · by_cases e2 : k = f
      · rw [e2, u2, u1 _ _ _ (by omega)] at e
        exact absurd e (hn j (by omega))
      · rw [u1 _ _ _ (by omega), u1 _ _ _ (by omega)] at e
        exact h.inj j k (by omega) (by omega) e
theorem qg.turn (h : qg nx ok ex s f i d pos par dr) (hd : ∀ p d' q, nx p d' = some q → d' < d) : qg nx ok ex s f (i + 1) 0 pos par dr := by
  refine ⟨h.1, h.2.1, h.2.2.1, h.2.2.2.1, fun j d' hj q h1 h2 => ?_, fun k h1 h2 => ?_, h.inj⟩
  · have h3 := hd _ _ _ h1
    exact h.2.2.2.2.1 j d' (by omega) q h1 h2
  · have := h.2.2.2.2.2.1 k h1 h2
    omega
/-- the ways of old places stay as the queue grows -/
theorem pth_up {x y : Nat} (hp : ∀ k, 0 < k → k < f → par k < k) : ∀ (n k : Nat), k < f → pth (va_up par f x) (va_up dr f y) n k = pth par dr n k := by
  intro n
  induction n with
  | zero => intro k _; rfl
  | succ n ih =>
    intro k hk
    by_cases h0 : k = 0
    · subst h0
      simp [pth]
    · have h1 := hp k (by omega) hk
      have u1 : ∀ (g : Nat → Nat) (x : Nat), va_up g f x k = g k := fun g x => by
        unfold va_up
        rw [if_neg (by omega)]
      simp only [pth, if_neg h0, u1]
      rw [ih (par k) (by omega)]
end Grow2
end
