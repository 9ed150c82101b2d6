-- names: classes, their fields, methods; written by wip/whole/gen/gen1.py
abbrev nk_T : Type := MethodName × ByteArray × Nat × Option FieldType
def R_Row : String := "NeedCode$Row"
def F_Row : u_T := fun k => match k with
  | _ => ("NeedCode$Row", "ints", "[I", true)
def t_Row : Nat → FieldType := fun k => match k with
  | _ => .array .int
theorem n_Row : ∀ a, a < 1 → ∀ b, b < 1 → a ≠ b → (F_Row a).2.1 ≠ (F_Row b).2.1 := by decide +kernel
theorem t_Row_ok : ∀ k, k < 1 → parseFieldDescriptor (F_Row k).2.2.1 = some (t_Row k) := by decide +kernel
def R_Tree : String := "NeedCode$Tree"
def F_Tree : u_T := fun k => match k with
  | 0 => ("NeedCode$Tree", "letters", "LNeedCode$Row;", true)
  | 1 => ("NeedCode$Tree", "numbers", "LNeedCode$Row;", true)
  | 2 => ("NeedCode$Tree", "lefts", "LNeedCode$Row;", true)
  | 3 => ("NeedCode$Tree", "rights", "LNeedCode$Row;", true)
  | 4 => ("NeedCode$Tree", "needs", "LNeedCode$Row;", true)
  | 5 => ("NeedCode$Tree", "leasts", "LNeedCode$Row;", true)
  | 6 => ("NeedCode$Tree", "traps", "LNeedCode$Row;", true)
  | 7 => ("NeedCode$Tree", "spans", "LNeedCode$Row;", true)
  | 8 => ("NeedCode$Tree", "alikes", "LNeedCode$Row;", true)
  | _ => ("NeedCode$Tree", "size", "I", false)
def t_Tree : Nat → FieldType := fun k => match k with
  | 0 => .object "NeedCode$Row"
  | 1 => .object "NeedCode$Row"
  | 2 => .object "NeedCode$Row"
  | 3 => .object "NeedCode$Row"
  | 4 => .object "NeedCode$Row"
  | 5 => .object "NeedCode$Row"
  | 6 => .object "NeedCode$Row"
  | 7 => .object "NeedCode$Row"
  | 8 => .object "NeedCode$Row"
  | _ => .int
theorem n_Tree : ∀ a, a < 10 → ∀ b, b < 10 → a ≠ b → (F_Tree a).2.1 ≠ (F_Tree b).2.1 := by decide +kernel
theorem t_Tree_ok : ∀ k, k < 10 → parseFieldDescriptor (F_Tree k).2.2.1 = some (t_Tree k) := by decide +kernel
def R_Image : String := "NeedCode$Image"
def F_Image : u_T := fun k => match k with
  | 0 => ("NeedCode$Image", "tree", "LNeedCode$Tree;", true)
  | 1 => ("NeedCode$Image", "names", "LNeedCode$Row;", true)
  | 2 => ("NeedCode$Image", "machine", "LNeedCode$Row;", true)
  | _ => ("NeedCode$Image", "kept", "Z", false)
def t_Image : Nat → FieldType := fun k => match k with
  | 0 => .object "NeedCode$Tree"
  | 1 => .object "NeedCode$Row"
  | 2 => .object "NeedCode$Row"
  | _ => .boolean
theorem n_Image : ∀ a, a < 4 → ∀ b, b < 4 → a ≠ b → (F_Image a).2.1 ≠ (F_Image b).2.1 := by decide +kernel
theorem t_Image_ok : ∀ k, k < 4 → parseFieldDescriptor (F_Image k).2.2.1 = some (t_Image k) := by decide +kernel
def R_Reader : String := "NeedCode$Reader"
def F_Reader : u_T := fun k => match k with
  | 0 => ("NeedCode$Reader", "marks", "LNeedCode$Row;", true)
  | 1 => ("NeedCode$Reader", "markPlaces", "LNeedCode$Row;", true)
  | 2 => ("NeedCode$Reader", "parts", "LNeedCode$Row;", true)
  | 3 => ("NeedCode$Reader", "markCount", "I", false)
  | 4 => ("NeedCode$Reader", "partCount", "I", false)
  | 5 => ("NeedCode$Reader", "place", "I", false)
  | 6 => ("NeedCode$Reader", "fault", "I", false)
  | 7 => ("NeedCode$Reader", "partIsDue", "Z", false)
  | _ => ("NeedCode$Reader", "ended", "Z", false)
def t_Reader : Nat → FieldType := fun k => match k with
  | 0 => .object "NeedCode$Row"
  | 1 => .object "NeedCode$Row"
  | 2 => .object "NeedCode$Row"
  | 3 => .int
  | 4 => .int
  | 5 => .int
  | 6 => .int
  | 7 => .boolean
  | _ => .boolean
theorem n_Reader : ∀ a, a < 9 → ∀ b, b < 9 → a ≠ b → (F_Reader a).2.1 ≠ (F_Reader b).2.1 := by decide +kernel
theorem t_Reader_ok : ∀ k, k < 9 → parseFieldDescriptor (F_Reader k).2.2.1 = some (t_Reader k) := by decide +kernel
def R_Acts : String := "NeedCode$Acts"
def F_Acts : u_T := fun k => match k with
  | 0 => ("NeedCode$Acts", "kinds", "LNeedCode$Row;", true)
  | 1 => ("NeedCode$Acts", "places", "LNeedCode$Row;", true)
  | 2 => ("NeedCode$Acts", "numbers", "LNeedCode$Row;", true)
  | 3 => ("NeedCode$Acts", "machines", "LNeedCode$Row;", true)
  | 4 => ("NeedCode$Acts", "latest", "I", false)
  | _ => ("NeedCode$Acts", "known", "I", false)
def t_Acts : Nat → FieldType := fun k => match k with
  | 0 => .object "NeedCode$Row"
  | 1 => .object "NeedCode$Row"
  | 2 => .object "NeedCode$Row"
  | 3 => .object "NeedCode$Row"
  | 4 => .int
  | _ => .int
theorem n_Acts : ∀ a, a < 6 → ∀ b, b < 6 → a ≠ b → (F_Acts a).2.1 ≠ (F_Acts b).2.1 := by decide +kernel
theorem t_Acts_ok : ∀ k, k < 6 → parseFieldDescriptor (F_Acts k).2.2.1 = some (t_Acts k) := by decide +kernel
def R_Costs : String := "NeedCode$Costs"
def F_Costs : u_T := fun k => match k with
  | 0 => ("NeedCode$Costs", "costs", "LNeedCode$Row;", true)
  | 1 => ("NeedCode$Costs", "ways", "LNeedCode$Row;", true)
  | 2 => ("NeedCode$Costs", "leaves", "LNeedCode$Row;", true)
  | 3 => ("NeedCode$Costs", "leastWay", "I", false)
  | _ => ("NeedCode$Costs", "leastPrice", "I", false)
def t_Costs : Nat → FieldType := fun k => match k with
  | 0 => .object "NeedCode$Row"
  | 1 => .object "NeedCode$Row"
  | 2 => .object "NeedCode$Row"
  | 3 => .int
  | _ => .int
theorem n_Costs : ∀ a, a < 5 → ∀ b, b < 5 → a ≠ b → (F_Costs a).2.1 ≠ (F_Costs b).2.1 := by decide +kernel
theorem t_Costs_ok : ∀ k, k < 5 → parseFieldDescriptor (F_Costs k).2.2.1 = some (t_Costs k) := by decide +kernel
def R_Program : String := "NeedCode$Program"
def F_Program : u_T := fun k => match k with
  | 0 => ("NeedCode$Program", "rows", "LNeedCode$Row;", true)
  | 1 => ("NeedCode$Program", "cellOf", "LNeedCode$Row;", true)
  | 2 => ("NeedCode$Program", "length", "I", false)
  | 3 => ("NeedCode$Program", "cells", "I", false)
  | _ => ("NeedCode$Program", "madeBy", "I", false)
def t_Program : Nat → FieldType := fun k => match k with
  | 0 => .object "NeedCode$Row"
  | 1 => .object "NeedCode$Row"
  | 2 => .int
  | 3 => .int
  | _ => .int
theorem n_Program : ∀ a, a < 5 → ∀ b, b < 5 → a ≠ b → (F_Program a).2.1 ≠ (F_Program b).2.1 := by decide +kernel
theorem t_Program_ok : ∀ k, k < 5 → parseFieldDescriptor (F_Program k).2.2.1 = some (t_Program k) := by decide +kernel
def R_Device : String := "NeedCode$Device"
def F_Device : u_T := fun k => match k with
  | 0 => ("NeedCode$Device", "values", "LNeedCode$Row;", true)
  | 1 => ("NeedCode$Device", "registers", "LNeedCode$Row;", true)
  | 2 => ("NeedCode$Device", "cells", "LNeedCode$Row;", true)
  | 3 => ("NeedCode$Device", "result", "I", false)
  | _ => ("NeedCode$Device", "trap", "I", false)
def t_Device : Nat → FieldType := fun k => match k with
  | 0 => .object "NeedCode$Row"
  | 1 => .object "NeedCode$Row"
  | 2 => .object "NeedCode$Row"
  | 3 => .int
  | _ => .int
theorem n_Device : ∀ a, a < 5 → ∀ b, b < 5 → a ≠ b → (F_Device a).2.1 ≠ (F_Device b).2.1 := by decide +kernel
theorem t_Device_ok : ∀ k, k < 5 → parseFieldDescriptor (F_Device k).2.2.1 = some (t_Device k) := by decide +kernel
def R_Shares : String := "NeedCode$Shares"
def F_Shares : u_T := fun k => match k with
  | 0 => ("NeedCode$Shares", "firsts", "LNeedCode$Row;", true)
  | 1 => ("NeedCode$Shares", "times", "LNeedCode$Row;", true)
  | 2 => ("NeedCode$Shares", "trial", "LNeedCode$Costs;", true)
  | 3 => ("NeedCode$Shares", "found", "I", false)
  | 4 => ("NeedCode$Shares", "leastSum", "I", false)
  | 5 => ("NeedCode$Shares", "leastSet", "I", false)
  | _ => ("NeedCode$Shares", "weighed", "Z", false)
def t_Shares : Nat → FieldType := fun k => match k with
  | 0 => .object "NeedCode$Row"
  | 1 => .object "NeedCode$Row"
  | 2 => .object "NeedCode$Costs"
  | 3 => .int
  | 4 => .int
  | 5 => .int
  | _ => .boolean
theorem n_Shares : ∀ a, a < 7 → ∀ b, b < 7 → a ≠ b → (F_Shares a).2.1 ≠ (F_Shares b).2.1 := by decide +kernel
theorem t_Shares_ok : ∀ k, k < 7 → parseFieldDescriptor (F_Shares k).2.2.1 = some (t_Shares k) := by decide +kernel
def R_Need : String := "NeedCode"
def F_Need : u_T := fun k => match k with
  | 0 => ("NeedCode", "text", "LNeedCode$Row;", true)
  | 1 => ("NeedCode", "reader", "LNeedCode$Reader;", true)
  | 2 => ("NeedCode", "now", "LNeedCode$Image;", true)
  | 3 => ("NeedCode", "image0", "LNeedCode$Image;", true)
  | 4 => ("NeedCode", "image1", "LNeedCode$Image;", true)
  | 5 => ("NeedCode", "spare", "LNeedCode$Tree;", true)
  | 6 => ("NeedCode", "acts", "LNeedCode$Acts;", true)
  | 7 => ("NeedCode", "costs", "LNeedCode$Costs;", true)
  | 8 => ("NeedCode", "lines", "LNeedCode$Program;", true)
  | 9 => ("NeedCode", "device", "LNeedCode$Device;", true)
  | 10 => ("NeedCode", "shares", "LNeedCode$Shares;", true)
  | 11 => ("NeedCode", "textLength", "I", false)
  | 12 => ("NeedCode", "told", "I", false)
  | _ => ("NeedCode", "trapNode", "I", false)
def t_Need : Nat → FieldType := fun k => match k with
  | 0 => .object "NeedCode$Row"
  | 1 => .object "NeedCode$Reader"
  | 2 => .object "NeedCode$Image"
  | 3 => .object "NeedCode$Image"
  | 4 => .object "NeedCode$Image"
  | 5 => .object "NeedCode$Tree"
  | 6 => .object "NeedCode$Acts"
  | 7 => .object "NeedCode$Costs"
  | 8 => .object "NeedCode$Program"
  | 9 => .object "NeedCode$Device"
  | 10 => .object "NeedCode$Shares"
  | 11 => .int
  | 12 => .int
  | _ => .int
theorem n_Need : ∀ a, a < 14 → ∀ b, b < 14 → a ≠ b → (F_Need a).2.1 ≠ (F_Need b).2.1 := by decide +kernel
theorem t_Need_ok : ∀ k, k < 14 → parseFieldDescriptor (F_Need k).2.2.1 = some (t_Need k) := by decide +kernel
def R_Model : String := "NeedCodeModel"
def F_Model : u_T := fun k => match k with
  | 0 => ("NeedCodeModel", "thrown", "I", false)
  | 1 => ("NeedCodeModel", "text", "[I", true)
  | 2 => ("NeedCodeModel", "typed", "I", false)
  | 3 => ("NeedCodeModel", "at", "I", false)
  | 4 => ("NeedCodeModel", "fault", "I", false)
  | 5 => ("NeedCodeModel", "draft", "[I", true)
  | 6 => ("NeedCodeModel", "s", "[I", true)
  | 7 => ("NeedCodeModel", "w", "[I", true)
  | 8 => ("NeedCodeModel", "undos", "[I", true)
  | 9 => ("NeedCodeModel", "undoMany", "I", false)
  | 10 => ("NeedCodeModel", "kept", "[I", true)
  | 11 => ("NeedCodeModel", "isKept", "[Z", true)
  | 12 => ("NeedCodeModel", "askedLast", "I", false)
  | 13 => ("NeedCodeModel", "trappedLast", "I", false)
  | 14 => ("NeedCodeModel", "parts", "[I", true)
  | 15 => ("NeedCodeModel", "partMany", "I", false)
  | 16 => ("NeedCodeModel", "waiting", "[I", true)
  | 17 => ("NeedCodeModel", "waitingAt", "[I", true)
  | 18 => ("NeedCodeModel", "waitMany", "I", false)
  | 19 => ("NeedCodeModel", "leaf", "[Z", true)
  | 20 => ("NeedCodeModel", "costs", "[I", true)
  | 21 => ("NeedCodeModel", "ways", "[I", true)
  | 22 => ("NeedCodeModel", "values", "[I", true)
  | 23 => ("NeedCodeModel", "todo", "[I", true)
  | 24 => ("NeedCodeModel", "todoMany", "I", false)
  | 25 => ("NeedCodeModel", "lines", "[I", true)
  | 26 => ("NeedCodeModel", "lineMany", "I", false)
  | 27 => ("NeedCodeModel", "cellOf", "[I", true)
  | 28 => ("NeedCodeModel", "cells", "I", false)
  | 29 => ("NeedCodeModel", "registers", "[I", true)
  | 30 => ("NeedCodeModel", "cell", "[I", true)
  | _ => ("NeedCodeModel", "need", "[I", true)
def t_Model : Nat → FieldType := fun k => match k with
  | 0 => .int
  | 1 => .array .int
  | 2 => .int
  | 3 => .int
  | 4 => .int
  | 5 => .array .int
  | 6 => .array .int
  | 7 => .array .int
  | 8 => .array .int
  | 9 => .int
  | 10 => .array .int
  | 11 => .array .boolean
  | 12 => .int
  | 13 => .int
  | 14 => .array .int
  | 15 => .int
  | 16 => .array .int
  | 17 => .array .int
  | 18 => .int
  | 19 => .array .boolean
  | 20 => .array .int
  | 21 => .array .int
  | 22 => .array .int
  | 23 => .array .int
  | 24 => .int
  | 25 => .array .int
  | 26 => .int
  | 27 => .array .int
  | 28 => .int
  | 29 => .array .int
  | 30 => .array .int
  | _ => .array .int
theorem n_Model : ∀ a, a < 32 → ∀ b, b < 32 → a ≠ b → (F_Model a).2.1 ≠ (F_Model b).2.1 := by decide +kernel
theorem t_Model_ok : ∀ k, k < 32 → parseFieldDescriptor (F_Model k).2.2.1 = some (t_Model k) := by decide +kernel
abbrev classes : List vw_C := [(R_Row, F_Row, 1), (R_Tree, F_Tree, 10), (R_Image, F_Image, 4), (R_Reader, F_Reader, 9), (R_Acts, F_Acts, 6), (R_Costs, F_Costs, 5), (R_Program, F_Program, 5), (R_Device, F_Device, 5), (R_Shares, F_Shares, 7), (R_Need, F_Need, 14), (R_Model, F_Model, 32)]
def clty : Nat → Nat → FieldType := fun c => match c with
  | 0 => t_Row
  | 1 => t_Tree
  | 2 => t_Image
  | 3 => t_Reader
  | 4 => t_Acts
  | 5 => t_Costs
  | 6 => t_Program
  | 7 => t_Device
  | 8 => t_Shares
  | 9 => t_Need
  | _ => t_Model
theorem tb_1 {w : Cond} (h : w ∈ tables_1) : w ∈ lw_tbl := List.mem_append_right _ h
theorem tm_1 {w : Cond} (h : w ∈ tables_1_1) : w ∈ lw_tbl := tb_1 (List.mem_append_left _ h)
theorem tm_2 {w : Cond} (h : w ∈ tables_1_2) : w ∈ lw_tbl := tb_1 (List.mem_append_right _ (List.mem_append_left _ h))
theorem tm_3 {w : Cond} (h : w ∈ tables_1_3) : w ∈ lw_tbl := tb_1 (List.mem_append_right _ (List.mem_append_right _ (List.mem_append_left _ h)))
theorem tm_4 {w : Cond} (h : w ∈ tables_1_4) : w ∈ lw_tbl := tb_1 (List.mem_append_right _ (List.mem_append_right _ (List.mem_append_right _ (List.mem_append_left _ h))))
theorem tm_5 {w : Cond} (h : w ∈ tables_1_5) : w ∈ lw_tbl := tb_1 (List.mem_append_right _ (List.mem_append_right _ (List.mem_append_right _ (List.mem_append_right _ (List.mem_append_left _ h)))))
theorem tm_6 {w : Cond} (h : w ∈ tables_1_6) : w ∈ lw_tbl := tb_1 (List.mem_append_right _ (List.mem_append_right _ (List.mem_append_right _ (List.mem_append_right _ (List.mem_append_right _ (h))))))
theorem w_0 : (Jvm.Cond.initialized "NeedCodeLaw") ∈ lw_tbl := tm_1 (List.mem_of_getElem? (i := 0) rfl)
theorem w_1 : (Jvm.Cond.initialized "NeedCode") ∈ lw_tbl := tm_1 (List.mem_of_getElem? (i := 1) rfl)
theorem w_2 : (Jvm.Cond.initialized "NeedCode$Row") ∈ lw_tbl := tm_1 (List.mem_of_getElem? (i := 2) rfl)
theorem w_3 : (Jvm.Cond.initialized "java/lang/Math") ∈ lw_tbl := tm_1 (List.mem_of_getElem? (i := 3) rfl)
theorem w_4 : (Jvm.Cond.initialized "NeedCode$Reader") ∈ lw_tbl := tm_1 (List.mem_of_getElem? (i := 4) rfl)
theorem w_5 : (Jvm.Cond.initialized "NeedCode$Image") ∈ lw_tbl := tm_1 (List.mem_of_getElem? (i := 5) rfl)
theorem w_6 : (Jvm.Cond.initialized "NeedCode$Tree") ∈ lw_tbl := tm_1 (List.mem_of_getElem? (i := 6) rfl)
theorem w_7 : (Jvm.Cond.initialized "NeedCode$Acts") ∈ lw_tbl := tm_1 (List.mem_of_getElem? (i := 7) rfl)
theorem w_8 : (Jvm.Cond.initialized "NeedCode$Costs") ∈ lw_tbl := tm_1 (List.mem_of_getElem? (i := 8) rfl)
theorem w_9 : (Jvm.Cond.initialized "NeedCode$Program") ∈ lw_tbl := tm_1 (List.mem_of_getElem? (i := 9) rfl)
theorem w_10 : (Jvm.Cond.initialized "NeedCode$Device") ∈ lw_tbl := tm_1 (List.mem_of_getElem? (i := 10) rfl)
theorem w_11 : (Jvm.Cond.initialized "NeedCode$Shares") ∈ lw_tbl := tm_1 (List.mem_of_getElem? (i := 11) rfl)
theorem w_12 : (Jvm.Cond.initialized "NeedCodeModel") ∈ lw_tbl := tm_1 (List.mem_of_getElem? (i := 12) rfl)
theorem w_13 : (Jvm.Cond.initialized "NeedCode$Operators") ∈ lw_tbl := tm_1 (List.mem_of_getElem? (i := 13) rfl)
theorem w_14 : (Jvm.Cond.initialized "java/lang/System") ∈ lw_tbl := tm_1 (List.mem_of_getElem? (i := 14) rfl)
theorem w_15 : (Jvm.Cond.classLink "NeedCodeLaw" (7 : Nat) "NeedCode") ∈ lw_tbl := tm_1 (List.mem_of_getElem? (i := 15) rfl)
theorem w_16 : (Jvm.Cond.instantiable "NeedCode" (14 : Nat)) ∈ lw_tbl := tm_1 (List.mem_of_getElem? (i := 16) rfl)
theorem w_17 : (Jvm.Cond.methodLink "NeedCodeLaw" (9 : Nat) ({ cls := "NeedCode", name := "<init>", desc := "()V" } : Jvm.MethodName)) ∈ lw_tbl := tm_1 (List.mem_of_getElem? (i := 17) rfl)
theorem w_18 : (Jvm.Cond.instanceMethod ({ cls := "NeedCode", name := "<init>", desc := "()V" } : Jvm.MethodName)) ∈ lw_tbl := tm_1 (List.mem_of_getElem? (i := 18) rfl)
theorem w_19 : (Jvm.Cond.code ({ cls := "NeedCode", name := "<init>", desc := "()V" } : Jvm.MethodName) prog_1_method_1_code (1 : Nat) (Option.none : Option Jvm.ClassFile.FieldType)) ∈ lw_tbl := tm_1 (List.mem_of_getElem? (i := 19) rfl)
theorem w_20 : (Jvm.Cond.methodLink "NeedCode" (3 : Nat) ({ cls := "java/lang/Object", name := "<init>", desc := "()V" } : Jvm.MethodName)) ∈ lw_tbl := tm_1 (List.mem_of_getElem? (i := 20) rfl)
theorem w_21 : (Jvm.Cond.instanceMethod ({ cls := "java/lang/Object", name := "<init>", desc := "()V" } : Jvm.MethodName)) ∈ lw_tbl := tm_1 (List.mem_of_getElem? (i := 21) rfl)
theorem w_22 : (Jvm.Cond.code ({ cls := "java/lang/Object", name := "<init>", desc := "()V" } : Jvm.MethodName) object_method_1_code (1 : Nat) (Option.none : Option Jvm.ClassFile.FieldType)) ∈ lw_tbl := tm_1 (List.mem_of_getElem? (i := 22) rfl)
theorem w_23 : (Jvm.Cond.classLink "NeedCode" (9 : Nat) "NeedCode$Row") ∈ lw_tbl := tm_1 (List.mem_of_getElem? (i := 23) rfl)
theorem w_24 : (Jvm.Cond.instantiable "NeedCode$Row" (1 : Nat)) ∈ lw_tbl := tm_1 (List.mem_of_getElem? (i := 24) rfl)
theorem w_25 : (Jvm.Cond.methodLink "NeedCode" (11 : Nat) ({ cls := "NeedCode$Row", name := "<init>", desc := "(I)V" } : Jvm.MethodName)) ∈ lw_tbl := tm_1 (List.mem_of_getElem? (i := 25) rfl)
theorem w_26 : (Jvm.Cond.instanceMethod ({ cls := "NeedCode$Row", name := "<init>", desc := "(I)V" } : Jvm.MethodName)) ∈ lw_tbl := tm_1 (List.mem_of_getElem? (i := 26) rfl)
theorem w_27 : (Jvm.Cond.code ({ cls := "NeedCode$Row", name := "<init>", desc := "(I)V" } : Jvm.MethodName) prog_9_method_1_code (2 : Nat) (Option.none : Option Jvm.ClassFile.FieldType)) ∈ lw_tbl := tm_1 (List.mem_of_getElem? (i := 27) rfl)
theorem w_28 : (Jvm.Cond.methodLink "NeedCode$Row" (1 : Nat) ({ cls := "java/lang/Object", name := "<init>", desc := "()V" } : Jvm.MethodName)) ∈ lw_tbl := tm_1 (List.mem_of_getElem? (i := 28) rfl)
theorem w_29 : (Jvm.Cond.methodLink "NeedCode$Row" (7 : Nat) ({ cls := "java/lang/Math", name := "max", desc := "(II)I" } : Jvm.MethodName)) ∈ lw_tbl := tm_1 (List.mem_of_getElem? (i := 29) rfl)
theorem w_30 : (Jvm.Cond.static ({ cls := "java/lang/Math", name := "max", desc := "(II)I" } : Jvm.MethodName)) ∈ lw_tbl := tm_1 (List.mem_of_getElem? (i := 30) rfl)
theorem w_31 : (Jvm.Cond.code ({ cls := "java/lang/Math", name := "max", desc := "(II)I" } : Jvm.MethodName) prog_14_method_65_code (2 : Nat) (Option.some Jvm.ClassFile.FieldType.int)) ∈ lw_tbl := tm_1 (List.mem_of_getElem? (i := 31) rfl)
theorem w_32 : (Jvm.Cond.fieldLink "NeedCode$Row" (13 : Nat) "NeedCode$Row" "ints" "[I") ∈ lw_tbl := tm_1 (List.mem_of_getElem? (i := 32) rfl)
theorem w_33 : (Jvm.Cond.laysFinal "NeedCode$Row" "NeedCode$Row" "ints" "[I") ∈ lw_tbl := tm_1 (List.mem_of_getElem? (i := 33) rfl)
theorem w_36 : (Jvm.Cond.arrayClass Jvm.ClassFile.FieldType.int) ∈ lw_tbl := tm_1 (List.mem_of_getElem? (i := 36) rfl)
theorem w_37 : (Jvm.Cond.classLink "NeedCode" (18 : Nat) "NeedCode$Reader") ∈ lw_tbl := tm_1 (List.mem_of_getElem? (i := 37) rfl)
theorem w_38 : (Jvm.Cond.instantiable "NeedCode$Reader" (9 : Nat)) ∈ lw_tbl := tm_1 (List.mem_of_getElem? (i := 38) rfl)
theorem w_39 : (Jvm.Cond.methodLinkNest "NeedCode" (20 : Nat) ({ cls := "NeedCode$Reader", name := "<init>", desc := "()V" } : Jvm.MethodName) "NeedCode") ∈ lw_tbl := tm_1 (List.mem_of_getElem? (i := 39) rfl)
theorem w_40 : (Jvm.Cond.instanceMethod ({ cls := "NeedCode$Reader", name := "<init>", desc := "()V" } : Jvm.MethodName)) ∈ lw_tbl := tm_1 (List.mem_of_getElem? (i := 40) rfl)
theorem w_41 : (Jvm.Cond.code ({ cls := "NeedCode$Reader", name := "<init>", desc := "()V" } : Jvm.MethodName) prog_8_method_1_code (1 : Nat) (Option.none : Option Jvm.ClassFile.FieldType)) ∈ lw_tbl := tm_1 (List.mem_of_getElem? (i := 41) rfl)
theorem w_42 : (Jvm.Cond.methodLink "NeedCode$Reader" (3 : Nat) ({ cls := "java/lang/Object", name := "<init>", desc := "()V" } : Jvm.MethodName)) ∈ lw_tbl := tm_1 (List.mem_of_getElem? (i := 42) rfl)
theorem w_43 : (Jvm.Cond.classLink "NeedCode$Reader" (9 : Nat) "NeedCode$Row") ∈ lw_tbl := tm_1 (List.mem_of_getElem? (i := 43) rfl)
theorem w_44 : (Jvm.Cond.methodLink "NeedCode$Reader" (11 : Nat) ({ cls := "NeedCode$Row", name := "<init>", desc := "(I)V" } : Jvm.MethodName)) ∈ lw_tbl := tm_1 (List.mem_of_getElem? (i := 44) rfl)
theorem w_45 : (Jvm.Cond.fieldLink "NeedCode$Reader" (14 : Nat) "NeedCode$Reader" "marks" "LNeedCode$Row;") ∈ lw_tbl := tm_1 (List.mem_of_getElem? (i := 45) rfl)
theorem w_46 : (Jvm.Cond.fieldLink "NeedCode$Reader" (20 : Nat) "NeedCode$Reader" "markPlaces" "LNeedCode$Row;") ∈ lw_tbl := tm_1 (List.mem_of_getElem? (i := 46) rfl)
theorem w_47 : (Jvm.Cond.fieldLink "NeedCode$Reader" (23 : Nat) "NeedCode$Reader" "parts" "LNeedCode$Row;") ∈ lw_tbl := tm_1 (List.mem_of_getElem? (i := 47) rfl)
theorem w_48 : (Jvm.Cond.fieldLink "NeedCode$Reader" (26 : Nat) "NeedCode$Reader" "markCount" "I") ∈ lw_tbl := tm_1 (List.mem_of_getElem? (i := 48) rfl)
theorem w_49 : (Jvm.Cond.fieldLink "NeedCode$Reader" (30 : Nat) "NeedCode$Reader" "partCount" "I") ∈ lw_tbl := tm_1 (List.mem_of_getElem? (i := 49) rfl)
theorem w_50 : (Jvm.Cond.fieldLink "NeedCode$Reader" (33 : Nat) "NeedCode$Reader" "place" "I") ∈ lw_tbl := tm_1 (List.mem_of_getElem? (i := 50) rfl)
theorem w_51 : (Jvm.Cond.fieldLink "NeedCode$Reader" (36 : Nat) "NeedCode$Reader" "fault" "I") ∈ lw_tbl := tm_1 (List.mem_of_getElem? (i := 51) rfl)
theorem w_52 : (Jvm.Cond.fieldLink "NeedCode$Reader" (39 : Nat) "NeedCode$Reader" "partIsDue" "Z") ∈ lw_tbl := tm_1 (List.mem_of_getElem? (i := 52) rfl)
theorem w_53 : (Jvm.Cond.fieldLink "NeedCode$Reader" (43 : Nat) "NeedCode$Reader" "ended" "Z") ∈ lw_tbl := tm_1 (List.mem_of_getElem? (i := 53) rfl)
theorem w_54 : (Jvm.Cond.laysFinal "NeedCode$Reader" "NeedCode$Reader" "marks" "LNeedCode$Row;") ∈ lw_tbl := tm_1 (List.mem_of_getElem? (i := 54) rfl)
theorem w_56 : (Jvm.Cond.laysFinal "NeedCode$Reader" "NeedCode$Reader" "markPlaces" "LNeedCode$Row;") ∈ lw_tbl := tm_1 (List.mem_of_getElem? (i := 56) rfl)
theorem w_58 : (Jvm.Cond.laysFinal "NeedCode$Reader" "NeedCode$Reader" "parts" "LNeedCode$Row;") ∈ lw_tbl := tm_1 (List.mem_of_getElem? (i := 58) rfl)
theorem w_60 : (Jvm.Cond.lays "NeedCode$Reader" "NeedCode$Reader" "markCount" "I") ∈ lw_tbl := tm_1 (List.mem_of_getElem? (i := 60) rfl)
theorem w_62 : (Jvm.Cond.lays "NeedCode$Reader" "NeedCode$Reader" "partCount" "I") ∈ lw_tbl := tm_1 (List.mem_of_getElem? (i := 62) rfl)
theorem w_64 : (Jvm.Cond.lays "NeedCode$Reader" "NeedCode$Reader" "place" "I") ∈ lw_tbl := tm_1 (List.mem_of_getElem? (i := 64) rfl)
theorem w_66 : (Jvm.Cond.lays "NeedCode$Reader" "NeedCode$Reader" "fault" "I") ∈ lw_tbl := tm_1 (List.mem_of_getElem? (i := 66) rfl)
theorem w_68 : (Jvm.Cond.lays "NeedCode$Reader" "NeedCode$Reader" "partIsDue" "Z") ∈ lw_tbl := tm_1 (List.mem_of_getElem? (i := 68) rfl)
theorem w_70 : (Jvm.Cond.lays "NeedCode$Reader" "NeedCode$Reader" "ended" "Z") ∈ lw_tbl := tm_1 (List.mem_of_getElem? (i := 70) rfl)
theorem w_73 : (Jvm.Cond.classLink "NeedCode" (25 : Nat) "NeedCode$Image") ∈ lw_tbl := tm_1 (List.mem_of_getElem? (i := 73) rfl)
theorem w_74 : (Jvm.Cond.instantiable "NeedCode$Image" (4 : Nat)) ∈ lw_tbl := tm_1 (List.mem_of_getElem? (i := 74) rfl)
theorem w_75 : (Jvm.Cond.methodLinkNest "NeedCode" (27 : Nat) ({ cls := "NeedCode$Image", name := "<init>", desc := "()V" } : Jvm.MethodName) "NeedCode") ∈ lw_tbl := tm_1 (List.mem_of_getElem? (i := 75) rfl)
theorem w_76 : (Jvm.Cond.instanceMethod ({ cls := "NeedCode$Image", name := "<init>", desc := "()V" } : Jvm.MethodName)) ∈ lw_tbl := tm_1 (List.mem_of_getElem? (i := 76) rfl)
theorem w_77 : (Jvm.Cond.code ({ cls := "NeedCode$Image", name := "<init>", desc := "()V" } : Jvm.MethodName) prog_5_method_1_code (1 : Nat) (Option.none : Option Jvm.ClassFile.FieldType)) ∈ lw_tbl := tm_1 (List.mem_of_getElem? (i := 77) rfl)
theorem w_78 : (Jvm.Cond.methodLink "NeedCode$Image" (3 : Nat) ({ cls := "java/lang/Object", name := "<init>", desc := "()V" } : Jvm.MethodName)) ∈ lw_tbl := tm_1 (List.mem_of_getElem? (i := 78) rfl)
theorem w_79 : (Jvm.Cond.classLink "NeedCode$Image" (9 : Nat) "NeedCode$Tree") ∈ lw_tbl := tm_1 (List.mem_of_getElem? (i := 79) rfl)
theorem w_80 : (Jvm.Cond.instantiable "NeedCode$Tree" (10 : Nat)) ∈ lw_tbl := tm_1 (List.mem_of_getElem? (i := 80) rfl)
theorem w_81 : (Jvm.Cond.methodLinkNest "NeedCode$Image" (11 : Nat) ({ cls := "NeedCode$Tree", name := "<init>", desc := "()V" } : Jvm.MethodName) "NeedCode") ∈ lw_tbl := tm_1 (List.mem_of_getElem? (i := 81) rfl)
theorem w_82 : (Jvm.Cond.instanceMethod ({ cls := "NeedCode$Tree", name := "<init>", desc := "()V" } : Jvm.MethodName)) ∈ lw_tbl := tm_1 (List.mem_of_getElem? (i := 82) rfl)
theorem w_83 : (Jvm.Cond.code ({ cls := "NeedCode$Tree", name := "<init>", desc := "()V" } : Jvm.MethodName) prog_11_method_1_code (1 : Nat) (Option.none : Option Jvm.ClassFile.FieldType)) ∈ lw_tbl := tm_1 (List.mem_of_getElem? (i := 83) rfl)
theorem w_84 : (Jvm.Cond.methodLink "NeedCode$Tree" (3 : Nat) ({ cls := "java/lang/Object", name := "<init>", desc := "()V" } : Jvm.MethodName)) ∈ lw_tbl := tm_1 (List.mem_of_getElem? (i := 84) rfl)
theorem w_85 : (Jvm.Cond.classLink "NeedCode$Tree" (9 : Nat) "NeedCode$Row") ∈ lw_tbl := tm_1 (List.mem_of_getElem? (i := 85) rfl)
theorem w_86 : (Jvm.Cond.methodLink "NeedCode$Tree" (11 : Nat) ({ cls := "NeedCode$Row", name := "<init>", desc := "(I)V" } : Jvm.MethodName)) ∈ lw_tbl := tm_1 (List.mem_of_getElem? (i := 86) rfl)
theorem w_87 : (Jvm.Cond.fieldLink "NeedCode$Tree" (14 : Nat) "NeedCode$Tree" "letters" "LNeedCode$Row;") ∈ lw_tbl := tm_1 (List.mem_of_getElem? (i := 87) rfl)
theorem w_88 : (Jvm.Cond.fieldLinkNest "NeedCode$Device" (60 : Nat) "NeedCode$Tree" "letters" "LNeedCode$Row;" "NeedCode") ∈ lw_tbl := tm_1 (List.mem_of_getElem? (i := 88) rfl)
theorem w_89 : (Jvm.Cond.fieldLinkNest "NeedCode" (125 : Nat) "NeedCode$Tree" "letters" "LNeedCode$Row;" "NeedCode") ∈ lw_tbl := tm_1 (List.mem_of_getElem? (i := 89) rfl)
theorem w_90 : (Jvm.Cond.fieldLinkNest "NeedCode$Program" (87 : Nat) "NeedCode$Tree" "letters" "LNeedCode$Row;" "NeedCode") ∈ lw_tbl := tm_1 (List.mem_of_getElem? (i := 90) rfl)
theorem w_91 : (Jvm.Cond.fieldLink "NeedCode$Tree" (20 : Nat) "NeedCode$Tree" "numbers" "LNeedCode$Row;") ∈ lw_tbl := tm_1 (List.mem_of_getElem? (i := 91) rfl)
theorem w_92 : (Jvm.Cond.fieldLinkNest "NeedCode$Device" (63 : Nat) "NeedCode$Tree" "numbers" "LNeedCode$Row;" "NeedCode") ∈ lw_tbl := tm_1 (List.mem_of_getElem? (i := 92) rfl)
theorem w_93 : (Jvm.Cond.fieldLinkNest "NeedCode" (132 : Nat) "NeedCode$Tree" "numbers" "LNeedCode$Row;" "NeedCode") ∈ lw_tbl := tm_1 (List.mem_of_getElem? (i := 93) rfl)
theorem w_94 : (Jvm.Cond.fieldLinkNest "NeedCode$Program" (90 : Nat) "NeedCode$Tree" "numbers" "LNeedCode$Row;" "NeedCode") ∈ lw_tbl := tm_1 (List.mem_of_getElem? (i := 94) rfl)
theorem w_95 : (Jvm.Cond.fieldLink "NeedCode$Tree" (23 : Nat) "NeedCode$Tree" "lefts" "LNeedCode$Row;") ∈ lw_tbl := tm_1 (List.mem_of_getElem? (i := 95) rfl)
theorem w_96 : (Jvm.Cond.fieldLinkNest "NeedCode$Device" (43 : Nat) "NeedCode$Tree" "lefts" "LNeedCode$Row;" "NeedCode") ∈ lw_tbl := tm_1 (List.mem_of_getElem? (i := 96) rfl)
theorem w_97 : (Jvm.Cond.fieldLinkNest "NeedCode$Program" (65 : Nat) "NeedCode$Tree" "lefts" "LNeedCode$Row;" "NeedCode") ∈ lw_tbl := tm_1 (List.mem_of_getElem? (i := 97) rfl)
theorem w_98 : (Jvm.Cond.fieldLinkNest "NeedCode$Costs" (59 : Nat) "NeedCode$Tree" "lefts" "LNeedCode$Row;" "NeedCode") ∈ lw_tbl := tm_1 (List.mem_of_getElem? (i := 98) rfl)
theorem w_99 : (Jvm.Cond.fieldLinkNest "NeedCode" (135 : Nat) "NeedCode$Tree" "lefts" "LNeedCode$Row;" "NeedCode") ∈ lw_tbl := tm_1 (List.mem_of_getElem? (i := 99) rfl)
theorem w_100 : (Jvm.Cond.fieldLink "NeedCode$Tree" (26 : Nat) "NeedCode$Tree" "rights" "LNeedCode$Row;") ∈ lw_tbl := tm_1 (List.mem_of_getElem? (i := 100) rfl)
theorem w_101 : (Jvm.Cond.fieldLinkNest "NeedCode$Device" (46 : Nat) "NeedCode$Tree" "rights" "LNeedCode$Row;" "NeedCode") ∈ lw_tbl := tm_1 (List.mem_of_getElem? (i := 101) rfl)
theorem w_102 : (Jvm.Cond.fieldLinkNest "NeedCode" (138 : Nat) "NeedCode$Tree" "rights" "LNeedCode$Row;" "NeedCode") ∈ lw_tbl := tm_1 (List.mem_of_getElem? (i := 102) rfl)
theorem w_103 : (Jvm.Cond.fieldLinkNest "NeedCode$Program" (71 : Nat) "NeedCode$Tree" "rights" "LNeedCode$Row;" "NeedCode") ∈ lw_tbl := tm_1 (List.mem_of_getElem? (i := 103) rfl)
theorem w_104 : (Jvm.Cond.fieldLinkNest "NeedCode$Costs" (69 : Nat) "NeedCode$Tree" "rights" "LNeedCode$Row;" "NeedCode") ∈ lw_tbl := tm_1 (List.mem_of_getElem? (i := 104) rfl)
theorem w_105 : (Jvm.Cond.fieldLink "NeedCode$Tree" (29 : Nat) "NeedCode$Tree" "needs" "LNeedCode$Row;") ∈ lw_tbl := tm_1 (List.mem_of_getElem? (i := 105) rfl)
theorem w_106 : (Jvm.Cond.fieldLinkNest "NeedCode" (141 : Nat) "NeedCode$Tree" "needs" "LNeedCode$Row;" "NeedCode") ∈ lw_tbl := tm_1 (List.mem_of_getElem? (i := 106) rfl)
theorem w_107 : (Jvm.Cond.fieldLink "NeedCode$Tree" (32 : Nat) "NeedCode$Tree" "leasts" "LNeedCode$Row;") ∈ lw_tbl := tm_1 (List.mem_of_getElem? (i := 107) rfl)
theorem w_108 : (Jvm.Cond.fieldLinkNest "NeedCode" (144 : Nat) "NeedCode$Tree" "leasts" "LNeedCode$Row;" "NeedCode") ∈ lw_tbl := tm_1 (List.mem_of_getElem? (i := 108) rfl)
theorem w_109 : (Jvm.Cond.fieldLink "NeedCode$Tree" (35 : Nat) "NeedCode$Tree" "traps" "LNeedCode$Row;") ∈ lw_tbl := tm_1 (List.mem_of_getElem? (i := 109) rfl)
theorem w_110 : (Jvm.Cond.fieldLinkNest "NeedCode" (147 : Nat) "NeedCode$Tree" "traps" "LNeedCode$Row;" "NeedCode") ∈ lw_tbl := tm_1 (List.mem_of_getElem? (i := 110) rfl)
theorem w_111 : (Jvm.Cond.fieldLink "NeedCode$Tree" (38 : Nat) "NeedCode$Tree" "spans" "LNeedCode$Row;") ∈ lw_tbl := tm_1 (List.mem_of_getElem? (i := 111) rfl)
theorem w_112 : (Jvm.Cond.fieldLinkNest "NeedCode$Device" (30 : Nat) "NeedCode$Tree" "spans" "LNeedCode$Row;" "NeedCode") ∈ lw_tbl := tm_1 (List.mem_of_getElem? (i := 112) rfl)
theorem w_113 : (Jvm.Cond.fieldLinkNest "NeedCode" (150 : Nat) "NeedCode$Tree" "spans" "LNeedCode$Row;" "NeedCode") ∈ lw_tbl := tm_1 (List.mem_of_getElem? (i := 113) rfl)
theorem w_114 : (Jvm.Cond.fieldLink "NeedCode$Tree" (41 : Nat) "NeedCode$Tree" "alikes" "LNeedCode$Row;") ∈ lw_tbl := tm_1 (List.mem_of_getElem? (i := 114) rfl)
theorem w_115 : (Jvm.Cond.fieldLinkNest "NeedCode$Shares" (43 : Nat) "NeedCode$Tree" "alikes" "LNeedCode$Row;" "NeedCode") ∈ lw_tbl := tm_1 (List.mem_of_getElem? (i := 115) rfl)
theorem w_116 : (Jvm.Cond.fieldLinkNest "NeedCode" (153 : Nat) "NeedCode$Tree" "alikes" "LNeedCode$Row;" "NeedCode") ∈ lw_tbl := tm_1 (List.mem_of_getElem? (i := 116) rfl)
theorem w_117 : (Jvm.Cond.fieldLink "NeedCode$Tree" (44 : Nat) "NeedCode$Tree" "size" "I") ∈ lw_tbl := tm_1 (List.mem_of_getElem? (i := 117) rfl)
theorem w_118 : (Jvm.Cond.fieldLinkNest "NeedCode$Shares" (38 : Nat) "NeedCode$Tree" "size" "I" "NeedCode") ∈ lw_tbl := tm_1 (List.mem_of_getElem? (i := 118) rfl)
theorem w_119 : (Jvm.Cond.fieldLinkNest "NeedCode$Costs" (30 : Nat) "NeedCode$Tree" "size" "I" "NeedCode") ∈ lw_tbl := tm_1 (List.mem_of_getElem? (i := 119) rfl)
theorem w_120 : (Jvm.Cond.fieldLinkNest "NeedCode" (118 : Nat) "NeedCode$Tree" "size" "I" "NeedCode") ∈ lw_tbl := tm_1 (List.mem_of_getElem? (i := 120) rfl)
theorem w_121 : (Jvm.Cond.laysFinal "NeedCode$Tree" "NeedCode$Tree" "letters" "LNeedCode$Row;") ∈ lw_tbl := tm_1 (List.mem_of_getElem? (i := 121) rfl)
theorem w_123 : (Jvm.Cond.laysFinal "NeedCode$Tree" "NeedCode$Tree" "numbers" "LNeedCode$Row;") ∈ lw_tbl := tm_1 (List.mem_of_getElem? (i := 123) rfl)
theorem w_125 : (Jvm.Cond.laysFinal "NeedCode$Tree" "NeedCode$Tree" "lefts" "LNeedCode$Row;") ∈ lw_tbl := tm_1 (List.mem_of_getElem? (i := 125) rfl)
theorem w_127 : (Jvm.Cond.laysFinal "NeedCode$Tree" "NeedCode$Tree" "rights" "LNeedCode$Row;") ∈ lw_tbl := tm_1 (List.mem_of_getElem? (i := 127) rfl)
theorem w_129 : (Jvm.Cond.laysFinal "NeedCode$Tree" "NeedCode$Tree" "needs" "LNeedCode$Row;") ∈ lw_tbl := tm_1 (List.mem_of_getElem? (i := 129) rfl)
theorem w_131 : (Jvm.Cond.laysFinal "NeedCode$Tree" "NeedCode$Tree" "leasts" "LNeedCode$Row;") ∈ lw_tbl := tm_1 (List.mem_of_getElem? (i := 131) rfl)
theorem w_133 : (Jvm.Cond.laysFinal "NeedCode$Tree" "NeedCode$Tree" "traps" "LNeedCode$Row;") ∈ lw_tbl := tm_1 (List.mem_of_getElem? (i := 133) rfl)
theorem w_135 : (Jvm.Cond.laysFinal "NeedCode$Tree" "NeedCode$Tree" "spans" "LNeedCode$Row;") ∈ lw_tbl := tm_1 (List.mem_of_getElem? (i := 135) rfl)
theorem w_137 : (Jvm.Cond.laysFinal "NeedCode$Tree" "NeedCode$Tree" "alikes" "LNeedCode$Row;") ∈ lw_tbl := tm_1 (List.mem_of_getElem? (i := 137) rfl)
theorem w_139 : (Jvm.Cond.lays "NeedCode$Tree" "NeedCode$Tree" "size" "I") ∈ lw_tbl := tm_1 (List.mem_of_getElem? (i := 139) rfl)
theorem w_142 : (Jvm.Cond.classLink "NeedCode$Image" (18 : Nat) "NeedCode$Row") ∈ lw_tbl := tm_1 (List.mem_of_getElem? (i := 142) rfl)
theorem w_143 : (Jvm.Cond.methodLink "NeedCode$Image" (20 : Nat) ({ cls := "NeedCode$Row", name := "<init>", desc := "(I)V" } : Jvm.MethodName)) ∈ lw_tbl := tm_1 (List.mem_of_getElem? (i := 143) rfl)
theorem w_144 : (Jvm.Cond.fieldLink "NeedCode$Image" (12 : Nat) "NeedCode$Image" "tree" "LNeedCode$Tree;") ∈ lw_tbl := tm_1 (List.mem_of_getElem? (i := 144) rfl)
theorem w_145 : (Jvm.Cond.fieldLinkNest "NeedCode" (101 : Nat) "NeedCode$Image" "tree" "LNeedCode$Tree;" "NeedCode") ∈ lw_tbl := tm_1 (List.mem_of_getElem? (i := 145) rfl)
theorem w_146 : (Jvm.Cond.fieldLink "NeedCode$Image" (23 : Nat) "NeedCode$Image" "names" "LNeedCode$Row;") ∈ lw_tbl := tm_1 (List.mem_of_getElem? (i := 146) rfl)
theorem w_147 : (Jvm.Cond.fieldLinkNest "NeedCode" (156 : Nat) "NeedCode$Image" "names" "LNeedCode$Row;" "NeedCode") ∈ lw_tbl := tm_1 (List.mem_of_getElem? (i := 147) rfl)
theorem w_148 : (Jvm.Cond.fieldLink "NeedCode$Image" (27 : Nat) "NeedCode$Image" "machine" "LNeedCode$Row;") ∈ lw_tbl := tm_1 (List.mem_of_getElem? (i := 148) rfl)
theorem w_149 : (Jvm.Cond.fieldLinkNest "NeedCode" (84 : Nat) "NeedCode$Image" "machine" "LNeedCode$Row;" "NeedCode") ∈ lw_tbl := tm_1 (List.mem_of_getElem? (i := 149) rfl)
theorem w_150 : (Jvm.Cond.fieldLinkNest "NeedCode" (108 : Nat) "NeedCode$Image" "kept" "Z" "NeedCode") ∈ lw_tbl := tm_1 (List.mem_of_getElem? (i := 150) rfl)
theorem w_151 : (Jvm.Cond.laysFinal "NeedCode$Image" "NeedCode$Image" "tree" "LNeedCode$Tree;") ∈ lw_tbl := tm_1 (List.mem_of_getElem? (i := 151) rfl)
theorem w_153 : (Jvm.Cond.laysFinal "NeedCode$Image" "NeedCode$Image" "names" "LNeedCode$Row;") ∈ lw_tbl := tm_1 (List.mem_of_getElem? (i := 153) rfl)
theorem w_155 : (Jvm.Cond.laysFinal "NeedCode$Image" "NeedCode$Image" "machine" "LNeedCode$Row;") ∈ lw_tbl := tm_1 (List.mem_of_getElem? (i := 155) rfl)
theorem w_157 : (Jvm.Cond.lays "NeedCode$Image" "NeedCode$Image" "kept" "Z") ∈ lw_tbl := tm_1 (List.mem_of_getElem? (i := 157) rfl)
theorem w_160 : (Jvm.Cond.classLink "NeedCode" (38 : Nat) "NeedCode$Tree") ∈ lw_tbl := tm_1 (List.mem_of_getElem? (i := 160) rfl)
theorem w_161 : (Jvm.Cond.methodLinkNest "NeedCode" (40 : Nat) ({ cls := "NeedCode$Tree", name := "<init>", desc := "()V" } : Jvm.MethodName) "NeedCode") ∈ lw_tbl := tm_1 (List.mem_of_getElem? (i := 161) rfl)
theorem w_162 : (Jvm.Cond.classLink "NeedCode" (45 : Nat) "NeedCode$Acts") ∈ lw_tbl := tm_1 (List.mem_of_getElem? (i := 162) rfl)
theorem w_163 : (Jvm.Cond.instantiable "NeedCode$Acts" (6 : Nat)) ∈ lw_tbl := tm_1 (List.mem_of_getElem? (i := 163) rfl)
theorem w_164 : (Jvm.Cond.methodLinkNest "NeedCode" (47 : Nat) ({ cls := "NeedCode$Acts", name := "<init>", desc := "()V" } : Jvm.MethodName) "NeedCode") ∈ lw_tbl := tm_1 (List.mem_of_getElem? (i := 164) rfl)
theorem w_165 : (Jvm.Cond.instanceMethod ({ cls := "NeedCode$Acts", name := "<init>", desc := "()V" } : Jvm.MethodName)) ∈ lw_tbl := tm_1 (List.mem_of_getElem? (i := 165) rfl)
theorem w_166 : (Jvm.Cond.code ({ cls := "NeedCode$Acts", name := "<init>", desc := "()V" } : Jvm.MethodName) prog_2_method_1_code (1 : Nat) (Option.none : Option Jvm.ClassFile.FieldType)) ∈ lw_tbl := tm_1 (List.mem_of_getElem? (i := 166) rfl)
theorem w_167 : (Jvm.Cond.methodLink "NeedCode$Acts" (3 : Nat) ({ cls := "java/lang/Object", name := "<init>", desc := "()V" } : Jvm.MethodName)) ∈ lw_tbl := tm_1 (List.mem_of_getElem? (i := 167) rfl)
theorem w_168 : (Jvm.Cond.classLink "NeedCode$Acts" (9 : Nat) "NeedCode$Row") ∈ lw_tbl := tm_1 (List.mem_of_getElem? (i := 168) rfl)
theorem w_169 : (Jvm.Cond.methodLink "NeedCode$Acts" (11 : Nat) ({ cls := "NeedCode$Row", name := "<init>", desc := "(I)V" } : Jvm.MethodName)) ∈ lw_tbl := tm_1 (List.mem_of_getElem? (i := 169) rfl)
theorem w_170 : (Jvm.Cond.fieldLink "NeedCode$Acts" (14 : Nat) "NeedCode$Acts" "kinds" "LNeedCode$Row;") ∈ lw_tbl := tm_1 (List.mem_of_getElem? (i := 170) rfl)
theorem w_171 : (Jvm.Cond.fieldLink "NeedCode$Acts" (20 : Nat) "NeedCode$Acts" "places" "LNeedCode$Row;") ∈ lw_tbl := tm_1 (List.mem_of_getElem? (i := 171) rfl)
theorem w_172 : (Jvm.Cond.fieldLink "NeedCode$Acts" (23 : Nat) "NeedCode$Acts" "numbers" "LNeedCode$Row;") ∈ lw_tbl := tm_1 (List.mem_of_getElem? (i := 172) rfl)
theorem w_173 : (Jvm.Cond.fieldLink "NeedCode$Acts" (26 : Nat) "NeedCode$Acts" "machines" "LNeedCode$Row;") ∈ lw_tbl := tm_1 (List.mem_of_getElem? (i := 173) rfl)
theorem w_174 : (Jvm.Cond.fieldLink "NeedCode$Acts" (37 : Nat) "NeedCode$Acts" "latest" "I") ∈ lw_tbl := tm_1 (List.mem_of_getElem? (i := 174) rfl)
theorem w_175 : (Jvm.Cond.fieldLink "NeedCode$Acts" (29 : Nat) "NeedCode$Acts" "known" "I") ∈ lw_tbl := tm_1 (List.mem_of_getElem? (i := 175) rfl)
theorem w_176 : (Jvm.Cond.fieldLinkNest "NeedCode" (231 : Nat) "NeedCode$Acts" "known" "I" "NeedCode") ∈ lw_tbl := tm_1 (List.mem_of_getElem? (i := 176) rfl)
theorem w_177 : (Jvm.Cond.laysFinal "NeedCode$Acts" "NeedCode$Acts" "kinds" "LNeedCode$Row;") ∈ lw_tbl := tm_1 (List.mem_of_getElem? (i := 177) rfl)
theorem w_179 : (Jvm.Cond.laysFinal "NeedCode$Acts" "NeedCode$Acts" "places" "LNeedCode$Row;") ∈ lw_tbl := tm_1 (List.mem_of_getElem? (i := 179) rfl)
theorem w_181 : (Jvm.Cond.laysFinal "NeedCode$Acts" "NeedCode$Acts" "numbers" "LNeedCode$Row;") ∈ lw_tbl := tm_1 (List.mem_of_getElem? (i := 181) rfl)
theorem w_183 : (Jvm.Cond.laysFinal "NeedCode$Acts" "NeedCode$Acts" "machines" "LNeedCode$Row;") ∈ lw_tbl := tm_1 (List.mem_of_getElem? (i := 183) rfl)
theorem w_185 : (Jvm.Cond.lays "NeedCode$Acts" "NeedCode$Acts" "latest" "I") ∈ lw_tbl := tm_1 (List.mem_of_getElem? (i := 185) rfl)
theorem w_187 : (Jvm.Cond.lays "NeedCode$Acts" "NeedCode$Acts" "known" "I") ∈ lw_tbl := tm_1 (List.mem_of_getElem? (i := 187) rfl)
theorem w_190 : (Jvm.Cond.classLink "NeedCode" (52 : Nat) "NeedCode$Costs") ∈ lw_tbl := tm_1 (List.mem_of_getElem? (i := 190) rfl)
theorem w_191 : (Jvm.Cond.instantiable "NeedCode$Costs" (5 : Nat)) ∈ lw_tbl := tm_1 (List.mem_of_getElem? (i := 191) rfl)
theorem w_192 : (Jvm.Cond.methodLinkNest "NeedCode" (54 : Nat) ({ cls := "NeedCode$Costs", name := "<init>", desc := "()V" } : Jvm.MethodName) "NeedCode") ∈ lw_tbl := tm_1 (List.mem_of_getElem? (i := 192) rfl)
theorem w_193 : (Jvm.Cond.instanceMethod ({ cls := "NeedCode$Costs", name := "<init>", desc := "()V" } : Jvm.MethodName)) ∈ lw_tbl := tm_1 (List.mem_of_getElem? (i := 193) rfl)
theorem w_194 : (Jvm.Cond.code ({ cls := "NeedCode$Costs", name := "<init>", desc := "()V" } : Jvm.MethodName) prog_3_method_1_code (1 : Nat) (Option.none : Option Jvm.ClassFile.FieldType)) ∈ lw_tbl := tm_1 (List.mem_of_getElem? (i := 194) rfl)
theorem w_195 : (Jvm.Cond.methodLink "NeedCode$Costs" (3 : Nat) ({ cls := "java/lang/Object", name := "<init>", desc := "()V" } : Jvm.MethodName)) ∈ lw_tbl := tm_1 (List.mem_of_getElem? (i := 195) rfl)
theorem w_196 : (Jvm.Cond.classLink "NeedCode$Costs" (9 : Nat) "NeedCode$Row") ∈ lw_tbl := tm_1 (List.mem_of_getElem? (i := 196) rfl)
theorem w_197 : (Jvm.Cond.methodLink "NeedCode$Costs" (13 : Nat) ({ cls := "NeedCode$Row", name := "<init>", desc := "(I)V" } : Jvm.MethodName)) ∈ lw_tbl := tm_1 (List.mem_of_getElem? (i := 197) rfl)
theorem w_198 : (Jvm.Cond.fieldLink "NeedCode$Costs" (16 : Nat) "NeedCode$Costs" "costs" "LNeedCode$Row;") ∈ lw_tbl := tm_1 (List.mem_of_getElem? (i := 198) rfl)
theorem w_199 : (Jvm.Cond.fieldLink "NeedCode$Costs" (20 : Nat) "NeedCode$Costs" "ways" "LNeedCode$Row;") ∈ lw_tbl := tm_1 (List.mem_of_getElem? (i := 199) rfl)
theorem w_200 : (Jvm.Cond.fieldLink "NeedCode$Costs" (23 : Nat) "NeedCode$Costs" "leaves" "LNeedCode$Row;") ∈ lw_tbl := tm_1 (List.mem_of_getElem? (i := 200) rfl)
theorem w_201 : (Jvm.Cond.fieldLink "NeedCode$Costs" (79 : Nat) "NeedCode$Costs" "leastWay" "I") ∈ lw_tbl := tm_1 (List.mem_of_getElem? (i := 201) rfl)
theorem w_202 : (Jvm.Cond.fieldLink "NeedCode$Costs" (89 : Nat) "NeedCode$Costs" "leastPrice" "I") ∈ lw_tbl := tm_1 (List.mem_of_getElem? (i := 202) rfl)
theorem w_203 : (Jvm.Cond.laysFinal "NeedCode$Costs" "NeedCode$Costs" "costs" "LNeedCode$Row;") ∈ lw_tbl := tm_1 (List.mem_of_getElem? (i := 203) rfl)
theorem w_205 : (Jvm.Cond.laysFinal "NeedCode$Costs" "NeedCode$Costs" "ways" "LNeedCode$Row;") ∈ lw_tbl := tm_1 (List.mem_of_getElem? (i := 205) rfl)
theorem w_207 : (Jvm.Cond.laysFinal "NeedCode$Costs" "NeedCode$Costs" "leaves" "LNeedCode$Row;") ∈ lw_tbl := tm_1 (List.mem_of_getElem? (i := 207) rfl)
theorem w_209 : (Jvm.Cond.lays "NeedCode$Costs" "NeedCode$Costs" "leastWay" "I") ∈ lw_tbl := tm_1 (List.mem_of_getElem? (i := 209) rfl)
theorem w_211 : (Jvm.Cond.lays "NeedCode$Costs" "NeedCode$Costs" "leastPrice" "I") ∈ lw_tbl := tm_1 (List.mem_of_getElem? (i := 211) rfl)
theorem w_214 : (Jvm.Cond.classLink "NeedCode" (59 : Nat) "NeedCode$Program") ∈ lw_tbl := tm_1 (List.mem_of_getElem? (i := 214) rfl)
theorem w_215 : (Jvm.Cond.instantiable "NeedCode$Program" (5 : Nat)) ∈ lw_tbl := tm_1 (List.mem_of_getElem? (i := 215) rfl)
theorem w_216 : (Jvm.Cond.methodLinkNest "NeedCode" (61 : Nat) ({ cls := "NeedCode$Program", name := "<init>", desc := "()V" } : Jvm.MethodName) "NeedCode") ∈ lw_tbl := tm_1 (List.mem_of_getElem? (i := 216) rfl)
theorem w_217 : (Jvm.Cond.instanceMethod ({ cls := "NeedCode$Program", name := "<init>", desc := "()V" } : Jvm.MethodName)) ∈ lw_tbl := tm_1 (List.mem_of_getElem? (i := 217) rfl)
theorem w_218 : (Jvm.Cond.code ({ cls := "NeedCode$Program", name := "<init>", desc := "()V" } : Jvm.MethodName) prog_7_method_1_code (1 : Nat) (Option.none : Option Jvm.ClassFile.FieldType)) ∈ lw_tbl := tm_1 (List.mem_of_getElem? (i := 218) rfl)
theorem w_219 : (Jvm.Cond.methodLink "NeedCode$Program" (3 : Nat) ({ cls := "java/lang/Object", name := "<init>", desc := "()V" } : Jvm.MethodName)) ∈ lw_tbl := tm_1 (List.mem_of_getElem? (i := 219) rfl)
theorem w_220 : (Jvm.Cond.classLink "NeedCode$Program" (9 : Nat) "NeedCode$Row") ∈ lw_tbl := tm_1 (List.mem_of_getElem? (i := 220) rfl)
theorem w_221 : (Jvm.Cond.methodLink "NeedCode$Program" (11 : Nat) ({ cls := "NeedCode$Row", name := "<init>", desc := "(I)V" } : Jvm.MethodName)) ∈ lw_tbl := tm_1 (List.mem_of_getElem? (i := 221) rfl)
theorem w_222 : (Jvm.Cond.fieldLink "NeedCode$Program" (14 : Nat) "NeedCode$Program" "rows" "LNeedCode$Row;") ∈ lw_tbl := tm_1 (List.mem_of_getElem? (i := 222) rfl)
theorem w_223 : (Jvm.Cond.fieldLink "NeedCode$Program" (20 : Nat) "NeedCode$Program" "cellOf" "LNeedCode$Row;") ∈ lw_tbl := tm_1 (List.mem_of_getElem? (i := 223) rfl)
theorem w_224 : (Jvm.Cond.fieldLink "NeedCode$Program" (31 : Nat) "NeedCode$Program" "length" "I") ∈ lw_tbl := tm_1 (List.mem_of_getElem? (i := 224) rfl)
theorem w_225 : (Jvm.Cond.fieldLinkNest "NeedCode" (189 : Nat) "NeedCode$Program" "length" "I" "NeedCode") ∈ lw_tbl := tm_1 (List.mem_of_getElem? (i := 225) rfl)
theorem w_226 : (Jvm.Cond.fieldLink "NeedCode$Program" (34 : Nat) "NeedCode$Program" "cells" "I") ∈ lw_tbl := tm_1 (List.mem_of_getElem? (i := 226) rfl)
theorem w_227 : (Jvm.Cond.fieldLinkNest "NeedCode" (192 : Nat) "NeedCode$Program" "cells" "I" "NeedCode") ∈ lw_tbl := tm_1 (List.mem_of_getElem? (i := 227) rfl)
theorem w_228 : (Jvm.Cond.fieldLink "NeedCode$Program" (27 : Nat) "NeedCode$Program" "madeBy" "I") ∈ lw_tbl := tm_1 (List.mem_of_getElem? (i := 228) rfl)
theorem w_229 : (Jvm.Cond.laysFinal "NeedCode$Program" "NeedCode$Program" "rows" "LNeedCode$Row;") ∈ lw_tbl := tm_1 (List.mem_of_getElem? (i := 229) rfl)
theorem w_231 : (Jvm.Cond.laysFinal "NeedCode$Program" "NeedCode$Program" "cellOf" "LNeedCode$Row;") ∈ lw_tbl := tm_1 (List.mem_of_getElem? (i := 231) rfl)
theorem w_233 : (Jvm.Cond.lays "NeedCode$Program" "NeedCode$Program" "length" "I") ∈ lw_tbl := tm_1 (List.mem_of_getElem? (i := 233) rfl)
theorem w_235 : (Jvm.Cond.lays "NeedCode$Program" "NeedCode$Program" "cells" "I") ∈ lw_tbl := tm_1 (List.mem_of_getElem? (i := 235) rfl)
theorem w_237 : (Jvm.Cond.lays "NeedCode$Program" "NeedCode$Program" "madeBy" "I") ∈ lw_tbl := tm_1 (List.mem_of_getElem? (i := 237) rfl)
theorem w_240 : (Jvm.Cond.classLink "NeedCode" (66 : Nat) "NeedCode$Device") ∈ lw_tbl := tm_2 (List.mem_of_getElem? (i := 0) rfl)
theorem w_241 : (Jvm.Cond.instantiable "NeedCode$Device" (5 : Nat)) ∈ lw_tbl := tm_2 (List.mem_of_getElem? (i := 1) rfl)
theorem w_242 : (Jvm.Cond.methodLinkNest "NeedCode" (68 : Nat) ({ cls := "NeedCode$Device", name := "<init>", desc := "()V" } : Jvm.MethodName) "NeedCode") ∈ lw_tbl := tm_2 (List.mem_of_getElem? (i := 2) rfl)
theorem w_243 : (Jvm.Cond.instanceMethod ({ cls := "NeedCode$Device", name := "<init>", desc := "()V" } : Jvm.MethodName)) ∈ lw_tbl := tm_2 (List.mem_of_getElem? (i := 3) rfl)
theorem w_244 : (Jvm.Cond.code ({ cls := "NeedCode$Device", name := "<init>", desc := "()V" } : Jvm.MethodName) prog_4_method_1_code (1 : Nat) (Option.none : Option Jvm.ClassFile.FieldType)) ∈ lw_tbl := tm_2 (List.mem_of_getElem? (i := 4) rfl)
theorem w_245 : (Jvm.Cond.methodLink "NeedCode$Device" (3 : Nat) ({ cls := "java/lang/Object", name := "<init>", desc := "()V" } : Jvm.MethodName)) ∈ lw_tbl := tm_2 (List.mem_of_getElem? (i := 5) rfl)
theorem w_246 : (Jvm.Cond.classLink "NeedCode$Device" (9 : Nat) "NeedCode$Row") ∈ lw_tbl := tm_2 (List.mem_of_getElem? (i := 6) rfl)
theorem w_247 : (Jvm.Cond.methodLink "NeedCode$Device" (11 : Nat) ({ cls := "NeedCode$Row", name := "<init>", desc := "(I)V" } : Jvm.MethodName)) ∈ lw_tbl := tm_2 (List.mem_of_getElem? (i := 7) rfl)
theorem w_248 : (Jvm.Cond.fieldLink "NeedCode$Device" (14 : Nat) "NeedCode$Device" "values" "LNeedCode$Row;") ∈ lw_tbl := tm_2 (List.mem_of_getElem? (i := 8) rfl)
theorem w_249 : (Jvm.Cond.fieldLink "NeedCode$Device" (20 : Nat) "NeedCode$Device" "registers" "LNeedCode$Row;") ∈ lw_tbl := tm_2 (List.mem_of_getElem? (i := 9) rfl)
theorem w_250 : (Jvm.Cond.fieldLink "NeedCode$Device" (23 : Nat) "NeedCode$Device" "cells" "LNeedCode$Row;") ∈ lw_tbl := tm_2 (List.mem_of_getElem? (i := 10) rfl)
theorem w_251 : (Jvm.Cond.fieldLink "NeedCode$Device" (53 : Nat) "NeedCode$Device" "result" "I") ∈ lw_tbl := tm_2 (List.mem_of_getElem? (i := 11) rfl)
theorem w_252 : (Jvm.Cond.fieldLinkNest "NeedCode" (278 : Nat) "NeedCode$Device" "result" "I" "NeedCode") ∈ lw_tbl := tm_2 (List.mem_of_getElem? (i := 12) rfl)
theorem w_253 : (Jvm.Cond.fieldLink "NeedCode$Device" (26 : Nat) "NeedCode$Device" "trap" "I") ∈ lw_tbl := tm_2 (List.mem_of_getElem? (i := 13) rfl)
theorem w_254 : (Jvm.Cond.fieldLinkNest "NeedCode" (275 : Nat) "NeedCode$Device" "trap" "I" "NeedCode") ∈ lw_tbl := tm_2 (List.mem_of_getElem? (i := 14) rfl)
theorem w_255 : (Jvm.Cond.laysFinal "NeedCode$Device" "NeedCode$Device" "values" "LNeedCode$Row;") ∈ lw_tbl := tm_2 (List.mem_of_getElem? (i := 15) rfl)
theorem w_257 : (Jvm.Cond.laysFinal "NeedCode$Device" "NeedCode$Device" "registers" "LNeedCode$Row;") ∈ lw_tbl := tm_2 (List.mem_of_getElem? (i := 17) rfl)
theorem w_259 : (Jvm.Cond.laysFinal "NeedCode$Device" "NeedCode$Device" "cells" "LNeedCode$Row;") ∈ lw_tbl := tm_2 (List.mem_of_getElem? (i := 19) rfl)
theorem w_261 : (Jvm.Cond.lays "NeedCode$Device" "NeedCode$Device" "result" "I") ∈ lw_tbl := tm_2 (List.mem_of_getElem? (i := 21) rfl)
theorem w_263 : (Jvm.Cond.lays "NeedCode$Device" "NeedCode$Device" "trap" "I") ∈ lw_tbl := tm_2 (List.mem_of_getElem? (i := 23) rfl)
theorem w_266 : (Jvm.Cond.classLink "NeedCode" (73 : Nat) "NeedCode$Shares") ∈ lw_tbl := tm_2 (List.mem_of_getElem? (i := 26) rfl)
theorem w_267 : (Jvm.Cond.instantiable "NeedCode$Shares" (7 : Nat)) ∈ lw_tbl := tm_2 (List.mem_of_getElem? (i := 27) rfl)
theorem w_268 : (Jvm.Cond.methodLinkNest "NeedCode" (75 : Nat) ({ cls := "NeedCode$Shares", name := "<init>", desc := "()V" } : Jvm.MethodName) "NeedCode") ∈ lw_tbl := tm_2 (List.mem_of_getElem? (i := 28) rfl)
theorem w_269 : (Jvm.Cond.instanceMethod ({ cls := "NeedCode$Shares", name := "<init>", desc := "()V" } : Jvm.MethodName)) ∈ lw_tbl := tm_2 (List.mem_of_getElem? (i := 29) rfl)
theorem w_270 : (Jvm.Cond.code ({ cls := "NeedCode$Shares", name := "<init>", desc := "()V" } : Jvm.MethodName) prog_10_method_1_code (1 : Nat) (Option.none : Option Jvm.ClassFile.FieldType)) ∈ lw_tbl := tm_2 (List.mem_of_getElem? (i := 30) rfl)
theorem w_271 : (Jvm.Cond.methodLink "NeedCode$Shares" (3 : Nat) ({ cls := "java/lang/Object", name := "<init>", desc := "()V" } : Jvm.MethodName)) ∈ lw_tbl := tm_2 (List.mem_of_getElem? (i := 31) rfl)
theorem w_272 : (Jvm.Cond.classLink "NeedCode$Shares" (9 : Nat) "NeedCode$Row") ∈ lw_tbl := tm_2 (List.mem_of_getElem? (i := 32) rfl)
theorem w_273 : (Jvm.Cond.methodLink "NeedCode$Shares" (11 : Nat) ({ cls := "NeedCode$Row", name := "<init>", desc := "(I)V" } : Jvm.MethodName)) ∈ lw_tbl := tm_2 (List.mem_of_getElem? (i := 33) rfl)
theorem w_274 : (Jvm.Cond.classLink "NeedCode$Shares" (23 : Nat) "NeedCode$Costs") ∈ lw_tbl := tm_2 (List.mem_of_getElem? (i := 34) rfl)
theorem w_275 : (Jvm.Cond.methodLinkNest "NeedCode$Shares" (25 : Nat) ({ cls := "NeedCode$Costs", name := "<init>", desc := "()V" } : Jvm.MethodName) "NeedCode") ∈ lw_tbl := tm_2 (List.mem_of_getElem? (i := 35) rfl)
theorem w_276 : (Jvm.Cond.fieldLink "NeedCode$Shares" (14 : Nat) "NeedCode$Shares" "firsts" "LNeedCode$Row;") ∈ lw_tbl := tm_2 (List.mem_of_getElem? (i := 36) rfl)
theorem w_277 : (Jvm.Cond.fieldLinkNest "NeedCode" (252 : Nat) "NeedCode$Shares" "firsts" "LNeedCode$Row;" "NeedCode") ∈ lw_tbl := tm_2 (List.mem_of_getElem? (i := 37) rfl)
theorem w_278 : (Jvm.Cond.fieldLink "NeedCode$Shares" (20 : Nat) "NeedCode$Shares" "times" "LNeedCode$Row;") ∈ lw_tbl := tm_2 (List.mem_of_getElem? (i := 38) rfl)
theorem w_279 : (Jvm.Cond.fieldLinkNest "NeedCode" (255 : Nat) "NeedCode$Shares" "times" "LNeedCode$Row;" "NeedCode") ∈ lw_tbl := tm_2 (List.mem_of_getElem? (i := 39) rfl)
theorem w_280 : (Jvm.Cond.fieldLink "NeedCode$Shares" (26 : Nat) "NeedCode$Shares" "trial" "LNeedCode$Costs;") ∈ lw_tbl := tm_2 (List.mem_of_getElem? (i := 40) rfl)
theorem w_281 : (Jvm.Cond.fieldLink "NeedCode$Shares" (30 : Nat) "NeedCode$Shares" "found" "I") ∈ lw_tbl := tm_2 (List.mem_of_getElem? (i := 41) rfl)
theorem w_282 : (Jvm.Cond.fieldLinkNest "NeedCode" (249 : Nat) "NeedCode$Shares" "found" "I" "NeedCode") ∈ lw_tbl := tm_2 (List.mem_of_getElem? (i := 42) rfl)
theorem w_283 : (Jvm.Cond.fieldLink "NeedCode$Shares" (72 : Nat) "NeedCode$Shares" "leastSum" "I") ∈ lw_tbl := tm_2 (List.mem_of_getElem? (i := 43) rfl)
theorem w_284 : (Jvm.Cond.fieldLinkNest "NeedCode" (262 : Nat) "NeedCode$Shares" "leastSum" "I" "NeedCode") ∈ lw_tbl := tm_2 (List.mem_of_getElem? (i := 44) rfl)
theorem w_285 : (Jvm.Cond.fieldLink "NeedCode$Shares" (65 : Nat) "NeedCode$Shares" "leastSet" "I") ∈ lw_tbl := tm_2 (List.mem_of_getElem? (i := 45) rfl)
theorem w_286 : (Jvm.Cond.fieldLinkNest "NeedCode" (265 : Nat) "NeedCode$Shares" "leastSet" "I" "NeedCode") ∈ lw_tbl := tm_2 (List.mem_of_getElem? (i := 46) rfl)
theorem w_287 : (Jvm.Cond.fieldLink "NeedCode$Shares" (34 : Nat) "NeedCode$Shares" "weighed" "Z") ∈ lw_tbl := tm_2 (List.mem_of_getElem? (i := 47) rfl)
theorem w_288 : (Jvm.Cond.laysFinal "NeedCode$Shares" "NeedCode$Shares" "firsts" "LNeedCode$Row;") ∈ lw_tbl := tm_2 (List.mem_of_getElem? (i := 48) rfl)
theorem w_290 : (Jvm.Cond.laysFinal "NeedCode$Shares" "NeedCode$Shares" "times" "LNeedCode$Row;") ∈ lw_tbl := tm_2 (List.mem_of_getElem? (i := 50) rfl)
theorem w_292 : (Jvm.Cond.laysFinal "NeedCode$Shares" "NeedCode$Shares" "trial" "LNeedCode$Costs;") ∈ lw_tbl := tm_2 (List.mem_of_getElem? (i := 52) rfl)
theorem w_294 : (Jvm.Cond.lays "NeedCode$Shares" "NeedCode$Shares" "found" "I") ∈ lw_tbl := tm_2 (List.mem_of_getElem? (i := 54) rfl)
theorem w_296 : (Jvm.Cond.lays "NeedCode$Shares" "NeedCode$Shares" "leastSum" "I") ∈ lw_tbl := tm_2 (List.mem_of_getElem? (i := 56) rfl)
theorem w_298 : (Jvm.Cond.lays "NeedCode$Shares" "NeedCode$Shares" "leastSet" "I") ∈ lw_tbl := tm_2 (List.mem_of_getElem? (i := 58) rfl)
theorem w_300 : (Jvm.Cond.lays "NeedCode$Shares" "NeedCode$Shares" "weighed" "Z") ∈ lw_tbl := tm_2 (List.mem_of_getElem? (i := 60) rfl)
theorem w_303 : (Jvm.Cond.methodLink "NeedCode" (87 : Nat) ({ cls := "NeedCode$Row", name := "put", desc := "(II)V" } : Jvm.MethodName)) ∈ lw_tbl := tm_2 (List.mem_of_getElem? (i := 63) rfl)
theorem w_304 : (Jvm.Cond.instanceMethod ({ cls := "NeedCode$Row", name := "put", desc := "(II)V" } : Jvm.MethodName)) ∈ lw_tbl := tm_2 (List.mem_of_getElem? (i := 64) rfl)
theorem w_305 : (Jvm.Cond.selects "NeedCode$Row" ({ cls := "NeedCode$Row", name := "put", desc := "(II)V" } : Jvm.MethodName) ({ cls := "NeedCode$Row", name := "put", desc := "(II)V" } : Jvm.MethodName)) ∈ lw_tbl := tm_2 (List.mem_of_getElem? (i := 65) rfl)
theorem w_306 : (Jvm.Cond.code ({ cls := "NeedCode$Row", name := "put", desc := "(II)V" } : Jvm.MethodName) prog_9_method_3_code (3 : Nat) (Option.none : Option Jvm.ClassFile.FieldType)) ∈ lw_tbl := tm_2 (List.mem_of_getElem? (i := 66) rfl)
theorem w_307 : (Jvm.Cond.fieldLink "NeedCode" (14 : Nat) "NeedCode" "text" "LNeedCode$Row;") ∈ lw_tbl := tm_2 (List.mem_of_getElem? (i := 67) rfl)
theorem w_308 : (Jvm.Cond.fieldLink "NeedCode" (21 : Nat) "NeedCode" "reader" "LNeedCode$Reader;") ∈ lw_tbl := tm_2 (List.mem_of_getElem? (i := 68) rfl)
theorem w_309 : (Jvm.Cond.fieldLink "NeedCode" (28 : Nat) "NeedCode" "now" "LNeedCode$Image;") ∈ lw_tbl := tm_2 (List.mem_of_getElem? (i := 69) rfl)
theorem w_310 : (Jvm.Cond.fieldLink "NeedCode" (32 : Nat) "NeedCode" "image0" "LNeedCode$Image;") ∈ lw_tbl := tm_2 (List.mem_of_getElem? (i := 70) rfl)
theorem w_311 : (Jvm.Cond.fieldLink "NeedCode" (35 : Nat) "NeedCode" "image1" "LNeedCode$Image;") ∈ lw_tbl := tm_2 (List.mem_of_getElem? (i := 71) rfl)
theorem w_312 : (Jvm.Cond.fieldLink "NeedCode" (41 : Nat) "NeedCode" "spare" "LNeedCode$Tree;") ∈ lw_tbl := tm_2 (List.mem_of_getElem? (i := 72) rfl)
theorem w_313 : (Jvm.Cond.fieldLink "NeedCode" (48 : Nat) "NeedCode" "acts" "LNeedCode$Acts;") ∈ lw_tbl := tm_2 (List.mem_of_getElem? (i := 73) rfl)
theorem w_314 : (Jvm.Cond.fieldLink "NeedCode" (55 : Nat) "NeedCode" "costs" "LNeedCode$Costs;") ∈ lw_tbl := tm_2 (List.mem_of_getElem? (i := 74) rfl)
theorem w_315 : (Jvm.Cond.fieldLink "NeedCode" (62 : Nat) "NeedCode" "lines" "LNeedCode$Program;") ∈ lw_tbl := tm_2 (List.mem_of_getElem? (i := 75) rfl)
theorem w_316 : (Jvm.Cond.fieldLink "NeedCode" (69 : Nat) "NeedCode" "device" "LNeedCode$Device;") ∈ lw_tbl := tm_2 (List.mem_of_getElem? (i := 76) rfl)
theorem w_317 : (Jvm.Cond.fieldLink "NeedCode" (76 : Nat) "NeedCode" "shares" "LNeedCode$Shares;") ∈ lw_tbl := tm_2 (List.mem_of_getElem? (i := 77) rfl)
theorem w_318 : (Jvm.Cond.fieldLink "NeedCode" (91 : Nat) "NeedCode" "textLength" "I") ∈ lw_tbl := tm_2 (List.mem_of_getElem? (i := 78) rfl)
theorem w_319 : (Jvm.Cond.fieldLink "NeedCode" (218 : Nat) "NeedCode" "told" "I") ∈ lw_tbl := tm_2 (List.mem_of_getElem? (i := 79) rfl)
theorem w_320 : (Jvm.Cond.fieldLink "NeedCode" (80 : Nat) "NeedCode" "trapNode" "I") ∈ lw_tbl := tm_2 (List.mem_of_getElem? (i := 80) rfl)
theorem w_321 : (Jvm.Cond.laysFinal "NeedCode" "NeedCode" "text" "LNeedCode$Row;") ∈ lw_tbl := tm_2 (List.mem_of_getElem? (i := 81) rfl)
theorem w_323 : (Jvm.Cond.laysFinal "NeedCode" "NeedCode" "reader" "LNeedCode$Reader;") ∈ lw_tbl := tm_2 (List.mem_of_getElem? (i := 83) rfl)
theorem w_325 : (Jvm.Cond.laysFinal "NeedCode" "NeedCode" "now" "LNeedCode$Image;") ∈ lw_tbl := tm_2 (List.mem_of_getElem? (i := 85) rfl)
theorem w_327 : (Jvm.Cond.laysFinal "NeedCode" "NeedCode" "image0" "LNeedCode$Image;") ∈ lw_tbl := tm_2 (List.mem_of_getElem? (i := 87) rfl)
theorem w_329 : (Jvm.Cond.laysFinal "NeedCode" "NeedCode" "image1" "LNeedCode$Image;") ∈ lw_tbl := tm_2 (List.mem_of_getElem? (i := 89) rfl)
theorem w_331 : (Jvm.Cond.laysFinal "NeedCode" "NeedCode" "spare" "LNeedCode$Tree;") ∈ lw_tbl := tm_2 (List.mem_of_getElem? (i := 91) rfl)
theorem w_333 : (Jvm.Cond.laysFinal "NeedCode" "NeedCode" "acts" "LNeedCode$Acts;") ∈ lw_tbl := tm_2 (List.mem_of_getElem? (i := 93) rfl)
theorem w_335 : (Jvm.Cond.laysFinal "NeedCode" "NeedCode" "costs" "LNeedCode$Costs;") ∈ lw_tbl := tm_2 (List.mem_of_getElem? (i := 95) rfl)
theorem w_337 : (Jvm.Cond.laysFinal "NeedCode" "NeedCode" "lines" "LNeedCode$Program;") ∈ lw_tbl := tm_2 (List.mem_of_getElem? (i := 97) rfl)
theorem w_339 : (Jvm.Cond.laysFinal "NeedCode" "NeedCode" "device" "LNeedCode$Device;") ∈ lw_tbl := tm_2 (List.mem_of_getElem? (i := 99) rfl)
theorem w_341 : (Jvm.Cond.laysFinal "NeedCode" "NeedCode" "shares" "LNeedCode$Shares;") ∈ lw_tbl := tm_2 (List.mem_of_getElem? (i := 101) rfl)
theorem w_343 : (Jvm.Cond.lays "NeedCode" "NeedCode" "textLength" "I") ∈ lw_tbl := tm_2 (List.mem_of_getElem? (i := 103) rfl)
theorem w_345 : (Jvm.Cond.lays "NeedCode" "NeedCode" "told" "I") ∈ lw_tbl := tm_2 (List.mem_of_getElem? (i := 105) rfl)
theorem w_347 : (Jvm.Cond.lays "NeedCode" "NeedCode" "trapNode" "I") ∈ lw_tbl := tm_2 (List.mem_of_getElem? (i := 107) rfl)
theorem w_350 : (Jvm.Cond.methodLink "NeedCodeLaw" (13 : Nat) ({ cls := "NeedCode", name := "type", desc := "(I)I" } : Jvm.MethodName)) ∈ lw_tbl := tm_2 (List.mem_of_getElem? (i := 110) rfl)
theorem w_351 : (Jvm.Cond.instanceMethod ({ cls := "NeedCode", name := "type", desc := "(I)I" } : Jvm.MethodName)) ∈ lw_tbl := tm_2 (List.mem_of_getElem? (i := 111) rfl)
theorem w_352 : (Jvm.Cond.selects "NeedCode" ({ cls := "NeedCode", name := "type", desc := "(I)I" } : Jvm.MethodName) ({ cls := "NeedCode", name := "type", desc := "(I)I" } : Jvm.MethodName)) ∈ lw_tbl := tm_2 (List.mem_of_getElem? (i := 112) rfl)
theorem w_353 : (Jvm.Cond.code ({ cls := "NeedCode", name := "type", desc := "(I)I" } : Jvm.MethodName) prog_1_method_2_code (2 : Nat) (Option.some Jvm.ClassFile.FieldType.int)) ∈ lw_tbl := tm_2 (List.mem_of_getElem? (i := 113) rfl)
theorem w_354 : (Jvm.Cond.methodLink "NeedCodeLaw" (18 : Nat) ({ cls := "NeedCode", name := "clear", desc := "()I" } : Jvm.MethodName)) ∈ lw_tbl := tm_2 (List.mem_of_getElem? (i := 114) rfl)
theorem w_355 : (Jvm.Cond.instanceMethod ({ cls := "NeedCode", name := "clear", desc := "()I" } : Jvm.MethodName)) ∈ lw_tbl := tm_2 (List.mem_of_getElem? (i := 115) rfl)
theorem w_356 : (Jvm.Cond.selects "NeedCode" ({ cls := "NeedCode", name := "clear", desc := "()I" } : Jvm.MethodName) ({ cls := "NeedCode", name := "clear", desc := "()I" } : Jvm.MethodName)) ∈ lw_tbl := tm_2 (List.mem_of_getElem? (i := 116) rfl)
theorem w_357 : (Jvm.Cond.code ({ cls := "NeedCode", name := "clear", desc := "()I" } : Jvm.MethodName) prog_1_method_3_code (2 : Nat) (Option.some Jvm.ClassFile.FieldType.int)) ∈ lw_tbl := tm_2 (List.mem_of_getElem? (i := 117) rfl)
theorem w_358 : (Jvm.Cond.methodLink "NeedCodeLaw" (23 : Nat) ({ cls := "NeedCode", name := "tree", desc := "()I" } : Jvm.MethodName)) ∈ lw_tbl := tm_2 (List.mem_of_getElem? (i := 118) rfl)
theorem w_359 : (Jvm.Cond.instanceMethod ({ cls := "NeedCode", name := "tree", desc := "()I" } : Jvm.MethodName)) ∈ lw_tbl := tm_2 (List.mem_of_getElem? (i := 119) rfl)
theorem w_360 : (Jvm.Cond.selects "NeedCode" ({ cls := "NeedCode", name := "tree", desc := "()I" } : Jvm.MethodName) ({ cls := "NeedCode", name := "tree", desc := "()I" } : Jvm.MethodName)) ∈ lw_tbl := tm_2 (List.mem_of_getElem? (i := 120) rfl)
theorem w_361 : (Jvm.Cond.code ({ cls := "NeedCode", name := "tree", desc := "()I" } : Jvm.MethodName) prog_1_method_4_code (2 : Nat) (Option.some Jvm.ClassFile.FieldType.int)) ∈ lw_tbl := tm_2 (List.mem_of_getElem? (i := 121) rfl)
theorem w_362 : (Jvm.Cond.methodLink "NeedCode" (94 : Nat) ({ cls := "NeedCode$Reader", name := "read", desc := "(LNeedCode$Row;ILNeedCode$Tree;)I" } : Jvm.MethodName)) ∈ lw_tbl := tm_2 (List.mem_of_getElem? (i := 122) rfl)
theorem w_363 : (Jvm.Cond.instanceMethod ({ cls := "NeedCode$Reader", name := "read", desc := "(LNeedCode$Row;ILNeedCode$Tree;)I" } : Jvm.MethodName)) ∈ lw_tbl := tm_2 (List.mem_of_getElem? (i := 123) rfl)
theorem w_364 : (Jvm.Cond.selects "NeedCode$Reader" ({ cls := "NeedCode$Reader", name := "read", desc := "(LNeedCode$Row;ILNeedCode$Tree;)I" } : Jvm.MethodName) ({ cls := "NeedCode$Reader", name := "read", desc := "(LNeedCode$Row;ILNeedCode$Tree;)I" } : Jvm.MethodName)) ∈ lw_tbl := tm_2 (List.mem_of_getElem? (i := 124) rfl)
theorem w_365 : (Jvm.Cond.code ({ cls := "NeedCode$Reader", name := "read", desc := "(LNeedCode$Row;ILNeedCode$Tree;)I" } : Jvm.MethodName) prog_8_method_2_code (6 : Nat) (Option.some Jvm.ClassFile.FieldType.int)) ∈ lw_tbl := tm_2 (List.mem_of_getElem? (i := 125) rfl)
theorem w_366 : (Jvm.Cond.methodLink "NeedCode$Reader" (46 : Nat) ({ cls := "NeedCode$Tree", name := "empty", desc := "()V" } : Jvm.MethodName)) ∈ lw_tbl := tm_2 (List.mem_of_getElem? (i := 126) rfl)
theorem w_367 : (Jvm.Cond.instanceMethod ({ cls := "NeedCode$Tree", name := "empty", desc := "()V" } : Jvm.MethodName)) ∈ lw_tbl := tm_2 (List.mem_of_getElem? (i := 127) rfl)
theorem w_368 : (Jvm.Cond.selects "NeedCode$Tree" ({ cls := "NeedCode$Tree", name := "empty", desc := "()V" } : Jvm.MethodName) ({ cls := "NeedCode$Tree", name := "empty", desc := "()V" } : Jvm.MethodName)) ∈ lw_tbl := tm_2 (List.mem_of_getElem? (i := 128) rfl)
theorem w_369 : (Jvm.Cond.code ({ cls := "NeedCode$Tree", name := "empty", desc := "()V" } : Jvm.MethodName) prog_11_method_12_code (1 : Nat) (Option.none : Option Jvm.ClassFile.FieldType)) ∈ lw_tbl := tm_2 (List.mem_of_getElem? (i := 129) rfl)
theorem w_370 : (Jvm.Cond.methodLink "NeedCode$Reader" (51 : Nat) ({ cls := "NeedCode$Row", name := "get", desc := "(I)I" } : Jvm.MethodName)) ∈ lw_tbl := tm_2 (List.mem_of_getElem? (i := 130) rfl)
theorem w_371 : (Jvm.Cond.instanceMethod ({ cls := "NeedCode$Row", name := "get", desc := "(I)I" } : Jvm.MethodName)) ∈ lw_tbl := tm_2 (List.mem_of_getElem? (i := 131) rfl)
theorem w_372 : (Jvm.Cond.selects "NeedCode$Row" ({ cls := "NeedCode$Row", name := "get", desc := "(I)I" } : Jvm.MethodName) ({ cls := "NeedCode$Row", name := "get", desc := "(I)I" } : Jvm.MethodName)) ∈ lw_tbl := tm_2 (List.mem_of_getElem? (i := 132) rfl)
theorem w_373 : (Jvm.Cond.code ({ cls := "NeedCode$Row", name := "get", desc := "(I)I" } : Jvm.MethodName) prog_9_method_2_code (2 : Nat) (Option.some Jvm.ClassFile.FieldType.int)) ∈ lw_tbl := tm_2 (List.mem_of_getElem? (i := 133) rfl)
theorem w_374 : (Jvm.Cond.methodLink "NeedCode$Reader" (55 : Nat) ({ cls := "NeedCode$Reader", name := "takePart", desc := "(ILNeedCode$Row;ILNeedCode$Tree;)V" } : Jvm.MethodName)) ∈ lw_tbl := tm_2 (List.mem_of_getElem? (i := 134) rfl)
theorem w_376 : (Jvm.Cond.instanceMethod ({ cls := "NeedCode$Reader", name := "takePart", desc := "(ILNeedCode$Row;ILNeedCode$Tree;)V" } : Jvm.MethodName)) ∈ lw_tbl := tm_2 (List.mem_of_getElem? (i := 136) rfl)
theorem w_377 : (Jvm.Cond.code ({ cls := "NeedCode$Reader", name := "takePart", desc := "(ILNeedCode$Row;ILNeedCode$Tree;)V" } : Jvm.MethodName) prog_8_method_3_code (6 : Nat) (Option.none : Option Jvm.ClassFile.FieldType)) ∈ lw_tbl := tm_2 (List.mem_of_getElem? (i := 137) rfl)
theorem w_378 : (Jvm.Cond.methodLink "NeedCode$Reader" (63 : Nat) ({ cls := "NeedCode$Reader", name := "digitsHere", desc := "(LNeedCode$Row;I)I" } : Jvm.MethodName)) ∈ lw_tbl := tm_2 (List.mem_of_getElem? (i := 138) rfl)
theorem w_380 : (Jvm.Cond.instanceMethod ({ cls := "NeedCode$Reader", name := "digitsHere", desc := "(LNeedCode$Row;I)I" } : Jvm.MethodName)) ∈ lw_tbl := tm_2 (List.mem_of_getElem? (i := 140) rfl)
theorem w_381 : (Jvm.Cond.code ({ cls := "NeedCode$Reader", name := "digitsHere", desc := "(LNeedCode$Row;I)I" } : Jvm.MethodName) prog_8_method_4_code (4 : Nat) (Option.some Jvm.ClassFile.FieldType.int)) ∈ lw_tbl := tm_2 (List.mem_of_getElem? (i := 141) rfl)
theorem w_382 : (Jvm.Cond.methodLink "NeedCode$Reader" (74 : Nat) ({ cls := "NeedCode$Reader", name := "isDigit", desc := "(I)Z" } : Jvm.MethodName)) ∈ lw_tbl := tm_2 (List.mem_of_getElem? (i := 142) rfl)
theorem w_383 : (Jvm.Cond.static ({ cls := "NeedCode$Reader", name := "isDigit", desc := "(I)Z" } : Jvm.MethodName)) ∈ lw_tbl := tm_2 (List.mem_of_getElem? (i := 143) rfl)
theorem w_384 : (Jvm.Cond.code ({ cls := "NeedCode$Reader", name := "isDigit", desc := "(I)Z" } : Jvm.MethodName) prog_8_method_11_code (1 : Nat) (Option.some Jvm.ClassFile.FieldType.boolean)) ∈ lw_tbl := tm_2 (List.mem_of_getElem? (i := 144) rfl)
theorem w_385 : (Jvm.Cond.methodLink "NeedCode$Reader" (67 : Nat) ({ cls := "NeedCode$Reader", name := "pile", desc := "(I)V" } : Jvm.MethodName)) ∈ lw_tbl := tm_2 (List.mem_of_getElem? (i := 145) rfl)
theorem w_387 : (Jvm.Cond.instanceMethod ({ cls := "NeedCode$Reader", name := "pile", desc := "(I)V" } : Jvm.MethodName)) ∈ lw_tbl := tm_2 (List.mem_of_getElem? (i := 147) rfl)
theorem w_388 : (Jvm.Cond.code ({ cls := "NeedCode$Reader", name := "pile", desc := "(I)V" } : Jvm.MethodName) prog_8_method_6_code (2 : Nat) (Option.none : Option Jvm.ClassFile.FieldType)) ∈ lw_tbl := tm_2 (List.mem_of_getElem? (i := 148) rfl)
theorem w_389 : (Jvm.Cond.methodLink "NeedCode$Reader" (92 : Nat) ({ cls := "NeedCode$Row", name := "put", desc := "(II)V" } : Jvm.MethodName)) ∈ lw_tbl := tm_2 (List.mem_of_getElem? (i := 149) rfl)
theorem w_390 : (Jvm.Cond.methodLink "NeedCode$Reader" (70 : Nat) ({ cls := "NeedCode$Reader", name := "addLeaf", desc := "(LNeedCode$Tree;III)V" } : Jvm.MethodName)) ∈ lw_tbl := tm_2 (List.mem_of_getElem? (i := 150) rfl)
theorem w_392 : (Jvm.Cond.instanceMethod ({ cls := "NeedCode$Reader", name := "addLeaf", desc := "(LNeedCode$Tree;III)V" } : Jvm.MethodName)) ∈ lw_tbl := tm_2 (List.mem_of_getElem? (i := 152) rfl)
theorem w_393 : (Jvm.Cond.code ({ cls := "NeedCode$Reader", name := "addLeaf", desc := "(LNeedCode$Tree;III)V" } : Jvm.MethodName) prog_8_method_8_code (5 : Nat) (Option.none : Option Jvm.ClassFile.FieldType)) ∈ lw_tbl := tm_2 (List.mem_of_getElem? (i := 153) rfl)
theorem w_394 : (Jvm.Cond.methodLink "NeedCode$Reader" (100 : Nat) ({ cls := "NeedCode$Reader", name := "addNode", desc := "(LNeedCode$Tree;IIIII)V" } : Jvm.MethodName)) ∈ lw_tbl := tm_2 (List.mem_of_getElem? (i := 154) rfl)
theorem w_396 : (Jvm.Cond.instanceMethod ({ cls := "NeedCode$Reader", name := "addNode", desc := "(LNeedCode$Tree;IIIII)V" } : Jvm.MethodName)) ∈ lw_tbl := tm_2 (List.mem_of_getElem? (i := 156) rfl)
theorem w_397 : (Jvm.Cond.code ({ cls := "NeedCode$Reader", name := "addNode", desc := "(LNeedCode$Tree;IIIII)V" } : Jvm.MethodName) prog_8_method_10_code (7 : Nat) (Option.none : Option Jvm.ClassFile.FieldType)) ∈ lw_tbl := tm_2 (List.mem_of_getElem? (i := 157) rfl)
theorem w_398 : (Jvm.Cond.methodLink "NeedCode$Reader" (104 : Nat) ({ cls := "NeedCode$Tree", name := "isFull", desc := "()Z" } : Jvm.MethodName)) ∈ lw_tbl := tm_2 (List.mem_of_getElem? (i := 158) rfl)
theorem w_399 : (Jvm.Cond.instanceMethod ({ cls := "NeedCode$Tree", name := "isFull", desc := "()Z" } : Jvm.MethodName)) ∈ lw_tbl := tm_2 (List.mem_of_getElem? (i := 159) rfl)
theorem w_400 : (Jvm.Cond.selects "NeedCode$Tree" ({ cls := "NeedCode$Tree", name := "isFull", desc := "()Z" } : Jvm.MethodName) ({ cls := "NeedCode$Tree", name := "isFull", desc := "()Z" } : Jvm.MethodName)) ∈ lw_tbl := tm_2 (List.mem_of_getElem? (i := 160) rfl)
theorem w_401 : (Jvm.Cond.code ({ cls := "NeedCode$Tree", name := "isFull", desc := "()Z" } : Jvm.MethodName) prog_11_method_3_code (1 : Nat) (Option.some Jvm.ClassFile.FieldType.boolean)) ∈ lw_tbl := tm_2 (List.mem_of_getElem? (i := 161) rfl)
theorem w_402 : (Jvm.Cond.methodLink "NeedCode$Reader" (108 : Nat) ({ cls := "NeedCode$Tree", name := "add", desc := "(IIII)V" } : Jvm.MethodName)) ∈ lw_tbl := tm_2 (List.mem_of_getElem? (i := 162) rfl)
theorem w_403 : (Jvm.Cond.instanceMethod ({ cls := "NeedCode$Tree", name := "add", desc := "(IIII)V" } : Jvm.MethodName)) ∈ lw_tbl := tm_2 (List.mem_of_getElem? (i := 163) rfl)
theorem w_404 : (Jvm.Cond.selects "NeedCode$Tree" ({ cls := "NeedCode$Tree", name := "add", desc := "(IIII)V" } : Jvm.MethodName) ({ cls := "NeedCode$Tree", name := "add", desc := "(IIII)V" } : Jvm.MethodName)) ∈ lw_tbl := tm_2 (List.mem_of_getElem? (i := 164) rfl)
theorem w_405 : (Jvm.Cond.code ({ cls := "NeedCode$Tree", name := "add", desc := "(IIII)V" } : Jvm.MethodName) prog_11_method_13_code (5 : Nat) (Option.none : Option Jvm.ClassFile.FieldType)) ∈ lw_tbl := tm_2 (List.mem_of_getElem? (i := 165) rfl)
theorem w_406 : (Jvm.Cond.methodLink "NeedCode$Tree" (62 : Nat) ({ cls := "NeedCode$Row", name := "put", desc := "(II)V" } : Jvm.MethodName)) ∈ lw_tbl := tm_2 (List.mem_of_getElem? (i := 166) rfl)
theorem w_407 : (Jvm.Cond.methodLink "NeedCode$Reader" (112 : Nat) ({ cls := "NeedCode$Tree", name := "root", desc := "()I" } : Jvm.MethodName)) ∈ lw_tbl := tm_2 (List.mem_of_getElem? (i := 167) rfl)
theorem w_408 : (Jvm.Cond.instanceMethod ({ cls := "NeedCode$Tree", name := "root", desc := "()I" } : Jvm.MethodName)) ∈ lw_tbl := tm_2 (List.mem_of_getElem? (i := 168) rfl)
theorem w_409 : (Jvm.Cond.selects "NeedCode$Tree" ({ cls := "NeedCode$Tree", name := "root", desc := "()I" } : Jvm.MethodName) ({ cls := "NeedCode$Tree", name := "root", desc := "()I" } : Jvm.MethodName)) ∈ lw_tbl := tm_2 (List.mem_of_getElem? (i := 169) rfl)
theorem w_410 : (Jvm.Cond.code ({ cls := "NeedCode$Tree", name := "root", desc := "()I" } : Jvm.MethodName) prog_11_method_5_code (1 : Nat) (Option.some Jvm.ClassFile.FieldType.int)) ∈ lw_tbl := tm_2 (List.mem_of_getElem? (i := 170) rfl)
theorem w_411 : (Jvm.Cond.methodLink "NeedCode$Reader" (59 : Nat) ({ cls := "NeedCode$Reader", name := "takeOperator", desc := "(ILNeedCode$Tree;)V" } : Jvm.MethodName)) ∈ lw_tbl := tm_2 (List.mem_of_getElem? (i := 171) rfl)
theorem w_413 : (Jvm.Cond.instanceMethod ({ cls := "NeedCode$Reader", name := "takeOperator", desc := "(ILNeedCode$Tree;)V" } : Jvm.MethodName)) ∈ lw_tbl := tm_2 (List.mem_of_getElem? (i := 173) rfl)
theorem w_414 : (Jvm.Cond.code ({ cls := "NeedCode$Reader", name := "takeOperator", desc := "(ILNeedCode$Tree;)V" } : Jvm.MethodName) prog_8_method_5_code (4 : Nat) (Option.none : Option Jvm.ClassFile.FieldType)) ∈ lw_tbl := tm_2 (List.mem_of_getElem? (i := 174) rfl)
theorem w_415 : (Jvm.Cond.methodLink "NeedCode$Reader" (78 : Nat) ({ cls := "NeedCode$Operators", name := "isOfSum", desc := "(I)Z" } : Jvm.MethodName)) ∈ lw_tbl := tm_2 (List.mem_of_getElem? (i := 175) rfl)
theorem w_416 : (Jvm.Cond.static ({ cls := "NeedCode$Operators", name := "isOfSum", desc := "(I)Z" } : Jvm.MethodName)) ∈ lw_tbl := tm_2 (List.mem_of_getElem? (i := 176) rfl)
theorem w_417 : (Jvm.Cond.code ({ cls := "NeedCode$Operators", name := "isOfSum", desc := "(I)Z" } : Jvm.MethodName) prog_6_method_4_code (1 : Nat) (Option.some Jvm.ClassFile.FieldType.boolean)) ∈ lw_tbl := tm_2 (List.mem_of_getElem? (i := 177) rfl)
theorem w_418 : (Jvm.Cond.methodLink "NeedCode$Reader" (83 : Nat) ({ cls := "NeedCode$Operators", name := "isOfProduct", desc := "(I)Z" } : Jvm.MethodName)) ∈ lw_tbl := tm_2 (List.mem_of_getElem? (i := 178) rfl)
theorem w_419 : (Jvm.Cond.static ({ cls := "NeedCode$Operators", name := "isOfProduct", desc := "(I)Z" } : Jvm.MethodName)) ∈ lw_tbl := tm_2 (List.mem_of_getElem? (i := 179) rfl)
theorem w_420 : (Jvm.Cond.code ({ cls := "NeedCode$Operators", name := "isOfProduct", desc := "(I)Z" } : Jvm.MethodName) prog_6_method_5_code (1 : Nat) (Option.some Jvm.ClassFile.FieldType.boolean)) ∈ lw_tbl := tm_2 (List.mem_of_getElem? (i := 180) rfl)
theorem w_421 : (Jvm.Cond.methodLink "NeedCode$Reader" (86 : Nat) ({ cls := "NeedCode$Operators", name := "grip", desc := "(I)I" } : Jvm.MethodName)) ∈ lw_tbl := tm_2 (List.mem_of_getElem? (i := 181) rfl)
theorem w_422 : (Jvm.Cond.static ({ cls := "NeedCode$Operators", name := "grip", desc := "(I)I" } : Jvm.MethodName)) ∈ lw_tbl := tm_2 (List.mem_of_getElem? (i := 182) rfl)
theorem w_423 : (Jvm.Cond.code ({ cls := "NeedCode$Operators", name := "grip", desc := "(I)I" } : Jvm.MethodName) prog_6_method_6_code (1 : Nat) (Option.some Jvm.ClassFile.FieldType.int)) ∈ lw_tbl := tm_2 (List.mem_of_getElem? (i := 183) rfl)
theorem w_424 : (Jvm.Cond.methodLink "NeedCode$Operators" (7 : Nat) ({ cls := "NeedCode$Operators", name := "isOfProduct", desc := "(I)Z" } : Jvm.MethodName)) ∈ lw_tbl := tm_2 (List.mem_of_getElem? (i := 184) rfl)
theorem w_425 : (Jvm.Cond.methodLink "NeedCode$Operators" (13 : Nat) ({ cls := "NeedCode$Operators", name := "isOfSum", desc := "(I)Z" } : Jvm.MethodName)) ∈ lw_tbl := tm_2 (List.mem_of_getElem? (i := 185) rfl)
theorem w_426 : (Jvm.Cond.methodLink "NeedCode$Reader" (89 : Nat) ({ cls := "NeedCode$Reader", name := "settle", desc := "(ILNeedCode$Tree;)V" } : Jvm.MethodName)) ∈ lw_tbl := tm_2 (List.mem_of_getElem? (i := 186) rfl)
theorem w_428 : (Jvm.Cond.instanceMethod ({ cls := "NeedCode$Reader", name := "settle", desc := "(ILNeedCode$Tree;)V" } : Jvm.MethodName)) ∈ lw_tbl := tm_2 (List.mem_of_getElem? (i := 188) rfl)
theorem w_429 : (Jvm.Cond.code ({ cls := "NeedCode$Reader", name := "settle", desc := "(ILNeedCode$Tree;)V" } : Jvm.MethodName) prog_8_method_7_code (7 : Nat) (Option.none : Option Jvm.ClassFile.FieldType)) ∈ lw_tbl := tm_2 (List.mem_of_getElem? (i := 189) rfl)
theorem w_430 : (Jvm.Cond.methodLink "NeedCode$Reader" (96 : Nat) ({ cls := "NeedCode$Reader", name := "takeOff", desc := "()I" } : Jvm.MethodName)) ∈ lw_tbl := tm_2 (List.mem_of_getElem? (i := 190) rfl)
theorem w_432 : (Jvm.Cond.instanceMethod ({ cls := "NeedCode$Reader", name := "takeOff", desc := "()I" } : Jvm.MethodName)) ∈ lw_tbl := tm_2 (List.mem_of_getElem? (i := 192) rfl)
theorem w_433 : (Jvm.Cond.code ({ cls := "NeedCode$Reader", name := "takeOff", desc := "()I" } : Jvm.MethodName) prog_8_method_9_code (1 : Nat) (Option.some Jvm.ClassFile.FieldType.int)) ∈ lw_tbl := tm_2 (List.mem_of_getElem? (i := 193) rfl)
theorem w_434 : (Jvm.Cond.methodLink "NeedCode" (98 : Nat) ({ cls := "NeedCode$Tree", name := "derive", desc := "()V" } : Jvm.MethodName)) ∈ lw_tbl := tm_2 (List.mem_of_getElem? (i := 194) rfl)
theorem w_435 : (Jvm.Cond.instanceMethod ({ cls := "NeedCode$Tree", name := "derive", desc := "()V" } : Jvm.MethodName)) ∈ lw_tbl := tm_2 (List.mem_of_getElem? (i := 195) rfl)
theorem w_436 : (Jvm.Cond.selects "NeedCode$Tree" ({ cls := "NeedCode$Tree", name := "derive", desc := "()V" } : Jvm.MethodName) ({ cls := "NeedCode$Tree", name := "derive", desc := "()V" } : Jvm.MethodName)) ∈ lw_tbl := tm_2 (List.mem_of_getElem? (i := 196) rfl)
theorem w_437 : (Jvm.Cond.code ({ cls := "NeedCode$Tree", name := "derive", desc := "()V" } : Jvm.MethodName) prog_11_method_15_code (2 : Nat) (Option.none : Option Jvm.ClassFile.FieldType)) ∈ lw_tbl := tm_2 (List.mem_of_getElem? (i := 197) rfl)
theorem w_438 : (Jvm.Cond.methodLink "NeedCode$Tree" (70 : Nat) ({ cls := "NeedCode$Tree", name := "isLeaf", desc := "(I)Z" } : Jvm.MethodName)) ∈ lw_tbl := tm_2 (List.mem_of_getElem? (i := 198) rfl)
theorem w_439 : (Jvm.Cond.instanceMethod ({ cls := "NeedCode$Tree", name := "isLeaf", desc := "(I)Z" } : Jvm.MethodName)) ∈ lw_tbl := tm_2 (List.mem_of_getElem? (i := 199) rfl)
theorem w_440 : (Jvm.Cond.selects "NeedCode$Tree" ({ cls := "NeedCode$Tree", name := "isLeaf", desc := "(I)Z" } : Jvm.MethodName) ({ cls := "NeedCode$Tree", name := "isLeaf", desc := "(I)Z" } : Jvm.MethodName)) ∈ lw_tbl := tm_2 (List.mem_of_getElem? (i := 200) rfl)
theorem w_441 : (Jvm.Cond.code ({ cls := "NeedCode$Tree", name := "isLeaf", desc := "(I)Z" } : Jvm.MethodName) prog_11_method_6_code (2 : Nat) (Option.some Jvm.ClassFile.FieldType.boolean)) ∈ lw_tbl := tm_2 (List.mem_of_getElem? (i := 201) rfl)
theorem w_442 : (Jvm.Cond.methodLink "NeedCode$Tree" (48 : Nat) ({ cls := "NeedCode$Row", name := "get", desc := "(I)I" } : Jvm.MethodName)) ∈ lw_tbl := tm_2 (List.mem_of_getElem? (i := 202) rfl)
theorem w_443 : (Jvm.Cond.methodLink "NeedCode$Tree" (73 : Nat) ({ cls := "NeedCode$Tree", name := "deriveLeaf", desc := "(I)V" } : Jvm.MethodName)) ∈ lw_tbl := tm_2 (List.mem_of_getElem? (i := 203) rfl)
theorem w_445 : (Jvm.Cond.instanceMethod ({ cls := "NeedCode$Tree", name := "deriveLeaf", desc := "(I)V" } : Jvm.MethodName)) ∈ lw_tbl := tm_2 (List.mem_of_getElem? (i := 205) rfl)
theorem w_446 : (Jvm.Cond.code ({ cls := "NeedCode$Tree", name := "deriveLeaf", desc := "(I)V" } : Jvm.MethodName) prog_11_method_16_code (2 : Nat) (Option.none : Option Jvm.ClassFile.FieldType)) ∈ lw_tbl := tm_2 (List.mem_of_getElem? (i := 206) rfl)
theorem w_447 : (Jvm.Cond.methodLink "NeedCode$Tree" (76 : Nat) ({ cls := "NeedCode$Tree", name := "isPair", desc := "(I)Z" } : Jvm.MethodName)) ∈ lw_tbl := tm_2 (List.mem_of_getElem? (i := 207) rfl)
theorem w_448 : (Jvm.Cond.instanceMethod ({ cls := "NeedCode$Tree", name := "isPair", desc := "(I)Z" } : Jvm.MethodName)) ∈ lw_tbl := tm_2 (List.mem_of_getElem? (i := 208) rfl)
theorem w_449 : (Jvm.Cond.selects "NeedCode$Tree" ({ cls := "NeedCode$Tree", name := "isPair", desc := "(I)Z" } : Jvm.MethodName) ({ cls := "NeedCode$Tree", name := "isPair", desc := "(I)Z" } : Jvm.MethodName)) ∈ lw_tbl := tm_2 (List.mem_of_getElem? (i := 209) rfl)
theorem w_450 : (Jvm.Cond.code ({ cls := "NeedCode$Tree", name := "isPair", desc := "(I)Z" } : Jvm.MethodName) prog_11_method_7_code (2 : Nat) (Option.some Jvm.ClassFile.FieldType.boolean)) ∈ lw_tbl := tm_2 (List.mem_of_getElem? (i := 210) rfl)
theorem w_451 : (Jvm.Cond.methodLink "NeedCode$Tree" (79 : Nat) ({ cls := "NeedCode$Tree", name := "derivePair", desc := "(I)V" } : Jvm.MethodName)) ∈ lw_tbl := tm_2 (List.mem_of_getElem? (i := 211) rfl)
theorem w_453 : (Jvm.Cond.instanceMethod ({ cls := "NeedCode$Tree", name := "derivePair", desc := "(I)V" } : Jvm.MethodName)) ∈ lw_tbl := tm_2 (List.mem_of_getElem? (i := 213) rfl)
theorem w_454 : (Jvm.Cond.code ({ cls := "NeedCode$Tree", name := "derivePair", desc := "(I)V" } : Jvm.MethodName) prog_11_method_18_code (5 : Nat) (Option.none : Option Jvm.ClassFile.FieldType)) ∈ lw_tbl := tm_2 (List.mem_of_getElem? (i := 214) rfl)
theorem w_455 : (Jvm.Cond.methodLink "NeedCode$Tree" (88 : Nat) ({ cls := "NeedCode$Tree", name := "joint", desc := "(II)I" } : Jvm.MethodName)) ∈ lw_tbl := tm_2 (List.mem_of_getElem? (i := 215) rfl)
theorem w_456 : (Jvm.Cond.static ({ cls := "NeedCode$Tree", name := "joint", desc := "(II)I" } : Jvm.MethodName)) ∈ lw_tbl := tm_2 (List.mem_of_getElem? (i := 216) rfl)
theorem w_457 : (Jvm.Cond.code ({ cls := "NeedCode$Tree", name := "joint", desc := "(II)I" } : Jvm.MethodName) prog_11_method_20_code (2 : Nat) (Option.some Jvm.ClassFile.FieldType.int)) ∈ lw_tbl := tm_2 (List.mem_of_getElem? (i := 217) rfl)
theorem w_458 : (Jvm.Cond.methodLink "NeedCode$Tree" (107 : Nat) ({ cls := "java/lang/Math", name := "max", desc := "(II)I" } : Jvm.MethodName)) ∈ lw_tbl := tm_2 (List.mem_of_getElem? (i := 218) rfl)
theorem w_459 : (Jvm.Cond.methodLink "NeedCode$Tree" (92 : Nat) ({ cls := "NeedCode$Tree", name := "leastOfPair", desc := "(III)I" } : Jvm.MethodName)) ∈ lw_tbl := tm_2 (List.mem_of_getElem? (i := 219) rfl)
theorem w_461 : (Jvm.Cond.instanceMethod ({ cls := "NeedCode$Tree", name := "leastOfPair", desc := "(III)I" } : Jvm.MethodName)) ∈ lw_tbl := tm_2 (List.mem_of_getElem? (i := 221) rfl)
theorem w_462 : (Jvm.Cond.code ({ cls := "NeedCode$Tree", name := "leastOfPair", desc := "(III)I" } : Jvm.MethodName) prog_11_method_19_code (7 : Nat) (Option.some Jvm.ClassFile.FieldType.int)) ∈ lw_tbl := tm_2 (List.mem_of_getElem? (i := 222) rfl)
theorem w_463 : (Jvm.Cond.methodLink "NeedCode$Tree" (58 : Nat) ({ cls := "NeedCode$Tree", name := "isCommuting", desc := "(I)Z" } : Jvm.MethodName)) ∈ lw_tbl := tm_2 (List.mem_of_getElem? (i := 223) rfl)
theorem w_464 : (Jvm.Cond.instanceMethod ({ cls := "NeedCode$Tree", name := "isCommuting", desc := "(I)Z" } : Jvm.MethodName)) ∈ lw_tbl := tm_2 (List.mem_of_getElem? (i := 224) rfl)
theorem w_465 : (Jvm.Cond.selects "NeedCode$Tree" ({ cls := "NeedCode$Tree", name := "isCommuting", desc := "(I)Z" } : Jvm.MethodName) ({ cls := "NeedCode$Tree", name := "isCommuting", desc := "(I)Z" } : Jvm.MethodName)) ∈ lw_tbl := tm_2 (List.mem_of_getElem? (i := 225) rfl)
theorem w_466 : (Jvm.Cond.code ({ cls := "NeedCode$Tree", name := "isCommuting", desc := "(I)Z" } : Jvm.MethodName) prog_11_method_8_code (2 : Nat) (Option.some Jvm.ClassFile.FieldType.boolean)) ∈ lw_tbl := tm_2 (List.mem_of_getElem? (i := 226) rfl)
theorem w_467 : (Jvm.Cond.methodLink "NeedCode$Tree" (52 : Nat) ({ cls := "NeedCode$Operators", name := "isCommuting", desc := "(I)Z" } : Jvm.MethodName)) ∈ lw_tbl := tm_2 (List.mem_of_getElem? (i := 227) rfl)
theorem w_468 : (Jvm.Cond.static ({ cls := "NeedCode$Operators", name := "isCommuting", desc := "(I)Z" } : Jvm.MethodName)) ∈ lw_tbl := tm_2 (List.mem_of_getElem? (i := 228) rfl)
theorem w_469 : (Jvm.Cond.code ({ cls := "NeedCode$Operators", name := "isCommuting", desc := "(I)Z" } : Jvm.MethodName) prog_6_method_2_code (1 : Nat) (Option.some Jvm.ClassFile.FieldType.boolean)) ∈ lw_tbl := tm_2 (List.mem_of_getElem? (i := 229) rfl)
theorem w_470 : (Jvm.Cond.methodLink "NeedCode$Tree" (102 : Nat) ({ cls := "java/lang/Math", name := "min", desc := "(II)I" } : Jvm.MethodName)) ∈ lw_tbl := tm_2 (List.mem_of_getElem? (i := 230) rfl)
theorem w_471 : (Jvm.Cond.static ({ cls := "java/lang/Math", name := "min", desc := "(II)I" } : Jvm.MethodName)) ∈ lw_tbl := tm_2 (List.mem_of_getElem? (i := 231) rfl)
theorem w_472 : (Jvm.Cond.code ({ cls := "java/lang/Math", name := "min", desc := "(II)I" } : Jvm.MethodName) prog_14_method_69_code (2 : Nat) (Option.some Jvm.ClassFile.FieldType.int)) ∈ lw_tbl := tm_2 (List.mem_of_getElem? (i := 232) rfl)
theorem w_473 : (Jvm.Cond.methodLink "NeedCode$Tree" (96 : Nat) ({ cls := "NeedCode$Operators", name := "canTrap", desc := "(I)Z" } : Jvm.MethodName)) ∈ lw_tbl := tm_2 (List.mem_of_getElem? (i := 233) rfl)
theorem w_474 : (Jvm.Cond.static ({ cls := "NeedCode$Operators", name := "canTrap", desc := "(I)Z" } : Jvm.MethodName)) ∈ lw_tbl := tm_2 (List.mem_of_getElem? (i := 234) rfl)
theorem w_475 : (Jvm.Cond.code ({ cls := "NeedCode$Operators", name := "canTrap", desc := "(I)Z" } : Jvm.MethodName) prog_6_method_3_code (1 : Nat) (Option.some Jvm.ClassFile.FieldType.boolean)) ∈ lw_tbl := tm_2 (List.mem_of_getElem? (i := 235) rfl)
theorem w_476 : (Jvm.Cond.methodLink "NeedCode$Tree" (99 : Nat) ({ cls := "NeedCode$Tree", name := "mayTrap", desc := "(I)Z" } : Jvm.MethodName)) ∈ lw_tbl := tm_2 (List.mem_of_getElem? (i := 236) rfl)
theorem w_477 : (Jvm.Cond.instanceMethod ({ cls := "NeedCode$Tree", name := "mayTrap", desc := "(I)Z" } : Jvm.MethodName)) ∈ lw_tbl := tm_2 (List.mem_of_getElem? (i := 237) rfl)
theorem w_478 : (Jvm.Cond.selects "NeedCode$Tree" ({ cls := "NeedCode$Tree", name := "mayTrap", desc := "(I)Z" } : Jvm.MethodName) ({ cls := "NeedCode$Tree", name := "mayTrap", desc := "(I)Z" } : Jvm.MethodName)) ∈ lw_tbl := tm_2 (List.mem_of_getElem? (i := 238) rfl)
theorem w_479 : (Jvm.Cond.code ({ cls := "NeedCode$Tree", name := "mayTrap", desc := "(I)Z" } : Jvm.MethodName) prog_11_method_9_code (2 : Nat) (Option.some Jvm.ClassFile.FieldType.boolean)) ∈ lw_tbl := tm_2 (List.mem_of_getElem? (i := 239) rfl)
theorem w_480 : (Jvm.Cond.methodLink "NeedCode$Tree" (82 : Nat) ({ cls := "NeedCode$Tree", name := "deriveSingle", desc := "(I)V" } : Jvm.MethodName)) ∈ lw_tbl := tm_3 (List.mem_of_getElem? (i := 0) rfl)
theorem w_482 : (Jvm.Cond.instanceMethod ({ cls := "NeedCode$Tree", name := "deriveSingle", desc := "(I)V" } : Jvm.MethodName)) ∈ lw_tbl := tm_3 (List.mem_of_getElem? (i := 2) rfl)
theorem w_483 : (Jvm.Cond.code ({ cls := "NeedCode$Tree", name := "deriveSingle", desc := "(I)V" } : Jvm.MethodName) prog_11_method_17_code (3 : Nat) (Option.none : Option Jvm.ClassFile.FieldType)) ∈ lw_tbl := tm_3 (List.mem_of_getElem? (i := 3) rfl)
theorem w_484 : (Jvm.Cond.methodLink "NeedCode$Tree" (85 : Nat) ({ cls := "NeedCode$Tree", name := "lowestAlike", desc := "(I)I" } : Jvm.MethodName)) ∈ lw_tbl := tm_3 (List.mem_of_getElem? (i := 4) rfl)
theorem w_486 : (Jvm.Cond.instanceMethod ({ cls := "NeedCode$Tree", name := "lowestAlike", desc := "(I)I" } : Jvm.MethodName)) ∈ lw_tbl := tm_3 (List.mem_of_getElem? (i := 6) rfl)
theorem w_487 : (Jvm.Cond.code ({ cls := "NeedCode$Tree", name := "lowestAlike", desc := "(I)I" } : Jvm.MethodName) prog_11_method_21_code (3 : Nat) (Option.some Jvm.ClassFile.FieldType.int)) ∈ lw_tbl := tm_3 (List.mem_of_getElem? (i := 7) rfl)
theorem w_488 : (Jvm.Cond.methodLink "NeedCode$Tree" (110 : Nat) ({ cls := "NeedCode$Tree", name := "areAlike", desc := "(II)Z" } : Jvm.MethodName)) ∈ lw_tbl := tm_3 (List.mem_of_getElem? (i := 8) rfl)
theorem w_490 : (Jvm.Cond.instanceMethod ({ cls := "NeedCode$Tree", name := "areAlike", desc := "(II)Z" } : Jvm.MethodName)) ∈ lw_tbl := tm_3 (List.mem_of_getElem? (i := 10) rfl)
theorem w_491 : (Jvm.Cond.code ({ cls := "NeedCode$Tree", name := "areAlike", desc := "(II)Z" } : Jvm.MethodName) prog_11_method_22_code (3 : Nat) (Option.some Jvm.ClassFile.FieldType.boolean)) ∈ lw_tbl := tm_3 (List.mem_of_getElem? (i := 11) rfl)
theorem w_492 : (Jvm.Cond.methodLink "NeedCode$Tree" (114 : Nat) ({ cls := "NeedCode$Tree", name := "kindOf", desc := "(I)I" } : Jvm.MethodName)) ∈ lw_tbl := tm_3 (List.mem_of_getElem? (i := 12) rfl)
theorem w_494 : (Jvm.Cond.instanceMethod ({ cls := "NeedCode$Tree", name := "kindOf", desc := "(I)I" } : Jvm.MethodName)) ∈ lw_tbl := tm_3 (List.mem_of_getElem? (i := 14) rfl)
theorem w_495 : (Jvm.Cond.code ({ cls := "NeedCode$Tree", name := "kindOf", desc := "(I)I" } : Jvm.MethodName) prog_11_method_23_code (2 : Nat) (Option.some Jvm.ClassFile.FieldType.int)) ∈ lw_tbl := tm_3 (List.mem_of_getElem? (i := 15) rfl)
theorem w_496 : (Jvm.Cond.methodLink "NeedCode" (104 : Nat) ({ cls := "NeedCode$Tree", name := "copy", desc := "(LNeedCode$Tree;)V" } : Jvm.MethodName)) ∈ lw_tbl := tm_3 (List.mem_of_getElem? (i := 16) rfl)
theorem w_497 : (Jvm.Cond.instanceMethod ({ cls := "NeedCode$Tree", name := "copy", desc := "(LNeedCode$Tree;)V" } : Jvm.MethodName)) ∈ lw_tbl := tm_3 (List.mem_of_getElem? (i := 17) rfl)
theorem w_498 : (Jvm.Cond.selects "NeedCode$Tree" ({ cls := "NeedCode$Tree", name := "copy", desc := "(LNeedCode$Tree;)V" } : Jvm.MethodName) ({ cls := "NeedCode$Tree", name := "copy", desc := "(LNeedCode$Tree;)V" } : Jvm.MethodName)) ∈ lw_tbl := tm_3 (List.mem_of_getElem? (i := 18) rfl)
theorem w_499 : (Jvm.Cond.code ({ cls := "NeedCode$Tree", name := "copy", desc := "(LNeedCode$Tree;)V" } : Jvm.MethodName) prog_11_method_14_code (2 : Nat) (Option.none : Option Jvm.ClassFile.FieldType)) ∈ lw_tbl := tm_3 (List.mem_of_getElem? (i := 19) rfl)
theorem w_500 : (Jvm.Cond.methodLink "NeedCode$Tree" (66 : Nat) ({ cls := "NeedCode$Row", name := "copy", desc := "(LNeedCode$Row;)V" } : Jvm.MethodName)) ∈ lw_tbl := tm_3 (List.mem_of_getElem? (i := 20) rfl)
theorem w_501 : (Jvm.Cond.instanceMethod ({ cls := "NeedCode$Row", name := "copy", desc := "(LNeedCode$Row;)V" } : Jvm.MethodName)) ∈ lw_tbl := tm_3 (List.mem_of_getElem? (i := 21) rfl)
theorem w_502 : (Jvm.Cond.selects "NeedCode$Row" ({ cls := "NeedCode$Row", name := "copy", desc := "(LNeedCode$Row;)V" } : Jvm.MethodName) ({ cls := "NeedCode$Row", name := "copy", desc := "(LNeedCode$Row;)V" } : Jvm.MethodName)) ∈ lw_tbl := tm_3 (List.mem_of_getElem? (i := 22) rfl)
theorem w_503 : (Jvm.Cond.code ({ cls := "NeedCode$Row", name := "copy", desc := "(LNeedCode$Row;)V" } : Jvm.MethodName) prog_9_method_4_code (2 : Nat) (Option.none : Option Jvm.ClassFile.FieldType)) ∈ lw_tbl := tm_3 (List.mem_of_getElem? (i := 23) rfl)
theorem w_504 : (Jvm.Cond.methodLink "NeedCode$Row" (19 : Nat) ({ cls := "java/lang/Math", name := "min", desc := "(II)I" } : Jvm.MethodName)) ∈ lw_tbl := tm_3 (List.mem_of_getElem? (i := 24) rfl)
theorem w_505 : (Jvm.Cond.methodLink "NeedCode$Row" (22 : Nat) ({ cls := "java/lang/System", name := "arraycopy", desc := "(Ljava/lang/Object;ILjava/lang/Object;II)V" } : Jvm.MethodName)) ∈ lw_tbl := tm_3 (List.mem_of_getElem? (i := 25) rfl)
theorem w_506 : (Jvm.Cond.static ({ cls := "java/lang/System", name := "arraycopy", desc := "(Ljava/lang/Object;ILjava/lang/Object;II)V" } : Jvm.MethodName)) ∈ lw_tbl := tm_3 (List.mem_of_getElem? (i := 26) rfl)
theorem w_507 : (Jvm.Cond.native ({ cls := "java/lang/System", name := "arraycopy", desc := "(Ljava/lang/Object;ILjava/lang/Object;II)V" } : Jvm.MethodName)) ∈ lw_tbl := tm_3 (List.mem_of_getElem? (i := 27) rfl)
theorem w_508 : (Jvm.Cond.methodLink "NeedCode" (112 : Nat) ({ cls := "NeedCode$Acts", name := "forget", desc := "()V" } : Jvm.MethodName)) ∈ lw_tbl := tm_3 (List.mem_of_getElem? (i := 28) rfl)
theorem w_509 : (Jvm.Cond.instanceMethod ({ cls := "NeedCode$Acts", name := "forget", desc := "()V" } : Jvm.MethodName)) ∈ lw_tbl := tm_3 (List.mem_of_getElem? (i := 29) rfl)
theorem w_510 : (Jvm.Cond.selects "NeedCode$Acts" ({ cls := "NeedCode$Acts", name := "forget", desc := "()V" } : Jvm.MethodName) ({ cls := "NeedCode$Acts", name := "forget", desc := "()V" } : Jvm.MethodName)) ∈ lw_tbl := tm_3 (List.mem_of_getElem? (i := 30) rfl)
theorem w_511 : (Jvm.Cond.code ({ cls := "NeedCode$Acts", name := "forget", desc := "()V" } : Jvm.MethodName) prog_2_method_2_code (1 : Nat) (Option.none : Option Jvm.ClassFile.FieldType)) ∈ lw_tbl := tm_3 (List.mem_of_getElem? (i := 31) rfl)
theorem w_512 : (Jvm.Cond.methodLink "NeedCode" (115 : Nat) ({ cls := "NeedCode", name := "refresh", desc := "()V" } : Jvm.MethodName)) ∈ lw_tbl := tm_3 (List.mem_of_getElem? (i := 32) rfl)
theorem w_514 : (Jvm.Cond.instanceMethod ({ cls := "NeedCode", name := "refresh", desc := "()V" } : Jvm.MethodName)) ∈ lw_tbl := tm_3 (List.mem_of_getElem? (i := 34) rfl)
theorem w_515 : (Jvm.Cond.code ({ cls := "NeedCode", name := "refresh", desc := "()V" } : Jvm.MethodName) prog_1_method_30_code (1 : Nat) (Option.none : Option Jvm.ClassFile.FieldType)) ∈ lw_tbl := tm_3 (List.mem_of_getElem? (i := 35) rfl)
theorem w_516 : (Jvm.Cond.methodLink "NeedCode" (281 : Nat) ({ cls := "NeedCode$Shares", name := "find", desc := "(LNeedCode$Tree;)V" } : Jvm.MethodName)) ∈ lw_tbl := tm_3 (List.mem_of_getElem? (i := 36) rfl)
theorem w_517 : (Jvm.Cond.instanceMethod ({ cls := "NeedCode$Shares", name := "find", desc := "(LNeedCode$Tree;)V" } : Jvm.MethodName)) ∈ lw_tbl := tm_3 (List.mem_of_getElem? (i := 37) rfl)
theorem w_518 : (Jvm.Cond.selects "NeedCode$Shares" ({ cls := "NeedCode$Shares", name := "find", desc := "(LNeedCode$Tree;)V" } : Jvm.MethodName) ({ cls := "NeedCode$Shares", name := "find", desc := "(LNeedCode$Tree;)V" } : Jvm.MethodName)) ∈ lw_tbl := tm_3 (List.mem_of_getElem? (i := 38) rfl)
theorem w_519 : (Jvm.Cond.code ({ cls := "NeedCode$Shares", name := "find", desc := "(LNeedCode$Tree;)V" } : Jvm.MethodName) prog_10_method_2_code (4 : Nat) (Option.none : Option Jvm.ClassFile.FieldType)) ∈ lw_tbl := tm_3 (List.mem_of_getElem? (i := 39) rfl)
theorem w_520 : (Jvm.Cond.methodLink "NeedCode$Shares" (46 : Nat) ({ cls := "NeedCode$Row", name := "get", desc := "(I)I" } : Jvm.MethodName)) ∈ lw_tbl := tm_3 (List.mem_of_getElem? (i := 40) rfl)
theorem w_521 : (Jvm.Cond.methodLink "NeedCode$Shares" (50 : Nat) ({ cls := "NeedCode$Tree", name := "isLeaf", desc := "(I)Z" } : Jvm.MethodName)) ∈ lw_tbl := tm_3 (List.mem_of_getElem? (i := 41) rfl)
theorem w_522 : (Jvm.Cond.methodLink "NeedCode$Shares" (54 : Nat) ({ cls := "NeedCode$Tree", name := "mayTrap", desc := "(I)Z" } : Jvm.MethodName)) ∈ lw_tbl := tm_3 (List.mem_of_getElem? (i := 42) rfl)
theorem w_523 : (Jvm.Cond.methodLink "NeedCode$Shares" (57 : Nat) ({ cls := "NeedCode$Shares", name := "timesOf", desc := "(LNeedCode$Tree;I)I" } : Jvm.MethodName)) ∈ lw_tbl := tm_3 (List.mem_of_getElem? (i := 43) rfl)
theorem w_524 : (Jvm.Cond.static ({ cls := "NeedCode$Shares", name := "timesOf", desc := "(LNeedCode$Tree;I)I" } : Jvm.MethodName)) ∈ lw_tbl := tm_3 (List.mem_of_getElem? (i := 44) rfl)
theorem w_525 : (Jvm.Cond.code ({ cls := "NeedCode$Shares", name := "timesOf", desc := "(LNeedCode$Tree;I)I" } : Jvm.MethodName) prog_10_method_3_code (4 : Nat) (Option.some Jvm.ClassFile.FieldType.int)) ∈ lw_tbl := tm_3 (List.mem_of_getElem? (i := 45) rfl)
theorem w_526 : (Jvm.Cond.methodLink "NeedCode$Shares" (61 : Nat) ({ cls := "NeedCode$Row", name := "put", desc := "(II)V" } : Jvm.MethodName)) ∈ lw_tbl := tm_3 (List.mem_of_getElem? (i := 46) rfl)
theorem w_527 : (Jvm.Cond.methodLink "NeedCode" (284 : Nat) ({ cls := "NeedCode$Costs", name := "fill", desc := "(LNeedCode$Tree;LNeedCode$Row;)V" } : Jvm.MethodName)) ∈ lw_tbl := tm_3 (List.mem_of_getElem? (i := 47) rfl)
theorem w_528 : (Jvm.Cond.instanceMethod ({ cls := "NeedCode$Costs", name := "fill", desc := "(LNeedCode$Tree;LNeedCode$Row;)V" } : Jvm.MethodName)) ∈ lw_tbl := tm_3 (List.mem_of_getElem? (i := 48) rfl)
theorem w_529 : (Jvm.Cond.selects "NeedCode$Costs" ({ cls := "NeedCode$Costs", name := "fill", desc := "(LNeedCode$Tree;LNeedCode$Row;)V" } : Jvm.MethodName) ({ cls := "NeedCode$Costs", name := "fill", desc := "(LNeedCode$Tree;LNeedCode$Row;)V" } : Jvm.MethodName)) ∈ lw_tbl := tm_3 (List.mem_of_getElem? (i := 49) rfl)
theorem w_530 : (Jvm.Cond.code ({ cls := "NeedCode$Costs", name := "fill", desc := "(LNeedCode$Tree;LNeedCode$Row;)V" } : Jvm.MethodName) prog_3_method_4_code (4 : Nat) (Option.none : Option Jvm.ClassFile.FieldType)) ∈ lw_tbl := tm_3 (List.mem_of_getElem? (i := 50) rfl)
theorem w_531 : (Jvm.Cond.methodLink "NeedCode$Costs" (36 : Nat) ({ cls := "NeedCode$Costs", name := "fillNode", desc := "(LNeedCode$Tree;LNeedCode$Row;I)V" } : Jvm.MethodName)) ∈ lw_tbl := tm_3 (List.mem_of_getElem? (i := 51) rfl)
theorem w_532 : (Jvm.Cond.instanceMethod ({ cls := "NeedCode$Costs", name := "fillNode", desc := "(LNeedCode$Tree;LNeedCode$Row;I)V" } : Jvm.MethodName)) ∈ lw_tbl := tm_3 (List.mem_of_getElem? (i := 52) rfl)
theorem w_533 : (Jvm.Cond.selects "NeedCode$Costs" ({ cls := "NeedCode$Costs", name := "fillNode", desc := "(LNeedCode$Tree;LNeedCode$Row;I)V" } : Jvm.MethodName) ({ cls := "NeedCode$Costs", name := "fillNode", desc := "(LNeedCode$Tree;LNeedCode$Row;I)V" } : Jvm.MethodName)) ∈ lw_tbl := tm_3 (List.mem_of_getElem? (i := 53) rfl)
theorem w_534 : (Jvm.Cond.code ({ cls := "NeedCode$Costs", name := "fillNode", desc := "(LNeedCode$Tree;LNeedCode$Row;I)V" } : Jvm.MethodName) prog_3_method_5_code (5 : Nat) (Option.none : Option Jvm.ClassFile.FieldType)) ∈ lw_tbl := tm_3 (List.mem_of_getElem? (i := 54) rfl)
theorem w_535 : (Jvm.Cond.methodLink "NeedCode$Costs" (40 : Nat) ({ cls := "NeedCode$Tree", name := "isLeaf", desc := "(I)Z" } : Jvm.MethodName)) ∈ lw_tbl := tm_3 (List.mem_of_getElem? (i := 55) rfl)
theorem w_536 : (Jvm.Cond.methodLink "NeedCode$Costs" (44 : Nat) ({ cls := "NeedCode$Costs", name := "countAsLeaf", desc := "(LNeedCode$Row;I)V" } : Jvm.MethodName)) ∈ lw_tbl := tm_3 (List.mem_of_getElem? (i := 56) rfl)
theorem w_537 : (Jvm.Cond.instanceMethod ({ cls := "NeedCode$Costs", name := "countAsLeaf", desc := "(LNeedCode$Row;I)V" } : Jvm.MethodName)) ∈ lw_tbl := tm_3 (List.mem_of_getElem? (i := 57) rfl)
theorem w_538 : (Jvm.Cond.selects "NeedCode$Costs" ({ cls := "NeedCode$Costs", name := "countAsLeaf", desc := "(LNeedCode$Row;I)V" } : Jvm.MethodName) ({ cls := "NeedCode$Costs", name := "countAsLeaf", desc := "(LNeedCode$Row;I)V" } : Jvm.MethodName)) ∈ lw_tbl := tm_3 (List.mem_of_getElem? (i := 58) rfl)
theorem w_539 : (Jvm.Cond.code ({ cls := "NeedCode$Costs", name := "countAsLeaf", desc := "(LNeedCode$Row;I)V" } : Jvm.MethodName) prog_3_method_6_code (4 : Nat) (Option.none : Option Jvm.ClassFile.FieldType)) ∈ lw_tbl := tm_3 (List.mem_of_getElem? (i := 59) rfl)
theorem w_540 : (Jvm.Cond.methodLink "NeedCode$Costs" (48 : Nat) ({ cls := "NeedCode$Row", name := "put", desc := "(II)V" } : Jvm.MethodName)) ∈ lw_tbl := tm_3 (List.mem_of_getElem? (i := 60) rfl)
theorem w_541 : (Jvm.Cond.methodLink "NeedCode$Costs" (26 : Nat) ({ cls := "NeedCode$Row", name := "get", desc := "(I)I" } : Jvm.MethodName)) ∈ lw_tbl := tm_3 (List.mem_of_getElem? (i := 61) rfl)
theorem w_542 : (Jvm.Cond.methodLink "NeedCode$Costs" (66 : Nat) ({ cls := "NeedCode$Costs", name := "put", desc := "(IIII)V" } : Jvm.MethodName)) ∈ lw_tbl := tm_3 (List.mem_of_getElem? (i := 62) rfl)
theorem w_544 : (Jvm.Cond.instanceMethod ({ cls := "NeedCode$Costs", name := "put", desc := "(IIII)V" } : Jvm.MethodName)) ∈ lw_tbl := tm_3 (List.mem_of_getElem? (i := 64) rfl)
theorem w_545 : (Jvm.Cond.code ({ cls := "NeedCode$Costs", name := "put", desc := "(IIII)V" } : Jvm.MethodName) prog_3_method_7_code (5 : Nat) (Option.none : Option Jvm.ClassFile.FieldType)) ∈ lw_tbl := tm_3 (List.mem_of_getElem? (i := 65) rfl)
theorem w_546 : (Jvm.Cond.methodLink "NeedCode$Costs" (52 : Nat) ({ cls := "NeedCode$Tree", name := "isPair", desc := "(I)Z" } : Jvm.MethodName)) ∈ lw_tbl := tm_3 (List.mem_of_getElem? (i := 66) rfl)
theorem w_547 : (Jvm.Cond.methodLink "NeedCode$Costs" (55 : Nat) ({ cls := "NeedCode$Costs", name := "choose", desc := "(LNeedCode$Tree;LNeedCode$Row;II)V" } : Jvm.MethodName)) ∈ lw_tbl := tm_3 (List.mem_of_getElem? (i := 67) rfl)
theorem w_549 : (Jvm.Cond.instanceMethod ({ cls := "NeedCode$Costs", name := "choose", desc := "(LNeedCode$Tree;LNeedCode$Row;II)V" } : Jvm.MethodName)) ∈ lw_tbl := tm_3 (List.mem_of_getElem? (i := 69) rfl)
theorem w_550 : (Jvm.Cond.code ({ cls := "NeedCode$Costs", name := "choose", desc := "(LNeedCode$Tree;LNeedCode$Row;II)V" } : Jvm.MethodName) prog_3_method_8_code (16 : Nat) (Option.none : Option Jvm.ClassFile.FieldType)) ∈ lw_tbl := tm_3 (List.mem_of_getElem? (i := 70) rfl)
theorem w_551 : (Jvm.Cond.methodLink "NeedCode$Costs" (62 : Nat) ({ cls := "NeedCode$Costs", name := "costOf", desc := "(II)I" } : Jvm.MethodName)) ∈ lw_tbl := tm_3 (List.mem_of_getElem? (i := 71) rfl)
theorem w_552 : (Jvm.Cond.instanceMethod ({ cls := "NeedCode$Costs", name := "costOf", desc := "(II)I" } : Jvm.MethodName)) ∈ lw_tbl := tm_3 (List.mem_of_getElem? (i := 72) rfl)
theorem w_553 : (Jvm.Cond.selects "NeedCode$Costs" ({ cls := "NeedCode$Costs", name := "costOf", desc := "(II)I" } : Jvm.MethodName) ({ cls := "NeedCode$Costs", name := "costOf", desc := "(II)I" } : Jvm.MethodName)) ∈ lw_tbl := tm_3 (List.mem_of_getElem? (i := 73) rfl)
theorem w_554 : (Jvm.Cond.code ({ cls := "NeedCode$Costs", name := "costOf", desc := "(II)I" } : Jvm.MethodName) prog_3_method_2_code (3 : Nat) (Option.some Jvm.ClassFile.FieldType.int)) ∈ lw_tbl := tm_3 (List.mem_of_getElem? (i := 74) rfl)
theorem w_555 : (Jvm.Cond.methodLink "NeedCode$Costs" (72 : Nat) ({ cls := "NeedCode$Costs", name := "keptOf", desc := "(LNeedCode$Row;II)I" } : Jvm.MethodName)) ∈ lw_tbl := tm_3 (List.mem_of_getElem? (i := 75) rfl)
theorem w_557 : (Jvm.Cond.instanceMethod ({ cls := "NeedCode$Costs", name := "keptOf", desc := "(LNeedCode$Row;II)I" } : Jvm.MethodName)) ∈ lw_tbl := tm_3 (List.mem_of_getElem? (i := 77) rfl)
theorem w_558 : (Jvm.Cond.code ({ cls := "NeedCode$Costs", name := "keptOf", desc := "(LNeedCode$Row;II)I" } : Jvm.MethodName) prog_3_method_10_code (4 : Nat) (Option.some Jvm.ClassFile.FieldType.int)) ∈ lw_tbl := tm_3 (List.mem_of_getElem? (i := 78) rfl)
theorem w_559 : (Jvm.Cond.methodLink "NeedCode$Costs" (76 : Nat) ({ cls := "NeedCode$Tree", name := "bothMayTrap", desc := "(I)Z" } : Jvm.MethodName)) ∈ lw_tbl := tm_3 (List.mem_of_getElem? (i := 79) rfl)
theorem w_560 : (Jvm.Cond.instanceMethod ({ cls := "NeedCode$Tree", name := "bothMayTrap", desc := "(I)Z" } : Jvm.MethodName)) ∈ lw_tbl := tm_3 (List.mem_of_getElem? (i := 80) rfl)
theorem w_561 : (Jvm.Cond.selects "NeedCode$Tree" ({ cls := "NeedCode$Tree", name := "bothMayTrap", desc := "(I)Z" } : Jvm.MethodName) ({ cls := "NeedCode$Tree", name := "bothMayTrap", desc := "(I)Z" } : Jvm.MethodName)) ∈ lw_tbl := tm_3 (List.mem_of_getElem? (i := 81) rfl)
theorem w_562 : (Jvm.Cond.code ({ cls := "NeedCode$Tree", name := "bothMayTrap", desc := "(I)Z" } : Jvm.MethodName) prog_11_method_10_code (2 : Nat) (Option.some Jvm.ClassFile.FieldType.boolean)) ∈ lw_tbl := tm_3 (List.mem_of_getElem? (i := 82) rfl)
theorem w_563 : (Jvm.Cond.methodLink "NeedCode$Costs" (82 : Nat) ({ cls := "NeedCode$Costs", name := "offer", desc := "(IZI)V" } : Jvm.MethodName)) ∈ lw_tbl := tm_3 (List.mem_of_getElem? (i := 83) rfl)
theorem w_565 : (Jvm.Cond.instanceMethod ({ cls := "NeedCode$Costs", name := "offer", desc := "(IZI)V" } : Jvm.MethodName)) ∈ lw_tbl := tm_3 (List.mem_of_getElem? (i := 85) rfl)
theorem w_566 : (Jvm.Cond.code ({ cls := "NeedCode$Costs", name := "offer", desc := "(IZI)V" } : Jvm.MethodName) prog_3_method_9_code (4 : Nat) (Option.none : Option Jvm.ClassFile.FieldType)) ∈ lw_tbl := tm_3 (List.mem_of_getElem? (i := 86) rfl)
theorem w_567 : (Jvm.Cond.methodLink "NeedCode$Costs" (86 : Nat) ({ cls := "NeedCode$Tree", name := "isCommuting", desc := "(I)Z" } : Jvm.MethodName)) ∈ lw_tbl := tm_3 (List.mem_of_getElem? (i := 87) rfl)
theorem w_568 : (Jvm.Cond.methodLink "NeedCode" (287 : Nat) ({ cls := "NeedCode$Program", name := "forget", desc := "()V" } : Jvm.MethodName)) ∈ lw_tbl := tm_3 (List.mem_of_getElem? (i := 88) rfl)
theorem w_569 : (Jvm.Cond.instanceMethod ({ cls := "NeedCode$Program", name := "forget", desc := "()V" } : Jvm.MethodName)) ∈ lw_tbl := tm_3 (List.mem_of_getElem? (i := 89) rfl)
theorem w_570 : (Jvm.Cond.selects "NeedCode$Program" ({ cls := "NeedCode$Program", name := "forget", desc := "()V" } : Jvm.MethodName) ({ cls := "NeedCode$Program", name := "forget", desc := "()V" } : Jvm.MethodName)) ∈ lw_tbl := tm_3 (List.mem_of_getElem? (i := 90) rfl)
theorem w_571 : (Jvm.Cond.code ({ cls := "NeedCode$Program", name := "forget", desc := "()V" } : Jvm.MethodName) prog_7_method_3_code (1 : Nat) (Option.none : Option Jvm.ClassFile.FieldType)) ∈ lw_tbl := tm_3 (List.mem_of_getElem? (i := 91) rfl)
theorem w_572 : (Jvm.Cond.methodLink "NeedCodeLaw" (27 : Nat) ({ cls := "NeedCode", name := "node", desc := "(II)I" } : Jvm.MethodName)) ∈ lw_tbl := tm_3 (List.mem_of_getElem? (i := 92) rfl)
theorem w_573 : (Jvm.Cond.instanceMethod ({ cls := "NeedCode", name := "node", desc := "(II)I" } : Jvm.MethodName)) ∈ lw_tbl := tm_3 (List.mem_of_getElem? (i := 93) rfl)
theorem w_574 : (Jvm.Cond.selects "NeedCode" ({ cls := "NeedCode", name := "node", desc := "(II)I" } : Jvm.MethodName) ({ cls := "NeedCode", name := "node", desc := "(II)I" } : Jvm.MethodName)) ∈ lw_tbl := tm_3 (List.mem_of_getElem? (i := 94) rfl)
theorem w_575 : (Jvm.Cond.code ({ cls := "NeedCode", name := "node", desc := "(II)I" } : Jvm.MethodName) prog_1_method_5_code (3 : Nat) (Option.some Jvm.ClassFile.FieldType.int)) ∈ lw_tbl := tm_3 (List.mem_of_getElem? (i := 95) rfl)
theorem w_576 : (Jvm.Cond.methodLink "NeedCode" (121 : Nat) ({ cls := "NeedCode$Tree", name := "has", desc := "(I)Z" } : Jvm.MethodName)) ∈ lw_tbl := tm_3 (List.mem_of_getElem? (i := 96) rfl)
theorem w_577 : (Jvm.Cond.instanceMethod ({ cls := "NeedCode$Tree", name := "has", desc := "(I)Z" } : Jvm.MethodName)) ∈ lw_tbl := tm_3 (List.mem_of_getElem? (i := 97) rfl)
theorem w_578 : (Jvm.Cond.selects "NeedCode$Tree" ({ cls := "NeedCode$Tree", name := "has", desc := "(I)Z" } : Jvm.MethodName) ({ cls := "NeedCode$Tree", name := "has", desc := "(I)Z" } : Jvm.MethodName)) ∈ lw_tbl := tm_3 (List.mem_of_getElem? (i := 98) rfl)
theorem w_579 : (Jvm.Cond.code ({ cls := "NeedCode$Tree", name := "has", desc := "(I)Z" } : Jvm.MethodName) prog_11_method_4_code (2 : Nat) (Option.some Jvm.ClassFile.FieldType.boolean)) ∈ lw_tbl := tm_3 (List.mem_of_getElem? (i := 99) rfl)
theorem w_580 : (Jvm.Cond.methodLink "NeedCode" (128 : Nat) ({ cls := "NeedCode$Row", name := "get", desc := "(I)I" } : Jvm.MethodName)) ∈ lw_tbl := tm_3 (List.mem_of_getElem? (i := 100) rfl)
theorem w_581 : (Jvm.Cond.methodLink "NeedCodeLaw" (32 : Nat) ({ cls := "NeedCode", name := "value", desc := "(I)I" } : Jvm.MethodName)) ∈ lw_tbl := tm_3 (List.mem_of_getElem? (i := 101) rfl)
theorem w_582 : (Jvm.Cond.instanceMethod ({ cls := "NeedCode", name := "value", desc := "(I)I" } : Jvm.MethodName)) ∈ lw_tbl := tm_3 (List.mem_of_getElem? (i := 102) rfl)
theorem w_583 : (Jvm.Cond.selects "NeedCode" ({ cls := "NeedCode", name := "value", desc := "(I)I" } : Jvm.MethodName) ({ cls := "NeedCode", name := "value", desc := "(I)I" } : Jvm.MethodName)) ∈ lw_tbl := tm_3 (List.mem_of_getElem? (i := 103) rfl)
theorem w_584 : (Jvm.Cond.code ({ cls := "NeedCode", name := "value", desc := "(I)I" } : Jvm.MethodName) prog_1_method_6_code (2 : Nat) (Option.some Jvm.ClassFile.FieldType.int)) ∈ lw_tbl := tm_3 (List.mem_of_getElem? (i := 104) rfl)
theorem w_585 : (Jvm.Cond.methodLink "NeedCode" (159 : Nat) ({ cls := "NeedCode$Device", name := "evaluate", desc := "(LNeedCode$Tree;LNeedCode$Row;I)Z" } : Jvm.MethodName)) ∈ lw_tbl := tm_3 (List.mem_of_getElem? (i := 105) rfl)
theorem w_586 : (Jvm.Cond.instanceMethod ({ cls := "NeedCode$Device", name := "evaluate", desc := "(LNeedCode$Tree;LNeedCode$Row;I)Z" } : Jvm.MethodName)) ∈ lw_tbl := tm_3 (List.mem_of_getElem? (i := 106) rfl)
theorem w_587 : (Jvm.Cond.selects "NeedCode$Device" ({ cls := "NeedCode$Device", name := "evaluate", desc := "(LNeedCode$Tree;LNeedCode$Row;I)Z" } : Jvm.MethodName) ({ cls := "NeedCode$Device", name := "evaluate", desc := "(LNeedCode$Tree;LNeedCode$Row;I)Z" } : Jvm.MethodName)) ∈ lw_tbl := tm_3 (List.mem_of_getElem? (i := 107) rfl)
theorem w_588 : (Jvm.Cond.code ({ cls := "NeedCode$Device", name := "evaluate", desc := "(LNeedCode$Tree;LNeedCode$Row;I)Z" } : Jvm.MethodName) prog_4_method_2_code (7 : Nat) (Option.some Jvm.ClassFile.FieldType.boolean)) ∈ lw_tbl := tm_3 (List.mem_of_getElem? (i := 108) rfl)
theorem w_589 : (Jvm.Cond.methodLink "NeedCode$Device" (35 : Nat) ({ cls := "NeedCode$Row", name := "get", desc := "(I)I" } : Jvm.MethodName)) ∈ lw_tbl := tm_3 (List.mem_of_getElem? (i := 109) rfl)
theorem w_590 : (Jvm.Cond.methodLink "NeedCode$Device" (39 : Nat) ({ cls := "NeedCode$Tree", name := "isLeaf", desc := "(I)Z" } : Jvm.MethodName)) ∈ lw_tbl := tm_3 (List.mem_of_getElem? (i := 110) rfl)
theorem w_591 : (Jvm.Cond.methodLink "NeedCode$Device" (49 : Nat) ({ cls := "NeedCode$Device", name := "operate", desc := "(LNeedCode$Tree;III)Z" } : Jvm.MethodName)) ∈ lw_tbl := tm_3 (List.mem_of_getElem? (i := 111) rfl)
theorem w_593 : (Jvm.Cond.instanceMethod ({ cls := "NeedCode$Device", name := "operate", desc := "(LNeedCode$Tree;III)Z" } : Jvm.MethodName)) ∈ lw_tbl := tm_3 (List.mem_of_getElem? (i := 113) rfl)
theorem w_594 : (Jvm.Cond.code ({ cls := "NeedCode$Device", name := "operate", desc := "(LNeedCode$Tree;III)Z" } : Jvm.MethodName) prog_4_method_6_code (6 : Nat) (Option.some Jvm.ClassFile.FieldType.boolean)) ∈ lw_tbl := tm_3 (List.mem_of_getElem? (i := 114) rfl)
theorem w_595 : (Jvm.Cond.methodLink "NeedCode$Device" (83 : Nat) ({ cls := "NeedCode$Operators", name := "trapsBy", desc := "(III)Z" } : Jvm.MethodName)) ∈ lw_tbl := tm_3 (List.mem_of_getElem? (i := 115) rfl)
theorem w_596 : (Jvm.Cond.static ({ cls := "NeedCode$Operators", name := "trapsBy", desc := "(III)Z" } : Jvm.MethodName)) ∈ lw_tbl := tm_3 (List.mem_of_getElem? (i := 116) rfl)
theorem w_597 : (Jvm.Cond.code ({ cls := "NeedCode$Operators", name := "trapsBy", desc := "(III)Z" } : Jvm.MethodName) prog_6_method_7_code (3 : Nat) (Option.some Jvm.ClassFile.FieldType.boolean)) ∈ lw_tbl := tm_3 (List.mem_of_getElem? (i := 117) rfl)
theorem w_598 : (Jvm.Cond.methodLink "NeedCode$Device" (89 : Nat) ({ cls := "NeedCode$Operators", name := "outcome", desc := "(III)I" } : Jvm.MethodName)) ∈ lw_tbl := tm_3 (List.mem_of_getElem? (i := 118) rfl)
theorem w_599 : (Jvm.Cond.static ({ cls := "NeedCode$Operators", name := "outcome", desc := "(III)I" } : Jvm.MethodName)) ∈ lw_tbl := tm_3 (List.mem_of_getElem? (i := 119) rfl)
theorem w_600 : (Jvm.Cond.code ({ cls := "NeedCode$Operators", name := "outcome", desc := "(III)I" } : Jvm.MethodName) prog_6_method_8_code (3 : Nat) (Option.some Jvm.ClassFile.FieldType.int)) ∈ lw_tbl := tm_3 (List.mem_of_getElem? (i := 120) rfl)
theorem w_601 : (Jvm.Cond.methodLink "NeedCode$Device" (56 : Nat) ({ cls := "NeedCode$Row", name := "put", desc := "(II)V" } : Jvm.MethodName)) ∈ lw_tbl := tm_3 (List.mem_of_getElem? (i := 121) rfl)
theorem w_602 : (Jvm.Cond.methodLink "NeedCode" (163 : Nat) ({ cls := "NeedCode", name := "tell", desc := "(Z)I" } : Jvm.MethodName)) ∈ lw_tbl := tm_3 (List.mem_of_getElem? (i := 122) rfl)
theorem w_604 : (Jvm.Cond.instanceMethod ({ cls := "NeedCode", name := "tell", desc := "(Z)I" } : Jvm.MethodName)) ∈ lw_tbl := tm_3 (List.mem_of_getElem? (i := 124) rfl)
theorem w_605 : (Jvm.Cond.code ({ cls := "NeedCode", name := "tell", desc := "(Z)I" } : Jvm.MethodName) prog_1_method_29_code (2 : Nat) (Option.some Jvm.ClassFile.FieldType.int)) ∈ lw_tbl := tm_3 (List.mem_of_getElem? (i := 125) rfl)
theorem w_606 : (Jvm.Cond.methodLink "NeedCodeLaw" (36 : Nat) ({ cls := "NeedCode", name := "cost", desc := "(II)I" } : Jvm.MethodName)) ∈ lw_tbl := tm_3 (List.mem_of_getElem? (i := 126) rfl)
theorem w_607 : (Jvm.Cond.instanceMethod ({ cls := "NeedCode", name := "cost", desc := "(II)I" } : Jvm.MethodName)) ∈ lw_tbl := tm_3 (List.mem_of_getElem? (i := 127) rfl)
theorem w_608 : (Jvm.Cond.selects "NeedCode" ({ cls := "NeedCode", name := "cost", desc := "(II)I" } : Jvm.MethodName) ({ cls := "NeedCode", name := "cost", desc := "(II)I" } : Jvm.MethodName)) ∈ lw_tbl := tm_3 (List.mem_of_getElem? (i := 128) rfl)
theorem w_609 : (Jvm.Cond.code ({ cls := "NeedCode", name := "cost", desc := "(II)I" } : Jvm.MethodName) prog_1_method_7_code (3 : Nat) (Option.some Jvm.ClassFile.FieldType.int)) ∈ lw_tbl := tm_3 (List.mem_of_getElem? (i := 129) rfl)
theorem w_610 : (Jvm.Cond.methodLink "NeedCode" (167 : Nat) ({ cls := "NeedCode", name := "hasRegisters", desc := "(I)Z" } : Jvm.MethodName)) ∈ lw_tbl := tm_3 (List.mem_of_getElem? (i := 130) rfl)
theorem w_612 : (Jvm.Cond.instanceMethod ({ cls := "NeedCode", name := "hasRegisters", desc := "(I)Z" } : Jvm.MethodName)) ∈ lw_tbl := tm_3 (List.mem_of_getElem? (i := 132) rfl)
theorem w_613 : (Jvm.Cond.code ({ cls := "NeedCode", name := "hasRegisters", desc := "(I)Z" } : Jvm.MethodName) prog_1_method_25_code (2 : Nat) (Option.some Jvm.ClassFile.FieldType.boolean)) ∈ lw_tbl := tm_3 (List.mem_of_getElem? (i := 133) rfl)
theorem w_614 : (Jvm.Cond.methodLink "NeedCode" (195 : Nat) ({ cls := "NeedCode", name := "registers", desc := "()I" } : Jvm.MethodName)) ∈ lw_tbl := tm_3 (List.mem_of_getElem? (i := 134) rfl)
theorem w_616 : (Jvm.Cond.instanceMethod ({ cls := "NeedCode", name := "registers", desc := "()I" } : Jvm.MethodName)) ∈ lw_tbl := tm_3 (List.mem_of_getElem? (i := 136) rfl)
theorem w_617 : (Jvm.Cond.code ({ cls := "NeedCode", name := "registers", desc := "()I" } : Jvm.MethodName) prog_1_method_24_code (1 : Nat) (Option.some Jvm.ClassFile.FieldType.int)) ∈ lw_tbl := tm_3 (List.mem_of_getElem? (i := 137) rfl)
theorem w_618 : (Jvm.Cond.methodLink "NeedCode" (170 : Nat) ({ cls := "NeedCode$Costs", name := "costOf", desc := "(II)I" } : Jvm.MethodName)) ∈ lw_tbl := tm_3 (List.mem_of_getElem? (i := 138) rfl)
theorem w_619 : (Jvm.Cond.methodLink "NeedCodeLaw" (40 : Nat) ({ cls := "NeedCode", name := "way", desc := "(II)I" } : Jvm.MethodName)) ∈ lw_tbl := tm_3 (List.mem_of_getElem? (i := 139) rfl)
theorem w_620 : (Jvm.Cond.instanceMethod ({ cls := "NeedCode", name := "way", desc := "(II)I" } : Jvm.MethodName)) ∈ lw_tbl := tm_3 (List.mem_of_getElem? (i := 140) rfl)
theorem w_621 : (Jvm.Cond.selects "NeedCode" ({ cls := "NeedCode", name := "way", desc := "(II)I" } : Jvm.MethodName) ({ cls := "NeedCode", name := "way", desc := "(II)I" } : Jvm.MethodName)) ∈ lw_tbl := tm_3 (List.mem_of_getElem? (i := 141) rfl)
theorem w_622 : (Jvm.Cond.code ({ cls := "NeedCode", name := "way", desc := "(II)I" } : Jvm.MethodName) prog_1_method_8_code (3 : Nat) (Option.some Jvm.ClassFile.FieldType.int)) ∈ lw_tbl := tm_3 (List.mem_of_getElem? (i := 142) rfl)
theorem w_623 : (Jvm.Cond.methodLink "NeedCode" (174 : Nat) ({ cls := "NeedCode$Costs", name := "wayOf", desc := "(II)I" } : Jvm.MethodName)) ∈ lw_tbl := tm_3 (List.mem_of_getElem? (i := 143) rfl)
theorem w_624 : (Jvm.Cond.instanceMethod ({ cls := "NeedCode$Costs", name := "wayOf", desc := "(II)I" } : Jvm.MethodName)) ∈ lw_tbl := tm_3 (List.mem_of_getElem? (i := 144) rfl)
theorem w_625 : (Jvm.Cond.selects "NeedCode$Costs" ({ cls := "NeedCode$Costs", name := "wayOf", desc := "(II)I" } : Jvm.MethodName) ({ cls := "NeedCode$Costs", name := "wayOf", desc := "(II)I" } : Jvm.MethodName)) ∈ lw_tbl := tm_3 (List.mem_of_getElem? (i := 145) rfl)
theorem w_626 : (Jvm.Cond.code ({ cls := "NeedCode$Costs", name := "wayOf", desc := "(II)I" } : Jvm.MethodName) prog_3_method_3_code (3 : Nat) (Option.some Jvm.ClassFile.FieldType.int)) ∈ lw_tbl := tm_3 (List.mem_of_getElem? (i := 146) rfl)
theorem w_627 : (Jvm.Cond.methodLink "NeedCodeLaw" (44 : Nat) ({ cls := "NeedCode", name := "program", desc := "(II)I" } : Jvm.MethodName)) ∈ lw_tbl := tm_3 (List.mem_of_getElem? (i := 147) rfl)
theorem w_628 : (Jvm.Cond.instanceMethod ({ cls := "NeedCode", name := "program", desc := "(II)I" } : Jvm.MethodName)) ∈ lw_tbl := tm_3 (List.mem_of_getElem? (i := 148) rfl)
theorem w_629 : (Jvm.Cond.selects "NeedCode" ({ cls := "NeedCode", name := "program", desc := "(II)I" } : Jvm.MethodName) ({ cls := "NeedCode", name := "program", desc := "(II)I" } : Jvm.MethodName)) ∈ lw_tbl := tm_3 (List.mem_of_getElem? (i := 149) rfl)
theorem w_630 : (Jvm.Cond.code ({ cls := "NeedCode", name := "program", desc := "(II)I" } : Jvm.MethodName) prog_1_method_9_code (3 : Nat) (Option.some Jvm.ClassFile.FieldType.int)) ∈ lw_tbl := tm_3 (List.mem_of_getElem? (i := 150) rfl)
theorem w_631 : (Jvm.Cond.methodLink "NeedCode" (177 : Nat) ({ cls := "NeedCode$Tree", name := "isEmpty", desc := "()Z" } : Jvm.MethodName)) ∈ lw_tbl := tm_3 (List.mem_of_getElem? (i := 151) rfl)
theorem w_632 : (Jvm.Cond.instanceMethod ({ cls := "NeedCode$Tree", name := "isEmpty", desc := "()Z" } : Jvm.MethodName)) ∈ lw_tbl := tm_3 (List.mem_of_getElem? (i := 152) rfl)
theorem w_633 : (Jvm.Cond.selects "NeedCode$Tree" ({ cls := "NeedCode$Tree", name := "isEmpty", desc := "()Z" } : Jvm.MethodName) ({ cls := "NeedCode$Tree", name := "isEmpty", desc := "()Z" } : Jvm.MethodName)) ∈ lw_tbl := tm_3 (List.mem_of_getElem? (i := 153) rfl)
theorem w_634 : (Jvm.Cond.code ({ cls := "NeedCode$Tree", name := "isEmpty", desc := "()Z" } : Jvm.MethodName) prog_11_method_2_code (1 : Nat) (Option.some Jvm.ClassFile.FieldType.boolean)) ∈ lw_tbl := tm_3 (List.mem_of_getElem? (i := 154) rfl)
theorem w_635 : (Jvm.Cond.methodLink "NeedCode" (181 : Nat) ({ cls := "NeedCode$Tree", name := "root", desc := "()I" } : Jvm.MethodName)) ∈ lw_tbl := tm_3 (List.mem_of_getElem? (i := 155) rfl)
theorem w_636 : (Jvm.Cond.methodLink "NeedCode" (185 : Nat) ({ cls := "NeedCode$Program", name := "makeBy", desc := "(ILNeedCode$Tree;LNeedCode$Costs;)V" } : Jvm.MethodName)) ∈ lw_tbl := tm_3 (List.mem_of_getElem? (i := 156) rfl)
theorem w_637 : (Jvm.Cond.instanceMethod ({ cls := "NeedCode$Program", name := "makeBy", desc := "(ILNeedCode$Tree;LNeedCode$Costs;)V" } : Jvm.MethodName)) ∈ lw_tbl := tm_3 (List.mem_of_getElem? (i := 157) rfl)
theorem w_638 : (Jvm.Cond.selects "NeedCode$Program" ({ cls := "NeedCode$Program", name := "makeBy", desc := "(ILNeedCode$Tree;LNeedCode$Costs;)V" } : Jvm.MethodName) ({ cls := "NeedCode$Program", name := "makeBy", desc := "(ILNeedCode$Tree;LNeedCode$Costs;)V" } : Jvm.MethodName)) ∈ lw_tbl := tm_3 (List.mem_of_getElem? (i := 158) rfl)
theorem w_639 : (Jvm.Cond.code ({ cls := "NeedCode$Program", name := "makeBy", desc := "(ILNeedCode$Tree;LNeedCode$Costs;)V" } : Jvm.MethodName) prog_7_method_4_code (4 : Nat) (Option.none : Option Jvm.ClassFile.FieldType)) ∈ lw_tbl := tm_3 (List.mem_of_getElem? (i := 159) rfl)
theorem w_640 : (Jvm.Cond.methodLink "NeedCode$Program" (37 : Nat) ({ cls := "NeedCode$Tree", name := "root", desc := "()I" } : Jvm.MethodName)) ∈ lw_tbl := tm_3 (List.mem_of_getElem? (i := 160) rfl)
theorem w_641 : (Jvm.Cond.methodLink "NeedCode$Program" (43 : Nat) ({ cls := "NeedCode$Program", name := "have", desc := "(LNeedCode$Tree;LNeedCode$Costs;IIII)V" } : Jvm.MethodName)) ∈ lw_tbl := tm_3 (List.mem_of_getElem? (i := 161) rfl)
theorem w_643 : (Jvm.Cond.instanceMethod ({ cls := "NeedCode$Program", name := "have", desc := "(LNeedCode$Tree;LNeedCode$Costs;IIII)V" } : Jvm.MethodName)) ∈ lw_tbl := tm_3 (List.mem_of_getElem? (i := 163) rfl)
theorem w_644 : (Jvm.Cond.code ({ cls := "NeedCode$Program", name := "have", desc := "(LNeedCode$Tree;LNeedCode$Costs;IIII)V" } : Jvm.MethodName) prog_7_method_5_code (7 : Nat) (Option.none : Option Jvm.ClassFile.FieldType)) ∈ lw_tbl := tm_3 (List.mem_of_getElem? (i := 164) rfl)
theorem w_645 : (Jvm.Cond.methodLink "NeedCode$Program" (47 : Nat) ({ cls := "NeedCode$Tree", name := "isLeaf", desc := "(I)Z" } : Jvm.MethodName)) ∈ lw_tbl := tm_3 (List.mem_of_getElem? (i := 165) rfl)
theorem w_646 : (Jvm.Cond.methodLink "NeedCode$Program" (51 : Nat) ({ cls := "NeedCode$Program", name := "sourceKind", desc := "(LNeedCode$Tree;I)I" } : Jvm.MethodName)) ∈ lw_tbl := tm_3 (List.mem_of_getElem? (i := 166) rfl)
theorem w_647 : (Jvm.Cond.static ({ cls := "NeedCode$Program", name := "sourceKind", desc := "(LNeedCode$Tree;I)I" } : Jvm.MethodName)) ∈ lw_tbl := tm_3 (List.mem_of_getElem? (i := 167) rfl)
theorem w_648 : (Jvm.Cond.code ({ cls := "NeedCode$Program", name := "sourceKind", desc := "(LNeedCode$Tree;I)I" } : Jvm.MethodName) prog_7_method_8_code (2 : Nat) (Option.some Jvm.ClassFile.FieldType.int)) ∈ lw_tbl := tm_3 (List.mem_of_getElem? (i := 168) rfl)
theorem w_649 : (Jvm.Cond.methodLink "NeedCode$Program" (23 : Nat) ({ cls := "NeedCode$Row", name := "get", desc := "(I)I" } : Jvm.MethodName)) ∈ lw_tbl := tm_3 (List.mem_of_getElem? (i := 169) rfl)
theorem w_650 : (Jvm.Cond.methodLink "NeedCode$Program" (55 : Nat) ({ cls := "NeedCode$Program", name := "sourceNumber", desc := "(LNeedCode$Tree;I)I" } : Jvm.MethodName)) ∈ lw_tbl := tm_3 (List.mem_of_getElem? (i := 170) rfl)
theorem w_652 : (Jvm.Cond.instanceMethod ({ cls := "NeedCode$Program", name := "sourceNumber", desc := "(LNeedCode$Tree;I)I" } : Jvm.MethodName)) ∈ lw_tbl := tm_3 (List.mem_of_getElem? (i := 172) rfl)
theorem w_653 : (Jvm.Cond.code ({ cls := "NeedCode$Program", name := "sourceNumber", desc := "(LNeedCode$Tree;I)I" } : Jvm.MethodName) prog_7_method_9_code (3 : Nat) (Option.some Jvm.ClassFile.FieldType.int)) ∈ lw_tbl := tm_3 (List.mem_of_getElem? (i := 173) rfl)
theorem w_654 : (Jvm.Cond.methodLink "NeedCode$Program" (58 : Nat) ({ cls := "NeedCode$Program", name := "add", desc := "(IIIII)V" } : Jvm.MethodName)) ∈ lw_tbl := tm_3 (List.mem_of_getElem? (i := 174) rfl)
theorem w_656 : (Jvm.Cond.instanceMethod ({ cls := "NeedCode$Program", name := "add", desc := "(IIIII)V" } : Jvm.MethodName)) ∈ lw_tbl := tm_3 (List.mem_of_getElem? (i := 176) rfl)
theorem w_657 : (Jvm.Cond.code ({ cls := "NeedCode$Program", name := "add", desc := "(IIIII)V" } : Jvm.MethodName) prog_7_method_10_code (7 : Nat) (Option.none : Option Jvm.ClassFile.FieldType)) ∈ lw_tbl := tm_3 (List.mem_of_getElem? (i := 177) rfl)
theorem w_658 : (Jvm.Cond.methodLink "NeedCode$Program" (83 : Nat) ({ cls := "NeedCode$Row", name := "put", desc := "(II)V" } : Jvm.MethodName)) ∈ lw_tbl := tm_3 (List.mem_of_getElem? (i := 178) rfl)
theorem w_659 : (Jvm.Cond.methodLink "NeedCode$Program" (62 : Nat) ({ cls := "NeedCode$Tree", name := "isPair", desc := "(I)Z" } : Jvm.MethodName)) ∈ lw_tbl := tm_3 (List.mem_of_getElem? (i := 179) rfl)
theorem w_660 : (Jvm.Cond.methodLink "NeedCode$Program" (68 : Nat) ({ cls := "NeedCode$Program", name := "haveByWay", desc := "(LNeedCode$Tree;LNeedCode$Costs;IIII)V" } : Jvm.MethodName)) ∈ lw_tbl := tm_3 (List.mem_of_getElem? (i := 180) rfl)
theorem w_662 : (Jvm.Cond.instanceMethod ({ cls := "NeedCode$Program", name := "haveByWay", desc := "(LNeedCode$Tree;LNeedCode$Costs;IIII)V" } : Jvm.MethodName)) ∈ lw_tbl := tm_3 (List.mem_of_getElem? (i := 182) rfl)
theorem w_663 : (Jvm.Cond.code ({ cls := "NeedCode$Program", name := "haveByWay", desc := "(LNeedCode$Tree;LNeedCode$Costs;IIII)V" } : Jvm.MethodName) prog_7_method_6_code (9 : Nat) (Option.none : Option Jvm.ClassFile.FieldType)) ∈ lw_tbl := tm_3 (List.mem_of_getElem? (i := 183) rfl)
theorem w_664 : (Jvm.Cond.methodLink "NeedCode$Program" (74 : Nat) ({ cls := "NeedCode$Costs", name := "wayOf", desc := "(II)I" } : Jvm.MethodName)) ∈ lw_tbl := tm_3 (List.mem_of_getElem? (i := 184) rfl)
theorem w_665 : (Jvm.Cond.methodLink "NeedCode$Program" (80 : Nat) ({ cls := "NeedCode$Program", name := "haveKept", desc := "(LNeedCode$Tree;LNeedCode$Costs;IIII)V" } : Jvm.MethodName)) ∈ lw_tbl := tm_3 (List.mem_of_getElem? (i := 185) rfl)
theorem w_667 : (Jvm.Cond.instanceMethod ({ cls := "NeedCode$Program", name := "haveKept", desc := "(LNeedCode$Tree;LNeedCode$Costs;IIII)V" } : Jvm.MethodName)) ∈ lw_tbl := tm_3 (List.mem_of_getElem? (i := 187) rfl)
theorem w_668 : (Jvm.Cond.code ({ cls := "NeedCode$Program", name := "haveKept", desc := "(LNeedCode$Tree;LNeedCode$Costs;IIII)V" } : Jvm.MethodName) prog_7_method_7_code (7 : Nat) (Option.none : Option Jvm.ClassFile.FieldType)) ∈ lw_tbl := tm_3 (List.mem_of_getElem? (i := 188) rfl)
theorem w_669 : (Jvm.Cond.methodLink "NeedCodeLaw" (48 : Nat) ({ cls := "NeedCode", name := "line", desc := "(II)I" } : Jvm.MethodName)) ∈ lw_tbl := tm_3 (List.mem_of_getElem? (i := 189) rfl)
theorem w_670 : (Jvm.Cond.instanceMethod ({ cls := "NeedCode", name := "line", desc := "(II)I" } : Jvm.MethodName)) ∈ lw_tbl := tm_3 (List.mem_of_getElem? (i := 190) rfl)
theorem w_671 : (Jvm.Cond.selects "NeedCode" ({ cls := "NeedCode", name := "line", desc := "(II)I" } : Jvm.MethodName) ({ cls := "NeedCode", name := "line", desc := "(II)I" } : Jvm.MethodName)) ∈ lw_tbl := tm_3 (List.mem_of_getElem? (i := 191) rfl)
theorem w_672 : (Jvm.Cond.code ({ cls := "NeedCode", name := "line", desc := "(II)I" } : Jvm.MethodName) prog_1_method_10_code (3 : Nat) (Option.some Jvm.ClassFile.FieldType.int)) ∈ lw_tbl := tm_3 (List.mem_of_getElem? (i := 192) rfl)
theorem w_673 : (Jvm.Cond.methodLink "NeedCode" (198 : Nat) ({ cls := "NeedCode$Program", name := "part", desc := "(II)I" } : Jvm.MethodName)) ∈ lw_tbl := tm_3 (List.mem_of_getElem? (i := 193) rfl)
theorem w_674 : (Jvm.Cond.instanceMethod ({ cls := "NeedCode$Program", name := "part", desc := "(II)I" } : Jvm.MethodName)) ∈ lw_tbl := tm_3 (List.mem_of_getElem? (i := 194) rfl)
theorem w_675 : (Jvm.Cond.selects "NeedCode$Program" ({ cls := "NeedCode$Program", name := "part", desc := "(II)I" } : Jvm.MethodName) ({ cls := "NeedCode$Program", name := "part", desc := "(II)I" } : Jvm.MethodName)) ∈ lw_tbl := tm_3 (List.mem_of_getElem? (i := 195) rfl)
theorem w_676 : (Jvm.Cond.code ({ cls := "NeedCode$Program", name := "part", desc := "(II)I" } : Jvm.MethodName) prog_7_method_2_code (3 : Nat) (Option.some Jvm.ClassFile.FieldType.int)) ∈ lw_tbl := tm_3 (List.mem_of_getElem? (i := 196) rfl)
theorem w_677 : (Jvm.Cond.methodLink "NeedCodeLaw" (52 : Nat) ({ cls := "NeedCode", name := "run", desc := "(I)I" } : Jvm.MethodName)) ∈ lw_tbl := tm_3 (List.mem_of_getElem? (i := 197) rfl)
theorem w_678 : (Jvm.Cond.instanceMethod ({ cls := "NeedCode", name := "run", desc := "(I)I" } : Jvm.MethodName)) ∈ lw_tbl := tm_3 (List.mem_of_getElem? (i := 198) rfl)
theorem w_679 : (Jvm.Cond.selects "NeedCode" ({ cls := "NeedCode", name := "run", desc := "(I)I" } : Jvm.MethodName) ({ cls := "NeedCode", name := "run", desc := "(I)I" } : Jvm.MethodName)) ∈ lw_tbl := tm_3 (List.mem_of_getElem? (i := 199) rfl)
theorem w_680 : (Jvm.Cond.code ({ cls := "NeedCode", name := "run", desc := "(I)I" } : Jvm.MethodName) prog_1_method_11_code (2 : Nat) (Option.some Jvm.ClassFile.FieldType.int)) ∈ lw_tbl := tm_3 (List.mem_of_getElem? (i := 200) rfl)
theorem w_681 : (Jvm.Cond.methodLink "NeedCode" (201 : Nat) ({ cls := "NeedCode$Device", name := "goThrough", desc := "(LNeedCode$Program;ILNeedCode$Tree;LNeedCode$Row;)Z" } : Jvm.MethodName)) ∈ lw_tbl := tm_3 (List.mem_of_getElem? (i := 201) rfl)
theorem w_682 : (Jvm.Cond.instanceMethod ({ cls := "NeedCode$Device", name := "goThrough", desc := "(LNeedCode$Program;ILNeedCode$Tree;LNeedCode$Row;)Z" } : Jvm.MethodName)) ∈ lw_tbl := tm_3 (List.mem_of_getElem? (i := 202) rfl)
theorem w_683 : (Jvm.Cond.selects "NeedCode$Device" ({ cls := "NeedCode$Device", name := "goThrough", desc := "(LNeedCode$Program;ILNeedCode$Tree;LNeedCode$Row;)Z" } : Jvm.MethodName) ({ cls := "NeedCode$Device", name := "goThrough", desc := "(LNeedCode$Program;ILNeedCode$Tree;LNeedCode$Row;)Z" } : Jvm.MethodName)) ∈ lw_tbl := tm_3 (List.mem_of_getElem? (i := 203) rfl)
theorem w_684 : (Jvm.Cond.code ({ cls := "NeedCode$Device", name := "goThrough", desc := "(LNeedCode$Program;ILNeedCode$Tree;LNeedCode$Row;)Z" } : Jvm.MethodName) prog_4_method_3_code (6 : Nat) (Option.some Jvm.ClassFile.FieldType.boolean)) ∈ lw_tbl := tm_3 (List.mem_of_getElem? (i := 204) rfl)
theorem w_685 : (Jvm.Cond.methodLink "NeedCode$Device" (66 : Nat) ({ cls := "NeedCode$Row", name := "empty", desc := "()V" } : Jvm.MethodName)) ∈ lw_tbl := tm_3 (List.mem_of_getElem? (i := 205) rfl)
theorem w_686 : (Jvm.Cond.instanceMethod ({ cls := "NeedCode$Row", name := "empty", desc := "()V" } : Jvm.MethodName)) ∈ lw_tbl := tm_3 (List.mem_of_getElem? (i := 206) rfl)
theorem w_687 : (Jvm.Cond.selects "NeedCode$Row" ({ cls := "NeedCode$Row", name := "empty", desc := "()V" } : Jvm.MethodName) ({ cls := "NeedCode$Row", name := "empty", desc := "()V" } : Jvm.MethodName)) ∈ lw_tbl := tm_3 (List.mem_of_getElem? (i := 207) rfl)
theorem w_688 : (Jvm.Cond.code ({ cls := "NeedCode$Row", name := "empty", desc := "()V" } : Jvm.MethodName) prog_9_method_5_code (2 : Nat) (Option.none : Option Jvm.ClassFile.FieldType)) ∈ lw_tbl := tm_3 (List.mem_of_getElem? (i := 208) rfl)
theorem w_689 : (Jvm.Cond.methodLink "NeedCode$Device" (69 : Nat) ({ cls := "NeedCode$Device", name := "step", desc := "(LNeedCode$Program;ILNeedCode$Tree;LNeedCode$Row;)Z" } : Jvm.MethodName)) ∈ lw_tbl := tm_3 (List.mem_of_getElem? (i := 209) rfl)
theorem w_691 : (Jvm.Cond.instanceMethod ({ cls := "NeedCode$Device", name := "step", desc := "(LNeedCode$Program;ILNeedCode$Tree;LNeedCode$Row;)Z" } : Jvm.MethodName)) ∈ lw_tbl := tm_3 (List.mem_of_getElem? (i := 211) rfl)
theorem w_692 : (Jvm.Cond.code ({ cls := "NeedCode$Device", name := "step", desc := "(LNeedCode$Program;ILNeedCode$Tree;LNeedCode$Row;)Z" } : Jvm.MethodName) prog_4_method_4_code (10 : Nat) (Option.some Jvm.ClassFile.FieldType.boolean)) ∈ lw_tbl := tm_3 (List.mem_of_getElem? (i := 212) rfl)
theorem w_693 : (Jvm.Cond.methodLink "NeedCode$Device" (73 : Nat) ({ cls := "NeedCode$Program", name := "part", desc := "(II)I" } : Jvm.MethodName)) ∈ lw_tbl := tm_3 (List.mem_of_getElem? (i := 213) rfl)
theorem w_694 : (Jvm.Cond.methodLink "NeedCode$Device" (79 : Nat) ({ cls := "NeedCode$Device", name := "source", desc := "(LNeedCode$Row;II)I" } : Jvm.MethodName)) ∈ lw_tbl := tm_3 (List.mem_of_getElem? (i := 214) rfl)
theorem w_696 : (Jvm.Cond.instanceMethod ({ cls := "NeedCode$Device", name := "source", desc := "(LNeedCode$Row;II)I" } : Jvm.MethodName)) ∈ lw_tbl := tm_3 (List.mem_of_getElem? (i := 216) rfl)
theorem w_697 : (Jvm.Cond.code ({ cls := "NeedCode$Device", name := "source", desc := "(LNeedCode$Row;II)I" } : Jvm.MethodName) prog_4_method_5_code (4 : Nat) (Option.some Jvm.ClassFile.FieldType.int)) ∈ lw_tbl := tm_3 (List.mem_of_getElem? (i := 217) rfl)
theorem w_698 : (Jvm.Cond.methodLink "NeedCodeLaw" (56 : Nat) ({ cls := "NeedCode", name := "fewest", desc := "()I" } : Jvm.MethodName)) ∈ lw_tbl := tm_3 (List.mem_of_getElem? (i := 218) rfl)
theorem w_699 : (Jvm.Cond.instanceMethod ({ cls := "NeedCode", name := "fewest", desc := "()I" } : Jvm.MethodName)) ∈ lw_tbl := tm_3 (List.mem_of_getElem? (i := 219) rfl)
theorem w_700 : (Jvm.Cond.selects "NeedCode" ({ cls := "NeedCode", name := "fewest", desc := "()I" } : Jvm.MethodName) ({ cls := "NeedCode", name := "fewest", desc := "()I" } : Jvm.MethodName)) ∈ lw_tbl := tm_3 (List.mem_of_getElem? (i := 220) rfl)
theorem w_701 : (Jvm.Cond.code ({ cls := "NeedCode", name := "fewest", desc := "()I" } : Jvm.MethodName) prog_1_method_12_code (2 : Nat) (Option.some Jvm.ClassFile.FieldType.int)) ∈ lw_tbl := tm_3 (List.mem_of_getElem? (i := 221) rfl)
theorem w_702 : (Jvm.Cond.methodLink "NeedCodeLaw" (60 : Nat) ({ cls := "NeedCode", name := "exchange", desc := "(I)I" } : Jvm.MethodName)) ∈ lw_tbl := tm_3 (List.mem_of_getElem? (i := 222) rfl)
theorem w_703 : (Jvm.Cond.instanceMethod ({ cls := "NeedCode", name := "exchange", desc := "(I)I" } : Jvm.MethodName)) ∈ lw_tbl := tm_3 (List.mem_of_getElem? (i := 223) rfl)
theorem w_704 : (Jvm.Cond.selects "NeedCode" ({ cls := "NeedCode", name := "exchange", desc := "(I)I" } : Jvm.MethodName) ({ cls := "NeedCode", name := "exchange", desc := "(I)I" } : Jvm.MethodName)) ∈ lw_tbl := tm_3 (List.mem_of_getElem? (i := 224) rfl)
theorem w_705 : (Jvm.Cond.code ({ cls := "NeedCode", name := "exchange", desc := "(I)I" } : Jvm.MethodName) prog_1_method_13_code (2 : Nat) (Option.some Jvm.ClassFile.FieldType.int)) ∈ lw_tbl := tm_3 (List.mem_of_getElem? (i := 225) rfl)
theorem w_706 : (Jvm.Cond.methodLink "NeedCode" (205 : Nat) ({ cls := "NeedCode$Tree", name := "isExchangeable", desc := "(I)Z" } : Jvm.MethodName)) ∈ lw_tbl := tm_3 (List.mem_of_getElem? (i := 226) rfl)
theorem w_707 : (Jvm.Cond.instanceMethod ({ cls := "NeedCode$Tree", name := "isExchangeable", desc := "(I)Z" } : Jvm.MethodName)) ∈ lw_tbl := tm_3 (List.mem_of_getElem? (i := 227) rfl)
theorem w_708 : (Jvm.Cond.selects "NeedCode$Tree" ({ cls := "NeedCode$Tree", name := "isExchangeable", desc := "(I)Z" } : Jvm.MethodName) ({ cls := "NeedCode$Tree", name := "isExchangeable", desc := "(I)Z" } : Jvm.MethodName)) ∈ lw_tbl := tm_3 (List.mem_of_getElem? (i := 228) rfl)
theorem w_709 : (Jvm.Cond.code ({ cls := "NeedCode$Tree", name := "isExchangeable", desc := "(I)Z" } : Jvm.MethodName) prog_11_method_11_code (2 : Nat) (Option.some Jvm.ClassFile.FieldType.boolean)) ∈ lw_tbl := tm_3 (List.mem_of_getElem? (i := 229) rfl)
theorem w_710 : (Jvm.Cond.methodLink "NeedCode$Tree" (59 : Nat) ({ cls := "NeedCode$Tree", name := "bothMayTrap", desc := "(I)Z" } : Jvm.MethodName)) ∈ lw_tbl := tm_3 (List.mem_of_getElem? (i := 230) rfl)
theorem w_711 : (Jvm.Cond.methodLink "NeedCode" (208 : Nat) ({ cls := "NeedCode$Acts", name := "addExchange", desc := "(I)V" } : Jvm.MethodName)) ∈ lw_tbl := tm_3 (List.mem_of_getElem? (i := 231) rfl)
theorem w_712 : (Jvm.Cond.instanceMethod ({ cls := "NeedCode$Acts", name := "addExchange", desc := "(I)V" } : Jvm.MethodName)) ∈ lw_tbl := tm_3 (List.mem_of_getElem? (i := 232) rfl)
theorem w_713 : (Jvm.Cond.selects "NeedCode$Acts" ({ cls := "NeedCode$Acts", name := "addExchange", desc := "(I)V" } : Jvm.MethodName) ({ cls := "NeedCode$Acts", name := "addExchange", desc := "(I)V" } : Jvm.MethodName)) ∈ lw_tbl := tm_3 (List.mem_of_getElem? (i := 233) rfl)
theorem w_714 : (Jvm.Cond.code ({ cls := "NeedCode$Acts", name := "addExchange", desc := "(I)V" } : Jvm.MethodName) prog_2_method_3_code (2 : Nat) (Option.none : Option Jvm.ClassFile.FieldType)) ∈ lw_tbl := tm_3 (List.mem_of_getElem? (i := 234) rfl)
theorem w_715 : (Jvm.Cond.methodLink "NeedCode$Acts" (33 : Nat) ({ cls := "NeedCode$Acts", name := "add", desc := "(III)V" } : Jvm.MethodName)) ∈ lw_tbl := tm_3 (List.mem_of_getElem? (i := 235) rfl)
theorem w_717 : (Jvm.Cond.instanceMethod ({ cls := "NeedCode$Acts", name := "add", desc := "(III)V" } : Jvm.MethodName)) ∈ lw_tbl := tm_3 (List.mem_of_getElem? (i := 237) rfl)
theorem w_718 : (Jvm.Cond.code ({ cls := "NeedCode$Acts", name := "add", desc := "(III)V" } : Jvm.MethodName) prog_2_method_6_code (4 : Nat) (Option.none : Option Jvm.ClassFile.FieldType)) ∈ lw_tbl := tm_3 (List.mem_of_getElem? (i := 238) rfl)
theorem w_719 : (Jvm.Cond.methodLink "NeedCode$Acts" (48 : Nat) ({ cls := "java/lang/Math", name := "min", desc := "(II)I" } : Jvm.MethodName)) ∈ lw_tbl := tm_3 (List.mem_of_getElem? (i := 239) rfl)
theorem w_720 : (Jvm.Cond.methodLink "NeedCode$Acts" (44 : Nat) ({ cls := "NeedCode$Row", name := "put", desc := "(II)V" } : Jvm.MethodName)) ∈ lw_tbl := tm_4 (List.mem_of_getElem? (i := 0) rfl)
theorem w_721 : (Jvm.Cond.methodLink "NeedCode" (211 : Nat) ({ cls := "NeedCode$Tree", name := "turn", desc := "(ILNeedCode$Tree;)V" } : Jvm.MethodName)) ∈ lw_tbl := tm_4 (List.mem_of_getElem? (i := 1) rfl)
theorem w_722 : (Jvm.Cond.instanceMethod ({ cls := "NeedCode$Tree", name := "turn", desc := "(ILNeedCode$Tree;)V" } : Jvm.MethodName)) ∈ lw_tbl := tm_4 (List.mem_of_getElem? (i := 2) rfl)
theorem w_723 : (Jvm.Cond.selects "NeedCode$Tree" ({ cls := "NeedCode$Tree", name := "turn", desc := "(ILNeedCode$Tree;)V" } : Jvm.MethodName) ({ cls := "NeedCode$Tree", name := "turn", desc := "(ILNeedCode$Tree;)V" } : Jvm.MethodName)) ∈ lw_tbl := tm_4 (List.mem_of_getElem? (i := 3) rfl)
theorem w_724 : (Jvm.Cond.code ({ cls := "NeedCode$Tree", name := "turn", desc := "(ILNeedCode$Tree;)V" } : Jvm.MethodName) prog_11_method_24_code (8 : Nat) (Option.none : Option Jvm.ClassFile.FieldType)) ∈ lw_tbl := tm_4 (List.mem_of_getElem? (i := 4) rfl)
theorem w_725 : (Jvm.Cond.methodLink "NeedCode$Tree" (117 : Nat) ({ cls := "NeedCode$Tree", name := "copy", desc := "(LNeedCode$Tree;)V" } : Jvm.MethodName)) ∈ lw_tbl := tm_4 (List.mem_of_getElem? (i := 5) rfl)
theorem w_726 : (Jvm.Cond.methodLink "NeedCode$Tree" (120 : Nat) ({ cls := "NeedCode$Tree", name := "move", desc := "(LNeedCode$Tree;II)V" } : Jvm.MethodName)) ∈ lw_tbl := tm_4 (List.mem_of_getElem? (i := 6) rfl)
theorem w_728 : (Jvm.Cond.instanceMethod ({ cls := "NeedCode$Tree", name := "move", desc := "(LNeedCode$Tree;II)V" } : Jvm.MethodName)) ∈ lw_tbl := tm_4 (List.mem_of_getElem? (i := 8) rfl)
theorem w_729 : (Jvm.Cond.code ({ cls := "NeedCode$Tree", name := "move", desc := "(LNeedCode$Tree;II)V" } : Jvm.MethodName) prog_11_method_25_code (6 : Nat) (Option.none : Option Jvm.ClassFile.FieldType)) ∈ lw_tbl := tm_4 (List.mem_of_getElem? (i := 9) rfl)
theorem w_730 : (Jvm.Cond.methodLink "NeedCode$Tree" (124 : Nat) ({ cls := "NeedCode$Tree", name := "derive", desc := "()V" } : Jvm.MethodName)) ∈ lw_tbl := tm_4 (List.mem_of_getElem? (i := 10) rfl)
theorem w_731 : (Jvm.Cond.methodLink "NeedCode" (215 : Nat) ({ cls := "NeedCode", name := "rootCost", desc := "()I" } : Jvm.MethodName)) ∈ lw_tbl := tm_4 (List.mem_of_getElem? (i := 11) rfl)
theorem w_733 : (Jvm.Cond.instanceMethod ({ cls := "NeedCode", name := "rootCost", desc := "()I" } : Jvm.MethodName)) ∈ lw_tbl := tm_4 (List.mem_of_getElem? (i := 13) rfl)
theorem w_734 : (Jvm.Cond.code ({ cls := "NeedCode", name := "rootCost", desc := "()I" } : Jvm.MethodName) prog_1_method_28_code (1 : Nat) (Option.some Jvm.ClassFile.FieldType.int)) ∈ lw_tbl := tm_4 (List.mem_of_getElem? (i := 14) rfl)
theorem w_735 : (Jvm.Cond.methodLink "NeedCodeLaw" (64 : Nat) ({ cls := "NeedCode", name := "let", desc := "(II)I" } : Jvm.MethodName)) ∈ lw_tbl := tm_4 (List.mem_of_getElem? (i := 15) rfl)
theorem w_736 : (Jvm.Cond.instanceMethod ({ cls := "NeedCode", name := "let", desc := "(II)I" } : Jvm.MethodName)) ∈ lw_tbl := tm_4 (List.mem_of_getElem? (i := 16) rfl)
theorem w_737 : (Jvm.Cond.selects "NeedCode" ({ cls := "NeedCode", name := "let", desc := "(II)I" } : Jvm.MethodName) ({ cls := "NeedCode", name := "let", desc := "(II)I" } : Jvm.MethodName)) ∈ lw_tbl := tm_4 (List.mem_of_getElem? (i := 17) rfl)
theorem w_738 : (Jvm.Cond.code ({ cls := "NeedCode", name := "let", desc := "(II)I" } : Jvm.MethodName) prog_1_method_14_code (3 : Nat) (Option.some Jvm.ClassFile.FieldType.int)) ∈ lw_tbl := tm_4 (List.mem_of_getElem? (i := 18) rfl)
theorem w_739 : (Jvm.Cond.methodLink "NeedCode" (221 : Nat) ({ cls := "NeedCode$Acts", name := "addLet", desc := "(II)V" } : Jvm.MethodName)) ∈ lw_tbl := tm_4 (List.mem_of_getElem? (i := 19) rfl)
theorem w_740 : (Jvm.Cond.instanceMethod ({ cls := "NeedCode$Acts", name := "addLet", desc := "(II)V" } : Jvm.MethodName)) ∈ lw_tbl := tm_4 (List.mem_of_getElem? (i := 20) rfl)
theorem w_741 : (Jvm.Cond.selects "NeedCode$Acts" ({ cls := "NeedCode$Acts", name := "addLet", desc := "(II)V" } : Jvm.MethodName) ({ cls := "NeedCode$Acts", name := "addLet", desc := "(II)V" } : Jvm.MethodName)) ∈ lw_tbl := tm_4 (List.mem_of_getElem? (i := 21) rfl)
theorem w_742 : (Jvm.Cond.code ({ cls := "NeedCode$Acts", name := "addLet", desc := "(II)V" } : Jvm.MethodName) prog_2_method_4_code (3 : Nat) (Option.none : Option Jvm.ClassFile.FieldType)) ∈ lw_tbl := tm_4 (List.mem_of_getElem? (i := 22) rfl)
theorem w_743 : (Jvm.Cond.methodLink "NeedCodeLaw" (68 : Nat) ({ cls := "NeedCode", name := "machine", desc := "(IIIII)I" } : Jvm.MethodName)) ∈ lw_tbl := tm_4 (List.mem_of_getElem? (i := 23) rfl)
theorem w_744 : (Jvm.Cond.instanceMethod ({ cls := "NeedCode", name := "machine", desc := "(IIIII)I" } : Jvm.MethodName)) ∈ lw_tbl := tm_4 (List.mem_of_getElem? (i := 24) rfl)
theorem w_745 : (Jvm.Cond.selects "NeedCode" ({ cls := "NeedCode", name := "machine", desc := "(IIIII)I" } : Jvm.MethodName) ({ cls := "NeedCode", name := "machine", desc := "(IIIII)I" } : Jvm.MethodName)) ∈ lw_tbl := tm_4 (List.mem_of_getElem? (i := 25) rfl)
theorem w_746 : (Jvm.Cond.code ({ cls := "NeedCode", name := "machine", desc := "(IIIII)I" } : Jvm.MethodName) prog_1_method_15_code (6 : Nat) (Option.some Jvm.ClassFile.FieldType.int)) ∈ lw_tbl := tm_4 (List.mem_of_getElem? (i := 26) rfl)
theorem w_747 : (Jvm.Cond.methodLink "NeedCode" (224 : Nat) ({ cls := "NeedCode", name := "isPrice", desc := "(I)Z" } : Jvm.MethodName)) ∈ lw_tbl := tm_4 (List.mem_of_getElem? (i := 27) rfl)
theorem w_748 : (Jvm.Cond.static ({ cls := "NeedCode", name := "isPrice", desc := "(I)Z" } : Jvm.MethodName)) ∈ lw_tbl := tm_4 (List.mem_of_getElem? (i := 28) rfl)
theorem w_749 : (Jvm.Cond.code ({ cls := "NeedCode", name := "isPrice", desc := "(I)Z" } : Jvm.MethodName) prog_1_method_26_code (1 : Nat) (Option.some Jvm.ClassFile.FieldType.boolean)) ∈ lw_tbl := tm_4 (List.mem_of_getElem? (i := 29) rfl)
theorem w_750 : (Jvm.Cond.methodLink "NeedCode" (227 : Nat) ({ cls := "NeedCode$Acts", name := "addMachine", desc := "(LNeedCode$Row;)V" } : Jvm.MethodName)) ∈ lw_tbl := tm_4 (List.mem_of_getElem? (i := 30) rfl)
theorem w_751 : (Jvm.Cond.instanceMethod ({ cls := "NeedCode$Acts", name := "addMachine", desc := "(LNeedCode$Row;)V" } : Jvm.MethodName)) ∈ lw_tbl := tm_4 (List.mem_of_getElem? (i := 31) rfl)
theorem w_752 : (Jvm.Cond.selects "NeedCode$Acts" ({ cls := "NeedCode$Acts", name := "addMachine", desc := "(LNeedCode$Row;)V" } : Jvm.MethodName) ({ cls := "NeedCode$Acts", name := "addMachine", desc := "(LNeedCode$Row;)V" } : Jvm.MethodName)) ∈ lw_tbl := tm_4 (List.mem_of_getElem? (i := 32) rfl)
theorem w_753 : (Jvm.Cond.code ({ cls := "NeedCode$Acts", name := "addMachine", desc := "(LNeedCode$Row;)V" } : Jvm.MethodName) prog_2_method_5_code (3 : Nat) (Option.none : Option Jvm.ClassFile.FieldType)) ∈ lw_tbl := tm_4 (List.mem_of_getElem? (i := 33) rfl)
theorem w_754 : (Jvm.Cond.methodLink "NeedCode$Acts" (40 : Nat) ({ cls := "NeedCode$Row", name := "get", desc := "(I)I" } : Jvm.MethodName)) ∈ lw_tbl := tm_4 (List.mem_of_getElem? (i := 34) rfl)
theorem w_755 : (Jvm.Cond.methodLink "NeedCodeLaw" (73 : Nat) ({ cls := "NeedCode", name := "undo", desc := "()I" } : Jvm.MethodName)) ∈ lw_tbl := tm_4 (List.mem_of_getElem? (i := 35) rfl)
theorem w_756 : (Jvm.Cond.instanceMethod ({ cls := "NeedCode", name := "undo", desc := "()I" } : Jvm.MethodName)) ∈ lw_tbl := tm_4 (List.mem_of_getElem? (i := 36) rfl)
theorem w_757 : (Jvm.Cond.selects "NeedCode" ({ cls := "NeedCode", name := "undo", desc := "()I" } : Jvm.MethodName) ({ cls := "NeedCode", name := "undo", desc := "()I" } : Jvm.MethodName)) ∈ lw_tbl := tm_4 (List.mem_of_getElem? (i := 37) rfl)
theorem w_758 : (Jvm.Cond.code ({ cls := "NeedCode", name := "undo", desc := "()I" } : Jvm.MethodName) prog_1_method_16_code (2 : Nat) (Option.some Jvm.ClassFile.FieldType.int)) ∈ lw_tbl := tm_4 (List.mem_of_getElem? (i := 38) rfl)
theorem w_759 : (Jvm.Cond.methodLink "NeedCode" (234 : Nat) ({ cls := "NeedCode$Acts", name := "latestKind", desc := "()I" } : Jvm.MethodName)) ∈ lw_tbl := tm_4 (List.mem_of_getElem? (i := 39) rfl)
theorem w_760 : (Jvm.Cond.instanceMethod ({ cls := "NeedCode$Acts", name := "latestKind", desc := "()I" } : Jvm.MethodName)) ∈ lw_tbl := tm_4 (List.mem_of_getElem? (i := 40) rfl)
theorem w_761 : (Jvm.Cond.selects "NeedCode$Acts" ({ cls := "NeedCode$Acts", name := "latestKind", desc := "()I" } : Jvm.MethodName) ({ cls := "NeedCode$Acts", name := "latestKind", desc := "()I" } : Jvm.MethodName)) ∈ lw_tbl := tm_4 (List.mem_of_getElem? (i := 41) rfl)
theorem w_762 : (Jvm.Cond.code ({ cls := "NeedCode$Acts", name := "latestKind", desc := "()I" } : Jvm.MethodName) prog_2_method_7_code (1 : Nat) (Option.some Jvm.ClassFile.FieldType.int)) ∈ lw_tbl := tm_4 (List.mem_of_getElem? (i := 42) rfl)
theorem w_763 : (Jvm.Cond.methodLink "NeedCode" (237 : Nat) ({ cls := "NeedCode$Acts", name := "latestPlace", desc := "()I" } : Jvm.MethodName)) ∈ lw_tbl := tm_4 (List.mem_of_getElem? (i := 43) rfl)
theorem w_764 : (Jvm.Cond.instanceMethod ({ cls := "NeedCode$Acts", name := "latestPlace", desc := "()I" } : Jvm.MethodName)) ∈ lw_tbl := tm_4 (List.mem_of_getElem? (i := 44) rfl)
theorem w_765 : (Jvm.Cond.selects "NeedCode$Acts" ({ cls := "NeedCode$Acts", name := "latestPlace", desc := "()I" } : Jvm.MethodName) ({ cls := "NeedCode$Acts", name := "latestPlace", desc := "()I" } : Jvm.MethodName)) ∈ lw_tbl := tm_4 (List.mem_of_getElem? (i := 45) rfl)
theorem w_766 : (Jvm.Cond.code ({ cls := "NeedCode$Acts", name := "latestPlace", desc := "()I" } : Jvm.MethodName) prog_2_method_8_code (1 : Nat) (Option.some Jvm.ClassFile.FieldType.int)) ∈ lw_tbl := tm_4 (List.mem_of_getElem? (i := 46) rfl)
theorem w_767 : (Jvm.Cond.methodLink "NeedCode" (240 : Nat) ({ cls := "NeedCode$Acts", name := "latestNumber", desc := "()I" } : Jvm.MethodName)) ∈ lw_tbl := tm_4 (List.mem_of_getElem? (i := 47) rfl)
theorem w_768 : (Jvm.Cond.instanceMethod ({ cls := "NeedCode$Acts", name := "latestNumber", desc := "()I" } : Jvm.MethodName)) ∈ lw_tbl := tm_4 (List.mem_of_getElem? (i := 48) rfl)
theorem w_769 : (Jvm.Cond.selects "NeedCode$Acts" ({ cls := "NeedCode$Acts", name := "latestNumber", desc := "()I" } : Jvm.MethodName) ({ cls := "NeedCode$Acts", name := "latestNumber", desc := "()I" } : Jvm.MethodName)) ∈ lw_tbl := tm_4 (List.mem_of_getElem? (i := 49) rfl)
theorem w_770 : (Jvm.Cond.code ({ cls := "NeedCode$Acts", name := "latestNumber", desc := "()I" } : Jvm.MethodName) prog_2_method_9_code (1 : Nat) (Option.some Jvm.ClassFile.FieldType.int)) ∈ lw_tbl := tm_4 (List.mem_of_getElem? (i := 50) rfl)
theorem w_771 : (Jvm.Cond.methodLink "NeedCode" (243 : Nat) ({ cls := "NeedCode$Acts", name := "tellMachine", desc := "(LNeedCode$Row;)V" } : Jvm.MethodName)) ∈ lw_tbl := tm_4 (List.mem_of_getElem? (i := 51) rfl)
theorem w_772 : (Jvm.Cond.instanceMethod ({ cls := "NeedCode$Acts", name := "tellMachine", desc := "(LNeedCode$Row;)V" } : Jvm.MethodName)) ∈ lw_tbl := tm_4 (List.mem_of_getElem? (i := 52) rfl)
theorem w_773 : (Jvm.Cond.selects "NeedCode$Acts" ({ cls := "NeedCode$Acts", name := "tellMachine", desc := "(LNeedCode$Row;)V" } : Jvm.MethodName) ({ cls := "NeedCode$Acts", name := "tellMachine", desc := "(LNeedCode$Row;)V" } : Jvm.MethodName)) ∈ lw_tbl := tm_4 (List.mem_of_getElem? (i := 53) rfl)
theorem w_774 : (Jvm.Cond.code ({ cls := "NeedCode$Acts", name := "tellMachine", desc := "(LNeedCode$Row;)V" } : Jvm.MethodName) prog_2_method_10_code (3 : Nat) (Option.none : Option Jvm.ClassFile.FieldType)) ∈ lw_tbl := tm_4 (List.mem_of_getElem? (i := 54) rfl)
theorem w_775 : (Jvm.Cond.methodLink "NeedCode" (246 : Nat) ({ cls := "NeedCode$Acts", name := "drop", desc := "()V" } : Jvm.MethodName)) ∈ lw_tbl := tm_4 (List.mem_of_getElem? (i := 55) rfl)
theorem w_776 : (Jvm.Cond.instanceMethod ({ cls := "NeedCode$Acts", name := "drop", desc := "()V" } : Jvm.MethodName)) ∈ lw_tbl := tm_4 (List.mem_of_getElem? (i := 56) rfl)
theorem w_777 : (Jvm.Cond.selects "NeedCode$Acts" ({ cls := "NeedCode$Acts", name := "drop", desc := "()V" } : Jvm.MethodName) ({ cls := "NeedCode$Acts", name := "drop", desc := "()V" } : Jvm.MethodName)) ∈ lw_tbl := tm_4 (List.mem_of_getElem? (i := 57) rfl)
theorem w_778 : (Jvm.Cond.code ({ cls := "NeedCode$Acts", name := "drop", desc := "()V" } : Jvm.MethodName) prog_2_method_11_code (1 : Nat) (Option.none : Option Jvm.ClassFile.FieldType)) ∈ lw_tbl := tm_4 (List.mem_of_getElem? (i := 58) rfl)
theorem w_779 : (Jvm.Cond.methodLink "NeedCodeLaw" (77 : Nat) ({ cls := "NeedCode", name := "shared", desc := "(II)I" } : Jvm.MethodName)) ∈ lw_tbl := tm_4 (List.mem_of_getElem? (i := 59) rfl)
theorem w_780 : (Jvm.Cond.instanceMethod ({ cls := "NeedCode", name := "shared", desc := "(II)I" } : Jvm.MethodName)) ∈ lw_tbl := tm_4 (List.mem_of_getElem? (i := 60) rfl)
theorem w_781 : (Jvm.Cond.selects "NeedCode" ({ cls := "NeedCode", name := "shared", desc := "(II)I" } : Jvm.MethodName) ({ cls := "NeedCode", name := "shared", desc := "(II)I" } : Jvm.MethodName)) ∈ lw_tbl := tm_4 (List.mem_of_getElem? (i := 61) rfl)
theorem w_782 : (Jvm.Cond.code ({ cls := "NeedCode", name := "shared", desc := "(II)I" } : Jvm.MethodName) prog_1_method_17_code (3 : Nat) (Option.some Jvm.ClassFile.FieldType.int)) ∈ lw_tbl := tm_4 (List.mem_of_getElem? (i := 62) rfl)
theorem w_783 : (Jvm.Cond.methodLink "NeedCodeLaw" (81 : Nat) ({ cls := "NeedCode", name := "cheapest", desc := "(I)I" } : Jvm.MethodName)) ∈ lw_tbl := tm_4 (List.mem_of_getElem? (i := 63) rfl)
theorem w_784 : (Jvm.Cond.instanceMethod ({ cls := "NeedCode", name := "cheapest", desc := "(I)I" } : Jvm.MethodName)) ∈ lw_tbl := tm_4 (List.mem_of_getElem? (i := 64) rfl)
theorem w_785 : (Jvm.Cond.selects "NeedCode" ({ cls := "NeedCode", name := "cheapest", desc := "(I)I" } : Jvm.MethodName) ({ cls := "NeedCode", name := "cheapest", desc := "(I)I" } : Jvm.MethodName)) ∈ lw_tbl := tm_4 (List.mem_of_getElem? (i := 65) rfl)
theorem w_786 : (Jvm.Cond.code ({ cls := "NeedCode", name := "cheapest", desc := "(I)I" } : Jvm.MethodName) prog_1_method_18_code (2 : Nat) (Option.some Jvm.ClassFile.FieldType.int)) ∈ lw_tbl := tm_4 (List.mem_of_getElem? (i := 66) rfl)
theorem w_787 : (Jvm.Cond.methodLink "NeedCode" (258 : Nat) ({ cls := "NeedCode$Shares", name := "weigh", desc := "(LNeedCode$Tree;LNeedCode$Row;)V" } : Jvm.MethodName)) ∈ lw_tbl := tm_4 (List.mem_of_getElem? (i := 67) rfl)
theorem w_788 : (Jvm.Cond.instanceMethod ({ cls := "NeedCode$Shares", name := "weigh", desc := "(LNeedCode$Tree;LNeedCode$Row;)V" } : Jvm.MethodName)) ∈ lw_tbl := tm_4 (List.mem_of_getElem? (i := 68) rfl)
theorem w_789 : (Jvm.Cond.selects "NeedCode$Shares" ({ cls := "NeedCode$Shares", name := "weigh", desc := "(LNeedCode$Tree;LNeedCode$Row;)V" } : Jvm.MethodName) ({ cls := "NeedCode$Shares", name := "weigh", desc := "(LNeedCode$Tree;LNeedCode$Row;)V" } : Jvm.MethodName)) ∈ lw_tbl := tm_4 (List.mem_of_getElem? (i := 69) rfl)
theorem w_790 : (Jvm.Cond.code ({ cls := "NeedCode$Shares", name := "weigh", desc := "(LNeedCode$Tree;LNeedCode$Row;)V" } : Jvm.MethodName) prog_10_method_4_code (5 : Nat) (Option.none : Option Jvm.ClassFile.FieldType)) ∈ lw_tbl := tm_4 (List.mem_of_getElem? (i := 70) rfl)
theorem w_791 : (Jvm.Cond.methodLink "NeedCode$Shares" (68 : Nat) ({ cls := "NeedCode$Shares", name := "sumBy", desc := "(ILNeedCode$Tree;LNeedCode$Row;)I" } : Jvm.MethodName)) ∈ lw_tbl := tm_4 (List.mem_of_getElem? (i := 71) rfl)
theorem w_793 : (Jvm.Cond.instanceMethod ({ cls := "NeedCode$Shares", name := "sumBy", desc := "(ILNeedCode$Tree;LNeedCode$Row;)I" } : Jvm.MethodName)) ∈ lw_tbl := tm_4 (List.mem_of_getElem? (i := 73) rfl)
theorem w_794 : (Jvm.Cond.code ({ cls := "NeedCode$Shares", name := "sumBy", desc := "(ILNeedCode$Tree;LNeedCode$Row;)I" } : Jvm.MethodName) prog_10_method_5_code (7 : Nat) (Option.some Jvm.ClassFile.FieldType.int)) ∈ lw_tbl := tm_4 (List.mem_of_getElem? (i := 74) rfl)
theorem w_795 : (Jvm.Cond.methodLink "NeedCode$Shares" (75 : Nat) ({ cls := "NeedCode$Costs", name := "fillNode", desc := "(LNeedCode$Tree;LNeedCode$Row;I)V" } : Jvm.MethodName)) ∈ lw_tbl := tm_4 (List.mem_of_getElem? (i := 75) rfl)
theorem w_796 : (Jvm.Cond.methodLink "NeedCode$Shares" (79 : Nat) ({ cls := "NeedCode$Shares", name := "isOfSet", desc := "(II)Z" } : Jvm.MethodName)) ∈ lw_tbl := tm_4 (List.mem_of_getElem? (i := 76) rfl)
theorem w_798 : (Jvm.Cond.instanceMethod ({ cls := "NeedCode$Shares", name := "isOfSet", desc := "(II)Z" } : Jvm.MethodName)) ∈ lw_tbl := tm_4 (List.mem_of_getElem? (i := 78) rfl)
theorem w_799 : (Jvm.Cond.code ({ cls := "NeedCode$Shares", name := "isOfSet", desc := "(II)Z" } : Jvm.MethodName) prog_10_method_6_code (4 : Nat) (Option.some Jvm.ClassFile.FieldType.boolean)) ∈ lw_tbl := tm_4 (List.mem_of_getElem? (i := 79) rfl)
theorem w_800 : (Jvm.Cond.methodLinkNest "NeedCode$Shares" (83 : Nat) ({ cls := "NeedCode$Costs", name := "keptOf", desc := "(LNeedCode$Row;II)I" } : Jvm.MethodName) "NeedCode") ∈ lw_tbl := tm_4 (List.mem_of_getElem? (i := 80) rfl)
theorem w_801 : (Jvm.Cond.methodLink "NeedCode$Shares" (87 : Nat) ({ cls := "NeedCode$Costs", name := "countAsLeaf", desc := "(LNeedCode$Row;I)V" } : Jvm.MethodName)) ∈ lw_tbl := tm_4 (List.mem_of_getElem? (i := 81) rfl)
theorem w_802 : (Jvm.Cond.methodLink "NeedCode$Shares" (91 : Nat) ({ cls := "NeedCode$Tree", name := "root", desc := "()I" } : Jvm.MethodName)) ∈ lw_tbl := tm_4 (List.mem_of_getElem? (i := 82) rfl)
theorem w_803 : (Jvm.Cond.methodLink "NeedCode$Shares" (95 : Nat) ({ cls := "NeedCode$Costs", name := "costOf", desc := "(II)I" } : Jvm.MethodName)) ∈ lw_tbl := tm_4 (List.mem_of_getElem? (i := 83) rfl)
theorem w_804 : (Jvm.Cond.methodLink "NeedCodeLaw" (85 : Nat) ({ cls := "NeedCode", name := "keep", desc := "(I)I" } : Jvm.MethodName)) ∈ lw_tbl := tm_4 (List.mem_of_getElem? (i := 84) rfl)
theorem w_805 : (Jvm.Cond.instanceMethod ({ cls := "NeedCode", name := "keep", desc := "(I)I" } : Jvm.MethodName)) ∈ lw_tbl := tm_4 (List.mem_of_getElem? (i := 85) rfl)
theorem w_806 : (Jvm.Cond.selects "NeedCode" ({ cls := "NeedCode", name := "keep", desc := "(I)I" } : Jvm.MethodName) ({ cls := "NeedCode", name := "keep", desc := "(I)I" } : Jvm.MethodName)) ∈ lw_tbl := tm_4 (List.mem_of_getElem? (i := 86) rfl)
theorem w_807 : (Jvm.Cond.code ({ cls := "NeedCode", name := "keep", desc := "(I)I" } : Jvm.MethodName) prog_1_method_19_code (3 : Nat) (Option.some Jvm.ClassFile.FieldType.int)) ∈ lw_tbl := tm_4 (List.mem_of_getElem? (i := 87) rfl)
theorem w_808 : (Jvm.Cond.methodLink "NeedCode" (268 : Nat) ({ cls := "NeedCode", name := "imageOf", desc := "(I)LNeedCode$Image;" } : Jvm.MethodName)) ∈ lw_tbl := tm_4 (List.mem_of_getElem? (i := 88) rfl)
theorem w_810 : (Jvm.Cond.instanceMethod ({ cls := "NeedCode", name := "imageOf", desc := "(I)LNeedCode$Image;" } : Jvm.MethodName)) ∈ lw_tbl := tm_4 (List.mem_of_getElem? (i := 90) rfl)
theorem w_811 : (Jvm.Cond.code ({ cls := "NeedCode", name := "imageOf", desc := "(I)LNeedCode$Image;" } : Jvm.MethodName) prog_1_method_27_code (2 : Nat) (Option.some (Jvm.ClassFile.FieldType.object "NeedCode$Image"))) ∈ lw_tbl := tm_4 (List.mem_of_getElem? (i := 91) rfl)
theorem w_812 : (Jvm.Cond.methodLink "NeedCode" (272 : Nat) ({ cls := "NeedCode$Image", name := "copy", desc := "(LNeedCode$Image;)V" } : Jvm.MethodName)) ∈ lw_tbl := tm_4 (List.mem_of_getElem? (i := 92) rfl)
theorem w_813 : (Jvm.Cond.instanceMethod ({ cls := "NeedCode$Image", name := "copy", desc := "(LNeedCode$Image;)V" } : Jvm.MethodName)) ∈ lw_tbl := tm_4 (List.mem_of_getElem? (i := 93) rfl)
theorem w_814 : (Jvm.Cond.selects "NeedCode$Image" ({ cls := "NeedCode$Image", name := "copy", desc := "(LNeedCode$Image;)V" } : Jvm.MethodName) ({ cls := "NeedCode$Image", name := "copy", desc := "(LNeedCode$Image;)V" } : Jvm.MethodName)) ∈ lw_tbl := tm_4 (List.mem_of_getElem? (i := 94) rfl)
theorem w_815 : (Jvm.Cond.code ({ cls := "NeedCode$Image", name := "copy", desc := "(LNeedCode$Image;)V" } : Jvm.MethodName) prog_5_method_2_code (2 : Nat) (Option.none : Option Jvm.ClassFile.FieldType)) ∈ lw_tbl := tm_4 (List.mem_of_getElem? (i := 95) rfl)
theorem w_816 : (Jvm.Cond.methodLink "NeedCode$Image" (30 : Nat) ({ cls := "NeedCode$Tree", name := "copy", desc := "(LNeedCode$Tree;)V" } : Jvm.MethodName)) ∈ lw_tbl := tm_4 (List.mem_of_getElem? (i := 96) rfl)
theorem w_817 : (Jvm.Cond.methodLink "NeedCode$Image" (34 : Nat) ({ cls := "NeedCode$Row", name := "copy", desc := "(LNeedCode$Row;)V" } : Jvm.MethodName)) ∈ lw_tbl := tm_4 (List.mem_of_getElem? (i := 97) rfl)
theorem w_818 : (Jvm.Cond.methodLink "NeedCodeLaw" (89 : Nat) ({ cls := "NeedCode", name := "back", desc := "(I)I" } : Jvm.MethodName)) ∈ lw_tbl := tm_4 (List.mem_of_getElem? (i := 98) rfl)
theorem w_819 : (Jvm.Cond.instanceMethod ({ cls := "NeedCode", name := "back", desc := "(I)I" } : Jvm.MethodName)) ∈ lw_tbl := tm_4 (List.mem_of_getElem? (i := 99) rfl)
theorem w_820 : (Jvm.Cond.selects "NeedCode" ({ cls := "NeedCode", name := "back", desc := "(I)I" } : Jvm.MethodName) ({ cls := "NeedCode", name := "back", desc := "(I)I" } : Jvm.MethodName)) ∈ lw_tbl := tm_4 (List.mem_of_getElem? (i := 100) rfl)
theorem w_821 : (Jvm.Cond.code ({ cls := "NeedCode", name := "back", desc := "(I)I" } : Jvm.MethodName) prog_1_method_20_code (3 : Nat) (Option.some Jvm.ClassFile.FieldType.int)) ∈ lw_tbl := tm_4 (List.mem_of_getElem? (i := 101) rfl)
theorem w_822 : (Jvm.Cond.methodLink "NeedCodeLaw" (93 : Nat) ({ cls := "NeedCode", name := "asked", desc := "()I" } : Jvm.MethodName)) ∈ lw_tbl := tm_4 (List.mem_of_getElem? (i := 102) rfl)
theorem w_823 : (Jvm.Cond.instanceMethod ({ cls := "NeedCode", name := "asked", desc := "()I" } : Jvm.MethodName)) ∈ lw_tbl := tm_4 (List.mem_of_getElem? (i := 103) rfl)
theorem w_824 : (Jvm.Cond.selects "NeedCode" ({ cls := "NeedCode", name := "asked", desc := "()I" } : Jvm.MethodName) ({ cls := "NeedCode", name := "asked", desc := "()I" } : Jvm.MethodName)) ∈ lw_tbl := tm_4 (List.mem_of_getElem? (i := 104) rfl)
theorem w_825 : (Jvm.Cond.code ({ cls := "NeedCode", name := "asked", desc := "()I" } : Jvm.MethodName) prog_1_method_21_code (1 : Nat) (Option.some Jvm.ClassFile.FieldType.int)) ∈ lw_tbl := tm_4 (List.mem_of_getElem? (i := 105) rfl)
theorem w_826 : (Jvm.Cond.methodLink "NeedCodeLaw" (97 : Nat) ({ cls := "NeedCode", name := "trapped", desc := "()I" } : Jvm.MethodName)) ∈ lw_tbl := tm_4 (List.mem_of_getElem? (i := 106) rfl)
theorem w_827 : (Jvm.Cond.instanceMethod ({ cls := "NeedCode", name := "trapped", desc := "()I" } : Jvm.MethodName)) ∈ lw_tbl := tm_4 (List.mem_of_getElem? (i := 107) rfl)
theorem w_828 : (Jvm.Cond.selects "NeedCode" ({ cls := "NeedCode", name := "trapped", desc := "()I" } : Jvm.MethodName) ({ cls := "NeedCode", name := "trapped", desc := "()I" } : Jvm.MethodName)) ∈ lw_tbl := tm_4 (List.mem_of_getElem? (i := 108) rfl)
theorem w_829 : (Jvm.Cond.code ({ cls := "NeedCode", name := "trapped", desc := "()I" } : Jvm.MethodName) prog_1_method_22_code (1 : Nat) (Option.some Jvm.ClassFile.FieldType.int)) ∈ lw_tbl := tm_4 (List.mem_of_getElem? (i := 109) rfl)
theorem w_830 : (Jvm.Cond.methodLink "NeedCodeLaw" (101 : Nat) ({ cls := "NeedCode", name := "count", desc := "(I)I" } : Jvm.MethodName)) ∈ lw_tbl := tm_4 (List.mem_of_getElem? (i := 110) rfl)
theorem w_831 : (Jvm.Cond.instanceMethod ({ cls := "NeedCode", name := "count", desc := "(I)I" } : Jvm.MethodName)) ∈ lw_tbl := tm_4 (List.mem_of_getElem? (i := 111) rfl)
theorem w_832 : (Jvm.Cond.selects "NeedCode" ({ cls := "NeedCode", name := "count", desc := "(I)I" } : Jvm.MethodName) ({ cls := "NeedCode", name := "count", desc := "(I)I" } : Jvm.MethodName)) ∈ lw_tbl := tm_4 (List.mem_of_getElem? (i := 112) rfl)
theorem w_833 : (Jvm.Cond.code ({ cls := "NeedCode", name := "count", desc := "(I)I" } : Jvm.MethodName) prog_1_method_23_code (2 : Nat) (Option.some Jvm.ClassFile.FieldType.int)) ∈ lw_tbl := tm_4 (List.mem_of_getElem? (i := 113) rfl)
theorem w_834 : (Jvm.Cond.classLink "NeedCodeLaw" (10 : Nat) "NeedCodeModel") ∈ lw_tbl := tm_4 (List.mem_of_getElem? (i := 114) rfl)
theorem w_835 : (Jvm.Cond.instantiable "NeedCodeModel" (32 : Nat)) ∈ lw_tbl := tm_4 (List.mem_of_getElem? (i := 115) rfl)
theorem w_836 : (Jvm.Cond.methodLink "NeedCodeLaw" (12 : Nat) ({ cls := "NeedCodeModel", name := "<init>", desc := "()V" } : Jvm.MethodName)) ∈ lw_tbl := tm_4 (List.mem_of_getElem? (i := 116) rfl)
theorem w_837 : (Jvm.Cond.instanceMethod ({ cls := "NeedCodeModel", name := "<init>", desc := "()V" } : Jvm.MethodName)) ∈ lw_tbl := tm_4 (List.mem_of_getElem? (i := 117) rfl)
theorem w_838 : (Jvm.Cond.code ({ cls := "NeedCodeModel", name := "<init>", desc := "()V" } : Jvm.MethodName) prog_13_method_1_code (1 : Nat) (Option.none : Option Jvm.ClassFile.FieldType)) ∈ lw_tbl := tm_4 (List.mem_of_getElem? (i := 118) rfl)
theorem w_839 : (Jvm.Cond.methodLink "NeedCodeModel" (1 : Nat) ({ cls := "java/lang/Object", name := "<init>", desc := "()V" } : Jvm.MethodName)) ∈ lw_tbl := tm_4 (List.mem_of_getElem? (i := 119) rfl)
theorem w_840 : (Jvm.Cond.fieldLink "NeedCodeModel" (75 : Nat) "NeedCodeModel" "thrown" "I") ∈ lw_tbl := tm_4 (List.mem_of_getElem? (i := 120) rfl)
theorem w_841 : (Jvm.Cond.fieldLink "NeedCodeModel" (7 : Nat) "NeedCodeModel" "text" "[I") ∈ lw_tbl := tm_4 (List.mem_of_getElem? (i := 121) rfl)
theorem w_842 : (Jvm.Cond.fieldLink "NeedCodeModel" (82 : Nat) "NeedCodeModel" "typed" "I") ∈ lw_tbl := tm_4 (List.mem_of_getElem? (i := 122) rfl)
theorem w_843 : (Jvm.Cond.fieldLink "NeedCodeModel" (85 : Nat) "NeedCodeModel" "at" "I") ∈ lw_tbl := tm_4 (List.mem_of_getElem? (i := 123) rfl)
theorem w_844 : (Jvm.Cond.fieldLink "NeedCodeModel" (92 : Nat) "NeedCodeModel" "fault" "I") ∈ lw_tbl := tm_4 (List.mem_of_getElem? (i := 124) rfl)
theorem w_845 : (Jvm.Cond.fieldLink "NeedCodeModel" (13 : Nat) "NeedCodeModel" "draft" "[I") ∈ lw_tbl := tm_4 (List.mem_of_getElem? (i := 125) rfl)
theorem w_846 : (Jvm.Cond.fieldLink "NeedCodeModel" (16 : Nat) "NeedCodeModel" "s" "[I") ∈ lw_tbl := tm_4 (List.mem_of_getElem? (i := 126) rfl)
theorem w_847 : (Jvm.Cond.fieldLink "NeedCodeModel" (19 : Nat) "NeedCodeModel" "w" "[I") ∈ lw_tbl := tm_4 (List.mem_of_getElem? (i := 127) rfl)
theorem w_848 : (Jvm.Cond.fieldLink "NeedCodeModel" (22 : Nat) "NeedCodeModel" "undos" "[I") ∈ lw_tbl := tm_4 (List.mem_of_getElem? (i := 128) rfl)
theorem w_849 : (Jvm.Cond.fieldLink "NeedCodeModel" (142 : Nat) "NeedCodeModel" "undoMany" "I") ∈ lw_tbl := tm_4 (List.mem_of_getElem? (i := 129) rfl)
theorem w_850 : (Jvm.Cond.fieldLink "NeedCodeModel" (25 : Nat) "NeedCodeModel" "kept" "[I") ∈ lw_tbl := tm_4 (List.mem_of_getElem? (i := 130) rfl)
theorem w_851 : (Jvm.Cond.fieldLink "NeedCodeModel" (28 : Nat) "NeedCodeModel" "isKept" "[Z") ∈ lw_tbl := tm_4 (List.mem_of_getElem? (i := 131) rfl)
theorem w_852 : (Jvm.Cond.fieldLink "NeedCodeModel" (194 : Nat) "NeedCodeModel" "askedLast" "I") ∈ lw_tbl := tm_4 (List.mem_of_getElem? (i := 132) rfl)
theorem w_853 : (Jvm.Cond.fieldLink "NeedCodeModel" (71 : Nat) "NeedCodeModel" "trappedLast" "I") ∈ lw_tbl := tm_4 (List.mem_of_getElem? (i := 133) rfl)
theorem w_854 : (Jvm.Cond.fieldLink "NeedCodeModel" (32 : Nat) "NeedCodeModel" "parts" "[I") ∈ lw_tbl := tm_4 (List.mem_of_getElem? (i := 134) rfl)
theorem w_855 : (Jvm.Cond.fieldLink "NeedCodeModel" (95 : Nat) "NeedCodeModel" "partMany" "I") ∈ lw_tbl := tm_4 (List.mem_of_getElem? (i := 135) rfl)
theorem w_856 : (Jvm.Cond.fieldLink "NeedCodeModel" (35 : Nat) "NeedCodeModel" "waiting" "[I") ∈ lw_tbl := tm_4 (List.mem_of_getElem? (i := 136) rfl)
theorem w_857 : (Jvm.Cond.fieldLink "NeedCodeModel" (38 : Nat) "NeedCodeModel" "waitingAt" "[I") ∈ lw_tbl := tm_4 (List.mem_of_getElem? (i := 137) rfl)
theorem w_858 : (Jvm.Cond.fieldLink "NeedCodeModel" (98 : Nat) "NeedCodeModel" "waitMany" "I") ∈ lw_tbl := tm_4 (List.mem_of_getElem? (i := 138) rfl)
theorem w_859 : (Jvm.Cond.fieldLink "NeedCodeModel" (41 : Nat) "NeedCodeModel" "leaf" "[Z") ∈ lw_tbl := tm_4 (List.mem_of_getElem? (i := 139) rfl)
theorem w_860 : (Jvm.Cond.fieldLink "NeedCodeModel" (44 : Nat) "NeedCodeModel" "costs" "[I") ∈ lw_tbl := tm_4 (List.mem_of_getElem? (i := 140) rfl)
theorem w_861 : (Jvm.Cond.fieldLink "NeedCodeModel" (47 : Nat) "NeedCodeModel" "ways" "[I") ∈ lw_tbl := tm_4 (List.mem_of_getElem? (i := 141) rfl)
theorem w_862 : (Jvm.Cond.fieldLink "NeedCodeModel" (50 : Nat) "NeedCodeModel" "values" "[I") ∈ lw_tbl := tm_4 (List.mem_of_getElem? (i := 142) rfl)
theorem w_863 : (Jvm.Cond.fieldLink "NeedCodeModel" (53 : Nat) "NeedCodeModel" "todo" "[I") ∈ lw_tbl := tm_4 (List.mem_of_getElem? (i := 143) rfl)
theorem w_864 : (Jvm.Cond.fieldLink "NeedCodeModel" (216 : Nat) "NeedCodeModel" "todoMany" "I") ∈ lw_tbl := tm_4 (List.mem_of_getElem? (i := 144) rfl)
theorem w_865 : (Jvm.Cond.fieldLink "NeedCodeModel" (56 : Nat) "NeedCodeModel" "lines" "[I") ∈ lw_tbl := tm_4 (List.mem_of_getElem? (i := 145) rfl)
theorem w_866 : (Jvm.Cond.fieldLink "NeedCodeModel" (222 : Nat) "NeedCodeModel" "lineMany" "I") ∈ lw_tbl := tm_4 (List.mem_of_getElem? (i := 146) rfl)
theorem w_867 : (Jvm.Cond.fieldLink "NeedCodeModel" (59 : Nat) "NeedCodeModel" "cellOf" "[I") ∈ lw_tbl := tm_4 (List.mem_of_getElem? (i := 147) rfl)
theorem w_868 : (Jvm.Cond.fieldLink "NeedCodeModel" (235 : Nat) "NeedCodeModel" "cells" "I") ∈ lw_tbl := tm_4 (List.mem_of_getElem? (i := 148) rfl)
theorem w_869 : (Jvm.Cond.fieldLink "NeedCodeModel" (62 : Nat) "NeedCodeModel" "registers" "[I") ∈ lw_tbl := tm_4 (List.mem_of_getElem? (i := 149) rfl)
theorem w_870 : (Jvm.Cond.fieldLink "NeedCodeModel" (65 : Nat) "NeedCodeModel" "cell" "[I") ∈ lw_tbl := tm_4 (List.mem_of_getElem? (i := 150) rfl)
theorem w_871 : (Jvm.Cond.fieldLink "NeedCodeModel" (68 : Nat) "NeedCodeModel" "need" "[I") ∈ lw_tbl := tm_4 (List.mem_of_getElem? (i := 151) rfl)
theorem w_872 : (Jvm.Cond.lays "NeedCodeModel" "NeedCodeModel" "thrown" "I") ∈ lw_tbl := tm_4 (List.mem_of_getElem? (i := 152) rfl)
theorem w_874 : (Jvm.Cond.laysFinal "NeedCodeModel" "NeedCodeModel" "text" "[I") ∈ lw_tbl := tm_4 (List.mem_of_getElem? (i := 154) rfl)
theorem w_876 : (Jvm.Cond.lays "NeedCodeModel" "NeedCodeModel" "typed" "I") ∈ lw_tbl := tm_4 (List.mem_of_getElem? (i := 156) rfl)
theorem w_878 : (Jvm.Cond.lays "NeedCodeModel" "NeedCodeModel" "at" "I") ∈ lw_tbl := tm_4 (List.mem_of_getElem? (i := 158) rfl)
theorem w_880 : (Jvm.Cond.lays "NeedCodeModel" "NeedCodeModel" "fault" "I") ∈ lw_tbl := tm_4 (List.mem_of_getElem? (i := 160) rfl)
theorem w_882 : (Jvm.Cond.laysFinal "NeedCodeModel" "NeedCodeModel" "draft" "[I") ∈ lw_tbl := tm_4 (List.mem_of_getElem? (i := 162) rfl)
theorem w_884 : (Jvm.Cond.laysFinal "NeedCodeModel" "NeedCodeModel" "s" "[I") ∈ lw_tbl := tm_4 (List.mem_of_getElem? (i := 164) rfl)
theorem w_886 : (Jvm.Cond.laysFinal "NeedCodeModel" "NeedCodeModel" "w" "[I") ∈ lw_tbl := tm_4 (List.mem_of_getElem? (i := 166) rfl)
theorem w_888 : (Jvm.Cond.laysFinal "NeedCodeModel" "NeedCodeModel" "undos" "[I") ∈ lw_tbl := tm_4 (List.mem_of_getElem? (i := 168) rfl)
theorem w_890 : (Jvm.Cond.lays "NeedCodeModel" "NeedCodeModel" "undoMany" "I") ∈ lw_tbl := tm_4 (List.mem_of_getElem? (i := 170) rfl)
theorem w_892 : (Jvm.Cond.laysFinal "NeedCodeModel" "NeedCodeModel" "kept" "[I") ∈ lw_tbl := tm_4 (List.mem_of_getElem? (i := 172) rfl)
theorem w_894 : (Jvm.Cond.laysFinal "NeedCodeModel" "NeedCodeModel" "isKept" "[Z") ∈ lw_tbl := tm_4 (List.mem_of_getElem? (i := 174) rfl)
theorem w_896 : (Jvm.Cond.lays "NeedCodeModel" "NeedCodeModel" "askedLast" "I") ∈ lw_tbl := tm_4 (List.mem_of_getElem? (i := 176) rfl)
theorem w_898 : (Jvm.Cond.lays "NeedCodeModel" "NeedCodeModel" "trappedLast" "I") ∈ lw_tbl := tm_4 (List.mem_of_getElem? (i := 178) rfl)
theorem w_900 : (Jvm.Cond.laysFinal "NeedCodeModel" "NeedCodeModel" "parts" "[I") ∈ lw_tbl := tm_4 (List.mem_of_getElem? (i := 180) rfl)
theorem w_902 : (Jvm.Cond.lays "NeedCodeModel" "NeedCodeModel" "partMany" "I") ∈ lw_tbl := tm_4 (List.mem_of_getElem? (i := 182) rfl)
theorem w_904 : (Jvm.Cond.laysFinal "NeedCodeModel" "NeedCodeModel" "waiting" "[I") ∈ lw_tbl := tm_4 (List.mem_of_getElem? (i := 184) rfl)
theorem w_906 : (Jvm.Cond.laysFinal "NeedCodeModel" "NeedCodeModel" "waitingAt" "[I") ∈ lw_tbl := tm_4 (List.mem_of_getElem? (i := 186) rfl)
theorem w_908 : (Jvm.Cond.lays "NeedCodeModel" "NeedCodeModel" "waitMany" "I") ∈ lw_tbl := tm_4 (List.mem_of_getElem? (i := 188) rfl)
theorem w_910 : (Jvm.Cond.laysFinal "NeedCodeModel" "NeedCodeModel" "leaf" "[Z") ∈ lw_tbl := tm_4 (List.mem_of_getElem? (i := 190) rfl)
theorem w_912 : (Jvm.Cond.laysFinal "NeedCodeModel" "NeedCodeModel" "costs" "[I") ∈ lw_tbl := tm_4 (List.mem_of_getElem? (i := 192) rfl)
theorem w_914 : (Jvm.Cond.laysFinal "NeedCodeModel" "NeedCodeModel" "ways" "[I") ∈ lw_tbl := tm_4 (List.mem_of_getElem? (i := 194) rfl)
theorem w_916 : (Jvm.Cond.laysFinal "NeedCodeModel" "NeedCodeModel" "values" "[I") ∈ lw_tbl := tm_4 (List.mem_of_getElem? (i := 196) rfl)
theorem w_918 : (Jvm.Cond.laysFinal "NeedCodeModel" "NeedCodeModel" "todo" "[I") ∈ lw_tbl := tm_4 (List.mem_of_getElem? (i := 198) rfl)
theorem w_920 : (Jvm.Cond.lays "NeedCodeModel" "NeedCodeModel" "todoMany" "I") ∈ lw_tbl := tm_4 (List.mem_of_getElem? (i := 200) rfl)
theorem w_922 : (Jvm.Cond.laysFinal "NeedCodeModel" "NeedCodeModel" "lines" "[I") ∈ lw_tbl := tm_4 (List.mem_of_getElem? (i := 202) rfl)
theorem w_924 : (Jvm.Cond.lays "NeedCodeModel" "NeedCodeModel" "lineMany" "I") ∈ lw_tbl := tm_4 (List.mem_of_getElem? (i := 204) rfl)
theorem w_926 : (Jvm.Cond.laysFinal "NeedCodeModel" "NeedCodeModel" "cellOf" "[I") ∈ lw_tbl := tm_4 (List.mem_of_getElem? (i := 206) rfl)
theorem w_928 : (Jvm.Cond.lays "NeedCodeModel" "NeedCodeModel" "cells" "I") ∈ lw_tbl := tm_4 (List.mem_of_getElem? (i := 208) rfl)
theorem w_930 : (Jvm.Cond.laysFinal "NeedCodeModel" "NeedCodeModel" "registers" "[I") ∈ lw_tbl := tm_4 (List.mem_of_getElem? (i := 210) rfl)
theorem w_932 : (Jvm.Cond.laysFinal "NeedCodeModel" "NeedCodeModel" "cell" "[I") ∈ lw_tbl := tm_4 (List.mem_of_getElem? (i := 212) rfl)
theorem w_934 : (Jvm.Cond.laysFinal "NeedCodeModel" "NeedCodeModel" "need" "[I") ∈ lw_tbl := tm_4 (List.mem_of_getElem? (i := 214) rfl)
theorem w_937 : (Jvm.Cond.arrayClass Jvm.ClassFile.FieldType.boolean) ∈ lw_tbl := tm_4 (List.mem_of_getElem? (i := 217) rfl)
theorem w_938 : (Jvm.Cond.methodLink "NeedCodeLaw" (17 : Nat) ({ cls := "NeedCodeModel", name := "type", desc := "(I)I" } : Jvm.MethodName)) ∈ lw_tbl := tm_4 (List.mem_of_getElem? (i := 218) rfl)
theorem w_939 : (Jvm.Cond.instanceMethod ({ cls := "NeedCodeModel", name := "type", desc := "(I)I" } : Jvm.MethodName)) ∈ lw_tbl := tm_4 (List.mem_of_getElem? (i := 219) rfl)
theorem w_940 : (Jvm.Cond.selects "NeedCodeModel" ({ cls := "NeedCodeModel", name := "type", desc := "(I)I" } : Jvm.MethodName) ({ cls := "NeedCodeModel", name := "type", desc := "(I)I" } : Jvm.MethodName)) ∈ lw_tbl := tm_4 (List.mem_of_getElem? (i := 220) rfl)
theorem w_941 : (Jvm.Cond.code ({ cls := "NeedCodeModel", name := "type", desc := "(I)I" } : Jvm.MethodName) prog_13_method_5_code (2 : Nat) (Option.some Jvm.ClassFile.FieldType.int)) ∈ lw_tbl := tm_4 (List.mem_of_getElem? (i := 221) rfl)
theorem w_942 : (Jvm.Cond.methodLink "NeedCodeModel" (78 : Nat) ({ cls := "NeedCodeModel", name := "in", desc := "(III)Z" } : Jvm.MethodName)) ∈ lw_tbl := tm_4 (List.mem_of_getElem? (i := 222) rfl)
theorem w_943 : (Jvm.Cond.static ({ cls := "NeedCodeModel", name := "in", desc := "(III)Z" } : Jvm.MethodName)) ∈ lw_tbl := tm_4 (List.mem_of_getElem? (i := 223) rfl)
theorem w_944 : (Jvm.Cond.code ({ cls := "NeedCodeModel", name := "in", desc := "(III)Z" } : Jvm.MethodName) prog_13_method_3_code (3 : Nat) (Option.some Jvm.ClassFile.FieldType.boolean)) ∈ lw_tbl := tm_4 (List.mem_of_getElem? (i := 224) rfl)
theorem w_945 : (Jvm.Cond.methodLink "NeedCodeLaw" (22 : Nat) ({ cls := "NeedCodeModel", name := "clear", desc := "()I" } : Jvm.MethodName)) ∈ lw_tbl := tm_4 (List.mem_of_getElem? (i := 225) rfl)
theorem w_946 : (Jvm.Cond.instanceMethod ({ cls := "NeedCodeModel", name := "clear", desc := "()I" } : Jvm.MethodName)) ∈ lw_tbl := tm_4 (List.mem_of_getElem? (i := 226) rfl)
theorem w_947 : (Jvm.Cond.selects "NeedCodeModel" ({ cls := "NeedCodeModel", name := "clear", desc := "()I" } : Jvm.MethodName) ({ cls := "NeedCodeModel", name := "clear", desc := "()I" } : Jvm.MethodName)) ∈ lw_tbl := tm_4 (List.mem_of_getElem? (i := 227) rfl)
theorem w_948 : (Jvm.Cond.code ({ cls := "NeedCodeModel", name := "clear", desc := "()I" } : Jvm.MethodName) prog_13_method_6_code (2 : Nat) (Option.some Jvm.ClassFile.FieldType.int)) ∈ lw_tbl := tm_4 (List.mem_of_getElem? (i := 228) rfl)
theorem w_949 : (Jvm.Cond.methodLink "NeedCodeLaw" (26 : Nat) ({ cls := "NeedCodeModel", name := "tree", desc := "()I" } : Jvm.MethodName)) ∈ lw_tbl := tm_4 (List.mem_of_getElem? (i := 229) rfl)
theorem w_950 : (Jvm.Cond.instanceMethod ({ cls := "NeedCodeModel", name := "tree", desc := "()I" } : Jvm.MethodName)) ∈ lw_tbl := tm_4 (List.mem_of_getElem? (i := 230) rfl)
theorem w_951 : (Jvm.Cond.selects "NeedCodeModel" ({ cls := "NeedCodeModel", name := "tree", desc := "()I" } : Jvm.MethodName) ({ cls := "NeedCodeModel", name := "tree", desc := "()I" } : Jvm.MethodName)) ∈ lw_tbl := tm_4 (List.mem_of_getElem? (i := 231) rfl)
theorem w_952 : (Jvm.Cond.code ({ cls := "NeedCodeModel", name := "tree", desc := "()I" } : Jvm.MethodName) prog_13_method_22_code (4 : Nat) (Option.some Jvm.ClassFile.FieldType.int)) ∈ lw_tbl := tm_4 (List.mem_of_getElem? (i := 232) rfl)
theorem w_953 : (Jvm.Cond.methodLink "NeedCodeModel" (105 : Nat) ({ cls := "NeedCodeModel", name := "isWell", desc := "()Z" } : Jvm.MethodName)) ∈ lw_tbl := tm_4 (List.mem_of_getElem? (i := 233) rfl)
theorem w_955 : (Jvm.Cond.instanceMethod ({ cls := "NeedCodeModel", name := "isWell", desc := "()Z" } : Jvm.MethodName)) ∈ lw_tbl := tm_4 (List.mem_of_getElem? (i := 235) rfl)
theorem w_956 : (Jvm.Cond.code ({ cls := "NeedCodeModel", name := "isWell", desc := "()Z" } : Jvm.MethodName) prog_13_method_13_code (1 : Nat) (Option.some Jvm.ClassFile.FieldType.boolean)) ∈ lw_tbl := tm_4 (List.mem_of_getElem? (i := 236) rfl)
theorem w_957 : (Jvm.Cond.methodLink "NeedCodeModel" (133 : Nat) ({ cls := "NeedCodeModel", name := "blanks", desc := "()V" } : Jvm.MethodName)) ∈ lw_tbl := tm_4 (List.mem_of_getElem? (i := 237) rfl)
theorem w_959 : (Jvm.Cond.instanceMethod ({ cls := "NeedCodeModel", name := "blanks", desc := "()V" } : Jvm.MethodName)) ∈ lw_tbl := tm_4 (List.mem_of_getElem? (i := 239) rfl)
theorem w_960 : (Jvm.Cond.code ({ cls := "NeedCodeModel", name := "blanks", desc := "()V" } : Jvm.MethodName) prog_13_method_12_code (1 : Nat) (Option.none : Option Jvm.ClassFile.FieldType)) ∈ lw_tbl := tm_5 (List.mem_of_getElem? (i := 0) rfl)
theorem w_961 : (Jvm.Cond.methodLink "NeedCodeModel" (88 : Nat) ({ cls := "NeedCodeModel", name := "letterAt", desc := "(I)I" } : Jvm.MethodName)) ∈ lw_tbl := tm_5 (List.mem_of_getElem? (i := 1) rfl)
theorem w_963 : (Jvm.Cond.instanceMethod ({ cls := "NeedCodeModel", name := "letterAt", desc := "(I)I" } : Jvm.MethodName)) ∈ lw_tbl := tm_5 (List.mem_of_getElem? (i := 3) rfl)
theorem w_964 : (Jvm.Cond.code ({ cls := "NeedCodeModel", name := "letterAt", desc := "(I)I" } : Jvm.MethodName) prog_13_method_7_code (2 : Nat) (Option.some Jvm.ClassFile.FieldType.int)) ∈ lw_tbl := tm_5 (List.mem_of_getElem? (i := 4) rfl)
theorem w_965 : (Jvm.Cond.methodLink "NeedCodeModel" (136 : Nat) ({ cls := "NeedCodeModel", name := "readsPart", desc := "()Z" } : Jvm.MethodName)) ∈ lw_tbl := tm_5 (List.mem_of_getElem? (i := 5) rfl)
theorem w_967 : (Jvm.Cond.instanceMethod ({ cls := "NeedCodeModel", name := "readsPart", desc := "()Z" } : Jvm.MethodName)) ∈ lw_tbl := tm_5 (List.mem_of_getElem? (i := 7) rfl)
theorem w_968 : (Jvm.Cond.code ({ cls := "NeedCodeModel", name := "readsPart", desc := "()Z" } : Jvm.MethodName) prog_13_method_20_code (2 : Nat) (Option.some Jvm.ClassFile.FieldType.boolean)) ∈ lw_tbl := tm_5 (List.mem_of_getElem? (i := 8) rfl)
theorem w_969 : (Jvm.Cond.methodLink "NeedCodeModel" (120 : Nat) ({ cls := "NeedCodeModel", name := "waits", desc := "(I)V" } : Jvm.MethodName)) ∈ lw_tbl := tm_5 (List.mem_of_getElem? (i := 9) rfl)
theorem w_971 : (Jvm.Cond.instanceMethod ({ cls := "NeedCodeModel", name := "waits", desc := "(I)V" } : Jvm.MethodName)) ∈ lw_tbl := tm_5 (List.mem_of_getElem? (i := 11) rfl)
theorem w_972 : (Jvm.Cond.code ({ cls := "NeedCodeModel", name := "waits", desc := "(I)V" } : Jvm.MethodName) prog_13_method_15_code (2 : Nat) (Option.none : Option Jvm.ClassFile.FieldType)) ∈ lw_tbl := tm_5 (List.mem_of_getElem? (i := 12) rfl)
theorem w_973 : (Jvm.Cond.methodLink "NeedCodeModel" (124 : Nat) ({ cls := "NeedCodeModel", name := "readsNumber", desc := "()V" } : Jvm.MethodName)) ∈ lw_tbl := tm_5 (List.mem_of_getElem? (i := 13) rfl)
theorem w_975 : (Jvm.Cond.instanceMethod ({ cls := "NeedCodeModel", name := "readsNumber", desc := "()V" } : Jvm.MethodName)) ∈ lw_tbl := tm_5 (List.mem_of_getElem? (i := 15) rfl)
theorem w_976 : (Jvm.Cond.code ({ cls := "NeedCodeModel", name := "readsNumber", desc := "()V" } : Jvm.MethodName) prog_13_method_19_code (3 : Nat) (Option.none : Option Jvm.ClassFile.FieldType)) ∈ lw_tbl := tm_5 (List.mem_of_getElem? (i := 16) rfl)
theorem w_977 : (Jvm.Cond.methodLink "NeedCodeModel" (101 : Nat) ({ cls := "NeedCodeModel", name := "makes", desc := "(IIIII)V" } : Jvm.MethodName)) ∈ lw_tbl := tm_5 (List.mem_of_getElem? (i := 17) rfl)
theorem w_979 : (Jvm.Cond.instanceMethod ({ cls := "NeedCodeModel", name := "makes", desc := "(IIIII)V" } : Jvm.MethodName)) ∈ lw_tbl := tm_5 (List.mem_of_getElem? (i := 19) rfl)
theorem w_980 : (Jvm.Cond.code ({ cls := "NeedCodeModel", name := "makes", desc := "(IIIII)V" } : Jvm.MethodName) prog_13_method_14_code (7 : Nat) (Option.none : Option Jvm.ClassFile.FieldType)) ∈ lw_tbl := tm_5 (List.mem_of_getElem? (i := 20) rfl)
theorem w_981 : (Jvm.Cond.methodLink "NeedCodeModel" (130 : Nat) ({ cls := "NeedCodeModel", name := "partDone", desc := "()V" } : Jvm.MethodName)) ∈ lw_tbl := tm_5 (List.mem_of_getElem? (i := 21) rfl)
theorem w_983 : (Jvm.Cond.instanceMethod ({ cls := "NeedCodeModel", name := "partDone", desc := "()V" } : Jvm.MethodName)) ∈ lw_tbl := tm_5 (List.mem_of_getElem? (i := 23) rfl)
theorem w_984 : (Jvm.Cond.code ({ cls := "NeedCodeModel", name := "partDone", desc := "()V" } : Jvm.MethodName) prog_13_method_18_code (1 : Nat) (Option.none : Option Jvm.ClassFile.FieldType)) ∈ lw_tbl := tm_5 (List.mem_of_getElem? (i := 24) rfl)
theorem w_985 : (Jvm.Cond.methodLink "NeedCodeModel" (109 : Nat) ({ cls := "NeedCodeModel", name := "lastWaiting", desc := "()I" } : Jvm.MethodName)) ∈ lw_tbl := tm_5 (List.mem_of_getElem? (i := 25) rfl)
theorem w_987 : (Jvm.Cond.instanceMethod ({ cls := "NeedCodeModel", name := "lastWaiting", desc := "()I" } : Jvm.MethodName)) ∈ lw_tbl := tm_5 (List.mem_of_getElem? (i := 27) rfl)
theorem w_988 : (Jvm.Cond.code ({ cls := "NeedCodeModel", name := "lastWaiting", desc := "()I" } : Jvm.MethodName) prog_13_method_17_code (1 : Nat) (Option.some Jvm.ClassFile.FieldType.int)) ∈ lw_tbl := tm_5 (List.mem_of_getElem? (i := 28) rfl)
theorem w_989 : (Jvm.Cond.methodLink "NeedCodeModel" (113 : Nat) ({ cls := "NeedCodeModel", name := "isProduct", desc := "(I)Z" } : Jvm.MethodName)) ∈ lw_tbl := tm_5 (List.mem_of_getElem? (i := 29) rfl)
theorem w_990 : (Jvm.Cond.static ({ cls := "NeedCodeModel", name := "isProduct", desc := "(I)Z" } : Jvm.MethodName)) ∈ lw_tbl := tm_5 (List.mem_of_getElem? (i := 30) rfl)
theorem w_991 : (Jvm.Cond.code ({ cls := "NeedCodeModel", name := "isProduct", desc := "(I)Z" } : Jvm.MethodName) prog_13_method_10_code (1 : Nat) (Option.some Jvm.ClassFile.FieldType.boolean)) ∈ lw_tbl := tm_5 (List.mem_of_getElem? (i := 31) rfl)
theorem w_992 : (Jvm.Cond.methodLink "NeedCodeModel" (117 : Nat) ({ cls := "NeedCodeModel", name := "doesLast", desc := "()V" } : Jvm.MethodName)) ∈ lw_tbl := tm_5 (List.mem_of_getElem? (i := 32) rfl)
theorem w_994 : (Jvm.Cond.instanceMethod ({ cls := "NeedCodeModel", name := "doesLast", desc := "()V" } : Jvm.MethodName)) ∈ lw_tbl := tm_5 (List.mem_of_getElem? (i := 34) rfl)
theorem w_995 : (Jvm.Cond.code ({ cls := "NeedCodeModel", name := "doesLast", desc := "()V" } : Jvm.MethodName) prog_13_method_16_code (4 : Nat) (Option.none : Option Jvm.ClassFile.FieldType)) ∈ lw_tbl := tm_5 (List.mem_of_getElem? (i := 35) rfl)
theorem w_996 : (Jvm.Cond.methodLink "NeedCodeModel" (139 : Nat) ({ cls := "NeedCodeModel", name := "readsBehind", desc := "()Z" } : Jvm.MethodName)) ∈ lw_tbl := tm_5 (List.mem_of_getElem? (i := 36) rfl)
theorem w_998 : (Jvm.Cond.instanceMethod ({ cls := "NeedCodeModel", name := "readsBehind", desc := "()Z" } : Jvm.MethodName)) ∈ lw_tbl := tm_5 (List.mem_of_getElem? (i := 38) rfl)
theorem w_999 : (Jvm.Cond.code ({ cls := "NeedCodeModel", name := "readsBehind", desc := "()Z" } : Jvm.MethodName) prog_13_method_21_code (2 : Nat) (Option.some Jvm.ClassFile.FieldType.boolean)) ∈ lw_tbl := tm_5 (List.mem_of_getElem? (i := 39) rfl)
theorem w_1000 : (Jvm.Cond.methodLink "NeedCodeModel" (127 : Nat) ({ cls := "NeedCodeModel", name := "isSum", desc := "(I)Z" } : Jvm.MethodName)) ∈ lw_tbl := tm_5 (List.mem_of_getElem? (i := 40) rfl)
theorem w_1001 : (Jvm.Cond.static ({ cls := "NeedCodeModel", name := "isSum", desc := "(I)Z" } : Jvm.MethodName)) ∈ lw_tbl := tm_5 (List.mem_of_getElem? (i := 41) rfl)
theorem w_1002 : (Jvm.Cond.code ({ cls := "NeedCodeModel", name := "isSum", desc := "(I)Z" } : Jvm.MethodName) prog_13_method_11_code (1 : Nat) (Option.some Jvm.ClassFile.FieldType.boolean)) ∈ lw_tbl := tm_5 (List.mem_of_getElem? (i := 42) rfl)
theorem w_1003 : (Jvm.Cond.methodLink "NeedCodeLaw" (31 : Nat) ({ cls := "NeedCodeModel", name := "node", desc := "(II)I" } : Jvm.MethodName)) ∈ lw_tbl := tm_5 (List.mem_of_getElem? (i := 43) rfl)
theorem w_1004 : (Jvm.Cond.instanceMethod ({ cls := "NeedCodeModel", name := "node", desc := "(II)I" } : Jvm.MethodName)) ∈ lw_tbl := tm_5 (List.mem_of_getElem? (i := 44) rfl)
theorem w_1005 : (Jvm.Cond.selects "NeedCodeModel" ({ cls := "NeedCodeModel", name := "node", desc := "(II)I" } : Jvm.MethodName) ({ cls := "NeedCodeModel", name := "node", desc := "(II)I" } : Jvm.MethodName)) ∈ lw_tbl := tm_5 (List.mem_of_getElem? (i := 45) rfl)
theorem w_1006 : (Jvm.Cond.code ({ cls := "NeedCodeModel", name := "node", desc := "(II)I" } : Jvm.MethodName) prog_13_method_33_code (3 : Nat) (Option.some Jvm.ClassFile.FieldType.int)) ∈ lw_tbl := tm_5 (List.mem_of_getElem? (i := 46) rfl)
theorem w_1007 : (Jvm.Cond.methodLink "NeedCodeModel" (172 : Nat) ({ cls := "NeedCodeModel", name := "isNode", desc := "(I)Z" } : Jvm.MethodName)) ∈ lw_tbl := tm_5 (List.mem_of_getElem? (i := 47) rfl)
theorem w_1009 : (Jvm.Cond.instanceMethod ({ cls := "NeedCodeModel", name := "isNode", desc := "(I)Z" } : Jvm.MethodName)) ∈ lw_tbl := tm_5 (List.mem_of_getElem? (i := 49) rfl)
theorem w_1010 : (Jvm.Cond.code ({ cls := "NeedCodeModel", name := "isNode", desc := "(I)Z" } : Jvm.MethodName) prog_13_method_23_code (2 : Nat) (Option.some Jvm.ClassFile.FieldType.boolean)) ∈ lw_tbl := tm_5 (List.mem_of_getElem? (i := 50) rfl)
theorem w_1011 : (Jvm.Cond.methodLink "NeedCodeModel" (175 : Nat) ({ cls := "NeedCodeModel", name := "needOf", desc := "(IZ)I" } : Jvm.MethodName)) ∈ lw_tbl := tm_5 (List.mem_of_getElem? (i := 51) rfl)
theorem w_1013 : (Jvm.Cond.instanceMethod ({ cls := "NeedCodeModel", name := "needOf", desc := "(IZ)I" } : Jvm.MethodName)) ∈ lw_tbl := tm_5 (List.mem_of_getElem? (i := 53) rfl)
theorem w_1014 : (Jvm.Cond.code ({ cls := "NeedCodeModel", name := "needOf", desc := "(IZ)I" } : Jvm.MethodName) prog_13_method_30_code (8 : Nat) (Option.some Jvm.ClassFile.FieldType.int)) ∈ lw_tbl := tm_5 (List.mem_of_getElem? (i := 54) rfl)
theorem w_1015 : (Jvm.Cond.methodLink "NeedCodeModel" (154 : Nat) ({ cls := "NeedCodeModel", name := "needAs", desc := "(IZ)I" } : Jvm.MethodName)) ∈ lw_tbl := tm_5 (List.mem_of_getElem? (i := 55) rfl)
theorem w_1017 : (Jvm.Cond.instanceMethod ({ cls := "NeedCodeModel", name := "needAs", desc := "(IZ)I" } : Jvm.MethodName)) ∈ lw_tbl := tm_5 (List.mem_of_getElem? (i := 57) rfl)
theorem w_1018 : (Jvm.Cond.code ({ cls := "NeedCodeModel", name := "needAs", desc := "(IZ)I" } : Jvm.MethodName) prog_13_method_29_code (3 : Nat) (Option.some Jvm.ClassFile.FieldType.int)) ∈ lw_tbl := tm_5 (List.mem_of_getElem? (i := 58) rfl)
theorem w_1019 : (Jvm.Cond.methodLink "NeedCodeModel" (151 : Nat) ({ cls := "NeedCodeModel", name := "isLeaf", desc := "(I)Z" } : Jvm.MethodName)) ∈ lw_tbl := tm_5 (List.mem_of_getElem? (i := 59) rfl)
theorem w_1021 : (Jvm.Cond.instanceMethod ({ cls := "NeedCodeModel", name := "isLeaf", desc := "(I)Z" } : Jvm.MethodName)) ∈ lw_tbl := tm_5 (List.mem_of_getElem? (i := 61) rfl)
theorem w_1022 : (Jvm.Cond.code ({ cls := "NeedCodeModel", name := "isLeaf", desc := "(I)Z" } : Jvm.MethodName) prog_13_method_24_code (2 : Nat) (Option.some Jvm.ClassFile.FieldType.boolean)) ∈ lw_tbl := tm_5 (List.mem_of_getElem? (i := 62) rfl)
theorem w_1023 : (Jvm.Cond.methodLink "NeedCodeModel" (145 : Nat) ({ cls := "NeedCodeModel", name := "isOperator", desc := "(I)Z" } : Jvm.MethodName)) ∈ lw_tbl := tm_5 (List.mem_of_getElem? (i := 63) rfl)
theorem w_1024 : (Jvm.Cond.static ({ cls := "NeedCodeModel", name := "isOperator", desc := "(I)Z" } : Jvm.MethodName)) ∈ lw_tbl := tm_5 (List.mem_of_getElem? (i := 64) rfl)
theorem w_1025 : (Jvm.Cond.code ({ cls := "NeedCodeModel", name := "isOperator", desc := "(I)Z" } : Jvm.MethodName) prog_13_method_8_code (1 : Nat) (Option.some Jvm.ClassFile.FieldType.boolean)) ∈ lw_tbl := tm_5 (List.mem_of_getElem? (i := 65) rfl)
theorem w_1026 : (Jvm.Cond.methodLink "NeedCodeModel" (158 : Nat) ({ cls := "NeedCodeModel", name := "needs", desc := "(II)I" } : Jvm.MethodName)) ∈ lw_tbl := tm_5 (List.mem_of_getElem? (i := 66) rfl)
theorem w_1027 : (Jvm.Cond.static ({ cls := "NeedCodeModel", name := "needs", desc := "(II)I" } : Jvm.MethodName)) ∈ lw_tbl := tm_5 (List.mem_of_getElem? (i := 67) rfl)
theorem w_1028 : (Jvm.Cond.code ({ cls := "NeedCodeModel", name := "needs", desc := "(II)I" } : Jvm.MethodName) prog_13_method_28_code (2 : Nat) (Option.some Jvm.ClassFile.FieldType.int)) ∈ lw_tbl := tm_5 (List.mem_of_getElem? (i := 68) rfl)
theorem w_1029 : (Jvm.Cond.methodLink "NeedCodeModel" (162 : Nat) ({ cls := "NeedCodeModel", name := "commutes", desc := "(I)Z" } : Jvm.MethodName)) ∈ lw_tbl := tm_5 (List.mem_of_getElem? (i := 69) rfl)
theorem w_1030 : (Jvm.Cond.static ({ cls := "NeedCodeModel", name := "commutes", desc := "(I)Z" } : Jvm.MethodName)) ∈ lw_tbl := tm_5 (List.mem_of_getElem? (i := 70) rfl)
theorem w_1031 : (Jvm.Cond.code ({ cls := "NeedCodeModel", name := "commutes", desc := "(I)Z" } : Jvm.MethodName) prog_13_method_9_code (1 : Nat) (Option.some Jvm.ClassFile.FieldType.boolean)) ∈ lw_tbl := tm_5 (List.mem_of_getElem? (i := 71) rfl)
theorem w_1032 : (Jvm.Cond.methodLink "NeedCodeModel" (165 : Nat) ({ cls := "NeedCodeModel", name := "isRight", desc := "(I)Z" } : Jvm.MethodName)) ∈ lw_tbl := tm_5 (List.mem_of_getElem? (i := 72) rfl)
theorem w_1034 : (Jvm.Cond.instanceMethod ({ cls := "NeedCodeModel", name := "isRight", desc := "(I)Z" } : Jvm.MethodName)) ∈ lw_tbl := tm_5 (List.mem_of_getElem? (i := 74) rfl)
theorem w_1035 : (Jvm.Cond.code ({ cls := "NeedCodeModel", name := "isRight", desc := "(I)Z" } : Jvm.MethodName) prog_13_method_27_code (4 : Nat) (Option.some Jvm.ClassFile.FieldType.boolean)) ∈ lw_tbl := tm_5 (List.mem_of_getElem? (i := 75) rfl)
theorem w_1036 : (Jvm.Cond.methodLink "NeedCodeModel" (178 : Nat) ({ cls := "NeedCodeModel", name := "mayTrap", desc := "(I)Z" } : Jvm.MethodName)) ∈ lw_tbl := tm_5 (List.mem_of_getElem? (i := 76) rfl)
theorem w_1038 : (Jvm.Cond.instanceMethod ({ cls := "NeedCodeModel", name := "mayTrap", desc := "(I)Z" } : Jvm.MethodName)) ∈ lw_tbl := tm_5 (List.mem_of_getElem? (i := 78) rfl)
theorem w_1039 : (Jvm.Cond.code ({ cls := "NeedCodeModel", name := "mayTrap", desc := "(I)Z" } : Jvm.MethodName) prog_13_method_26_code (4 : Nat) (Option.some Jvm.ClassFile.FieldType.boolean)) ∈ lw_tbl := tm_5 (List.mem_of_getElem? (i := 79) rfl)
theorem w_1040 : (Jvm.Cond.methodLink "NeedCodeModel" (148 : Nat) ({ cls := "NeedCodeModel", name := "sizeOf", desc := "(I)I" } : Jvm.MethodName)) ∈ lw_tbl := tm_5 (List.mem_of_getElem? (i := 80) rfl)
theorem w_1042 : (Jvm.Cond.instanceMethod ({ cls := "NeedCodeModel", name := "sizeOf", desc := "(I)I" } : Jvm.MethodName)) ∈ lw_tbl := tm_5 (List.mem_of_getElem? (i := 82) rfl)
theorem w_1043 : (Jvm.Cond.code ({ cls := "NeedCodeModel", name := "sizeOf", desc := "(I)I" } : Jvm.MethodName) prog_13_method_25_code (3 : Nat) (Option.some Jvm.ClassFile.FieldType.int)) ∈ lw_tbl := tm_5 (List.mem_of_getElem? (i := 83) rfl)
theorem w_1044 : (Jvm.Cond.methodLink "NeedCodeModel" (181 : Nat) ({ cls := "NeedCodeModel", name := "lowestAlike", desc := "(I)I" } : Jvm.MethodName)) ∈ lw_tbl := tm_5 (List.mem_of_getElem? (i := 84) rfl)
theorem w_1046 : (Jvm.Cond.instanceMethod ({ cls := "NeedCodeModel", name := "lowestAlike", desc := "(I)I" } : Jvm.MethodName)) ∈ lw_tbl := tm_5 (List.mem_of_getElem? (i := 86) rfl)
theorem w_1047 : (Jvm.Cond.code ({ cls := "NeedCodeModel", name := "lowestAlike", desc := "(I)I" } : Jvm.MethodName) prog_13_method_32_code (3 : Nat) (Option.some Jvm.ClassFile.FieldType.int)) ∈ lw_tbl := tm_5 (List.mem_of_getElem? (i := 87) rfl)
theorem w_1048 : (Jvm.Cond.methodLink "NeedCodeModel" (168 : Nat) ({ cls := "NeedCodeModel", name := "isAlike", desc := "(II)Z" } : Jvm.MethodName)) ∈ lw_tbl := tm_5 (List.mem_of_getElem? (i := 88) rfl)
theorem w_1050 : (Jvm.Cond.instanceMethod ({ cls := "NeedCodeModel", name := "isAlike", desc := "(II)Z" } : Jvm.MethodName)) ∈ lw_tbl := tm_5 (List.mem_of_getElem? (i := 90) rfl)
theorem w_1051 : (Jvm.Cond.code ({ cls := "NeedCodeModel", name := "isAlike", desc := "(II)Z" } : Jvm.MethodName) prog_13_method_31_code (8 : Nat) (Option.some Jvm.ClassFile.FieldType.boolean)) ∈ lw_tbl := tm_5 (List.mem_of_getElem? (i := 91) rfl)
theorem w_1052 : (Jvm.Cond.methodLink "NeedCodeLaw" (35 : Nat) ({ cls := "NeedCodeModel", name := "value", desc := "(I)I" } : Jvm.MethodName)) ∈ lw_tbl := tm_5 (List.mem_of_getElem? (i := 92) rfl)
theorem w_1053 : (Jvm.Cond.instanceMethod ({ cls := "NeedCodeModel", name := "value", desc := "(I)I" } : Jvm.MethodName)) ∈ lw_tbl := tm_5 (List.mem_of_getElem? (i := 93) rfl)
theorem w_1054 : (Jvm.Cond.selects "NeedCodeModel" ({ cls := "NeedCodeModel", name := "value", desc := "(I)I" } : Jvm.MethodName) ({ cls := "NeedCodeModel", name := "value", desc := "(I)I" } : Jvm.MethodName)) ∈ lw_tbl := tm_5 (List.mem_of_getElem? (i := 94) rfl)
theorem w_1055 : (Jvm.Cond.code ({ cls := "NeedCodeModel", name := "value", desc := "(I)I" } : Jvm.MethodName) prog_13_method_37_code (6 : Nat) (Option.some Jvm.ClassFile.FieldType.int)) ∈ lw_tbl := tm_5 (List.mem_of_getElem? (i := 95) rfl)
theorem w_1056 : (Jvm.Cond.methodLink "NeedCodeModel" (184 : Nat) ({ cls := "NeedCodeModel", name := "leafValue", desc := "(I)I" } : Jvm.MethodName)) ∈ lw_tbl := tm_5 (List.mem_of_getElem? (i := 96) rfl)
theorem w_1058 : (Jvm.Cond.instanceMethod ({ cls := "NeedCodeModel", name := "leafValue", desc := "(I)I" } : Jvm.MethodName)) ∈ lw_tbl := tm_5 (List.mem_of_getElem? (i := 98) rfl)
theorem w_1059 : (Jvm.Cond.code ({ cls := "NeedCodeModel", name := "leafValue", desc := "(I)I" } : Jvm.MethodName) prog_13_method_36_code (2 : Nat) (Option.some Jvm.ClassFile.FieldType.int)) ∈ lw_tbl := tm_5 (List.mem_of_getElem? (i := 99) rfl)
theorem w_1060 : (Jvm.Cond.methodLink "NeedCodeModel" (187 : Nat) ({ cls := "NeedCodeModel", name := "traps", desc := "(III)Z" } : Jvm.MethodName)) ∈ lw_tbl := tm_5 (List.mem_of_getElem? (i := 100) rfl)
theorem w_1061 : (Jvm.Cond.static ({ cls := "NeedCodeModel", name := "traps", desc := "(III)Z" } : Jvm.MethodName)) ∈ lw_tbl := tm_5 (List.mem_of_getElem? (i := 101) rfl)
theorem w_1062 : (Jvm.Cond.code ({ cls := "NeedCodeModel", name := "traps", desc := "(III)Z" } : Jvm.MethodName) prog_13_method_34_code (5 : Nat) (Option.some Jvm.ClassFile.FieldType.boolean)) ∈ lw_tbl := tm_5 (List.mem_of_getElem? (i := 102) rfl)
theorem w_1063 : (Jvm.Cond.methodLink "NeedCodeModel" (190 : Nat) ({ cls := "NeedCodeModel", name := "makesOf", desc := "(III)I" } : Jvm.MethodName)) ∈ lw_tbl := tm_5 (List.mem_of_getElem? (i := 103) rfl)
theorem w_1064 : (Jvm.Cond.static ({ cls := "NeedCodeModel", name := "makesOf", desc := "(III)I" } : Jvm.MethodName)) ∈ lw_tbl := tm_5 (List.mem_of_getElem? (i := 104) rfl)
theorem w_1065 : (Jvm.Cond.code ({ cls := "NeedCodeModel", name := "makesOf", desc := "(III)I" } : Jvm.MethodName) prog_13_method_35_code (3 : Nat) (Option.some Jvm.ClassFile.FieldType.int)) ∈ lw_tbl := tm_5 (List.mem_of_getElem? (i := 105) rfl)
theorem w_1066 : (Jvm.Cond.methodLink "NeedCodeLaw" (39 : Nat) ({ cls := "NeedCodeModel", name := "cost", desc := "(II)I" } : Jvm.MethodName)) ∈ lw_tbl := tm_5 (List.mem_of_getElem? (i := 106) rfl)
theorem w_1067 : (Jvm.Cond.instanceMethod ({ cls := "NeedCodeModel", name := "cost", desc := "(II)I" } : Jvm.MethodName)) ∈ lw_tbl := tm_5 (List.mem_of_getElem? (i := 107) rfl)
theorem w_1068 : (Jvm.Cond.selects "NeedCodeModel" ({ cls := "NeedCodeModel", name := "cost", desc := "(II)I" } : Jvm.MethodName) ({ cls := "NeedCodeModel", name := "cost", desc := "(II)I" } : Jvm.MethodName)) ∈ lw_tbl := tm_5 (List.mem_of_getElem? (i := 108) rfl)
theorem w_1069 : (Jvm.Cond.code ({ cls := "NeedCodeModel", name := "cost", desc := "(II)I" } : Jvm.MethodName) prog_13_method_45_code (3 : Nat) (Option.some Jvm.ClassFile.FieldType.int)) ∈ lw_tbl := tm_5 (List.mem_of_getElem? (i := 109) rfl)
theorem w_1070 : (Jvm.Cond.methodLink "NeedCodeModel" (213 : Nat) ({ cls := "NeedCodeModel", name := "isRegisters", desc := "(I)Z" } : Jvm.MethodName)) ∈ lw_tbl := tm_5 (List.mem_of_getElem? (i := 110) rfl)
theorem w_1072 : (Jvm.Cond.instanceMethod ({ cls := "NeedCodeModel", name := "isRegisters", desc := "(I)Z" } : Jvm.MethodName)) ∈ lw_tbl := tm_5 (List.mem_of_getElem? (i := 112) rfl)
theorem w_1073 : (Jvm.Cond.code ({ cls := "NeedCodeModel", name := "isRegisters", desc := "(I)Z" } : Jvm.MethodName) prog_13_method_44_code (2 : Nat) (Option.some Jvm.ClassFile.FieldType.boolean)) ∈ lw_tbl := tm_5 (List.mem_of_getElem? (i := 113) rfl)
theorem w_1074 : (Jvm.Cond.methodLink "NeedCodeModel" (210 : Nat) ({ cls := "NeedCodeModel", name := "reckonsAll", desc := "()V" } : Jvm.MethodName)) ∈ lw_tbl := tm_5 (List.mem_of_getElem? (i := 114) rfl)
theorem w_1076 : (Jvm.Cond.instanceMethod ({ cls := "NeedCodeModel", name := "reckonsAll", desc := "()V" } : Jvm.MethodName)) ∈ lw_tbl := tm_5 (List.mem_of_getElem? (i := 116) rfl)
theorem w_1077 : (Jvm.Cond.code ({ cls := "NeedCodeModel", name := "reckonsAll", desc := "()V" } : Jvm.MethodName) prog_13_method_42_code (2 : Nat) (Option.none : Option Jvm.ClassFile.FieldType)) ∈ lw_tbl := tm_5 (List.mem_of_getElem? (i := 117) rfl)
theorem w_1078 : (Jvm.Cond.methodLink "NeedCodeModel" (207 : Nat) ({ cls := "NeedCodeModel", name := "reckons", desc := "()V" } : Jvm.MethodName)) ∈ lw_tbl := tm_5 (List.mem_of_getElem? (i := 118) rfl)
theorem w_1080 : (Jvm.Cond.instanceMethod ({ cls := "NeedCodeModel", name := "reckons", desc := "()V" } : Jvm.MethodName)) ∈ lw_tbl := tm_5 (List.mem_of_getElem? (i := 120) rfl)
theorem w_1081 : (Jvm.Cond.code ({ cls := "NeedCodeModel", name := "reckons", desc := "()V" } : Jvm.MethodName) prog_13_method_41_code (7 : Nat) (Option.none : Option Jvm.ClassFile.FieldType)) ∈ lw_tbl := tm_5 (List.mem_of_getElem? (i := 121) rfl)
theorem w_1082 : (Jvm.Cond.constant "NeedCodeModel" (200 : Nat) (99999 : Int32)) ∈ lw_tbl := tm_5 (List.mem_of_getElem? (i := 122) rfl)
theorem w_1083 : (Jvm.Cond.methodLink "NeedCodeModel" (197 : Nat) ({ cls := "NeedCodeModel", name := "costAt", desc := "(II)I" } : Jvm.MethodName)) ∈ lw_tbl := tm_5 (List.mem_of_getElem? (i := 123) rfl)
theorem w_1085 : (Jvm.Cond.instanceMethod ({ cls := "NeedCodeModel", name := "costAt", desc := "(II)I" } : Jvm.MethodName)) ∈ lw_tbl := tm_5 (List.mem_of_getElem? (i := 125) rfl)
theorem w_1086 : (Jvm.Cond.code ({ cls := "NeedCodeModel", name := "costAt", desc := "(II)I" } : Jvm.MethodName) prog_13_method_38_code (3 : Nat) (Option.some Jvm.ClassFile.FieldType.int)) ∈ lw_tbl := tm_5 (List.mem_of_getElem? (i := 126) rfl)
theorem w_1087 : (Jvm.Cond.methodLink "NeedCodeModel" (204 : Nat) ({ cls := "NeedCodeModel", name := "costBy", desc := "(III)I" } : Jvm.MethodName)) ∈ lw_tbl := tm_5 (List.mem_of_getElem? (i := 127) rfl)
theorem w_1089 : (Jvm.Cond.instanceMethod ({ cls := "NeedCodeModel", name := "costBy", desc := "(III)I" } : Jvm.MethodName)) ∈ lw_tbl := tm_5 (List.mem_of_getElem? (i := 129) rfl)
theorem w_1090 : (Jvm.Cond.code ({ cls := "NeedCodeModel", name := "costBy", desc := "(III)I" } : Jvm.MethodName) prog_13_method_40_code (8 : Nat) (Option.some Jvm.ClassFile.FieldType.int)) ∈ lw_tbl := tm_5 (List.mem_of_getElem? (i := 130) rfl)
theorem w_1091 : (Jvm.Cond.methodLink "NeedCodeModel" (201 : Nat) ({ cls := "NeedCodeModel", name := "keptAt", desc := "(II)I" } : Jvm.MethodName)) ∈ lw_tbl := tm_5 (List.mem_of_getElem? (i := 131) rfl)
theorem w_1093 : (Jvm.Cond.instanceMethod ({ cls := "NeedCodeModel", name := "keptAt", desc := "(II)I" } : Jvm.MethodName)) ∈ lw_tbl := tm_5 (List.mem_of_getElem? (i := 133) rfl)
theorem w_1094 : (Jvm.Cond.code ({ cls := "NeedCodeModel", name := "keptAt", desc := "(II)I" } : Jvm.MethodName) prog_13_method_39_code (3 : Nat) (Option.some Jvm.ClassFile.FieldType.int)) ∈ lw_tbl := tm_5 (List.mem_of_getElem? (i := 134) rfl)
theorem w_1095 : (Jvm.Cond.methodLink "NeedCodeLaw" (43 : Nat) ({ cls := "NeedCodeModel", name := "way", desc := "(II)I" } : Jvm.MethodName)) ∈ lw_tbl := tm_5 (List.mem_of_getElem? (i := 135) rfl)
theorem w_1096 : (Jvm.Cond.instanceMethod ({ cls := "NeedCodeModel", name := "way", desc := "(II)I" } : Jvm.MethodName)) ∈ lw_tbl := tm_5 (List.mem_of_getElem? (i := 136) rfl)
theorem w_1097 : (Jvm.Cond.selects "NeedCodeModel" ({ cls := "NeedCodeModel", name := "way", desc := "(II)I" } : Jvm.MethodName) ({ cls := "NeedCodeModel", name := "way", desc := "(II)I" } : Jvm.MethodName)) ∈ lw_tbl := tm_5 (List.mem_of_getElem? (i := 137) rfl)
theorem w_1098 : (Jvm.Cond.code ({ cls := "NeedCodeModel", name := "way", desc := "(II)I" } : Jvm.MethodName) prog_13_method_46_code (3 : Nat) (Option.some Jvm.ClassFile.FieldType.int)) ∈ lw_tbl := tm_5 (List.mem_of_getElem? (i := 138) rfl)
theorem w_1099 : (Jvm.Cond.methodLink "NeedCodeLaw" (47 : Nat) ({ cls := "NeedCodeModel", name := "program", desc := "(II)I" } : Jvm.MethodName)) ∈ lw_tbl := tm_5 (List.mem_of_getElem? (i := 139) rfl)
theorem w_1100 : (Jvm.Cond.instanceMethod ({ cls := "NeedCodeModel", name := "program", desc := "(II)I" } : Jvm.MethodName)) ∈ lw_tbl := tm_5 (List.mem_of_getElem? (i := 140) rfl)
theorem w_1101 : (Jvm.Cond.selects "NeedCodeModel" ({ cls := "NeedCodeModel", name := "program", desc := "(II)I" } : Jvm.MethodName) ({ cls := "NeedCodeModel", name := "program", desc := "(II)I" } : Jvm.MethodName)) ∈ lw_tbl := tm_5 (List.mem_of_getElem? (i := 141) rfl)
theorem w_1102 : (Jvm.Cond.code ({ cls := "NeedCodeModel", name := "program", desc := "(II)I" } : Jvm.MethodName) prog_13_method_53_code (3 : Nat) (Option.some Jvm.ClassFile.FieldType.int)) ∈ lw_tbl := tm_5 (List.mem_of_getElem? (i := 142) rfl)
theorem w_1103 : (Jvm.Cond.methodLink "NeedCodeModel" (241 : Nat) ({ cls := "NeedCodeModel", name := "programs", desc := "(I)V" } : Jvm.MethodName)) ∈ lw_tbl := tm_5 (List.mem_of_getElem? (i := 143) rfl)
theorem w_1105 : (Jvm.Cond.instanceMethod ({ cls := "NeedCodeModel", name := "programs", desc := "(I)V" } : Jvm.MethodName)) ∈ lw_tbl := tm_5 (List.mem_of_getElem? (i := 145) rfl)
theorem w_1106 : (Jvm.Cond.code ({ cls := "NeedCodeModel", name := "programs", desc := "(I)V" } : Jvm.MethodName) prog_13_method_52_code (7 : Nat) (Option.none : Option Jvm.ClassFile.FieldType)) ∈ lw_tbl := tm_5 (List.mem_of_getElem? (i := 146) rfl)
theorem w_1107 : (Jvm.Cond.methodLink "NeedCodeModel" (219 : Nat) ({ cls := "NeedCodeModel", name := "toDo", desc := "(IIIII)V" } : Jvm.MethodName)) ∈ lw_tbl := tm_5 (List.mem_of_getElem? (i := 147) rfl)
theorem w_1109 : (Jvm.Cond.instanceMethod ({ cls := "NeedCodeModel", name := "toDo", desc := "(IIIII)V" } : Jvm.MethodName)) ∈ lw_tbl := tm_5 (List.mem_of_getElem? (i := 149) rfl)
theorem w_1110 : (Jvm.Cond.code ({ cls := "NeedCodeModel", name := "toDo", desc := "(IIIII)V" } : Jvm.MethodName) prog_13_method_47_code (6 : Nat) (Option.none : Option Jvm.ClassFile.FieldType)) ∈ lw_tbl := tm_5 (List.mem_of_getElem? (i := 150) rfl)
theorem w_1111 : (Jvm.Cond.methodLink "NeedCodeModel" (238 : Nat) ({ cls := "NeedCodeModel", name := "plans", desc := "(III)V" } : Jvm.MethodName)) ∈ lw_tbl := tm_5 (List.mem_of_getElem? (i := 151) rfl)
theorem w_1113 : (Jvm.Cond.instanceMethod ({ cls := "NeedCodeModel", name := "plans", desc := "(III)V" } : Jvm.MethodName)) ∈ lw_tbl := tm_5 (List.mem_of_getElem? (i := 153) rfl)
theorem w_1114 : (Jvm.Cond.code ({ cls := "NeedCodeModel", name := "plans", desc := "(III)V" } : Jvm.MethodName) prog_13_method_51_code (7 : Nat) (Option.none : Option Jvm.ClassFile.FieldType)) ∈ lw_tbl := tm_5 (List.mem_of_getElem? (i := 154) rfl)
theorem w_1115 : (Jvm.Cond.methodLink "NeedCodeModel" (225 : Nat) ({ cls := "NeedCodeModel", name := "lies", desc := "(IZ)I" } : Jvm.MethodName)) ∈ lw_tbl := tm_5 (List.mem_of_getElem? (i := 155) rfl)
theorem w_1117 : (Jvm.Cond.instanceMethod ({ cls := "NeedCodeModel", name := "lies", desc := "(IZ)I" } : Jvm.MethodName)) ∈ lw_tbl := tm_5 (List.mem_of_getElem? (i := 157) rfl)
theorem w_1118 : (Jvm.Cond.code ({ cls := "NeedCodeModel", name := "lies", desc := "(IZ)I" } : Jvm.MethodName) prog_13_method_50_code (3 : Nat) (Option.some Jvm.ClassFile.FieldType.int)) ∈ lw_tbl := tm_5 (List.mem_of_getElem? (i := 158) rfl)
theorem w_1119 : (Jvm.Cond.methodLink "NeedCodeModel" (228 : Nat) ({ cls := "NeedCodeModel", name := "writes", desc := "(IIIII)V" } : Jvm.MethodName)) ∈ lw_tbl := tm_5 (List.mem_of_getElem? (i := 159) rfl)
theorem w_1121 : (Jvm.Cond.instanceMethod ({ cls := "NeedCodeModel", name := "writes", desc := "(IIIII)V" } : Jvm.MethodName)) ∈ lw_tbl := tm_5 (List.mem_of_getElem? (i := 161) rfl)
theorem w_1122 : (Jvm.Cond.code ({ cls := "NeedCodeModel", name := "writes", desc := "(IIIII)V" } : Jvm.MethodName) prog_13_method_49_code (6 : Nat) (Option.none : Option Jvm.ClassFile.FieldType)) ∈ lw_tbl := tm_5 (List.mem_of_getElem? (i := 162) rfl)
theorem w_1123 : (Jvm.Cond.methodLink "NeedCodeModel" (231 : Nat) ({ cls := "NeedCodeModel", name := "toKeep", desc := "(III)V" } : Jvm.MethodName)) ∈ lw_tbl := tm_5 (List.mem_of_getElem? (i := 163) rfl)
theorem w_1125 : (Jvm.Cond.instanceMethod ({ cls := "NeedCodeModel", name := "toKeep", desc := "(III)V" } : Jvm.MethodName)) ∈ lw_tbl := tm_5 (List.mem_of_getElem? (i := 165) rfl)
theorem w_1126 : (Jvm.Cond.code ({ cls := "NeedCodeModel", name := "toKeep", desc := "(III)V" } : Jvm.MethodName) prog_13_method_48_code (4 : Nat) (Option.none : Option Jvm.ClassFile.FieldType)) ∈ lw_tbl := tm_5 (List.mem_of_getElem? (i := 166) rfl)
theorem w_1127 : (Jvm.Cond.methodLink "NeedCodeLaw" (51 : Nat) ({ cls := "NeedCodeModel", name := "line", desc := "(II)I" } : Jvm.MethodName)) ∈ lw_tbl := tm_5 (List.mem_of_getElem? (i := 167) rfl)
theorem w_1128 : (Jvm.Cond.instanceMethod ({ cls := "NeedCodeModel", name := "line", desc := "(II)I" } : Jvm.MethodName)) ∈ lw_tbl := tm_5 (List.mem_of_getElem? (i := 168) rfl)
theorem w_1129 : (Jvm.Cond.selects "NeedCodeModel" ({ cls := "NeedCodeModel", name := "line", desc := "(II)I" } : Jvm.MethodName) ({ cls := "NeedCodeModel", name := "line", desc := "(II)I" } : Jvm.MethodName)) ∈ lw_tbl := tm_5 (List.mem_of_getElem? (i := 169) rfl)
theorem w_1130 : (Jvm.Cond.code ({ cls := "NeedCodeModel", name := "line", desc := "(II)I" } : Jvm.MethodName) prog_13_method_54_code (3 : Nat) (Option.some Jvm.ClassFile.FieldType.int)) ∈ lw_tbl := tm_5 (List.mem_of_getElem? (i := 170) rfl)
theorem w_1131 : (Jvm.Cond.methodLink "NeedCodeLaw" (55 : Nat) ({ cls := "NeedCodeModel", name := "run", desc := "(I)I" } : Jvm.MethodName)) ∈ lw_tbl := tm_5 (List.mem_of_getElem? (i := 171) rfl)
theorem w_1132 : (Jvm.Cond.instanceMethod ({ cls := "NeedCodeModel", name := "run", desc := "(I)I" } : Jvm.MethodName)) ∈ lw_tbl := tm_5 (List.mem_of_getElem? (i := 172) rfl)
theorem w_1133 : (Jvm.Cond.selects "NeedCodeModel" ({ cls := "NeedCodeModel", name := "run", desc := "(I)I" } : Jvm.MethodName) ({ cls := "NeedCodeModel", name := "run", desc := "(I)I" } : Jvm.MethodName)) ∈ lw_tbl := tm_5 (List.mem_of_getElem? (i := 173) rfl)
theorem w_1134 : (Jvm.Cond.code ({ cls := "NeedCodeModel", name := "run", desc := "(I)I" } : Jvm.MethodName) prog_13_method_56_code (10 : Nat) (Option.some Jvm.ClassFile.FieldType.int)) ∈ lw_tbl := tm_5 (List.mem_of_getElem? (i := 174) rfl)
theorem w_1135 : (Jvm.Cond.methodLink "NeedCodeModel" (244 : Nat) ({ cls := "NeedCodeModel", name := "from", desc := "(II)I" } : Jvm.MethodName)) ∈ lw_tbl := tm_5 (List.mem_of_getElem? (i := 175) rfl)
theorem w_1137 : (Jvm.Cond.instanceMethod ({ cls := "NeedCodeModel", name := "from", desc := "(II)I" } : Jvm.MethodName)) ∈ lw_tbl := tm_5 (List.mem_of_getElem? (i := 177) rfl)
theorem w_1138 : (Jvm.Cond.code ({ cls := "NeedCodeModel", name := "from", desc := "(II)I" } : Jvm.MethodName) prog_13_method_55_code (3 : Nat) (Option.some Jvm.ClassFile.FieldType.int)) ∈ lw_tbl := tm_5 (List.mem_of_getElem? (i := 178) rfl)
theorem w_1139 : (Jvm.Cond.methodLink "NeedCodeLaw" (59 : Nat) ({ cls := "NeedCodeModel", name := "fewest", desc := "()I" } : Jvm.MethodName)) ∈ lw_tbl := tm_5 (List.mem_of_getElem? (i := 179) rfl)
theorem w_1140 : (Jvm.Cond.instanceMethod ({ cls := "NeedCodeModel", name := "fewest", desc := "()I" } : Jvm.MethodName)) ∈ lw_tbl := tm_5 (List.mem_of_getElem? (i := 180) rfl)
theorem w_1141 : (Jvm.Cond.selects "NeedCodeModel" ({ cls := "NeedCodeModel", name := "fewest", desc := "()I" } : Jvm.MethodName) ({ cls := "NeedCodeModel", name := "fewest", desc := "()I" } : Jvm.MethodName)) ∈ lw_tbl := tm_5 (List.mem_of_getElem? (i := 181) rfl)
theorem w_1142 : (Jvm.Cond.code ({ cls := "NeedCodeModel", name := "fewest", desc := "()I" } : Jvm.MethodName) prog_13_method_57_code (2 : Nat) (Option.some Jvm.ClassFile.FieldType.int)) ∈ lw_tbl := tm_5 (List.mem_of_getElem? (i := 182) rfl)
theorem w_1143 : (Jvm.Cond.methodLink "NeedCodeLaw" (63 : Nat) ({ cls := "NeedCodeModel", name := "exchange", desc := "(I)I" } : Jvm.MethodName)) ∈ lw_tbl := tm_5 (List.mem_of_getElem? (i := 183) rfl)
theorem w_1144 : (Jvm.Cond.instanceMethod ({ cls := "NeedCodeModel", name := "exchange", desc := "(I)I" } : Jvm.MethodName)) ∈ lw_tbl := tm_5 (List.mem_of_getElem? (i := 184) rfl)
theorem w_1145 : (Jvm.Cond.selects "NeedCodeModel" ({ cls := "NeedCodeModel", name := "exchange", desc := "(I)I" } : Jvm.MethodName) ({ cls := "NeedCodeModel", name := "exchange", desc := "(I)I" } : Jvm.MethodName)) ∈ lw_tbl := tm_5 (List.mem_of_getElem? (i := 185) rfl)
theorem w_1146 : (Jvm.Cond.code ({ cls := "NeedCodeModel", name := "exchange", desc := "(I)I" } : Jvm.MethodName) prog_13_method_60_code (7 : Nat) (Option.some Jvm.ClassFile.FieldType.int)) ∈ lw_tbl := tm_5 (List.mem_of_getElem? (i := 186) rfl)
theorem w_1147 : (Jvm.Cond.methodLink "NeedCodeModel" (247 : Nat) ({ cls := "NeedCodeModel", name := "notes", desc := "()V" } : Jvm.MethodName)) ∈ lw_tbl := tm_5 (List.mem_of_getElem? (i := 187) rfl)
theorem w_1149 : (Jvm.Cond.instanceMethod ({ cls := "NeedCodeModel", name := "notes", desc := "()V" } : Jvm.MethodName)) ∈ lw_tbl := tm_5 (List.mem_of_getElem? (i := 189) rfl)
theorem w_1150 : (Jvm.Cond.code ({ cls := "NeedCodeModel", name := "notes", desc := "()V" } : Jvm.MethodName) prog_13_method_58_code (2 : Nat) (Option.none : Option Jvm.ClassFile.FieldType)) ∈ lw_tbl := tm_5 (List.mem_of_getElem? (i := 190) rfl)
theorem w_1151 : (Jvm.Cond.methodLink "NeedCodeModel" (250 : Nat) ({ cls := "NeedCodeModel", name := "moves", desc := "(II)V" } : Jvm.MethodName)) ∈ lw_tbl := tm_5 (List.mem_of_getElem? (i := 191) rfl)
theorem w_1153 : (Jvm.Cond.instanceMethod ({ cls := "NeedCodeModel", name := "moves", desc := "(II)V" } : Jvm.MethodName)) ∈ lw_tbl := tm_5 (List.mem_of_getElem? (i := 193) rfl)
theorem w_1154 : (Jvm.Cond.code ({ cls := "NeedCodeModel", name := "moves", desc := "(II)V" } : Jvm.MethodName) prog_13_method_59_code (4 : Nat) (Option.none : Option Jvm.ClassFile.FieldType)) ∈ lw_tbl := tm_5 (List.mem_of_getElem? (i := 194) rfl)
theorem w_1155 : (Jvm.Cond.methodLink "NeedCodeModel" (254 : Nat) ({ cls := "NeedCodeModel", name := "rootCost", desc := "()I" } : Jvm.MethodName)) ∈ lw_tbl := tm_5 (List.mem_of_getElem? (i := 195) rfl)
theorem w_1157 : (Jvm.Cond.instanceMethod ({ cls := "NeedCodeModel", name := "rootCost", desc := "()I" } : Jvm.MethodName)) ∈ lw_tbl := tm_5 (List.mem_of_getElem? (i := 197) rfl)
theorem w_1158 : (Jvm.Cond.code ({ cls := "NeedCodeModel", name := "rootCost", desc := "()I" } : Jvm.MethodName) prog_13_method_43_code (1 : Nat) (Option.some Jvm.ClassFile.FieldType.int)) ∈ lw_tbl := tm_5 (List.mem_of_getElem? (i := 198) rfl)
theorem w_1159 : (Jvm.Cond.methodLink "NeedCodeLaw" (67 : Nat) ({ cls := "NeedCodeModel", name := "let", desc := "(II)I" } : Jvm.MethodName)) ∈ lw_tbl := tm_5 (List.mem_of_getElem? (i := 199) rfl)
theorem w_1160 : (Jvm.Cond.instanceMethod ({ cls := "NeedCodeModel", name := "let", desc := "(II)I" } : Jvm.MethodName)) ∈ lw_tbl := tm_5 (List.mem_of_getElem? (i := 200) rfl)
theorem w_1161 : (Jvm.Cond.selects "NeedCodeModel" ({ cls := "NeedCodeModel", name := "let", desc := "(II)I" } : Jvm.MethodName) ({ cls := "NeedCodeModel", name := "let", desc := "(II)I" } : Jvm.MethodName)) ∈ lw_tbl := tm_5 (List.mem_of_getElem? (i := 201) rfl)
theorem w_1162 : (Jvm.Cond.code ({ cls := "NeedCodeModel", name := "let", desc := "(II)I" } : Jvm.MethodName) prog_13_method_61_code (3 : Nat) (Option.some Jvm.ClassFile.FieldType.int)) ∈ lw_tbl := tm_5 (List.mem_of_getElem? (i := 202) rfl)
theorem w_1163 : (Jvm.Cond.methodLink "NeedCodeLaw" (72 : Nat) ({ cls := "NeedCodeModel", name := "machine", desc := "(IIIII)I" } : Jvm.MethodName)) ∈ lw_tbl := tm_5 (List.mem_of_getElem? (i := 203) rfl)
theorem w_1164 : (Jvm.Cond.instanceMethod ({ cls := "NeedCodeModel", name := "machine", desc := "(IIIII)I" } : Jvm.MethodName)) ∈ lw_tbl := tm_5 (List.mem_of_getElem? (i := 204) rfl)
theorem w_1165 : (Jvm.Cond.selects "NeedCodeModel" ({ cls := "NeedCodeModel", name := "machine", desc := "(IIIII)I" } : Jvm.MethodName) ({ cls := "NeedCodeModel", name := "machine", desc := "(IIIII)I" } : Jvm.MethodName)) ∈ lw_tbl := tm_5 (List.mem_of_getElem? (i := 205) rfl)
theorem w_1166 : (Jvm.Cond.code ({ cls := "NeedCodeModel", name := "machine", desc := "(IIIII)I" } : Jvm.MethodName) prog_13_method_62_code (6 : Nat) (Option.some Jvm.ClassFile.FieldType.int)) ∈ lw_tbl := tm_5 (List.mem_of_getElem? (i := 206) rfl)
theorem w_1167 : (Jvm.Cond.methodLink "NeedCodeLaw" (76 : Nat) ({ cls := "NeedCodeModel", name := "undo", desc := "()I" } : Jvm.MethodName)) ∈ lw_tbl := tm_5 (List.mem_of_getElem? (i := 207) rfl)
theorem w_1168 : (Jvm.Cond.instanceMethod ({ cls := "NeedCodeModel", name := "undo", desc := "()I" } : Jvm.MethodName)) ∈ lw_tbl := tm_5 (List.mem_of_getElem? (i := 208) rfl)
theorem w_1169 : (Jvm.Cond.selects "NeedCodeModel" ({ cls := "NeedCodeModel", name := "undo", desc := "()I" } : Jvm.MethodName) ({ cls := "NeedCodeModel", name := "undo", desc := "()I" } : Jvm.MethodName)) ∈ lw_tbl := tm_5 (List.mem_of_getElem? (i := 209) rfl)
theorem w_1170 : (Jvm.Cond.code ({ cls := "NeedCodeModel", name := "undo", desc := "()I" } : Jvm.MethodName) prog_13_method_63_code (2 : Nat) (Option.some Jvm.ClassFile.FieldType.int)) ∈ lw_tbl := tm_5 (List.mem_of_getElem? (i := 210) rfl)
theorem w_1171 : (Jvm.Cond.methodLink "NeedCodeLaw" (80 : Nat) ({ cls := "NeedCodeModel", name := "shared", desc := "(II)I" } : Jvm.MethodName)) ∈ lw_tbl := tm_5 (List.mem_of_getElem? (i := 211) rfl)
theorem w_1172 : (Jvm.Cond.instanceMethod ({ cls := "NeedCodeModel", name := "shared", desc := "(II)I" } : Jvm.MethodName)) ∈ lw_tbl := tm_5 (List.mem_of_getElem? (i := 212) rfl)
theorem w_1173 : (Jvm.Cond.selects "NeedCodeModel" ({ cls := "NeedCodeModel", name := "shared", desc := "(II)I" } : Jvm.MethodName) ({ cls := "NeedCodeModel", name := "shared", desc := "(II)I" } : Jvm.MethodName)) ∈ lw_tbl := tm_5 (List.mem_of_getElem? (i := 213) rfl)
theorem w_1174 : (Jvm.Cond.code ({ cls := "NeedCodeModel", name := "shared", desc := "(II)I" } : Jvm.MethodName) prog_13_method_67_code (3 : Nat) (Option.some Jvm.ClassFile.FieldType.int)) ∈ lw_tbl := tm_5 (List.mem_of_getElem? (i := 214) rfl)
theorem w_1175 : (Jvm.Cond.methodLink "NeedCodeModel" (260 : Nat) ({ cls := "NeedCodeModel", name := "sharedFirst", desc := "(I)I" } : Jvm.MethodName)) ∈ lw_tbl := tm_5 (List.mem_of_getElem? (i := 215) rfl)
theorem w_1177 : (Jvm.Cond.instanceMethod ({ cls := "NeedCodeModel", name := "sharedFirst", desc := "(I)I" } : Jvm.MethodName)) ∈ lw_tbl := tm_5 (List.mem_of_getElem? (i := 217) rfl)
theorem w_1178 : (Jvm.Cond.code ({ cls := "NeedCodeModel", name := "sharedFirst", desc := "(I)I" } : Jvm.MethodName) prog_13_method_65_code (4 : Nat) (Option.some Jvm.ClassFile.FieldType.int)) ∈ lw_tbl := tm_5 (List.mem_of_getElem? (i := 218) rfl)
theorem w_1179 : (Jvm.Cond.methodLink "NeedCodeModel" (257 : Nat) ({ cls := "NeedCodeModel", name := "occurs", desc := "(I)I" } : Jvm.MethodName)) ∈ lw_tbl := tm_5 (List.mem_of_getElem? (i := 219) rfl)
theorem w_1181 : (Jvm.Cond.instanceMethod ({ cls := "NeedCodeModel", name := "occurs", desc := "(I)I" } : Jvm.MethodName)) ∈ lw_tbl := tm_5 (List.mem_of_getElem? (i := 221) rfl)
theorem w_1182 : (Jvm.Cond.code ({ cls := "NeedCodeModel", name := "occurs", desc := "(I)I" } : Jvm.MethodName) prog_13_method_64_code (4 : Nat) (Option.some Jvm.ClassFile.FieldType.int)) ∈ lw_tbl := tm_5 (List.mem_of_getElem? (i := 222) rfl)
theorem w_1183 : (Jvm.Cond.methodLink "NeedCodeLaw" (84 : Nat) ({ cls := "NeedCodeModel", name := "cheapest", desc := "(I)I" } : Jvm.MethodName)) ∈ lw_tbl := tm_5 (List.mem_of_getElem? (i := 223) rfl)
theorem w_1184 : (Jvm.Cond.instanceMethod ({ cls := "NeedCodeModel", name := "cheapest", desc := "(I)I" } : Jvm.MethodName)) ∈ lw_tbl := tm_5 (List.mem_of_getElem? (i := 224) rfl)
theorem w_1185 : (Jvm.Cond.selects "NeedCodeModel" ({ cls := "NeedCodeModel", name := "cheapest", desc := "(I)I" } : Jvm.MethodName) ({ cls := "NeedCodeModel", name := "cheapest", desc := "(I)I" } : Jvm.MethodName)) ∈ lw_tbl := tm_5 (List.mem_of_getElem? (i := 225) rfl)
theorem w_1186 : (Jvm.Cond.code ({ cls := "NeedCodeModel", name := "cheapest", desc := "(I)I" } : Jvm.MethodName) prog_13_method_69_code (6 : Nat) (Option.some Jvm.ClassFile.FieldType.int)) ∈ lw_tbl := tm_5 (List.mem_of_getElem? (i := 226) rfl)
theorem w_1187 : (Jvm.Cond.methodLink "NeedCodeModel" (266 : Nat) ({ cls := "NeedCodeModel", name := "costBySet", desc := "(I)I" } : Jvm.MethodName)) ∈ lw_tbl := tm_5 (List.mem_of_getElem? (i := 227) rfl)
theorem w_1189 : (Jvm.Cond.instanceMethod ({ cls := "NeedCodeModel", name := "costBySet", desc := "(I)I" } : Jvm.MethodName)) ∈ lw_tbl := tm_5 (List.mem_of_getElem? (i := 229) rfl)
theorem w_1190 : (Jvm.Cond.code ({ cls := "NeedCodeModel", name := "costBySet", desc := "(I)I" } : Jvm.MethodName) prog_13_method_68_code (6 : Nat) (Option.some Jvm.ClassFile.FieldType.int)) ∈ lw_tbl := tm_5 (List.mem_of_getElem? (i := 230) rfl)
theorem w_1191 : (Jvm.Cond.methodLink "NeedCodeModel" (263 : Nat) ({ cls := "NeedCodeModel", name := "has", desc := "(II)Z" } : Jvm.MethodName)) ∈ lw_tbl := tm_5 (List.mem_of_getElem? (i := 231) rfl)
theorem w_1192 : (Jvm.Cond.static ({ cls := "NeedCodeModel", name := "has", desc := "(II)Z" } : Jvm.MethodName)) ∈ lw_tbl := tm_5 (List.mem_of_getElem? (i := 232) rfl)
theorem w_1193 : (Jvm.Cond.code ({ cls := "NeedCodeModel", name := "has", desc := "(II)Z" } : Jvm.MethodName) prog_13_method_4_code (2 : Nat) (Option.some Jvm.ClassFile.FieldType.boolean)) ∈ lw_tbl := tm_5 (List.mem_of_getElem? (i := 233) rfl)
theorem w_1194 : (Jvm.Cond.methodLink "NeedCodeModel" (269 : Nat) ({ cls := "NeedCodeModel", name := "sharedMany", desc := "()I" } : Jvm.MethodName)) ∈ lw_tbl := tm_5 (List.mem_of_getElem? (i := 234) rfl)
theorem w_1196 : (Jvm.Cond.instanceMethod ({ cls := "NeedCodeModel", name := "sharedMany", desc := "()I" } : Jvm.MethodName)) ∈ lw_tbl := tm_5 (List.mem_of_getElem? (i := 236) rfl)
theorem w_1197 : (Jvm.Cond.code ({ cls := "NeedCodeModel", name := "sharedMany", desc := "()I" } : Jvm.MethodName) prog_13_method_66_code (2 : Nat) (Option.some Jvm.ClassFile.FieldType.int)) ∈ lw_tbl := tm_5 (List.mem_of_getElem? (i := 237) rfl)
theorem w_1198 : (Jvm.Cond.methodLink "NeedCodeLaw" (88 : Nat) ({ cls := "NeedCodeModel", name := "keep", desc := "(I)I" } : Jvm.MethodName)) ∈ lw_tbl := tm_5 (List.mem_of_getElem? (i := 238) rfl)
theorem w_1199 : (Jvm.Cond.instanceMethod ({ cls := "NeedCodeModel", name := "keep", desc := "(I)I" } : Jvm.MethodName)) ∈ lw_tbl := tm_5 (List.mem_of_getElem? (i := 239) rfl)
theorem w_1200 : (Jvm.Cond.selects "NeedCodeModel" ({ cls := "NeedCodeModel", name := "keep", desc := "(I)I" } : Jvm.MethodName) ({ cls := "NeedCodeModel", name := "keep", desc := "(I)I" } : Jvm.MethodName)) ∈ lw_tbl := tm_6 (List.mem_of_getElem? (i := 0) rfl)
theorem w_1201 : (Jvm.Cond.code ({ cls := "NeedCodeModel", name := "keep", desc := "(I)I" } : Jvm.MethodName) prog_13_method_70_code (3 : Nat) (Option.some Jvm.ClassFile.FieldType.int)) ∈ lw_tbl := tm_6 (List.mem_of_getElem? (i := 1) rfl)
theorem w_1202 : (Jvm.Cond.methodLink "NeedCodeLaw" (92 : Nat) ({ cls := "NeedCodeModel", name := "back", desc := "(I)I" } : Jvm.MethodName)) ∈ lw_tbl := tm_6 (List.mem_of_getElem? (i := 2) rfl)
theorem w_1203 : (Jvm.Cond.instanceMethod ({ cls := "NeedCodeModel", name := "back", desc := "(I)I" } : Jvm.MethodName)) ∈ lw_tbl := tm_6 (List.mem_of_getElem? (i := 3) rfl)
theorem w_1204 : (Jvm.Cond.selects "NeedCodeModel" ({ cls := "NeedCodeModel", name := "back", desc := "(I)I" } : Jvm.MethodName) ({ cls := "NeedCodeModel", name := "back", desc := "(I)I" } : Jvm.MethodName)) ∈ lw_tbl := tm_6 (List.mem_of_getElem? (i := 4) rfl)
theorem w_1205 : (Jvm.Cond.code ({ cls := "NeedCodeModel", name := "back", desc := "(I)I" } : Jvm.MethodName) prog_13_method_71_code (3 : Nat) (Option.some Jvm.ClassFile.FieldType.int)) ∈ lw_tbl := tm_6 (List.mem_of_getElem? (i := 5) rfl)
theorem w_1206 : (Jvm.Cond.methodLink "NeedCodeLaw" (96 : Nat) ({ cls := "NeedCodeModel", name := "asked", desc := "()I" } : Jvm.MethodName)) ∈ lw_tbl := tm_6 (List.mem_of_getElem? (i := 6) rfl)
theorem w_1207 : (Jvm.Cond.instanceMethod ({ cls := "NeedCodeModel", name := "asked", desc := "()I" } : Jvm.MethodName)) ∈ lw_tbl := tm_6 (List.mem_of_getElem? (i := 7) rfl)
theorem w_1208 : (Jvm.Cond.selects "NeedCodeModel" ({ cls := "NeedCodeModel", name := "asked", desc := "()I" } : Jvm.MethodName) ({ cls := "NeedCodeModel", name := "asked", desc := "()I" } : Jvm.MethodName)) ∈ lw_tbl := tm_6 (List.mem_of_getElem? (i := 8) rfl)
theorem w_1209 : (Jvm.Cond.code ({ cls := "NeedCodeModel", name := "asked", desc := "()I" } : Jvm.MethodName) prog_13_method_72_code (1 : Nat) (Option.some Jvm.ClassFile.FieldType.int)) ∈ lw_tbl := tm_6 (List.mem_of_getElem? (i := 9) rfl)
theorem w_1210 : (Jvm.Cond.methodLink "NeedCodeLaw" (100 : Nat) ({ cls := "NeedCodeModel", name := "trapped", desc := "()I" } : Jvm.MethodName)) ∈ lw_tbl := tm_6 (List.mem_of_getElem? (i := 10) rfl)
theorem w_1211 : (Jvm.Cond.instanceMethod ({ cls := "NeedCodeModel", name := "trapped", desc := "()I" } : Jvm.MethodName)) ∈ lw_tbl := tm_6 (List.mem_of_getElem? (i := 11) rfl)
theorem w_1212 : (Jvm.Cond.selects "NeedCodeModel" ({ cls := "NeedCodeModel", name := "trapped", desc := "()I" } : Jvm.MethodName) ({ cls := "NeedCodeModel", name := "trapped", desc := "()I" } : Jvm.MethodName)) ∈ lw_tbl := tm_6 (List.mem_of_getElem? (i := 12) rfl)
theorem w_1213 : (Jvm.Cond.code ({ cls := "NeedCodeModel", name := "trapped", desc := "()I" } : Jvm.MethodName) prog_13_method_73_code (1 : Nat) (Option.some Jvm.ClassFile.FieldType.int)) ∈ lw_tbl := tm_6 (List.mem_of_getElem? (i := 13) rfl)
theorem w_1214 : (Jvm.Cond.methodLink "NeedCodeLaw" (104 : Nat) ({ cls := "NeedCodeModel", name := "count", desc := "(I)I" } : Jvm.MethodName)) ∈ lw_tbl := tm_6 (List.mem_of_getElem? (i := 14) rfl)
theorem w_1215 : (Jvm.Cond.instanceMethod ({ cls := "NeedCodeModel", name := "count", desc := "(I)I" } : Jvm.MethodName)) ∈ lw_tbl := tm_6 (List.mem_of_getElem? (i := 15) rfl)
theorem w_1216 : (Jvm.Cond.selects "NeedCodeModel" ({ cls := "NeedCodeModel", name := "count", desc := "(I)I" } : Jvm.MethodName) ({ cls := "NeedCodeModel", name := "count", desc := "(I)I" } : Jvm.MethodName)) ∈ lw_tbl := tm_6 (List.mem_of_getElem? (i := 16) rfl)
theorem w_1217 : (Jvm.Cond.code ({ cls := "NeedCodeModel", name := "count", desc := "(I)I" } : Jvm.MethodName) prog_13_method_74_code (2 : Nat) (Option.some Jvm.ClassFile.FieldType.int)) ∈ lw_tbl := tm_6 (List.mem_of_getElem? (i := 17) rfl)
theorem ts_1 {q : MethodName × Nat} (h : q ∈ lw_privs_1) : Cond.selects q.1.cls q.1 q.1 ∈ lw_tbl := List.mem_append_left _ (List.mem_map.mpr ⟨q, List.mem_append_left _ h, rfl⟩)
theorem ts_2 {q : MethodName × Nat} (h : q ∈ lw_privs_2) : Cond.selects q.1.cls q.1 q.1 ∈ lw_tbl := List.mem_append_left _ (List.mem_map.mpr ⟨q, List.mem_append_right _ (List.mem_append_left _ h), rfl⟩)
theorem ts_3 {q : MethodName × Nat} (h : q ∈ lw_privs_3) : Cond.selects q.1.cls q.1 q.1 ∈ lw_tbl := List.mem_append_left _ (List.mem_map.mpr ⟨q, List.mem_append_right _ (List.mem_append_right _ (List.mem_append_left _ h)), rfl⟩)
theorem ts_4 {q : MethodName × Nat} (h : q ∈ lw_privs_4) : Cond.selects q.1.cls q.1 q.1 ∈ lw_tbl := List.mem_append_left _ (List.mem_map.mpr ⟨q, List.mem_append_right _ (List.mem_append_right _ (List.mem_append_right _ (List.mem_append_left _ h))), rfl⟩)
theorem ts_5 {q : MethodName × Nat} (h : q ∈ lw_privs_5) : Cond.selects q.1.cls q.1 q.1 ∈ lw_tbl := List.mem_append_left _ (List.mem_map.mpr ⟨q, List.mem_append_right _ (List.mem_append_right _ (List.mem_append_right _ (List.mem_append_right _ (h)))), rfl⟩)
def mfV (k : nk_T) (n : Nat) : Prop := Cond.instanceMethod k.1 ∈ lw_tbl ∧ Cond.selects k.1.cls k.1 k.1 ∈ lw_tbl ∧ Cond.initialized k.1.cls ∈ lw_tbl ∧ Cond.code k.1 k.2.1 k.2.2.1 k.2.2.2 ∈ lw_tbl ∧ (k.1.cls ≠ "java/lang/invoke/MethodHandle" ∧ k.1.cls ≠ "java/lang/invoke/VarHandle" ∧ (parseMethodDescriptor k.1.desc).map (fun d => d.parameters.length) = some n) ∧ k.2.2.1 ≤ 21 ∧ plainName k.1.cls = true
def mfS (k : nk_T) (n : Nat) : Prop := Cond.static k.1 ∈ lw_tbl ∧ Cond.initialized k.1.cls ∈ lw_tbl ∧ Cond.code k.1 k.2.1 k.2.2.1 k.2.2.2 ∈ lw_tbl ∧ (k.1.cls ≠ "java/lang/invoke/MethodHandle" ∧ k.1.cls ≠ "java/lang/invoke/VarHandle" ∧ (parseMethodDescriptor k.1.desc).map (fun d => d.parameters.length) = some n) ∧ k.2.2.1 ≤ 21 ∧ plainName k.1.cls = true
def mfI (k : nk_T) (n : Nat) : Prop := Cond.instanceMethod k.1 ∈ lw_tbl ∧ Cond.initialized k.1.cls ∈ lw_tbl ∧ Cond.code k.1 k.2.1 k.2.2.1 k.2.2.2 ∈ lw_tbl ∧ (k.1.cls ≠ "java/lang/invoke/MethodHandle" ∧ k.1.cls ≠ "java/lang/invoke/VarHandle" ∧ (parseMethodDescriptor k.1.desc).map (fun d => d.parameters.length) = some n) ∧ k.2.2.1 ≤ 21 ∧ plainName k.1.cls = true ∧ k.1.name = "<init>" ∧ k.2.2.2 = none
def m_Need_init : nk_T := (⟨"NeedCode", "<init>", "()V"⟩, prog_1_method_1_code, 1, none)
theorem f_Need_init : mfI m_Need_init 0 := ⟨w_18, w_1, w_19, ⟨by decide +kernel, by decide +kernel, by decide +kernel⟩, by decide, by decide, rfl, rfl⟩
def m_Row_init : nk_T := (⟨"NeedCode$Row", "<init>", "(I)V"⟩, prog_9_method_1_code, 2, none)
theorem f_Row_init : mfI m_Row_init 1 := ⟨w_26, w_2, w_27, ⟨by decide +kernel, by decide +kernel, by decide +kernel⟩, by decide, by decide, rfl, rfl⟩
def m_Reader_init : nk_T := (⟨"NeedCode$Reader", "<init>", "()V"⟩, prog_8_method_1_code, 1, none)
theorem f_Reader_init : mfI m_Reader_init 0 := ⟨w_40, w_4, w_41, ⟨by decide +kernel, by decide +kernel, by decide +kernel⟩, by decide, by decide, rfl, rfl⟩
def m_Image_init : nk_T := (⟨"NeedCode$Image", "<init>", "()V"⟩, prog_5_method_1_code, 1, none)
theorem f_Image_init : mfI m_Image_init 0 := ⟨w_76, w_5, w_77, ⟨by decide +kernel, by decide +kernel, by decide +kernel⟩, by decide, by decide, rfl, rfl⟩
def m_Tree_init : nk_T := (⟨"NeedCode$Tree", "<init>", "()V"⟩, prog_11_method_1_code, 1, none)
theorem f_Tree_init : mfI m_Tree_init 0 := ⟨w_82, w_6, w_83, ⟨by decide +kernel, by decide +kernel, by decide +kernel⟩, by decide, by decide, rfl, rfl⟩
def m_Acts_init : nk_T := (⟨"NeedCode$Acts", "<init>", "()V"⟩, prog_2_method_1_code, 1, none)
theorem f_Acts_init : mfI m_Acts_init 0 := ⟨w_165, w_7, w_166, ⟨by decide +kernel, by decide +kernel, by decide +kernel⟩, by decide, by decide, rfl, rfl⟩
def m_Costs_init : nk_T := (⟨"NeedCode$Costs", "<init>", "()V"⟩, prog_3_method_1_code, 1, none)
theorem f_Costs_init : mfI m_Costs_init 0 := ⟨w_193, w_8, w_194, ⟨by decide +kernel, by decide +kernel, by decide +kernel⟩, by decide, by decide, rfl, rfl⟩
def m_Program_init : nk_T := (⟨"NeedCode$Program", "<init>", "()V"⟩, prog_7_method_1_code, 1, none)
theorem f_Program_init : mfI m_Program_init 0 := ⟨w_217, w_9, w_218, ⟨by decide +kernel, by decide +kernel, by decide +kernel⟩, by decide, by decide, rfl, rfl⟩
def m_Device_init : nk_T := (⟨"NeedCode$Device", "<init>", "()V"⟩, prog_4_method_1_code, 1, none)
theorem f_Device_init : mfI m_Device_init 0 := ⟨w_243, w_10, w_244, ⟨by decide +kernel, by decide +kernel, by decide +kernel⟩, by decide, by decide, rfl, rfl⟩
def m_Shares_init : nk_T := (⟨"NeedCode$Shares", "<init>", "()V"⟩, prog_10_method_1_code, 1, none)
theorem f_Shares_init : mfI m_Shares_init 0 := ⟨w_269, w_11, w_270, ⟨by decide +kernel, by decide +kernel, by decide +kernel⟩, by decide, by decide, rfl, rfl⟩
def m_Row_put : nk_T := (⟨"NeedCode$Row", "put", "(II)V"⟩, prog_9_method_3_code, 3, none)
theorem f_Row_put : mfV m_Row_put 2 := ⟨w_304, w_305, w_2, w_306, ⟨by decide +kernel, by decide +kernel, by decide +kernel⟩, by decide, by decide⟩
def m_Need_type : nk_T := (⟨"NeedCode", "type", "(I)I"⟩, prog_1_method_2_code, 2, (some .int))
theorem f_Need_type : mfV m_Need_type 1 := ⟨w_351, w_352, w_1, w_353, ⟨by decide +kernel, by decide +kernel, by decide +kernel⟩, by decide, by decide⟩
def m_Need_clear : nk_T := (⟨"NeedCode", "clear", "()I"⟩, prog_1_method_3_code, 2, (some .int))
theorem f_Need_clear : mfV m_Need_clear 0 := ⟨w_355, w_356, w_1, w_357, ⟨by decide +kernel, by decide +kernel, by decide +kernel⟩, by decide, by decide⟩
def m_Need_tree : nk_T := (⟨"NeedCode", "tree", "()I"⟩, prog_1_method_4_code, 2, (some .int))
theorem f_Need_tree : mfV m_Need_tree 0 := ⟨w_359, w_360, w_1, w_361, ⟨by decide +kernel, by decide +kernel, by decide +kernel⟩, by decide, by decide⟩
def m_Reader_read : nk_T := (⟨"NeedCode$Reader", "read", "(LNeedCode$Row;ILNeedCode$Tree;)I"⟩, prog_8_method_2_code, 6, (some .int))
theorem f_Reader_read : mfV m_Reader_read 3 := ⟨w_363, w_364, w_4, w_365, ⟨by decide +kernel, by decide +kernel, by decide +kernel⟩, by decide, by decide⟩
def m_Tree_empty : nk_T := (⟨"NeedCode$Tree", "empty", "()V"⟩, prog_11_method_12_code, 1, none)
theorem f_Tree_empty : mfV m_Tree_empty 0 := ⟨w_367, w_368, w_6, w_369, ⟨by decide +kernel, by decide +kernel, by decide +kernel⟩, by decide, by decide⟩
def m_Row_get : nk_T := (⟨"NeedCode$Row", "get", "(I)I"⟩, prog_9_method_2_code, 2, (some .int))
theorem f_Row_get : mfV m_Row_get 1 := ⟨w_371, w_372, w_2, w_373, ⟨by decide +kernel, by decide +kernel, by decide +kernel⟩, by decide, by decide⟩
def m_Reader_takePart : nk_T := (⟨"NeedCode$Reader", "takePart", "(ILNeedCode$Row;ILNeedCode$Tree;)V"⟩, prog_8_method_3_code, 6, none)
theorem f_Reader_takePart : mfV m_Reader_takePart 4 := ⟨w_376, ts_1 (q := (⟨"NeedCode$Reader", "takePart", "(ILNeedCode$Row;ILNeedCode$Tree;)V"⟩, 9)) (List.mem_of_getElem? (i := 0) rfl), w_4, w_377, ⟨by decide +kernel, by decide +kernel, by decide +kernel⟩, by decide, by decide⟩
def m_Reader_digitsHere : nk_T := (⟨"NeedCode$Reader", "digitsHere", "(LNeedCode$Row;I)I"⟩, prog_8_method_4_code, 4, (some .int))
theorem f_Reader_digitsHere : mfV m_Reader_digitsHere 2 := ⟨w_380, ts_1 (q := (⟨"NeedCode$Reader", "digitsHere", "(LNeedCode$Row;I)I"⟩, 9)) (List.mem_of_getElem? (i := 1) rfl), w_4, w_381, ⟨by decide +kernel, by decide +kernel, by decide +kernel⟩, by decide, by decide⟩
def m_Reader_isDigit : nk_T := (⟨"NeedCode$Reader", "isDigit", "(I)Z"⟩, prog_8_method_11_code, 1, (some .boolean))
theorem f_Reader_isDigit : mfS m_Reader_isDigit 1 := ⟨w_383, w_4, w_384, ⟨by decide +kernel, by decide +kernel, by decide +kernel⟩, by decide, by decide⟩
def m_Reader_pile : nk_T := (⟨"NeedCode$Reader", "pile", "(I)V"⟩, prog_8_method_6_code, 2, none)
theorem f_Reader_pile : mfV m_Reader_pile 1 := ⟨w_387, ts_1 (q := (⟨"NeedCode$Reader", "pile", "(I)V"⟩, 9)) (List.mem_of_getElem? (i := 2) rfl), w_4, w_388, ⟨by decide +kernel, by decide +kernel, by decide +kernel⟩, by decide, by decide⟩
def m_Reader_addLeaf : nk_T := (⟨"NeedCode$Reader", "addLeaf", "(LNeedCode$Tree;III)V"⟩, prog_8_method_8_code, 5, none)
theorem f_Reader_addLeaf : mfV m_Reader_addLeaf 4 := ⟨w_392, ts_1 (q := (⟨"NeedCode$Reader", "addLeaf", "(LNeedCode$Tree;III)V"⟩, 9)) (List.mem_of_getElem? (i := 3) rfl), w_4, w_393, ⟨by decide +kernel, by decide +kernel, by decide +kernel⟩, by decide, by decide⟩
def m_Reader_addNode : nk_T := (⟨"NeedCode$Reader", "addNode", "(LNeedCode$Tree;IIIII)V"⟩, prog_8_method_10_code, 7, none)
theorem f_Reader_addNode : mfV m_Reader_addNode 6 := ⟨w_396, ts_1 (q := (⟨"NeedCode$Reader", "addNode", "(LNeedCode$Tree;IIIII)V"⟩, 9)) (List.mem_of_getElem? (i := 4) rfl), w_4, w_397, ⟨by decide +kernel, by decide +kernel, by decide +kernel⟩, by decide, by decide⟩
def m_Tree_isFull : nk_T := (⟨"NeedCode$Tree", "isFull", "()Z"⟩, prog_11_method_3_code, 1, (some .boolean))
theorem f_Tree_isFull : mfV m_Tree_isFull 0 := ⟨w_399, w_400, w_6, w_401, ⟨by decide +kernel, by decide +kernel, by decide +kernel⟩, by decide, by decide⟩
def m_Tree_add : nk_T := (⟨"NeedCode$Tree", "add", "(IIII)V"⟩, prog_11_method_13_code, 5, none)
theorem f_Tree_add : mfV m_Tree_add 4 := ⟨w_403, w_404, w_6, w_405, ⟨by decide +kernel, by decide +kernel, by decide +kernel⟩, by decide, by decide⟩
def m_Tree_root : nk_T := (⟨"NeedCode$Tree", "root", "()I"⟩, prog_11_method_5_code, 1, (some .int))
theorem f_Tree_root : mfV m_Tree_root 0 := ⟨w_408, w_409, w_6, w_410, ⟨by decide +kernel, by decide +kernel, by decide +kernel⟩, by decide, by decide⟩
def m_Reader_takeOperator : nk_T := (⟨"NeedCode$Reader", "takeOperator", "(ILNeedCode$Tree;)V"⟩, prog_8_method_5_code, 4, none)
theorem f_Reader_takeOperator : mfV m_Reader_takeOperator 2 := ⟨w_413, ts_1 (q := (⟨"NeedCode$Reader", "takeOperator", "(ILNeedCode$Tree;)V"⟩, 9)) (List.mem_of_getElem? (i := 5) rfl), w_4, w_414, ⟨by decide +kernel, by decide +kernel, by decide +kernel⟩, by decide, by decide⟩
def m_Ops_isOfSum : nk_T := (⟨"NeedCode$Operators", "isOfSum", "(I)Z"⟩, prog_6_method_4_code, 1, (some .boolean))
theorem f_Ops_isOfSum : mfS m_Ops_isOfSum 1 := ⟨w_416, w_13, w_417, ⟨by decide +kernel, by decide +kernel, by decide +kernel⟩, by decide, by decide⟩
def m_Ops_isOfProduct : nk_T := (⟨"NeedCode$Operators", "isOfProduct", "(I)Z"⟩, prog_6_method_5_code, 1, (some .boolean))
theorem f_Ops_isOfProduct : mfS m_Ops_isOfProduct 1 := ⟨w_419, w_13, w_420, ⟨by decide +kernel, by decide +kernel, by decide +kernel⟩, by decide, by decide⟩
def m_Ops_grip : nk_T := (⟨"NeedCode$Operators", "grip", "(I)I"⟩, prog_6_method_6_code, 1, (some .int))
theorem f_Ops_grip : mfS m_Ops_grip 1 := ⟨w_422, w_13, w_423, ⟨by decide +kernel, by decide +kernel, by decide +kernel⟩, by decide, by decide⟩
def m_Reader_settle : nk_T := (⟨"NeedCode$Reader", "settle", "(ILNeedCode$Tree;)V"⟩, prog_8_method_7_code, 7, none)
theorem f_Reader_settle : mfV m_Reader_settle 2 := ⟨w_428, ts_1 (q := (⟨"NeedCode$Reader", "settle", "(ILNeedCode$Tree;)V"⟩, 9)) (List.mem_of_getElem? (i := 6) rfl), w_4, w_429, ⟨by decide +kernel, by decide +kernel, by decide +kernel⟩, by decide, by decide⟩
def m_Reader_takeOff : nk_T := (⟨"NeedCode$Reader", "takeOff", "()I"⟩, prog_8_method_9_code, 1, (some .int))
theorem f_Reader_takeOff : mfV m_Reader_takeOff 0 := ⟨w_432, ts_1 (q := (⟨"NeedCode$Reader", "takeOff", "()I"⟩, 9)) (List.mem_of_getElem? (i := 7) rfl), w_4, w_433, ⟨by decide +kernel, by decide +kernel, by decide +kernel⟩, by decide, by decide⟩
def m_Tree_derive : nk_T := (⟨"NeedCode$Tree", "derive", "()V"⟩, prog_11_method_15_code, 2, none)
theorem f_Tree_derive : mfV m_Tree_derive 0 := ⟨w_435, w_436, w_6, w_437, ⟨by decide +kernel, by decide +kernel, by decide +kernel⟩, by decide, by decide⟩
def m_Tree_isLeaf : nk_T := (⟨"NeedCode$Tree", "isLeaf", "(I)Z"⟩, prog_11_method_6_code, 2, (some .boolean))
theorem f_Tree_isLeaf : mfV m_Tree_isLeaf 1 := ⟨w_439, w_440, w_6, w_441, ⟨by decide +kernel, by decide +kernel, by decide +kernel⟩, by decide, by decide⟩
def m_Tree_deriveLeaf : nk_T := (⟨"NeedCode$Tree", "deriveLeaf", "(I)V"⟩, prog_11_method_16_code, 2, none)
theorem f_Tree_deriveLeaf : mfV m_Tree_deriveLeaf 1 := ⟨w_445, ts_1 (q := (⟨"NeedCode$Tree", "deriveLeaf", "(I)V"⟩, 10)) (List.mem_of_getElem? (i := 8) rfl), w_6, w_446, ⟨by decide +kernel, by decide +kernel, by decide +kernel⟩, by decide, by decide⟩
def m_Tree_isPair : nk_T := (⟨"NeedCode$Tree", "isPair", "(I)Z"⟩, prog_11_method_7_code, 2, (some .boolean))
theorem f_Tree_isPair : mfV m_Tree_isPair 1 := ⟨w_448, w_449, w_6, w_450, ⟨by decide +kernel, by decide +kernel, by decide +kernel⟩, by decide, by decide⟩
def m_Tree_derivePair : nk_T := (⟨"NeedCode$Tree", "derivePair", "(I)V"⟩, prog_11_method_18_code, 5, none)
theorem f_Tree_derivePair : mfV m_Tree_derivePair 1 := ⟨w_453, ts_1 (q := (⟨"NeedCode$Tree", "derivePair", "(I)V"⟩, 10)) (List.mem_of_getElem? (i := 9) rfl), w_6, w_454, ⟨by decide +kernel, by decide +kernel, by decide +kernel⟩, by decide, by decide⟩
def m_Tree_joint : nk_T := (⟨"NeedCode$Tree", "joint", "(II)I"⟩, prog_11_method_20_code, 2, (some .int))
theorem f_Tree_joint : mfS m_Tree_joint 2 := ⟨w_456, w_6, w_457, ⟨by decide +kernel, by decide +kernel, by decide +kernel⟩, by decide, by decide⟩
def m_Tree_leastOfPair : nk_T := (⟨"NeedCode$Tree", "leastOfPair", "(III)I"⟩, prog_11_method_19_code, 7, (some .int))
theorem f_Tree_leastOfPair : mfV m_Tree_leastOfPair 3 := ⟨w_461, ts_1 (q := (⟨"NeedCode$Tree", "leastOfPair", "(III)I"⟩, 10)) (List.mem_of_getElem? (i := 10) rfl), w_6, w_462, ⟨by decide +kernel, by decide +kernel, by decide +kernel⟩, by decide, by decide⟩
def m_Tree_isCommuting : nk_T := (⟨"NeedCode$Tree", "isCommuting", "(I)Z"⟩, prog_11_method_8_code, 2, (some .boolean))
theorem f_Tree_isCommuting : mfV m_Tree_isCommuting 1 := ⟨w_464, w_465, w_6, w_466, ⟨by decide +kernel, by decide +kernel, by decide +kernel⟩, by decide, by decide⟩
def m_Ops_isCommuting : nk_T := (⟨"NeedCode$Operators", "isCommuting", "(I)Z"⟩, prog_6_method_2_code, 1, (some .boolean))
theorem f_Ops_isCommuting : mfS m_Ops_isCommuting 1 := ⟨w_468, w_13, w_469, ⟨by decide +kernel, by decide +kernel, by decide +kernel⟩, by decide, by decide⟩
def m_Ops_canTrap : nk_T := (⟨"NeedCode$Operators", "canTrap", "(I)Z"⟩, prog_6_method_3_code, 1, (some .boolean))
theorem f_Ops_canTrap : mfS m_Ops_canTrap 1 := ⟨w_474, w_13, w_475, ⟨by decide +kernel, by decide +kernel, by decide +kernel⟩, by decide, by decide⟩
def m_Tree_mayTrap : nk_T := (⟨"NeedCode$Tree", "mayTrap", "(I)Z"⟩, prog_11_method_9_code, 2, (some .boolean))
theorem f_Tree_mayTrap : mfV m_Tree_mayTrap 1 := ⟨w_477, w_478, w_6, w_479, ⟨by decide +kernel, by decide +kernel, by decide +kernel⟩, by decide, by decide⟩
def m_Tree_deriveSingle : nk_T := (⟨"NeedCode$Tree", "deriveSingle", "(I)V"⟩, prog_11_method_17_code, 3, none)
theorem f_Tree_deriveSingle : mfV m_Tree_deriveSingle 1 := ⟨w_482, ts_1 (q := (⟨"NeedCode$Tree", "deriveSingle", "(I)V"⟩, 10)) (List.mem_of_getElem? (i := 11) rfl), w_6, w_483, ⟨by decide +kernel, by decide +kernel, by decide +kernel⟩, by decide, by decide⟩
def m_Tree_lowestAlike : nk_T := (⟨"NeedCode$Tree", "lowestAlike", "(I)I"⟩, prog_11_method_21_code, 3, (some .int))
theorem f_Tree_lowestAlike : mfV m_Tree_lowestAlike 1 := ⟨w_486, ts_1 (q := (⟨"NeedCode$Tree", "lowestAlike", "(I)I"⟩, 10)) (List.mem_of_getElem? (i := 12) rfl), w_6, w_487, ⟨by decide +kernel, by decide +kernel, by decide +kernel⟩, by decide, by decide⟩
def m_Tree_areAlike : nk_T := (⟨"NeedCode$Tree", "areAlike", "(II)Z"⟩, prog_11_method_22_code, 3, (some .boolean))
theorem f_Tree_areAlike : mfV m_Tree_areAlike 2 := ⟨w_490, ts_1 (q := (⟨"NeedCode$Tree", "areAlike", "(II)Z"⟩, 10)) (List.mem_of_getElem? (i := 13) rfl), w_6, w_491, ⟨by decide +kernel, by decide +kernel, by decide +kernel⟩, by decide, by decide⟩
def m_Tree_kindOf : nk_T := (⟨"NeedCode$Tree", "kindOf", "(I)I"⟩, prog_11_method_23_code, 2, (some .int))
theorem f_Tree_kindOf : mfV m_Tree_kindOf 1 := ⟨w_494, ts_1 (q := (⟨"NeedCode$Tree", "kindOf", "(I)I"⟩, 10)) (List.mem_of_getElem? (i := 14) rfl), w_6, w_495, ⟨by decide +kernel, by decide +kernel, by decide +kernel⟩, by decide, by decide⟩
def m_Tree_copy : nk_T := (⟨"NeedCode$Tree", "copy", "(LNeedCode$Tree;)V"⟩, prog_11_method_14_code, 2, none)
theorem f_Tree_copy : mfV m_Tree_copy 1 := ⟨w_497, w_498, w_6, w_499, ⟨by decide +kernel, by decide +kernel, by decide +kernel⟩, by decide, by decide⟩
def m_Row_copy : nk_T := (⟨"NeedCode$Row", "copy", "(LNeedCode$Row;)V"⟩, prog_9_method_4_code, 2, none)
theorem f_Row_copy : mfV m_Row_copy 1 := ⟨w_501, w_502, w_2, w_503, ⟨by decide +kernel, by decide +kernel, by decide +kernel⟩, by decide, by decide⟩
def m_Acts_forget : nk_T := (⟨"NeedCode$Acts", "forget", "()V"⟩, prog_2_method_2_code, 1, none)
theorem f_Acts_forget : mfV m_Acts_forget 0 := ⟨w_509, w_510, w_7, w_511, ⟨by decide +kernel, by decide +kernel, by decide +kernel⟩, by decide, by decide⟩
def m_Need_refresh : nk_T := (⟨"NeedCode", "refresh", "()V"⟩, prog_1_method_30_code, 1, none)
theorem f_Need_refresh : mfV m_Need_refresh 0 := ⟨w_514, ts_1 (q := (⟨"NeedCode", "refresh", "()V"⟩, 14)) (List.mem_of_getElem? (i := 15) rfl), w_1, w_515, ⟨by decide +kernel, by decide +kernel, by decide +kernel⟩, by decide, by decide⟩
def m_Shares_find : nk_T := (⟨"NeedCode$Shares", "find", "(LNeedCode$Tree;)V"⟩, prog_10_method_2_code, 4, none)
theorem f_Shares_find : mfV m_Shares_find 1 := ⟨w_517, w_518, w_11, w_519, ⟨by decide +kernel, by decide +kernel, by decide +kernel⟩, by decide, by decide⟩
def m_Shares_timesOf : nk_T := (⟨"NeedCode$Shares", "timesOf", "(LNeedCode$Tree;I)I"⟩, prog_10_method_3_code, 4, (some .int))
theorem f_Shares_timesOf : mfS m_Shares_timesOf 2 := ⟨w_524, w_11, w_525, ⟨by decide +kernel, by decide +kernel, by decide +kernel⟩, by decide, by decide⟩
def m_Costs_fill : nk_T := (⟨"NeedCode$Costs", "fill", "(LNeedCode$Tree;LNeedCode$Row;)V"⟩, prog_3_method_4_code, 4, none)
theorem f_Costs_fill : mfV m_Costs_fill 2 := ⟨w_528, w_529, w_8, w_530, ⟨by decide +kernel, by decide +kernel, by decide +kernel⟩, by decide, by decide⟩
def m_Costs_fillNode : nk_T := (⟨"NeedCode$Costs", "fillNode", "(LNeedCode$Tree;LNeedCode$Row;I)V"⟩, prog_3_method_5_code, 5, none)
theorem f_Costs_fillNode : mfV m_Costs_fillNode 3 := ⟨w_532, w_533, w_8, w_534, ⟨by decide +kernel, by decide +kernel, by decide +kernel⟩, by decide, by decide⟩
def m_Costs_countAsLeaf : nk_T := (⟨"NeedCode$Costs", "countAsLeaf", "(LNeedCode$Row;I)V"⟩, prog_3_method_6_code, 4, none)
theorem f_Costs_countAsLeaf : mfV m_Costs_countAsLeaf 2 := ⟨w_537, w_538, w_8, w_539, ⟨by decide +kernel, by decide +kernel, by decide +kernel⟩, by decide, by decide⟩
def m_Costs_put : nk_T := (⟨"NeedCode$Costs", "put", "(IIII)V"⟩, prog_3_method_7_code, 5, none)
theorem f_Costs_put : mfV m_Costs_put 4 := ⟨w_544, ts_2 (q := (⟨"NeedCode$Costs", "put", "(IIII)V"⟩, 5)) (List.mem_of_getElem? (i := 0) rfl), w_8, w_545, ⟨by decide +kernel, by decide +kernel, by decide +kernel⟩, by decide, by decide⟩
def m_Costs_choose : nk_T := (⟨"NeedCode$Costs", "choose", "(LNeedCode$Tree;LNeedCode$Row;II)V"⟩, prog_3_method_8_code, 16, none)
theorem f_Costs_choose : mfV m_Costs_choose 4 := ⟨w_549, ts_2 (q := (⟨"NeedCode$Costs", "choose", "(LNeedCode$Tree;LNeedCode$Row;II)V"⟩, 5)) (List.mem_of_getElem? (i := 1) rfl), w_8, w_550, ⟨by decide +kernel, by decide +kernel, by decide +kernel⟩, by decide, by decide⟩
def m_Costs_costOf : nk_T := (⟨"NeedCode$Costs", "costOf", "(II)I"⟩, prog_3_method_2_code, 3, (some .int))
theorem f_Costs_costOf : mfV m_Costs_costOf 2 := ⟨w_552, w_553, w_8, w_554, ⟨by decide +kernel, by decide +kernel, by decide +kernel⟩, by decide, by decide⟩
def m_Costs_keptOf : nk_T := (⟨"NeedCode$Costs", "keptOf", "(LNeedCode$Row;II)I"⟩, prog_3_method_10_code, 4, (some .int))
theorem f_Costs_keptOf : mfV m_Costs_keptOf 3 := ⟨w_557, ts_2 (q := (⟨"NeedCode$Costs", "keptOf", "(LNeedCode$Row;II)I"⟩, 5)) (List.mem_of_getElem? (i := 2) rfl), w_8, w_558, ⟨by decide +kernel, by decide +kernel, by decide +kernel⟩, by decide, by decide⟩
def m_Tree_bothMayTrap : nk_T := (⟨"NeedCode$Tree", "bothMayTrap", "(I)Z"⟩, prog_11_method_10_code, 2, (some .boolean))
theorem f_Tree_bothMayTrap : mfV m_Tree_bothMayTrap 1 := ⟨w_560, w_561, w_6, w_562, ⟨by decide +kernel, by decide +kernel, by decide +kernel⟩, by decide, by decide⟩
def m_Costs_offer : nk_T := (⟨"NeedCode$Costs", "offer", "(IZI)V"⟩, prog_3_method_9_code, 4, none)
theorem f_Costs_offer : mfV m_Costs_offer 3 := ⟨w_565, ts_2 (q := (⟨"NeedCode$Costs", "offer", "(IZI)V"⟩, 5)) (List.mem_of_getElem? (i := 3) rfl), w_8, w_566, ⟨by decide +kernel, by decide +kernel, by decide +kernel⟩, by decide, by decide⟩
def m_Program_forget : nk_T := (⟨"NeedCode$Program", "forget", "()V"⟩, prog_7_method_3_code, 1, none)
theorem f_Program_forget : mfV m_Program_forget 0 := ⟨w_569, w_570, w_9, w_571, ⟨by decide +kernel, by decide +kernel, by decide +kernel⟩, by decide, by decide⟩
def m_Need_node : nk_T := (⟨"NeedCode", "node", "(II)I"⟩, prog_1_method_5_code, 3, (some .int))
theorem f_Need_node : mfV m_Need_node 2 := ⟨w_573, w_574, w_1, w_575, ⟨by decide +kernel, by decide +kernel, by decide +kernel⟩, by decide, by decide⟩
def m_Tree_has : nk_T := (⟨"NeedCode$Tree", "has", "(I)Z"⟩, prog_11_method_4_code, 2, (some .boolean))
theorem f_Tree_has : mfV m_Tree_has 1 := ⟨w_577, w_578, w_6, w_579, ⟨by decide +kernel, by decide +kernel, by decide +kernel⟩, by decide, by decide⟩
def m_Need_value : nk_T := (⟨"NeedCode", "value", "(I)I"⟩, prog_1_method_6_code, 2, (some .int))
theorem f_Need_value : mfV m_Need_value 1 := ⟨w_582, w_583, w_1, w_584, ⟨by decide +kernel, by decide +kernel, by decide +kernel⟩, by decide, by decide⟩
def m_Device_evaluate : nk_T := (⟨"NeedCode$Device", "evaluate", "(LNeedCode$Tree;LNeedCode$Row;I)Z"⟩, prog_4_method_2_code, 7, (some .boolean))
theorem f_Device_evaluate : mfV m_Device_evaluate 3 := ⟨w_586, w_587, w_10, w_588, ⟨by decide +kernel, by decide +kernel, by decide +kernel⟩, by decide, by decide⟩
def m_Device_operate : nk_T := (⟨"NeedCode$Device", "operate", "(LNeedCode$Tree;III)Z"⟩, prog_4_method_6_code, 6, (some .boolean))
theorem f_Device_operate : mfV m_Device_operate 4 := ⟨w_593, ts_2 (q := (⟨"NeedCode$Device", "operate", "(LNeedCode$Tree;III)Z"⟩, 5)) (List.mem_of_getElem? (i := 4) rfl), w_10, w_594, ⟨by decide +kernel, by decide +kernel, by decide +kernel⟩, by decide, by decide⟩
def m_Ops_trapsBy : nk_T := (⟨"NeedCode$Operators", "trapsBy", "(III)Z"⟩, prog_6_method_7_code, 3, (some .boolean))
theorem f_Ops_trapsBy : mfS m_Ops_trapsBy 3 := ⟨w_596, w_13, w_597, ⟨by decide +kernel, by decide +kernel, by decide +kernel⟩, by decide, by decide⟩
def m_Ops_outcome : nk_T := (⟨"NeedCode$Operators", "outcome", "(III)I"⟩, prog_6_method_8_code, 3, (some .int))
theorem f_Ops_outcome : mfS m_Ops_outcome 3 := ⟨w_599, w_13, w_600, ⟨by decide +kernel, by decide +kernel, by decide +kernel⟩, by decide, by decide⟩
def m_Need_tell : nk_T := (⟨"NeedCode", "tell", "(Z)I"⟩, prog_1_method_29_code, 2, (some .int))
theorem f_Need_tell : mfV m_Need_tell 1 := ⟨w_604, ts_2 (q := (⟨"NeedCode", "tell", "(Z)I"⟩, 14)) (List.mem_of_getElem? (i := 5) rfl), w_1, w_605, ⟨by decide +kernel, by decide +kernel, by decide +kernel⟩, by decide, by decide⟩
def m_Need_cost : nk_T := (⟨"NeedCode", "cost", "(II)I"⟩, prog_1_method_7_code, 3, (some .int))
theorem f_Need_cost : mfV m_Need_cost 2 := ⟨w_607, w_608, w_1, w_609, ⟨by decide +kernel, by decide +kernel, by decide +kernel⟩, by decide, by decide⟩
def m_Need_hasRegisters : nk_T := (⟨"NeedCode", "hasRegisters", "(I)Z"⟩, prog_1_method_25_code, 2, (some .boolean))
theorem f_Need_hasRegisters : mfV m_Need_hasRegisters 1 := ⟨w_612, ts_2 (q := (⟨"NeedCode", "hasRegisters", "(I)Z"⟩, 14)) (List.mem_of_getElem? (i := 6) rfl), w_1, w_613, ⟨by decide +kernel, by decide +kernel, by decide +kernel⟩, by decide, by decide⟩
def m_Need_registers : nk_T := (⟨"NeedCode", "registers", "()I"⟩, prog_1_method_24_code, 1, (some .int))
theorem f_Need_registers : mfV m_Need_registers 0 := ⟨w_616, ts_2 (q := (⟨"NeedCode", "registers", "()I"⟩, 14)) (List.mem_of_getElem? (i := 7) rfl), w_1, w_617, ⟨by decide +kernel, by decide +kernel, by decide +kernel⟩, by decide, by decide⟩
def m_Need_way : nk_T := (⟨"NeedCode", "way", "(II)I"⟩, prog_1_method_8_code, 3, (some .int))
theorem f_Need_way : mfV m_Need_way 2 := ⟨w_620, w_621, w_1, w_622, ⟨by decide +kernel, by decide +kernel, by decide +kernel⟩, by decide, by decide⟩
def m_Costs_wayOf : nk_T := (⟨"NeedCode$Costs", "wayOf", "(II)I"⟩, prog_3_method_3_code, 3, (some .int))
theorem f_Costs_wayOf : mfV m_Costs_wayOf 2 := ⟨w_624, w_625, w_8, w_626, ⟨by decide +kernel, by decide +kernel, by decide +kernel⟩, by decide, by decide⟩
def m_Need_program : nk_T := (⟨"NeedCode", "program", "(II)I"⟩, prog_1_method_9_code, 3, (some .int))
theorem f_Need_program : mfV m_Need_program 2 := ⟨w_628, w_629, w_1, w_630, ⟨by decide +kernel, by decide +kernel, by decide +kernel⟩, by decide, by decide⟩
def m_Tree_isEmpty : nk_T := (⟨"NeedCode$Tree", "isEmpty", "()Z"⟩, prog_11_method_2_code, 1, (some .boolean))
theorem f_Tree_isEmpty : mfV m_Tree_isEmpty 0 := ⟨w_632, w_633, w_6, w_634, ⟨by decide +kernel, by decide +kernel, by decide +kernel⟩, by decide, by decide⟩
def m_Program_makeBy : nk_T := (⟨"NeedCode$Program", "makeBy", "(ILNeedCode$Tree;LNeedCode$Costs;)V"⟩, prog_7_method_4_code, 4, none)
theorem f_Program_makeBy : mfV m_Program_makeBy 3 := ⟨w_637, w_638, w_9, w_639, ⟨by decide +kernel, by decide +kernel, by decide +kernel⟩, by decide, by decide⟩
def m_Program_have : nk_T := (⟨"NeedCode$Program", "have", "(LNeedCode$Tree;LNeedCode$Costs;IIII)V"⟩, prog_7_method_5_code, 7, none)
theorem f_Program_have : mfV m_Program_have 6 := ⟨w_643, ts_2 (q := (⟨"NeedCode$Program", "have", "(LNeedCode$Tree;LNeedCode$Costs;IIII)V"⟩, 5)) (List.mem_of_getElem? (i := 8) rfl), w_9, w_644, ⟨by decide +kernel, by decide +kernel, by decide +kernel⟩, by decide, by decide⟩
def m_Program_sourceKind : nk_T := (⟨"NeedCode$Program", "sourceKind", "(LNeedCode$Tree;I)I"⟩, prog_7_method_8_code, 2, (some .int))
theorem f_Program_sourceKind : mfS m_Program_sourceKind 2 := ⟨w_647, w_9, w_648, ⟨by decide +kernel, by decide +kernel, by decide +kernel⟩, by decide, by decide⟩
def m_Program_sourceNumber : nk_T := (⟨"NeedCode$Program", "sourceNumber", "(LNeedCode$Tree;I)I"⟩, prog_7_method_9_code, 3, (some .int))
theorem f_Program_sourceNumber : mfV m_Program_sourceNumber 2 := ⟨w_652, ts_2 (q := (⟨"NeedCode$Program", "sourceNumber", "(LNeedCode$Tree;I)I"⟩, 5)) (List.mem_of_getElem? (i := 9) rfl), w_9, w_653, ⟨by decide +kernel, by decide +kernel, by decide +kernel⟩, by decide, by decide⟩
def m_Program_add : nk_T := (⟨"NeedCode$Program", "add", "(IIIII)V"⟩, prog_7_method_10_code, 7, none)
theorem f_Program_add : mfV m_Program_add 5 := ⟨w_656, ts_2 (q := (⟨"NeedCode$Program", "add", "(IIIII)V"⟩, 5)) (List.mem_of_getElem? (i := 10) rfl), w_9, w_657, ⟨by decide +kernel, by decide +kernel, by decide +kernel⟩, by decide, by decide⟩
def m_Program_haveByWay : nk_T := (⟨"NeedCode$Program", "haveByWay", "(LNeedCode$Tree;LNeedCode$Costs;IIII)V"⟩, prog_7_method_6_code, 9, none)
theorem f_Program_haveByWay : mfV m_Program_haveByWay 6 := ⟨w_662, ts_2 (q := (⟨"NeedCode$Program", "haveByWay", "(LNeedCode$Tree;LNeedCode$Costs;IIII)V"⟩, 5)) (List.mem_of_getElem? (i := 11) rfl), w_9, w_663, ⟨by decide +kernel, by decide +kernel, by decide +kernel⟩, by decide, by decide⟩
def m_Program_haveKept : nk_T := (⟨"NeedCode$Program", "haveKept", "(LNeedCode$Tree;LNeedCode$Costs;IIII)V"⟩, prog_7_method_7_code, 7, none)
theorem f_Program_haveKept : mfV m_Program_haveKept 6 := ⟨w_667, ts_2 (q := (⟨"NeedCode$Program", "haveKept", "(LNeedCode$Tree;LNeedCode$Costs;IIII)V"⟩, 5)) (List.mem_of_getElem? (i := 12) rfl), w_9, w_668, ⟨by decide +kernel, by decide +kernel, by decide +kernel⟩, by decide, by decide⟩
def m_Need_line : nk_T := (⟨"NeedCode", "line", "(II)I"⟩, prog_1_method_10_code, 3, (some .int))
theorem f_Need_line : mfV m_Need_line 2 := ⟨w_670, w_671, w_1, w_672, ⟨by decide +kernel, by decide +kernel, by decide +kernel⟩, by decide, by decide⟩
def m_Program_part : nk_T := (⟨"NeedCode$Program", "part", "(II)I"⟩, prog_7_method_2_code, 3, (some .int))
theorem f_Program_part : mfV m_Program_part 2 := ⟨w_674, w_675, w_9, w_676, ⟨by decide +kernel, by decide +kernel, by decide +kernel⟩, by decide, by decide⟩
def m_Need_run : nk_T := (⟨"NeedCode", "run", "(I)I"⟩, prog_1_method_11_code, 2, (some .int))
theorem f_Need_run : mfV m_Need_run 1 := ⟨w_678, w_679, w_1, w_680, ⟨by decide +kernel, by decide +kernel, by decide +kernel⟩, by decide, by decide⟩
def m_Device_goThrough : nk_T := (⟨"NeedCode$Device", "goThrough", "(LNeedCode$Program;ILNeedCode$Tree;LNeedCode$Row;)Z"⟩, prog_4_method_3_code, 6, (some .boolean))
theorem f_Device_goThrough : mfV m_Device_goThrough 4 := ⟨w_682, w_683, w_10, w_684, ⟨by decide +kernel, by decide +kernel, by decide +kernel⟩, by decide, by decide⟩
def m_Row_empty : nk_T := (⟨"NeedCode$Row", "empty", "()V"⟩, prog_9_method_5_code, 2, none)
theorem f_Row_empty : mfV m_Row_empty 0 := ⟨w_686, w_687, w_2, w_688, ⟨by decide +kernel, by decide +kernel, by decide +kernel⟩, by decide, by decide⟩
def m_Device_step : nk_T := (⟨"NeedCode$Device", "step", "(LNeedCode$Program;ILNeedCode$Tree;LNeedCode$Row;)Z"⟩, prog_4_method_4_code, 10, (some .boolean))
theorem f_Device_step : mfV m_Device_step 4 := ⟨w_691, ts_2 (q := (⟨"NeedCode$Device", "step", "(LNeedCode$Program;ILNeedCode$Tree;LNeedCode$Row;)Z"⟩, 5)) (List.mem_of_getElem? (i := 13) rfl), w_10, w_692, ⟨by decide +kernel, by decide +kernel, by decide +kernel⟩, by decide, by decide⟩
def m_Device_source : nk_T := (⟨"NeedCode$Device", "source", "(LNeedCode$Row;II)I"⟩, prog_4_method_5_code, 4, (some .int))
theorem f_Device_source : mfV m_Device_source 3 := ⟨w_696, ts_2 (q := (⟨"NeedCode$Device", "source", "(LNeedCode$Row;II)I"⟩, 5)) (List.mem_of_getElem? (i := 14) rfl), w_10, w_697, ⟨by decide +kernel, by decide +kernel, by decide +kernel⟩, by decide, by decide⟩
def m_Need_fewest : nk_T := (⟨"NeedCode", "fewest", "()I"⟩, prog_1_method_12_code, 2, (some .int))
theorem f_Need_fewest : mfV m_Need_fewest 0 := ⟨w_699, w_700, w_1, w_701, ⟨by decide +kernel, by decide +kernel, by decide +kernel⟩, by decide, by decide⟩
def m_Need_exchange : nk_T := (⟨"NeedCode", "exchange", "(I)I"⟩, prog_1_method_13_code, 2, (some .int))
theorem f_Need_exchange : mfV m_Need_exchange 1 := ⟨w_703, w_704, w_1, w_705, ⟨by decide +kernel, by decide +kernel, by decide +kernel⟩, by decide, by decide⟩
def m_Tree_isExchangeable : nk_T := (⟨"NeedCode$Tree", "isExchangeable", "(I)Z"⟩, prog_11_method_11_code, 2, (some .boolean))
theorem f_Tree_isExchangeable : mfV m_Tree_isExchangeable 1 := ⟨w_707, w_708, w_6, w_709, ⟨by decide +kernel, by decide +kernel, by decide +kernel⟩, by decide, by decide⟩
def m_Acts_addExchange : nk_T := (⟨"NeedCode$Acts", "addExchange", "(I)V"⟩, prog_2_method_3_code, 2, none)
theorem f_Acts_addExchange : mfV m_Acts_addExchange 1 := ⟨w_712, w_713, w_7, w_714, ⟨by decide +kernel, by decide +kernel, by decide +kernel⟩, by decide, by decide⟩
def m_Acts_add : nk_T := (⟨"NeedCode$Acts", "add", "(III)V"⟩, prog_2_method_6_code, 4, none)
theorem f_Acts_add : mfV m_Acts_add 3 := ⟨w_717, ts_2 (q := (⟨"NeedCode$Acts", "add", "(III)V"⟩, 6)) (List.mem_of_getElem? (i := 15) rfl), w_7, w_718, ⟨by decide +kernel, by decide +kernel, by decide +kernel⟩, by decide, by decide⟩
def m_Tree_turn : nk_T := (⟨"NeedCode$Tree", "turn", "(ILNeedCode$Tree;)V"⟩, prog_11_method_24_code, 8, none)
theorem f_Tree_turn : mfV m_Tree_turn 2 := ⟨w_722, w_723, w_6, w_724, ⟨by decide +kernel, by decide +kernel, by decide +kernel⟩, by decide, by decide⟩
def m_Tree_move : nk_T := (⟨"NeedCode$Tree", "move", "(LNeedCode$Tree;II)V"⟩, prog_11_method_25_code, 6, none)
theorem f_Tree_move : mfV m_Tree_move 3 := ⟨w_728, ts_3 (q := (⟨"NeedCode$Tree", "move", "(LNeedCode$Tree;II)V"⟩, 10)) (List.mem_of_getElem? (i := 0) rfl), w_6, w_729, ⟨by decide +kernel, by decide +kernel, by decide +kernel⟩, by decide, by decide⟩
def m_Need_rootCost : nk_T := (⟨"NeedCode", "rootCost", "()I"⟩, prog_1_method_28_code, 1, (some .int))
theorem f_Need_rootCost : mfV m_Need_rootCost 0 := ⟨w_733, ts_3 (q := (⟨"NeedCode", "rootCost", "()I"⟩, 14)) (List.mem_of_getElem? (i := 1) rfl), w_1, w_734, ⟨by decide +kernel, by decide +kernel, by decide +kernel⟩, by decide, by decide⟩
def m_Need_let : nk_T := (⟨"NeedCode", "let", "(II)I"⟩, prog_1_method_14_code, 3, (some .int))
theorem f_Need_let : mfV m_Need_let 2 := ⟨w_736, w_737, w_1, w_738, ⟨by decide +kernel, by decide +kernel, by decide +kernel⟩, by decide, by decide⟩
def m_Acts_addLet : nk_T := (⟨"NeedCode$Acts", "addLet", "(II)V"⟩, prog_2_method_4_code, 3, none)
theorem f_Acts_addLet : mfV m_Acts_addLet 2 := ⟨w_740, w_741, w_7, w_742, ⟨by decide +kernel, by decide +kernel, by decide +kernel⟩, by decide, by decide⟩
def m_Need_machine : nk_T := (⟨"NeedCode", "machine", "(IIIII)I"⟩, prog_1_method_15_code, 6, (some .int))
theorem f_Need_machine : mfV m_Need_machine 5 := ⟨w_744, w_745, w_1, w_746, ⟨by decide +kernel, by decide +kernel, by decide +kernel⟩, by decide, by decide⟩
def m_Need_isPrice : nk_T := (⟨"NeedCode", "isPrice", "(I)Z"⟩, prog_1_method_26_code, 1, (some .boolean))
theorem f_Need_isPrice : mfS m_Need_isPrice 1 := ⟨w_748, w_1, w_749, ⟨by decide +kernel, by decide +kernel, by decide +kernel⟩, by decide, by decide⟩
def m_Acts_addMachine : nk_T := (⟨"NeedCode$Acts", "addMachine", "(LNeedCode$Row;)V"⟩, prog_2_method_5_code, 3, none)
theorem f_Acts_addMachine : mfV m_Acts_addMachine 1 := ⟨w_751, w_752, w_7, w_753, ⟨by decide +kernel, by decide +kernel, by decide +kernel⟩, by decide, by decide⟩
def m_Need_undo : nk_T := (⟨"NeedCode", "undo", "()I"⟩, prog_1_method_16_code, 2, (some .int))
theorem f_Need_undo : mfV m_Need_undo 0 := ⟨w_756, w_757, w_1, w_758, ⟨by decide +kernel, by decide +kernel, by decide +kernel⟩, by decide, by decide⟩
def m_Acts_latestKind : nk_T := (⟨"NeedCode$Acts", "latestKind", "()I"⟩, prog_2_method_7_code, 1, (some .int))
theorem f_Acts_latestKind : mfV m_Acts_latestKind 0 := ⟨w_760, w_761, w_7, w_762, ⟨by decide +kernel, by decide +kernel, by decide +kernel⟩, by decide, by decide⟩
def m_Acts_latestPlace : nk_T := (⟨"NeedCode$Acts", "latestPlace", "()I"⟩, prog_2_method_8_code, 1, (some .int))
theorem f_Acts_latestPlace : mfV m_Acts_latestPlace 0 := ⟨w_764, w_765, w_7, w_766, ⟨by decide +kernel, by decide +kernel, by decide +kernel⟩, by decide, by decide⟩
def m_Acts_latestNumber : nk_T := (⟨"NeedCode$Acts", "latestNumber", "()I"⟩, prog_2_method_9_code, 1, (some .int))
theorem f_Acts_latestNumber : mfV m_Acts_latestNumber 0 := ⟨w_768, w_769, w_7, w_770, ⟨by decide +kernel, by decide +kernel, by decide +kernel⟩, by decide, by decide⟩
def m_Acts_tellMachine : nk_T := (⟨"NeedCode$Acts", "tellMachine", "(LNeedCode$Row;)V"⟩, prog_2_method_10_code, 3, none)
theorem f_Acts_tellMachine : mfV m_Acts_tellMachine 1 := ⟨w_772, w_773, w_7, w_774, ⟨by decide +kernel, by decide +kernel, by decide +kernel⟩, by decide, by decide⟩
def m_Acts_drop : nk_T := (⟨"NeedCode$Acts", "drop", "()V"⟩, prog_2_method_11_code, 1, none)
theorem f_Acts_drop : mfV m_Acts_drop 0 := ⟨w_776, w_777, w_7, w_778, ⟨by decide +kernel, by decide +kernel, by decide +kernel⟩, by decide, by decide⟩
def m_Need_shared : nk_T := (⟨"NeedCode", "shared", "(II)I"⟩, prog_1_method_17_code, 3, (some .int))
theorem f_Need_shared : mfV m_Need_shared 2 := ⟨w_780, w_781, w_1, w_782, ⟨by decide +kernel, by decide +kernel, by decide +kernel⟩, by decide, by decide⟩
def m_Need_cheapest : nk_T := (⟨"NeedCode", "cheapest", "(I)I"⟩, prog_1_method_18_code, 2, (some .int))
theorem f_Need_cheapest : mfV m_Need_cheapest 1 := ⟨w_784, w_785, w_1, w_786, ⟨by decide +kernel, by decide +kernel, by decide +kernel⟩, by decide, by decide⟩
def m_Shares_weigh : nk_T := (⟨"NeedCode$Shares", "weigh", "(LNeedCode$Tree;LNeedCode$Row;)V"⟩, prog_10_method_4_code, 5, none)
theorem f_Shares_weigh : mfV m_Shares_weigh 2 := ⟨w_788, w_789, w_11, w_790, ⟨by decide +kernel, by decide +kernel, by decide +kernel⟩, by decide, by decide⟩
def m_Shares_sumBy : nk_T := (⟨"NeedCode$Shares", "sumBy", "(ILNeedCode$Tree;LNeedCode$Row;)I"⟩, prog_10_method_5_code, 7, (some .int))
theorem f_Shares_sumBy : mfV m_Shares_sumBy 3 := ⟨w_793, ts_3 (q := (⟨"NeedCode$Shares", "sumBy", "(ILNeedCode$Tree;LNeedCode$Row;)I"⟩, 7)) (List.mem_of_getElem? (i := 2) rfl), w_11, w_794, ⟨by decide +kernel, by decide +kernel, by decide +kernel⟩, by decide, by decide⟩
def m_Shares_isOfSet : nk_T := (⟨"NeedCode$Shares", "isOfSet", "(II)Z"⟩, prog_10_method_6_code, 4, (some .boolean))
theorem f_Shares_isOfSet : mfV m_Shares_isOfSet 2 := ⟨w_798, ts_3 (q := (⟨"NeedCode$Shares", "isOfSet", "(II)Z"⟩, 7)) (List.mem_of_getElem? (i := 3) rfl), w_11, w_799, ⟨by decide +kernel, by decide +kernel, by decide +kernel⟩, by decide, by decide⟩
def m_Need_keep : nk_T := (⟨"NeedCode", "keep", "(I)I"⟩, prog_1_method_19_code, 3, (some .int))
theorem f_Need_keep : mfV m_Need_keep 1 := ⟨w_805, w_806, w_1, w_807, ⟨by decide +kernel, by decide +kernel, by decide +kernel⟩, by decide, by decide⟩
def m_Need_imageOf : nk_T := (⟨"NeedCode", "imageOf", "(I)LNeedCode$Image;"⟩, prog_1_method_27_code, 2, (some (.object "NeedCode$Image")))
theorem f_Need_imageOf : mfV m_Need_imageOf 1 := ⟨w_810, ts_3 (q := (⟨"NeedCode", "imageOf", "(I)LNeedCode$Image;"⟩, 14)) (List.mem_of_getElem? (i := 4) rfl), w_1, w_811, ⟨by decide +kernel, by decide +kernel, by decide +kernel⟩, by decide, by decide⟩
def m_Image_copy : nk_T := (⟨"NeedCode$Image", "copy", "(LNeedCode$Image;)V"⟩, prog_5_method_2_code, 2, none)
theorem f_Image_copy : mfV m_Image_copy 1 := ⟨w_813, w_814, w_5, w_815, ⟨by decide +kernel, by decide +kernel, by decide +kernel⟩, by decide, by decide⟩
def m_Need_back : nk_T := (⟨"NeedCode", "back", "(I)I"⟩, prog_1_method_20_code, 3, (some .int))
theorem f_Need_back : mfV m_Need_back 1 := ⟨w_819, w_820, w_1, w_821, ⟨by decide +kernel, by decide +kernel, by decide +kernel⟩, by decide, by decide⟩
def m_Need_asked : nk_T := (⟨"NeedCode", "asked", "()I"⟩, prog_1_method_21_code, 1, (some .int))
theorem f_Need_asked : mfV m_Need_asked 0 := ⟨w_823, w_824, w_1, w_825, ⟨by decide +kernel, by decide +kernel, by decide +kernel⟩, by decide, by decide⟩
def m_Need_trapped : nk_T := (⟨"NeedCode", "trapped", "()I"⟩, prog_1_method_22_code, 1, (some .int))
theorem f_Need_trapped : mfV m_Need_trapped 0 := ⟨w_827, w_828, w_1, w_829, ⟨by decide +kernel, by decide +kernel, by decide +kernel⟩, by decide, by decide⟩
def m_Need_count : nk_T := (⟨"NeedCode", "count", "(I)I"⟩, prog_1_method_23_code, 2, (some .int))
theorem f_Need_count : mfV m_Need_count 1 := ⟨w_831, w_832, w_1, w_833, ⟨by decide +kernel, by decide +kernel, by decide +kernel⟩, by decide, by decide⟩
def m_Model_init : nk_T := (⟨"NeedCodeModel", "<init>", "()V"⟩, prog_13_method_1_code, 1, none)
theorem f_Model_init : mfI m_Model_init 0 := ⟨w_837, w_12, w_838, ⟨by decide +kernel, by decide +kernel, by decide +kernel⟩, by decide, by decide, rfl, rfl⟩
def m_Model_type : nk_T := (⟨"NeedCodeModel", "type", "(I)I"⟩, prog_13_method_5_code, 2, (some .int))
theorem f_Model_type : mfV m_Model_type 1 := ⟨w_939, w_940, w_12, w_941, ⟨by decide +kernel, by decide +kernel, by decide +kernel⟩, by decide, by decide⟩
def m_Model_in : nk_T := (⟨"NeedCodeModel", "in", "(III)Z"⟩, prog_13_method_3_code, 3, (some .boolean))
theorem f_Model_in : mfS m_Model_in 3 := ⟨w_943, w_12, w_944, ⟨by decide +kernel, by decide +kernel, by decide +kernel⟩, by decide, by decide⟩
def m_Model_clear : nk_T := (⟨"NeedCodeModel", "clear", "()I"⟩, prog_13_method_6_code, 2, (some .int))
theorem f_Model_clear : mfV m_Model_clear 0 := ⟨w_946, w_947, w_12, w_948, ⟨by decide +kernel, by decide +kernel, by decide +kernel⟩, by decide, by decide⟩
def m_Model_tree : nk_T := (⟨"NeedCodeModel", "tree", "()I"⟩, prog_13_method_22_code, 4, (some .int))
theorem f_Model_tree : mfV m_Model_tree 0 := ⟨w_950, w_951, w_12, w_952, ⟨by decide +kernel, by decide +kernel, by decide +kernel⟩, by decide, by decide⟩
def m_Model_isWell : nk_T := (⟨"NeedCodeModel", "isWell", "()Z"⟩, prog_13_method_13_code, 1, (some .boolean))
theorem f_Model_isWell : mfV m_Model_isWell 0 := ⟨w_955, ts_3 (q := (⟨"NeedCodeModel", "isWell", "()Z"⟩, 32)) (List.mem_of_getElem? (i := 5) rfl), w_12, w_956, ⟨by decide +kernel, by decide +kernel, by decide +kernel⟩, by decide, by decide⟩
def m_Model_blanks : nk_T := (⟨"NeedCodeModel", "blanks", "()V"⟩, prog_13_method_12_code, 1, none)
theorem f_Model_blanks : mfV m_Model_blanks 0 := ⟨w_959, ts_3 (q := (⟨"NeedCodeModel", "blanks", "()V"⟩, 32)) (List.mem_of_getElem? (i := 6) rfl), w_12, w_960, ⟨by decide +kernel, by decide +kernel, by decide +kernel⟩, by decide, by decide⟩
def m_Model_letterAt : nk_T := (⟨"NeedCodeModel", "letterAt", "(I)I"⟩, prog_13_method_7_code, 2, (some .int))
theorem f_Model_letterAt : mfV m_Model_letterAt 1 := ⟨w_963, ts_3 (q := (⟨"NeedCodeModel", "letterAt", "(I)I"⟩, 32)) (List.mem_of_getElem? (i := 7) rfl), w_12, w_964, ⟨by decide +kernel, by decide +kernel, by decide +kernel⟩, by decide, by decide⟩
def m_Model_readsPart : nk_T := (⟨"NeedCodeModel", "readsPart", "()Z"⟩, prog_13_method_20_code, 2, (some .boolean))
theorem f_Model_readsPart : mfV m_Model_readsPart 0 := ⟨w_967, ts_3 (q := (⟨"NeedCodeModel", "readsPart", "()Z"⟩, 32)) (List.mem_of_getElem? (i := 8) rfl), w_12, w_968, ⟨by decide +kernel, by decide +kernel, by decide +kernel⟩, by decide, by decide⟩
def m_Model_waits : nk_T := (⟨"NeedCodeModel", "waits", "(I)V"⟩, prog_13_method_15_code, 2, none)
theorem f_Model_waits : mfV m_Model_waits 1 := ⟨w_971, ts_3 (q := (⟨"NeedCodeModel", "waits", "(I)V"⟩, 32)) (List.mem_of_getElem? (i := 9) rfl), w_12, w_972, ⟨by decide +kernel, by decide +kernel, by decide +kernel⟩, by decide, by decide⟩
def m_Model_readsNumber : nk_T := (⟨"NeedCodeModel", "readsNumber", "()V"⟩, prog_13_method_19_code, 3, none)
theorem f_Model_readsNumber : mfV m_Model_readsNumber 0 := ⟨w_975, ts_3 (q := (⟨"NeedCodeModel", "readsNumber", "()V"⟩, 32)) (List.mem_of_getElem? (i := 10) rfl), w_12, w_976, ⟨by decide +kernel, by decide +kernel, by decide +kernel⟩, by decide, by decide⟩
def m_Model_makes : nk_T := (⟨"NeedCodeModel", "makes", "(IIIII)V"⟩, prog_13_method_14_code, 7, none)
theorem f_Model_makes : mfV m_Model_makes 5 := ⟨w_979, ts_3 (q := (⟨"NeedCodeModel", "makes", "(IIIII)V"⟩, 32)) (List.mem_of_getElem? (i := 11) rfl), w_12, w_980, ⟨by decide +kernel, by decide +kernel, by decide +kernel⟩, by decide, by decide⟩
def m_Model_partDone : nk_T := (⟨"NeedCodeModel", "partDone", "()V"⟩, prog_13_method_18_code, 1, none)
theorem f_Model_partDone : mfV m_Model_partDone 0 := ⟨w_983, ts_3 (q := (⟨"NeedCodeModel", "partDone", "()V"⟩, 32)) (List.mem_of_getElem? (i := 12) rfl), w_12, w_984, ⟨by decide +kernel, by decide +kernel, by decide +kernel⟩, by decide, by decide⟩
def m_Model_lastWaiting : nk_T := (⟨"NeedCodeModel", "lastWaiting", "()I"⟩, prog_13_method_17_code, 1, (some .int))
theorem f_Model_lastWaiting : mfV m_Model_lastWaiting 0 := ⟨w_987, ts_3 (q := (⟨"NeedCodeModel", "lastWaiting", "()I"⟩, 32)) (List.mem_of_getElem? (i := 13) rfl), w_12, w_988, ⟨by decide +kernel, by decide +kernel, by decide +kernel⟩, by decide, by decide⟩
def m_Model_isProduct : nk_T := (⟨"NeedCodeModel", "isProduct", "(I)Z"⟩, prog_13_method_10_code, 1, (some .boolean))
theorem f_Model_isProduct : mfS m_Model_isProduct 1 := ⟨w_990, w_12, w_991, ⟨by decide +kernel, by decide +kernel, by decide +kernel⟩, by decide, by decide⟩
def m_Model_doesLast : nk_T := (⟨"NeedCodeModel", "doesLast", "()V"⟩, prog_13_method_16_code, 4, none)
theorem f_Model_doesLast : mfV m_Model_doesLast 0 := ⟨w_994, ts_3 (q := (⟨"NeedCodeModel", "doesLast", "()V"⟩, 32)) (List.mem_of_getElem? (i := 14) rfl), w_12, w_995, ⟨by decide +kernel, by decide +kernel, by decide +kernel⟩, by decide, by decide⟩
def m_Model_readsBehind : nk_T := (⟨"NeedCodeModel", "readsBehind", "()Z"⟩, prog_13_method_21_code, 2, (some .boolean))
theorem f_Model_readsBehind : mfV m_Model_readsBehind 0 := ⟨w_998, ts_3 (q := (⟨"NeedCodeModel", "readsBehind", "()Z"⟩, 32)) (List.mem_of_getElem? (i := 15) rfl), w_12, w_999, ⟨by decide +kernel, by decide +kernel, by decide +kernel⟩, by decide, by decide⟩
def m_Model_isSum : nk_T := (⟨"NeedCodeModel", "isSum", "(I)Z"⟩, prog_13_method_11_code, 1, (some .boolean))
theorem f_Model_isSum : mfS m_Model_isSum 1 := ⟨w_1001, w_12, w_1002, ⟨by decide +kernel, by decide +kernel, by decide +kernel⟩, by decide, by decide⟩
def m_Model_node : nk_T := (⟨"NeedCodeModel", "node", "(II)I"⟩, prog_13_method_33_code, 3, (some .int))
theorem f_Model_node : mfV m_Model_node 2 := ⟨w_1004, w_1005, w_12, w_1006, ⟨by decide +kernel, by decide +kernel, by decide +kernel⟩, by decide, by decide⟩
def m_Model_isNode : nk_T := (⟨"NeedCodeModel", "isNode", "(I)Z"⟩, prog_13_method_23_code, 2, (some .boolean))
theorem f_Model_isNode : mfV m_Model_isNode 1 := ⟨w_1009, ts_4 (q := (⟨"NeedCodeModel", "isNode", "(I)Z"⟩, 32)) (List.mem_of_getElem? (i := 0) rfl), w_12, w_1010, ⟨by decide +kernel, by decide +kernel, by decide +kernel⟩, by decide, by decide⟩
def m_Model_needOf : nk_T := (⟨"NeedCodeModel", "needOf", "(IZ)I"⟩, prog_13_method_30_code, 8, (some .int))
theorem f_Model_needOf : mfV m_Model_needOf 2 := ⟨w_1013, ts_4 (q := (⟨"NeedCodeModel", "needOf", "(IZ)I"⟩, 32)) (List.mem_of_getElem? (i := 1) rfl), w_12, w_1014, ⟨by decide +kernel, by decide +kernel, by decide +kernel⟩, by decide, by decide⟩
def m_Model_needAs : nk_T := (⟨"NeedCodeModel", "needAs", "(IZ)I"⟩, prog_13_method_29_code, 3, (some .int))
theorem f_Model_needAs : mfV m_Model_needAs 2 := ⟨w_1017, ts_4 (q := (⟨"NeedCodeModel", "needAs", "(IZ)I"⟩, 32)) (List.mem_of_getElem? (i := 2) rfl), w_12, w_1018, ⟨by decide +kernel, by decide +kernel, by decide +kernel⟩, by decide, by decide⟩
def m_Model_isLeaf : nk_T := (⟨"NeedCodeModel", "isLeaf", "(I)Z"⟩, prog_13_method_24_code, 2, (some .boolean))
theorem f_Model_isLeaf : mfV m_Model_isLeaf 1 := ⟨w_1021, ts_4 (q := (⟨"NeedCodeModel", "isLeaf", "(I)Z"⟩, 32)) (List.mem_of_getElem? (i := 3) rfl), w_12, w_1022, ⟨by decide +kernel, by decide +kernel, by decide +kernel⟩, by decide, by decide⟩
def m_Model_isOperator : nk_T := (⟨"NeedCodeModel", "isOperator", "(I)Z"⟩, prog_13_method_8_code, 1, (some .boolean))
theorem f_Model_isOperator : mfS m_Model_isOperator 1 := ⟨w_1024, w_12, w_1025, ⟨by decide +kernel, by decide +kernel, by decide +kernel⟩, by decide, by decide⟩
def m_Model_needs : nk_T := (⟨"NeedCodeModel", "needs", "(II)I"⟩, prog_13_method_28_code, 2, (some .int))
theorem f_Model_needs : mfS m_Model_needs 2 := ⟨w_1027, w_12, w_1028, ⟨by decide +kernel, by decide +kernel, by decide +kernel⟩, by decide, by decide⟩
def m_Model_commutes : nk_T := (⟨"NeedCodeModel", "commutes", "(I)Z"⟩, prog_13_method_9_code, 1, (some .boolean))
theorem f_Model_commutes : mfS m_Model_commutes 1 := ⟨w_1030, w_12, w_1031, ⟨by decide +kernel, by decide +kernel, by decide +kernel⟩, by decide, by decide⟩
def m_Model_isRight : nk_T := (⟨"NeedCodeModel", "isRight", "(I)Z"⟩, prog_13_method_27_code, 4, (some .boolean))
theorem f_Model_isRight : mfV m_Model_isRight 1 := ⟨w_1034, ts_4 (q := (⟨"NeedCodeModel", "isRight", "(I)Z"⟩, 32)) (List.mem_of_getElem? (i := 4) rfl), w_12, w_1035, ⟨by decide +kernel, by decide +kernel, by decide +kernel⟩, by decide, by decide⟩
def m_Model_mayTrap : nk_T := (⟨"NeedCodeModel", "mayTrap", "(I)Z"⟩, prog_13_method_26_code, 4, (some .boolean))
theorem f_Model_mayTrap : mfV m_Model_mayTrap 1 := ⟨w_1038, ts_4 (q := (⟨"NeedCodeModel", "mayTrap", "(I)Z"⟩, 32)) (List.mem_of_getElem? (i := 5) rfl), w_12, w_1039, ⟨by decide +kernel, by decide +kernel, by decide +kernel⟩, by decide, by decide⟩
def m_Model_sizeOf : nk_T := (⟨"NeedCodeModel", "sizeOf", "(I)I"⟩, prog_13_method_25_code, 3, (some .int))
theorem f_Model_sizeOf : mfV m_Model_sizeOf 1 := ⟨w_1042, ts_4 (q := (⟨"NeedCodeModel", "sizeOf", "(I)I"⟩, 32)) (List.mem_of_getElem? (i := 6) rfl), w_12, w_1043, ⟨by decide +kernel, by decide +kernel, by decide +kernel⟩, by decide, by decide⟩
def m_Model_lowestAlike : nk_T := (⟨"NeedCodeModel", "lowestAlike", "(I)I"⟩, prog_13_method_32_code, 3, (some .int))
theorem f_Model_lowestAlike : mfV m_Model_lowestAlike 1 := ⟨w_1046, ts_4 (q := (⟨"NeedCodeModel", "lowestAlike", "(I)I"⟩, 32)) (List.mem_of_getElem? (i := 7) rfl), w_12, w_1047, ⟨by decide +kernel, by decide +kernel, by decide +kernel⟩, by decide, by decide⟩
def m_Model_isAlike : nk_T := (⟨"NeedCodeModel", "isAlike", "(II)Z"⟩, prog_13_method_31_code, 8, (some .boolean))
theorem f_Model_isAlike : mfV m_Model_isAlike 2 := ⟨w_1050, ts_4 (q := (⟨"NeedCodeModel", "isAlike", "(II)Z"⟩, 32)) (List.mem_of_getElem? (i := 8) rfl), w_12, w_1051, ⟨by decide +kernel, by decide +kernel, by decide +kernel⟩, by decide, by decide⟩
def m_Model_value : nk_T := (⟨"NeedCodeModel", "value", "(I)I"⟩, prog_13_method_37_code, 6, (some .int))
theorem f_Model_value : mfV m_Model_value 1 := ⟨w_1053, w_1054, w_12, w_1055, ⟨by decide +kernel, by decide +kernel, by decide +kernel⟩, by decide, by decide⟩
def m_Model_leafValue : nk_T := (⟨"NeedCodeModel", "leafValue", "(I)I"⟩, prog_13_method_36_code, 2, (some .int))
theorem f_Model_leafValue : mfV m_Model_leafValue 1 := ⟨w_1058, ts_4 (q := (⟨"NeedCodeModel", "leafValue", "(I)I"⟩, 32)) (List.mem_of_getElem? (i := 9) rfl), w_12, w_1059, ⟨by decide +kernel, by decide +kernel, by decide +kernel⟩, by decide, by decide⟩
def m_Model_traps : nk_T := (⟨"NeedCodeModel", "traps", "(III)Z"⟩, prog_13_method_34_code, 5, (some .boolean))
theorem f_Model_traps : mfS m_Model_traps 3 := ⟨w_1061, w_12, w_1062, ⟨by decide +kernel, by decide +kernel, by decide +kernel⟩, by decide, by decide⟩
def m_Model_makesOf : nk_T := (⟨"NeedCodeModel", "makesOf", "(III)I"⟩, prog_13_method_35_code, 3, (some .int))
theorem f_Model_makesOf : mfS m_Model_makesOf 3 := ⟨w_1064, w_12, w_1065, ⟨by decide +kernel, by decide +kernel, by decide +kernel⟩, by decide, by decide⟩
def m_Model_cost : nk_T := (⟨"NeedCodeModel", "cost", "(II)I"⟩, prog_13_method_45_code, 3, (some .int))
theorem f_Model_cost : mfV m_Model_cost 2 := ⟨w_1067, w_1068, w_12, w_1069, ⟨by decide +kernel, by decide +kernel, by decide +kernel⟩, by decide, by decide⟩
def m_Model_isRegisters : nk_T := (⟨"NeedCodeModel", "isRegisters", "(I)Z"⟩, prog_13_method_44_code, 2, (some .boolean))
theorem f_Model_isRegisters : mfV m_Model_isRegisters 1 := ⟨w_1072, ts_4 (q := (⟨"NeedCodeModel", "isRegisters", "(I)Z"⟩, 32)) (List.mem_of_getElem? (i := 10) rfl), w_12, w_1073, ⟨by decide +kernel, by decide +kernel, by decide +kernel⟩, by decide, by decide⟩
def m_Model_reckonsAll : nk_T := (⟨"NeedCodeModel", "reckonsAll", "()V"⟩, prog_13_method_42_code, 2, none)
theorem f_Model_reckonsAll : mfV m_Model_reckonsAll 0 := ⟨w_1076, ts_4 (q := (⟨"NeedCodeModel", "reckonsAll", "()V"⟩, 32)) (List.mem_of_getElem? (i := 11) rfl), w_12, w_1077, ⟨by decide +kernel, by decide +kernel, by decide +kernel⟩, by decide, by decide⟩
def m_Model_reckons : nk_T := (⟨"NeedCodeModel", "reckons", "()V"⟩, prog_13_method_41_code, 7, none)
theorem f_Model_reckons : mfV m_Model_reckons 0 := ⟨w_1080, ts_4 (q := (⟨"NeedCodeModel", "reckons", "()V"⟩, 32)) (List.mem_of_getElem? (i := 12) rfl), w_12, w_1081, ⟨by decide +kernel, by decide +kernel, by decide +kernel⟩, by decide, by decide⟩
def m_Model_costAt : nk_T := (⟨"NeedCodeModel", "costAt", "(II)I"⟩, prog_13_method_38_code, 3, (some .int))
theorem f_Model_costAt : mfV m_Model_costAt 2 := ⟨w_1085, ts_4 (q := (⟨"NeedCodeModel", "costAt", "(II)I"⟩, 32)) (List.mem_of_getElem? (i := 13) rfl), w_12, w_1086, ⟨by decide +kernel, by decide +kernel, by decide +kernel⟩, by decide, by decide⟩
def m_Model_costBy : nk_T := (⟨"NeedCodeModel", "costBy", "(III)I"⟩, prog_13_method_40_code, 8, (some .int))
theorem f_Model_costBy : mfV m_Model_costBy 3 := ⟨w_1089, ts_4 (q := (⟨"NeedCodeModel", "costBy", "(III)I"⟩, 32)) (List.mem_of_getElem? (i := 14) rfl), w_12, w_1090, ⟨by decide +kernel, by decide +kernel, by decide +kernel⟩, by decide, by decide⟩
def m_Model_keptAt : nk_T := (⟨"NeedCodeModel", "keptAt", "(II)I"⟩, prog_13_method_39_code, 3, (some .int))
theorem f_Model_keptAt : mfV m_Model_keptAt 2 := ⟨w_1093, ts_4 (q := (⟨"NeedCodeModel", "keptAt", "(II)I"⟩, 32)) (List.mem_of_getElem? (i := 15) rfl), w_12, w_1094, ⟨by decide +kernel, by decide +kernel, by decide +kernel⟩, by decide, by decide⟩
def m_Model_way : nk_T := (⟨"NeedCodeModel", "way", "(II)I"⟩, prog_13_method_46_code, 3, (some .int))
theorem f_Model_way : mfV m_Model_way 2 := ⟨w_1096, w_1097, w_12, w_1098, ⟨by decide +kernel, by decide +kernel, by decide +kernel⟩, by decide, by decide⟩
def m_Model_program : nk_T := (⟨"NeedCodeModel", "program", "(II)I"⟩, prog_13_method_53_code, 3, (some .int))
theorem f_Model_program : mfV m_Model_program 2 := ⟨w_1100, w_1101, w_12, w_1102, ⟨by decide +kernel, by decide +kernel, by decide +kernel⟩, by decide, by decide⟩
def m_Model_programs : nk_T := (⟨"NeedCodeModel", "programs", "(I)V"⟩, prog_13_method_52_code, 7, none)
theorem f_Model_programs : mfV m_Model_programs 1 := ⟨w_1105, ts_5 (q := (⟨"NeedCodeModel", "programs", "(I)V"⟩, 32)) (List.mem_of_getElem? (i := 0) rfl), w_12, w_1106, ⟨by decide +kernel, by decide +kernel, by decide +kernel⟩, by decide, by decide⟩
def m_Model_toDo : nk_T := (⟨"NeedCodeModel", "toDo", "(IIIII)V"⟩, prog_13_method_47_code, 6, none)
theorem f_Model_toDo : mfV m_Model_toDo 5 := ⟨w_1109, ts_5 (q := (⟨"NeedCodeModel", "toDo", "(IIIII)V"⟩, 32)) (List.mem_of_getElem? (i := 1) rfl), w_12, w_1110, ⟨by decide +kernel, by decide +kernel, by decide +kernel⟩, by decide, by decide⟩
def m_Model_plans : nk_T := (⟨"NeedCodeModel", "plans", "(III)V"⟩, prog_13_method_51_code, 7, none)
theorem f_Model_plans : mfV m_Model_plans 3 := ⟨w_1113, ts_5 (q := (⟨"NeedCodeModel", "plans", "(III)V"⟩, 32)) (List.mem_of_getElem? (i := 2) rfl), w_12, w_1114, ⟨by decide +kernel, by decide +kernel, by decide +kernel⟩, by decide, by decide⟩
def m_Model_lies : nk_T := (⟨"NeedCodeModel", "lies", "(IZ)I"⟩, prog_13_method_50_code, 3, (some .int))
theorem f_Model_lies : mfV m_Model_lies 2 := ⟨w_1117, ts_5 (q := (⟨"NeedCodeModel", "lies", "(IZ)I"⟩, 32)) (List.mem_of_getElem? (i := 3) rfl), w_12, w_1118, ⟨by decide +kernel, by decide +kernel, by decide +kernel⟩, by decide, by decide⟩
def m_Model_writes : nk_T := (⟨"NeedCodeModel", "writes", "(IIIII)V"⟩, prog_13_method_49_code, 6, none)
theorem f_Model_writes : mfV m_Model_writes 5 := ⟨w_1121, ts_5 (q := (⟨"NeedCodeModel", "writes", "(IIIII)V"⟩, 32)) (List.mem_of_getElem? (i := 4) rfl), w_12, w_1122, ⟨by decide +kernel, by decide +kernel, by decide +kernel⟩, by decide, by decide⟩
def m_Model_toKeep : nk_T := (⟨"NeedCodeModel", "toKeep", "(III)V"⟩, prog_13_method_48_code, 4, none)
theorem f_Model_toKeep : mfV m_Model_toKeep 3 := ⟨w_1125, ts_5 (q := (⟨"NeedCodeModel", "toKeep", "(III)V"⟩, 32)) (List.mem_of_getElem? (i := 5) rfl), w_12, w_1126, ⟨by decide +kernel, by decide +kernel, by decide +kernel⟩, by decide, by decide⟩
def m_Model_line : nk_T := (⟨"NeedCodeModel", "line", "(II)I"⟩, prog_13_method_54_code, 3, (some .int))
theorem f_Model_line : mfV m_Model_line 2 := ⟨w_1128, w_1129, w_12, w_1130, ⟨by decide +kernel, by decide +kernel, by decide +kernel⟩, by decide, by decide⟩
def m_Model_run : nk_T := (⟨"NeedCodeModel", "run", "(I)I"⟩, prog_13_method_56_code, 10, (some .int))
theorem f_Model_run : mfV m_Model_run 1 := ⟨w_1132, w_1133, w_12, w_1134, ⟨by decide +kernel, by decide +kernel, by decide +kernel⟩, by decide, by decide⟩
def m_Model_from : nk_T := (⟨"NeedCodeModel", "from", "(II)I"⟩, prog_13_method_55_code, 3, (some .int))
theorem f_Model_from : mfV m_Model_from 2 := ⟨w_1137, ts_5 (q := (⟨"NeedCodeModel", "from", "(II)I"⟩, 32)) (List.mem_of_getElem? (i := 6) rfl), w_12, w_1138, ⟨by decide +kernel, by decide +kernel, by decide +kernel⟩, by decide, by decide⟩
def m_Model_fewest : nk_T := (⟨"NeedCodeModel", "fewest", "()I"⟩, prog_13_method_57_code, 2, (some .int))
theorem f_Model_fewest : mfV m_Model_fewest 0 := ⟨w_1140, w_1141, w_12, w_1142, ⟨by decide +kernel, by decide +kernel, by decide +kernel⟩, by decide, by decide⟩
def m_Model_exchange : nk_T := (⟨"NeedCodeModel", "exchange", "(I)I"⟩, prog_13_method_60_code, 7, (some .int))
theorem f_Model_exchange : mfV m_Model_exchange 1 := ⟨w_1144, w_1145, w_12, w_1146, ⟨by decide +kernel, by decide +kernel, by decide +kernel⟩, by decide, by decide⟩
def m_Model_notes : nk_T := (⟨"NeedCodeModel", "notes", "()V"⟩, prog_13_method_58_code, 2, none)
theorem f_Model_notes : mfV m_Model_notes 0 := ⟨w_1149, ts_5 (q := (⟨"NeedCodeModel", "notes", "()V"⟩, 32)) (List.mem_of_getElem? (i := 7) rfl), w_12, w_1150, ⟨by decide +kernel, by decide +kernel, by decide +kernel⟩, by decide, by decide⟩
def m_Model_moves : nk_T := (⟨"NeedCodeModel", "moves", "(II)V"⟩, prog_13_method_59_code, 4, none)
theorem f_Model_moves : mfV m_Model_moves 2 := ⟨w_1153, ts_5 (q := (⟨"NeedCodeModel", "moves", "(II)V"⟩, 32)) (List.mem_of_getElem? (i := 8) rfl), w_12, w_1154, ⟨by decide +kernel, by decide +kernel, by decide +kernel⟩, by decide, by decide⟩
def m_Model_rootCost : nk_T := (⟨"NeedCodeModel", "rootCost", "()I"⟩, prog_13_method_43_code, 1, (some .int))
theorem f_Model_rootCost : mfV m_Model_rootCost 0 := ⟨w_1157, ts_5 (q := (⟨"NeedCodeModel", "rootCost", "()I"⟩, 32)) (List.mem_of_getElem? (i := 9) rfl), w_12, w_1158, ⟨by decide +kernel, by decide +kernel, by decide +kernel⟩, by decide, by decide⟩
def m_Model_let : nk_T := (⟨"NeedCodeModel", "let", "(II)I"⟩, prog_13_method_61_code, 3, (some .int))
theorem f_Model_let : mfV m_Model_let 2 := ⟨w_1160, w_1161, w_12, w_1162, ⟨by decide +kernel, by decide +kernel, by decide +kernel⟩, by decide, by decide⟩
def m_Model_machine : nk_T := (⟨"NeedCodeModel", "machine", "(IIIII)I"⟩, prog_13_method_62_code, 6, (some .int))
theorem f_Model_machine : mfV m_Model_machine 5 := ⟨w_1164, w_1165, w_12, w_1166, ⟨by decide +kernel, by decide +kernel, by decide +kernel⟩, by decide, by decide⟩
def m_Model_undo : nk_T := (⟨"NeedCodeModel", "undo", "()I"⟩, prog_13_method_63_code, 2, (some .int))
theorem f_Model_undo : mfV m_Model_undo 0 := ⟨w_1168, w_1169, w_12, w_1170, ⟨by decide +kernel, by decide +kernel, by decide +kernel⟩, by decide, by decide⟩
def m_Model_shared : nk_T := (⟨"NeedCodeModel", "shared", "(II)I"⟩, prog_13_method_67_code, 3, (some .int))
theorem f_Model_shared : mfV m_Model_shared 2 := ⟨w_1172, w_1173, w_12, w_1174, ⟨by decide +kernel, by decide +kernel, by decide +kernel⟩, by decide, by decide⟩
def m_Model_sharedFirst : nk_T := (⟨"NeedCodeModel", "sharedFirst", "(I)I"⟩, prog_13_method_65_code, 4, (some .int))
theorem f_Model_sharedFirst : mfV m_Model_sharedFirst 1 := ⟨w_1177, ts_5 (q := (⟨"NeedCodeModel", "sharedFirst", "(I)I"⟩, 32)) (List.mem_of_getElem? (i := 10) rfl), w_12, w_1178, ⟨by decide +kernel, by decide +kernel, by decide +kernel⟩, by decide, by decide⟩
def m_Model_occurs : nk_T := (⟨"NeedCodeModel", "occurs", "(I)I"⟩, prog_13_method_64_code, 4, (some .int))
theorem f_Model_occurs : mfV m_Model_occurs 1 := ⟨w_1181, ts_5 (q := (⟨"NeedCodeModel", "occurs", "(I)I"⟩, 32)) (List.mem_of_getElem? (i := 11) rfl), w_12, w_1182, ⟨by decide +kernel, by decide +kernel, by decide +kernel⟩, by decide, by decide⟩
def m_Model_cheapest : nk_T := (⟨"NeedCodeModel", "cheapest", "(I)I"⟩, prog_13_method_69_code, 6, (some .int))
theorem f_Model_cheapest : mfV m_Model_cheapest 1 := ⟨w_1184, w_1185, w_12, w_1186, ⟨by decide +kernel, by decide +kernel, by decide +kernel⟩, by decide, by decide⟩
def m_Model_costBySet : nk_T := (⟨"NeedCodeModel", "costBySet", "(I)I"⟩, prog_13_method_68_code, 6, (some .int))
theorem f_Model_costBySet : mfV m_Model_costBySet 1 := ⟨w_1189, ts_5 (q := (⟨"NeedCodeModel", "costBySet", "(I)I"⟩, 32)) (List.mem_of_getElem? (i := 12) rfl), w_12, w_1190, ⟨by decide +kernel, by decide +kernel, by decide +kernel⟩, by decide, by decide⟩
def m_Model_has : nk_T := (⟨"NeedCodeModel", "has", "(II)Z"⟩, prog_13_method_4_code, 2, (some .boolean))
theorem f_Model_has : mfS m_Model_has 2 := ⟨w_1192, w_12, w_1193, ⟨by decide +kernel, by decide +kernel, by decide +kernel⟩, by decide, by decide⟩
def m_Model_sharedMany : nk_T := (⟨"NeedCodeModel", "sharedMany", "()I"⟩, prog_13_method_66_code, 2, (some .int))
theorem f_Model_sharedMany : mfV m_Model_sharedMany 0 := ⟨w_1196, ts_5 (q := (⟨"NeedCodeModel", "sharedMany", "()I"⟩, 32)) (List.mem_of_getElem? (i := 13) rfl), w_12, w_1197, ⟨by decide +kernel, by decide +kernel, by decide +kernel⟩, by decide, by decide⟩
def m_Model_keep : nk_T := (⟨"NeedCodeModel", "keep", "(I)I"⟩, prog_13_method_70_code, 3, (some .int))
theorem f_Model_keep : mfV m_Model_keep 1 := ⟨w_1199, w_1200, w_12, w_1201, ⟨by decide +kernel, by decide +kernel, by decide +kernel⟩, by decide, by decide⟩
def m_Model_back : nk_T := (⟨"NeedCodeModel", "back", "(I)I"⟩, prog_13_method_71_code, 3, (some .int))
theorem f_Model_back : mfV m_Model_back 1 := ⟨w_1203, w_1204, w_12, w_1205, ⟨by decide +kernel, by decide +kernel, by decide +kernel⟩, by decide, by decide⟩
def m_Model_asked : nk_T := (⟨"NeedCodeModel", "asked", "()I"⟩, prog_13_method_72_code, 1, (some .int))
theorem f_Model_asked : mfV m_Model_asked 0 := ⟨w_1207, w_1208, w_12, w_1209, ⟨by decide +kernel, by decide +kernel, by decide +kernel⟩, by decide, by decide⟩
def m_Model_trapped : nk_T := (⟨"NeedCodeModel", "trapped", "()I"⟩, prog_13_method_73_code, 1, (some .int))
theorem f_Model_trapped : mfV m_Model_trapped 0 := ⟨w_1211, w_1212, w_12, w_1213, ⟨by decide +kernel, by decide +kernel, by decide +kernel⟩, by decide, by decide⟩
def m_Model_count : nk_T := (⟨"NeedCodeModel", "count", "(I)I"⟩, prog_13_method_74_code, 2, (some .int))
theorem f_Model_count : mfV m_Model_count 1 := ⟨w_1215, w_1216, w_12, w_1217, ⟨by decide +kernel, by decide +kernel, by decide +kernel⟩, by decide, by decide⟩
