section
-- ===== PART A: goes FIRST, ahead of the names: the tables' words, and 'selects' of the private methods out of them =====
/-- a private method of a class that the tables say can be made, by its rows of tables_1 -/
def lw_okq (q : MethodName × Nat) : Prop := (q.1.cls ≠ "java/lang/invoke/MethodHandle" ∧ q.1.cls ≠ "java/lang/invoke/VarHandle") ∧ Cond.instantiable q.1.cls q.2 ∈ tables_1 ∧ Cond.privateMethod q.1 ∈ tables_1 ∧ Cond.instanceMethod q.1 ∈ tables_1
theorem lw_p0 : lw_okq (⟨"TwinTrees$Store", "pend", "(LTwinTrees$Node;)LTwinTrees$Node;"⟩, 4) := ⟨⟨by decide +kernel, by decide +kernel⟩, List.mem_of_getElem? (i := 22) (by decide +kernel), List.mem_of_getElem? (i := 165) (by decide +kernel), List.mem_of_getElem? (i := 166) (by decide +kernel)⟩
theorem lw_p1 : lw_okq (⟨"TwinTrees$Store", "link", "(LTwinTrees$Node;)V"⟩, 4) := ⟨⟨by decide +kernel, by decide +kernel⟩, List.mem_of_getElem? (i := 22) (by decide +kernel), List.mem_of_getElem? (i := 174) (by decide +kernel), List.mem_of_getElem? (i := 175) (by decide +kernel)⟩
theorem lw_p2 : lw_okq (⟨"TwinTrees", "plantDraft", "(I)I"⟩, 8) := ⟨⟨by decide +kernel, by decide +kernel⟩, List.mem_of_getElem? (i := 12) (by decide +kernel), List.mem_of_getElem? (i := 210) (by decide +kernel), List.mem_of_getElem? (i := 211) (by decide +kernel)⟩
theorem lw_p3 : lw_okq (⟨"TwinTrees", "groupRows", "()I"⟩, 8) := ⟨⟨by decide +kernel, by decide +kernel⟩, List.mem_of_getElem? (i := 12) (by decide +kernel), List.mem_of_getElem? (i := 214) (by decide +kernel), List.mem_of_getElem? (i := 215) (by decide +kernel)⟩
theorem lw_p4 : lw_okq (⟨"TwinTrees", "groupNodes", "(II)I"⟩, 8) := ⟨⟨by decide +kernel, by decide +kernel⟩, List.mem_of_getElem? (i := 12) (by decide +kernel), List.mem_of_getElem? (i := 218) (by decide +kernel), List.mem_of_getElem? (i := 219) (by decide +kernel)⟩
theorem lw_p5 : lw_okq (⟨"TwinTrees", "isColumn", "(II)Z"⟩, 8) := ⟨⟨by decide +kernel, by decide +kernel⟩, List.mem_of_getElem? (i := 12) (by decide +kernel), List.mem_of_getElem? (i := 237) (by decide +kernel), List.mem_of_getElem? (i := 238) (by decide +kernel)⟩
theorem lw_p6 : lw_okq (⟨"TwinTrees", "draftRowsOf", "(I)V"⟩, 8) := ⟨⟨by decide +kernel, by decide +kernel⟩, List.mem_of_getElem? (i := 12) (by decide +kernel), List.mem_of_getElem? (i := 241) (by decide +kernel), List.mem_of_getElem? (i := 242) (by decide +kernel)⟩
theorem lw_p7 : lw_okq (⟨"TwinTrees", "newStamp", "()I"⟩, 8) := ⟨⟨by decide +kernel, by decide +kernel⟩, List.mem_of_getElem? (i := 12) (by decide +kernel), List.mem_of_getElem? (i := 245) (by decide +kernel), List.mem_of_getElem? (i := 246) (by decide +kernel)⟩
theorem lw_p8 : lw_okq (⟨"TwinTrees", "gatherUnshared", "(IILTwinTrees$RowList;)V"⟩, 8) := ⟨⟨by decide +kernel, by decide +kernel⟩, List.mem_of_getElem? (i := 12) (by decide +kernel), List.mem_of_getElem? (i := 378) (by decide +kernel), List.mem_of_getElem? (i := 379) (by decide +kernel)⟩
theorem lw_p9 : lw_okq (⟨"TwinTrees$Differences", "note", "(III)V"⟩, 4) := ⟨⟨by decide +kernel, by decide +kernel⟩, List.mem_of_getElem? (i := 45) (by decide +kernel), List.mem_of_getElem? (i := 386) (by decide +kernel), List.mem_of_getElem? (i := 387) (by decide +kernel)⟩
theorem lw_p10 : lw_okq (⟨"TwinTreesModel", "lay", "(I)Z"⟩, 29) := ⟨⟨by decide +kernel, by decide +kernel⟩, List.mem_of_getElem? (i := 407) (by decide +kernel), List.mem_of_getElem? (i := 418) (by decide +kernel), List.mem_of_getElem? (i := 419) (by decide +kernel)⟩
theorem lw_p11 : lw_okq (⟨"TwinTreesModel", "keep", "(III)Z"⟩, 29) := ⟨⟨by decide +kernel, by decide +kernel⟩, List.mem_of_getElem? (i := 407) (by decide +kernel), List.mem_of_getElem? (i := 430) (by decide +kernel), List.mem_of_getElem? (i := 431) (by decide +kernel)⟩
theorem lw_p12 : lw_okq (⟨"TwinTreesModel", "node", "(II)I"⟩, 29) := ⟨⟨by decide +kernel, by decide +kernel⟩, List.mem_of_getElem? (i := 407) (by decide +kernel), List.mem_of_getElem? (i := 434) (by decide +kernel), List.mem_of_getElem? (i := 435) (by decide +kernel)⟩
theorem lw_p13 : lw_okq (⟨"TwinTreesModel", "hash", "(II)I"⟩, 29) := ⟨⟨by decide +kernel, by decide +kernel⟩, List.mem_of_getElem? (i := 407) (by decide +kernel), List.mem_of_getElem? (i := 438) (by decide +kernel), List.mem_of_getElem? (i := 439) (by decide +kernel)⟩
theorem lw_p14 : lw_okq (⟨"TwinTreesModel", "isMade", "(III)Z"⟩, 29) := ⟨⟨by decide +kernel, by decide +kernel⟩, List.mem_of_getElem? (i := 407) (by decide +kernel), List.mem_of_getElem? (i := 444) (by decide +kernel), List.mem_of_getElem? (i := 445) (by decide +kernel)⟩
theorem lw_p15 : lw_okq (⟨"TwinTreesModel", "remember", "(I)V"⟩, 29) := ⟨⟨by decide +kernel, by decide +kernel⟩, List.mem_of_getElem? (i := 407) (by decide +kernel), List.mem_of_getElem? (i := 547) (by decide +kernel), List.mem_of_getElem? (i := 548) (by decide +kernel)⟩
def lw_privs_1 : List (MethodName × Nat) := [(⟨"TwinTrees$Store", "pend", "(LTwinTrees$Node;)LTwinTrees$Node;"⟩, 4), (⟨"TwinTrees$Store", "link", "(LTwinTrees$Node;)V"⟩, 4), (⟨"TwinTrees", "plantDraft", "(I)I"⟩, 8), (⟨"TwinTrees", "groupRows", "()I"⟩, 8), (⟨"TwinTrees", "groupNodes", "(II)I"⟩, 8), (⟨"TwinTrees", "isColumn", "(II)Z"⟩, 8), (⟨"TwinTrees", "draftRowsOf", "(I)V"⟩, 8), (⟨"TwinTrees", "newStamp", "()I"⟩, 8), (⟨"TwinTrees", "gatherUnshared", "(IILTwinTrees$RowList;)V"⟩, 8), (⟨"TwinTrees$Differences", "note", "(III)V"⟩, 4), (⟨"TwinTreesModel", "lay", "(I)Z"⟩, 29), (⟨"TwinTreesModel", "keep", "(III)Z"⟩, 29), (⟨"TwinTreesModel", "node", "(II)I"⟩, 29), (⟨"TwinTreesModel", "hash", "(II)I"⟩, 29), (⟨"TwinTreesModel", "isMade", "(III)Z"⟩, 29), (⟨"TwinTreesModel", "remember", "(I)V"⟩, 29)]
theorem lw_r1 : ∀ q ∈ lw_privs_1, lw_okq q := List.forall_mem_cons.mpr ⟨lw_p0, List.forall_mem_cons.mpr ⟨lw_p1, List.forall_mem_cons.mpr ⟨lw_p2, List.forall_mem_cons.mpr ⟨lw_p3, List.forall_mem_cons.mpr ⟨lw_p4, List.forall_mem_cons.mpr ⟨lw_p5, List.forall_mem_cons.mpr ⟨lw_p6, List.forall_mem_cons.mpr ⟨lw_p7, List.forall_mem_cons.mpr ⟨lw_p8, List.forall_mem_cons.mpr ⟨lw_p9, List.forall_mem_cons.mpr ⟨lw_p10, List.forall_mem_cons.mpr ⟨lw_p11, List.forall_mem_cons.mpr ⟨lw_p12, List.forall_mem_cons.mpr ⟨lw_p13, List.forall_mem_cons.mpr ⟨lw_p14, List.forall_mem_cons.mpr ⟨lw_p15, fun _ h => absurd h List.not_mem_nil⟩⟩⟩⟩⟩⟩⟩⟩⟩⟩⟩⟩⟩⟩⟩⟩
theorem lw_p16 : lw_okq (⟨"TwinTreesModel", "write", "(I)I"⟩, 29) := ⟨⟨by decide +kernel, by decide +kernel⟩, List.mem_of_getElem? (i := 407) (by decide +kernel), List.mem_of_getElem? (i := 551) (by decide +kernel), List.mem_of_getElem? (i := 552) (by decide +kernel)⟩
theorem lw_p17 : lw_okq (⟨"TwinTreesModel", "back", "(I)V"⟩, 29) := ⟨⟨by decide +kernel, by decide +kernel⟩, List.mem_of_getElem? (i := 407) (by decide +kernel), List.mem_of_getElem? (i := 555) (by decide +kernel), List.mem_of_getElem? (i := 556) (by decide +kernel)⟩
theorem lw_p18 : lw_okq (⟨"TwinTreesModel", "find", "(II)I"⟩, 29) := ⟨⟨by decide +kernel, by decide +kernel⟩, List.mem_of_getElem? (i := 407) (by decide +kernel), List.mem_of_getElem? (i := 563) (by decide +kernel), List.mem_of_getElem? (i := 564) (by decide +kernel)⟩
theorem lw_p19 : lw_okq (⟨"TwinTreesModel", "placeOf", "(II)I"⟩, 29) := ⟨⟨by decide +kernel, by decide +kernel⟩, List.mem_of_getElem? (i := 407) (by decide +kernel), List.mem_of_getElem? (i := 567) (by decide +kernel), List.mem_of_getElem? (i := 568) (by decide +kernel)⟩
theorem lw_p20 : lw_okq (⟨"TwinTreesModel", "move", "(III)V"⟩, 29) := ⟨⟨by decide +kernel, by decide +kernel⟩, List.mem_of_getElem? (i := 407) (by decide +kernel), List.mem_of_getElem? (i := 571) (by decide +kernel), List.mem_of_getElem? (i := 572) (by decide +kernel)⟩
theorem lw_p21 : lw_okq (⟨"TwinTreesModel", "addressOf", "(I)J"⟩, 29) := ⟨⟨by decide +kernel, by decide +kernel⟩, List.mem_of_getElem? (i := 407) (by decide +kernel), List.mem_of_getElem? (i := 599) (by decide +kernel), List.mem_of_getElem? (i := 600) (by decide +kernel)⟩
def lw_privs_2 : List (MethodName × Nat) := [(⟨"TwinTreesModel", "write", "(I)I"⟩, 29), (⟨"TwinTreesModel", "back", "(I)V"⟩, 29), (⟨"TwinTreesModel", "find", "(II)I"⟩, 29), (⟨"TwinTreesModel", "placeOf", "(II)I"⟩, 29), (⟨"TwinTreesModel", "move", "(III)V"⟩, 29), (⟨"TwinTreesModel", "addressOf", "(I)J"⟩, 29)]
theorem lw_r2 : ∀ q ∈ lw_privs_2, lw_okq q := List.forall_mem_cons.mpr ⟨lw_p16, List.forall_mem_cons.mpr ⟨lw_p17, List.forall_mem_cons.mpr ⟨lw_p18, List.forall_mem_cons.mpr ⟨lw_p19, List.forall_mem_cons.mpr ⟨lw_p20, List.forall_mem_cons.mpr ⟨lw_p21, fun _ h => absurd h List.not_mem_nil⟩⟩⟩⟩⟩⟩
def lw_privs : List (MethodName × Nat) := lw_privs_1 ++ (lw_privs_2)
def lw_tbl : List Cond := k2_sels lw_privs ++ tables_1
theorem lw_privs_ok : ∀ q ∈ lw_privs, lw_okq q := by
  show ∀ q ∈ lw_privs_1 ++ (lw_privs_2), lw_okq q
  exact List.forall_mem_append.mpr ⟨lw_r1, lw_r2⟩
end
section
/-! names, by program: classes, fields, methods; aw: the words that every method gets -/
abbrev kT : String := "TwinTrees"
def fT : u_T := fun k => match k with
  | 0 => ("TwinTrees", "widths", "[I", true)
  | 1 => ("TwinTrees", "roots", "[LTwinTrees$Node;", true)
  | 2 => ("TwinTrees", "store", "LTwinTrees$Store;", true)
  | 3 => ("TwinTrees", "differences", "LTwinTrees$Differences;", true)
  | 4 => ("TwinTrees", "draft", "LTwinTrees$RowList;", true)
  | 5 => ("TwinTrees", "beside", "LTwinTrees$RowList;", true)
  | 6 => ("TwinTrees", "line", "[LTwinTrees$Node;", true)
  | _ => ("TwinTrees", "lastStamp", "I", false)
def tT : Nat → FieldType := fun k => match k with
  | 0 => .array .int
  | 1 => .array (.object "TwinTrees$Node")
  | 2 => .object "TwinTrees$Store"
  | 3 => .object "TwinTrees$Differences"
  | 4 => .object "TwinTrees$RowList"
  | 5 => .object "TwinTrees$RowList"
  | 6 => .array (.object "TwinTrees$Node")
  | _ => .int
theorem fnT : ∀ a, a < 8 → ∀ b, b < 8 → a ≠ b → (fT a).2.1 ≠ (fT b).2.1 := by decide +kernel
theorem ftT : ∀ k, k < 8 → parseFieldDescriptor (fT k).2.2.1 = some (tT k) := by decide +kernel
abbrev kD : String := "TwinTrees$Differences"
def fD : u_T := fun k => match k with
  | 0 => ("TwinTrees$Differences", "keys", "[I", true)
  | 1 => ("TwinTrees$Differences", "sides", "[I", true)
  | 2 => ("TwinTrees$Differences", "unlikes", "[I", true)
  | _ => ("TwinTrees$Differences", "length", "I", false)
def tD : Nat → FieldType := fun k => match k with
  | 0 => .array .int
  | 1 => .array .int
  | 2 => .array .int
  | _ => .int
theorem fnD : ∀ a, a < 4 → ∀ b, b < 4 → a ≠ b → (fD a).2.1 ≠ (fD b).2.1 := by decide +kernel
theorem ftD : ∀ k, k < 4 → parseFieldDescriptor (fD k).2.2.1 = some (tD k) := by decide +kernel
abbrev kN : String := "TwinTrees$Node"
def fN : u_T := fun k => match k with
  | 0 => ("TwinTrees$Node", "height", "I", true)
  | 1 => ("TwinTrees$Node", "rows", "[LTwinTrees$Row;", true)
  | 2 => ("TwinTrees$Node", "below", "[LTwinTrees$Node;", true)
  | 3 => ("TwinTrees$Node", "rowCount", "I", true)
  | 4 => ("TwinTrees$Node", "size", "I", true)
  | 5 => ("TwinTrees$Node", "lastKey", "I", true)
  | 6 => ("TwinTrees$Node", "lastLevel", "I", true)
  | 7 => ("TwinTrees$Node", "print", "I", true)
  | 8 => ("TwinTrees$Node", "address", "J", false)
  | 9 => ("TwinTrees$Node", "hasAddress", "Z", false)
  | 10 => ("TwinTrees$Node", "stamp", "I", false)
  | _ => ("TwinTrees$Node", "next", "LTwinTrees$Node;", false)
def tN : Nat → FieldType := fun k => match k with
  | 0 => .int
  | 1 => .array (.object "TwinTrees$Row")
  | 2 => .array (.object "TwinTrees$Node")
  | 3 => .int
  | 4 => .int
  | 5 => .int
  | 6 => .int
  | 7 => .int
  | 8 => .long
  | 9 => .boolean
  | 10 => .int
  | _ => .object "TwinTrees$Node"
theorem fnN : ∀ a, a < 12 → ∀ b, b < 12 → a ≠ b → (fN a).2.1 ≠ (fN b).2.1 := by decide +kernel
theorem ftN : ∀ k, k < 12 → parseFieldDescriptor (fN k).2.2.1 = some (tN k) := by decide +kernel
abbrev kR : String := "TwinTrees$Row"
def fR : u_T := fun k => match k with
  | 0 => ("TwinTrees$Row", "key", "I", true)
  | 1 => ("TwinTrees$Row", "cells", "[I", true)
  | 2 => ("TwinTrees$Row", "nulls", "I", true)
  | 3 => ("TwinTrees$Row", "level", "I", true)
  | _ => ("TwinTrees$Row", "print", "I", true)
def tR : Nat → FieldType := fun k => match k with
  | 0 => .int
  | 1 => .array .int
  | 2 => .int
  | 3 => .int
  | _ => .int
theorem fnR : ∀ a, a < 5 → ∀ b, b < 5 → a ≠ b → (fR a).2.1 ≠ (fR b).2.1 := by decide +kernel
theorem ftR : ∀ k, k < 5 → parseFieldDescriptor (fR k).2.2.1 = some (tR k) := by decide +kernel
abbrev kQ : String := "TwinTrees$RowList"
def fQ : u_T := fun k => match k with
  | 0 => ("TwinTrees$RowList", "rows", "[LTwinTrees$Row;", true)
  | _ => ("TwinTrees$RowList", "length", "I", false)
def tQ : Nat → FieldType := fun k => match k with
  | 0 => .array (.object "TwinTrees$Row")
  | _ => .int
theorem fnQ : ∀ a, a < 2 → ∀ b, b < 2 → a ≠ b → (fQ a).2.1 ≠ (fQ b).2.1 := by decide +kernel
theorem ftQ : ∀ k, k < 2 → parseFieldDescriptor (fQ k).2.2.1 = some (tQ k) := by decide +kernel
abbrev kS : String := "TwinTrees$Store"
def fS : u_T := fun k => match k with
  | 0 => ("TwinTrees$Store", "buckets", "[LTwinTrees$Node;", true)
  | 1 => ("TwinTrees$Store", "pending", "LTwinTrees$Node;", false)
  | 2 => ("TwinTrees$Store", "nodes", "I", false)
  | _ => ("TwinTrees$Store", "size", "I", false)
def tS : Nat → FieldType := fun k => match k with
  | 0 => .array (.object "TwinTrees$Node")
  | 1 => .object "TwinTrees$Node"
  | 2 => .int
  | _ => .int
theorem fnS : ∀ a, a < 4 → ∀ b, b < 4 → a ≠ b → (fS a).2.1 ≠ (fS b).2.1 := by decide +kernel
theorem ftS : ∀ k, k < 4 → parseFieldDescriptor (fS k).2.2.1 = some (tS k) := by decide +kernel
abbrev kM : String := "TwinTreesModel"
def fM : u_T := fun k => match k with
  | 0 => ("TwinTreesModel", "columns", "[I", true)
  | 1 => ("TwinTreesModel", "many", "[I", true)
  | 2 => ("TwinTreesModel", "key", "[[I", true)
  | 3 => ("TwinTreesModel", "cell", "[[J", true)
  | 4 => ("TwinTreesModel", "oldColumns", "I", false)
  | 5 => ("TwinTreesModel", "oldMany", "I", false)
  | 6 => ("TwinTreesModel", "oldKey", "[I", true)
  | 7 => ("TwinTreesModel", "oldCell", "[J", true)
  | 8 => ("TwinTreesModel", "differKey", "[I", true)
  | 9 => ("TwinTreesModel", "differKind", "[I", true)
  | 10 => ("TwinTreesModel", "differBits", "[I", true)
  | 11 => ("TwinTreesModel", "differences", "I", false)
  | 12 => ("TwinTreesModel", "height", "[I", true)
  | 13 => ("TwinTreesModel", "begins", "[I", true)
  | 14 => ("TwinTreesModel", "long0", "[I", true)
  | 15 => ("TwinTreesModel", "width", "[I", true)
  | 16 => ("TwinTreesModel", "chain", "[I", true)
  | 17 => ("TwinTreesModel", "pool", "[J", true)
  | 18 => ("TwinTreesModel", "bucket", "[I", true)
  | 19 => ("TwinTreesModel", "nodes", "I", false)
  | 20 => ("TwinTreesModel", "used", "I", false)
  | 21 => ("TwinTreesModel", "level", "[I", false)
  | 22 => ("TwinTreesModel", "last", "[I", false)
  | 23 => ("TwinTreesModel", "levelMany", "I", false)
  | 24 => ("TwinTreesModel", "made", "[J", true)
  | 25 => ("TwinTreesModel", "madeMany", "I", false)
  | 26 => ("TwinTreesModel", "tall", "I", false)
  | 27 => ("TwinTreesModel", "counted", "I", false)
  | _ => ("TwinTreesModel", "sized", "I", false)
def tM : Nat → FieldType := fun k => match k with
  | 0 => .array .int
  | 1 => .array .int
  | 2 => .array (.array .int)
  | 3 => .array (.array .long)
  | 4 => .int
  | 5 => .int
  | 6 => .array .int
  | 7 => .array .long
  | 8 => .array .int
  | 9 => .array .int
  | 10 => .array .int
  | 11 => .int
  | 12 => .array .int
  | 13 => .array .int
  | 14 => .array .int
  | 15 => .array .int
  | 16 => .array .int
  | 17 => .array .long
  | 18 => .array .int
  | 19 => .int
  | 20 => .int
  | 21 => .array .int
  | 22 => .array .int
  | 23 => .int
  | 24 => .array .long
  | 25 => .int
  | 26 => .int
  | 27 => .int
  | _ => .int
theorem fnM : ∀ a, a < 29 → ∀ b, b < 29 → a ≠ b → (fM a).2.1 ≠ (fM b).2.1 := by decide +kernel
theorem ftM : ∀ k, k < 29 → parseFieldDescriptor (fM k).2.2.1 = some (tM k) := by decide +kernel
abbrev kL : String := "TwinTreesLaw"
abbrev clA : List vw_C := [(kT, fT, 8), (kD, fD, 4), (kN, fN, 12), (kR, fR, 5), (kQ, fQ, 2), (kS, fS, 4), (kM, fM, 29)]
/-- the words of the tables that go on holding, in the order of lw_tbl -/
def aw0 : List Cond := [.selects "TwinTrees$Store" ⟨"TwinTrees$Store", "pend", "(LTwinTrees$Node;)LTwinTrees$Node;"⟩ ⟨"TwinTrees$Store", "pend", "(LTwinTrees$Node;)LTwinTrees$Node;"⟩,
  .selects "TwinTrees$Store" ⟨"TwinTrees$Store", "link", "(LTwinTrees$Node;)V"⟩ ⟨"TwinTrees$Store", "link", "(LTwinTrees$Node;)V"⟩,
  .selects "TwinTrees" ⟨"TwinTrees", "plantDraft", "(I)I"⟩ ⟨"TwinTrees", "plantDraft", "(I)I"⟩,
  .selects "TwinTrees" ⟨"TwinTrees", "groupRows", "()I"⟩ ⟨"TwinTrees", "groupRows", "()I"⟩,
  .selects "TwinTrees" ⟨"TwinTrees", "groupNodes", "(II)I"⟩ ⟨"TwinTrees", "groupNodes", "(II)I"⟩,
  .selects "TwinTrees" ⟨"TwinTrees", "isColumn", "(II)Z"⟩ ⟨"TwinTrees", "isColumn", "(II)Z"⟩,
  .selects "TwinTrees" ⟨"TwinTrees", "draftRowsOf", "(I)V"⟩ ⟨"TwinTrees", "draftRowsOf", "(I)V"⟩,
  .selects "TwinTrees" ⟨"TwinTrees", "newStamp", "()I"⟩ ⟨"TwinTrees", "newStamp", "()I"⟩,
  .selects "TwinTrees" ⟨"TwinTrees", "gatherUnshared", "(IILTwinTrees$RowList;)V"⟩ ⟨"TwinTrees", "gatherUnshared", "(IILTwinTrees$RowList;)V"⟩,
  .selects "TwinTrees$Differences" ⟨"TwinTrees$Differences", "note", "(III)V"⟩ ⟨"TwinTrees$Differences", "note", "(III)V"⟩,
  .selects "TwinTreesModel" ⟨"TwinTreesModel", "lay", "(I)Z"⟩ ⟨"TwinTreesModel", "lay", "(I)Z"⟩,
  .selects "TwinTreesModel" ⟨"TwinTreesModel", "keep", "(III)Z"⟩ ⟨"TwinTreesModel", "keep", "(III)Z"⟩,
  .selects "TwinTreesModel" ⟨"TwinTreesModel", "node", "(II)I"⟩ ⟨"TwinTreesModel", "node", "(II)I"⟩,
  .selects "TwinTreesModel" ⟨"TwinTreesModel", "hash", "(II)I"⟩ ⟨"TwinTreesModel", "hash", "(II)I"⟩,
  .selects "TwinTreesModel" ⟨"TwinTreesModel", "isMade", "(III)Z"⟩ ⟨"TwinTreesModel", "isMade", "(III)Z"⟩,
  .selects "TwinTreesModel" ⟨"TwinTreesModel", "remember", "(I)V"⟩ ⟨"TwinTreesModel", "remember", "(I)V"⟩,
  .selects "TwinTreesModel" ⟨"TwinTreesModel", "write", "(I)I"⟩ ⟨"TwinTreesModel", "write", "(I)I"⟩,
  .selects "TwinTreesModel" ⟨"TwinTreesModel", "back", "(I)V"⟩ ⟨"TwinTreesModel", "back", "(I)V"⟩,
  .selects "TwinTreesModel" ⟨"TwinTreesModel", "find", "(II)I"⟩ ⟨"TwinTreesModel", "find", "(II)I"⟩,
  .selects "TwinTreesModel" ⟨"TwinTreesModel", "placeOf", "(II)I"⟩ ⟨"TwinTreesModel", "placeOf", "(II)I"⟩,
  .selects "TwinTreesModel" ⟨"TwinTreesModel", "move", "(III)V"⟩ ⟨"TwinTreesModel", "move", "(III)V"⟩,
  .selects "TwinTreesModel" ⟨"TwinTreesModel", "addressOf", "(I)J"⟩ ⟨"TwinTreesModel", "addressOf", "(I)J"⟩,
  .initialized "TwinTreesLaw",
  .initialized "TwinTrees",
  .initialized "TwinTrees$Store",
  .initialized "TwinTrees$Differences",
  .initialized "TwinTrees$RowList",
  .initialized "TwinTrees$Node",
  .initialized "TwinTreesModel",
  .initialized "java/lang/Math",
  .initialized "java/lang/System",
  .initialized "TwinTrees$Row",
  .initialized "java/util/Arrays",
  .classLink "TwinTreesLaw" 7 "TwinTrees",
  .instantiable "TwinTrees" 8,
  .methodLink "TwinTreesLaw" 9 ⟨"TwinTrees", "<init>", "()V"⟩,
  .instanceMethod ⟨"TwinTrees", "<init>", "()V"⟩,
  .code ⟨"TwinTrees", "<init>", "()V"⟩ prog_1_method_1_code 3 none,
  .methodLink "TwinTrees" 1 ⟨"java/lang/Object", "<init>", "()V"⟩,
  .instanceMethod ⟨"java/lang/Object", "<init>", "()V"⟩,
  .code ⟨"java/lang/Object", "<init>", "()V"⟩ object_method_1_code 1 none,
  .classLink "TwinTrees" 13 "TwinTrees$Node",
  .classLink "TwinTrees" 19 "TwinTrees$Store",
  .instantiable "TwinTrees$Store" 4,
  .instanceMethod ⟨"TwinTrees$Store", "<init>", "()V"⟩,
  .code ⟨"TwinTrees$Store", "<init>", "()V"⟩ prog_6_method_1_code 1 none,
  .methodLink "TwinTrees$Store" 3 ⟨"java/lang/Object", "<init>", "()V"⟩,
  .classLink "TwinTrees$Store" 9 "TwinTrees$Node",
  .fieldLink "TwinTrees$Store" 11 "TwinTrees$Store" "buckets" "[LTwinTrees$Node;",
  .fieldLink "TwinTrees$Store" 17 "TwinTrees$Store" "pending" "LTwinTrees$Node;",
  .fieldLink "TwinTrees$Store" 21 "TwinTrees$Store" "nodes" "I",
  .fieldLink "TwinTrees" 161 "TwinTrees$Store" "nodes" "I",
  .fieldLink "TwinTrees$Store" 25 "TwinTrees$Store" "size" "I",
  .fieldLink "TwinTrees" 164 "TwinTrees$Store" "size" "I",
  .laysFinal "TwinTrees$Store" "TwinTrees$Store" "buckets" "[LTwinTrees$Node;",
  .soleField "TwinTrees$Store" "buckets",
  .lays "TwinTrees$Store" "TwinTrees$Store" "pending" "LTwinTrees$Node;",
  .soleField "TwinTrees$Store" "pending",
  .lays "TwinTrees$Store" "TwinTrees$Store" "nodes" "I",
  .soleField "TwinTrees$Store" "nodes",
  .lays "TwinTrees$Store" "TwinTrees$Store" "size" "I",
  .soleField "TwinTrees$Store" "size",
  .superclass "TwinTrees$Store" "java/lang/Object",
  .arrayClass .int]
def aw1 : List Cond := [.classLink "TwinTrees" 26 "TwinTrees$Differences",
  .instantiable "TwinTrees$Differences" 4,
  .instanceMethod ⟨"TwinTrees$Differences", "<init>", "()V"⟩,
  .code ⟨"TwinTrees$Differences", "<init>", "()V"⟩ prog_2_method_1_code 1 none,
  .methodLink "TwinTrees$Differences" 3 ⟨"java/lang/Object", "<init>", "()V"⟩,
  .fieldLink "TwinTrees$Differences" 9 "TwinTrees$Differences" "keys" "[I",
  .fieldLink "TwinTrees" 149 "TwinTrees$Differences" "keys" "[I",
  .fieldLink "TwinTrees$Differences" 15 "TwinTrees$Differences" "sides" "[I",
  .fieldLink "TwinTrees" 152 "TwinTrees$Differences" "sides" "[I",
  .fieldLink "TwinTrees$Differences" 18 "TwinTrees$Differences" "unlikes" "[I",
  .fieldLink "TwinTrees" 155 "TwinTrees$Differences" "unlikes" "[I",
  .fieldLink "TwinTrees$Differences" 21 "TwinTrees$Differences" "length" "I",
  .fieldLink "TwinTrees" 148 "TwinTrees$Differences" "length" "I",
  .laysFinal "TwinTrees$Differences" "TwinTrees$Differences" "keys" "[I",
  .soleField "TwinTrees$Differences" "keys",
  .laysFinal "TwinTrees$Differences" "TwinTrees$Differences" "sides" "[I",
  .soleField "TwinTrees$Differences" "sides",
  .laysFinal "TwinTrees$Differences" "TwinTrees$Differences" "unlikes" "[I",
  .soleField "TwinTrees$Differences" "unlikes",
  .lays "TwinTrees$Differences" "TwinTrees$Differences" "length" "I",
  .soleField "TwinTrees$Differences" "length",
  .superclass "TwinTrees$Differences" "java/lang/Object",
  .classLink "TwinTrees" 33 "TwinTrees$RowList",
  .instantiable "TwinTrees$RowList" 2,
  .instanceMethod ⟨"TwinTrees$RowList", "<init>", "()V"⟩,
  .code ⟨"TwinTrees$RowList", "<init>", "()V"⟩ prog_5_method_1_code 1 none,
  .methodLink "TwinTrees$RowList" 3 ⟨"java/lang/Object", "<init>", "()V"⟩,
  .classLink "TwinTrees$RowList" 9 "TwinTrees$Row",
  .fieldLink "TwinTrees$RowList" 11 "TwinTrees$RowList" "rows" "[LTwinTrees$Row;",
  .fieldLink "TwinTrees$Differences" 28 "TwinTrees$RowList" "rows" "[LTwinTrees$Row;",
  .fieldLink "TwinTrees" 93 "TwinTrees$RowList" "rows" "[LTwinTrees$Row;",
  .fieldLink "TwinTrees$RowList" 17 "TwinTrees$RowList" "length" "I",
  .fieldLink "TwinTrees$Differences" 25 "TwinTrees$RowList" "length" "I",
  .fieldLink "TwinTrees" 64 "TwinTrees$RowList" "length" "I",
  .laysFinal "TwinTrees$RowList" "TwinTrees$RowList" "rows" "[LTwinTrees$Row;",
  .soleField "TwinTrees$RowList" "rows",
  .lays "TwinTrees$RowList" "TwinTrees$RowList" "length" "I",
  .soleField "TwinTrees$RowList" "length",
  .superclass "TwinTrees$RowList" "java/lang/Object",
  .classLink "TwinTrees" 50 "TwinTrees$Row",
  .methodLink "TwinTrees" 52 ⟨"TwinTrees$Store", "leafOf", "([LTwinTrees$Row;II)LTwinTrees$Node;"⟩,
  .instanceMethod ⟨"TwinTrees$Store", "leafOf", "([LTwinTrees$Row;II)LTwinTrees$Node;"⟩,
  .selects "TwinTrees$Store" ⟨"TwinTrees$Store", "leafOf", "([LTwinTrees$Row;II)LTwinTrees$Node;"⟩ ⟨"TwinTrees$Store", "leafOf", "([LTwinTrees$Row;II)LTwinTrees$Node;"⟩,
  .code ⟨"TwinTrees$Store", "leafOf", "([LTwinTrees$Row;II)LTwinTrees$Node;"⟩ prog_6_method_2_code 6 (some (.object "TwinTrees$Node")),
  .methodLink "TwinTrees$Store" 33 ⟨"TwinTrees$Store", "bucketOf", "(I)I"⟩,
  .static ⟨"TwinTrees$Store", "bucketOf", "(I)I"⟩,
  .code ⟨"TwinTrees$Store", "bucketOf", "(I)I"⟩ prog_6_method_8_code 1 (some .int),
  .constant "TwinTrees$Store" 68 (-1640531535),
  .methodLink "TwinTrees$Store" 38 ⟨"TwinTrees$Node", "isLikeLeaf", "([LTwinTrees$Row;II)Z"⟩,
  .instanceMethod ⟨"TwinTrees$Node", "isLikeLeaf", "([LTwinTrees$Row;II)Z"⟩,
  .selects "TwinTrees$Node" ⟨"TwinTrees$Node", "isLikeLeaf", "([LTwinTrees$Row;II)Z"⟩ ⟨"TwinTrees$Node", "isLikeLeaf", "([LTwinTrees$Row;II)Z"⟩,
  .code ⟨"TwinTrees$Node", "isLikeLeaf", "([LTwinTrees$Row;II)Z"⟩ prog_3_method_3_code 5 (some .boolean),
  .methodLink "TwinTrees$Node" 63 ⟨"TwinTrees$Row", "isLike", "(LTwinTrees$Row;)Z"⟩,
  .instanceMethod ⟨"TwinTrees$Row", "isLike", "(LTwinTrees$Row;)Z"⟩,
  .selects "TwinTrees$Row" ⟨"TwinTrees$Row", "isLike", "(LTwinTrees$Row;)Z"⟩ ⟨"TwinTrees$Row", "isLike", "(LTwinTrees$Row;)Z"⟩,
  .code ⟨"TwinTrees$Row", "isLike", "(LTwinTrees$Row;)Z"⟩ prog_4_method_4_code 2 (some .boolean),
  .methodLink "TwinTrees$Row" 40 ⟨"TwinTrees$Row", "unlikeCells", "(LTwinTrees$Row;)I"⟩,
  .instanceMethod ⟨"TwinTrees$Row", "unlikeCells", "(LTwinTrees$Row;)I"⟩,
  .selects "TwinTrees$Row" ⟨"TwinTrees$Row", "unlikeCells", "(LTwinTrees$Row;)I"⟩ ⟨"TwinTrees$Row", "unlikeCells", "(LTwinTrees$Row;)I"⟩,
  .code ⟨"TwinTrees$Row", "unlikeCells", "(LTwinTrees$Row;)I"⟩ prog_4_method_5_code 4 (some .int),
  .instantiable "TwinTrees$Node" 12,
  .methodLink "TwinTrees$Store" 45 ⟨"TwinTrees$Node", "<init>", "([LTwinTrees$Row;III)V"⟩,
  .instanceMethod ⟨"TwinTrees$Node", "<init>", "([LTwinTrees$Row;III)V"⟩,
  .code ⟨"TwinTrees$Node", "<init>", "([LTwinTrees$Row;III)V"⟩ prog_3_method_1_code 7 none]
def aw2 : List Cond := [.methodLink "TwinTrees$Node" 1 ⟨"java/lang/Object", "<init>", "()V"⟩,
  .classLink "TwinTrees$Node" 28 "TwinTrees$Row",
  .classLink "TwinTrees$Node" 8 "TwinTrees$Node",
  .fieldLink "TwinTrees$Node" 25 "TwinTrees$Node" "height" "I",
  .fieldLink "TwinTrees" 123 "TwinTrees$Node" "height" "I",
  .fieldLink "TwinTrees$Node" 30 "TwinTrees$Node" "rows" "[LTwinTrees$Row;",
  .fieldLink "TwinTrees" 194 "TwinTrees$Node" "rows" "[LTwinTrees$Row;",
  .fieldLink "TwinTrees$Node" 34 "TwinTrees$Node" "below" "[LTwinTrees$Node;",
  .fieldLink "TwinTrees" 191 "TwinTrees$Node" "below" "[LTwinTrees$Node;",
  .fieldLink "TwinTrees$Node" 42 "TwinTrees$Node" "rowCount" "I",
  .fieldLink "TwinTrees" 120 "TwinTrees$Node" "rowCount" "I",
  .fieldLink "TwinTrees$Node" 45 "TwinTrees$Node" "size" "I",
  .fieldLink "TwinTrees$Store" 59 "TwinTrees$Node" "size" "I",
  .fieldLink "TwinTrees$Node" 51 "TwinTrees$Node" "lastKey" "I",
  .fieldLink "TwinTrees" 199 "TwinTrees$Node" "lastKey" "I",
  .fieldLink "TwinTrees$Node" 57 "TwinTrees$Node" "lastLevel" "I",
  .fieldLink "TwinTrees" 181 "TwinTrees$Node" "lastLevel" "I",
  .fieldLink "TwinTrees$Node" 60 "TwinTrees$Node" "print" "I",
  .fieldLink "TwinTrees$Store" 37 "TwinTrees$Node" "print" "I",
  .fieldLink "TwinTrees$Node" 7 "TwinTrees$Node" "address" "J",
  .fieldLink "TwinTrees" 209 "TwinTrees$Node" "address" "J",
  .fieldLink "TwinTrees$Node" 13 "TwinTrees$Node" "hasAddress" "Z",
  .fieldLink "TwinTrees" 205 "TwinTrees$Node" "hasAddress" "Z",
  .fieldLink "TwinTrees$Node" 17 "TwinTrees$Node" "stamp" "I",
  .fieldLink "TwinTrees$Store" 65 "TwinTrees$Node" "stamp" "I",
  .fieldLink "TwinTrees" 188 "TwinTrees$Node" "stamp" "I",
  .fieldLink "TwinTrees$Node" 21 "TwinTrees$Node" "next" "LTwinTrees$Node;",
  .fieldLink "TwinTrees$Store" 42 "TwinTrees$Node" "next" "LTwinTrees$Node;",
  .laysFinal "TwinTrees$Node" "TwinTrees$Node" "height" "I",
  .soleField "TwinTrees$Node" "height",
  .laysFinal "TwinTrees$Node" "TwinTrees$Node" "rows" "[LTwinTrees$Row;",
  .soleField "TwinTrees$Node" "rows",
  .laysFinal "TwinTrees$Node" "TwinTrees$Node" "below" "[LTwinTrees$Node;",
  .soleField "TwinTrees$Node" "below",
  .laysFinal "TwinTrees$Node" "TwinTrees$Node" "rowCount" "I",
  .soleField "TwinTrees$Node" "rowCount",
  .laysFinal "TwinTrees$Node" "TwinTrees$Node" "size" "I",
  .soleField "TwinTrees$Node" "size",
  .laysFinal "TwinTrees$Node" "TwinTrees$Node" "lastKey" "I",
  .soleField "TwinTrees$Node" "lastKey",
  .laysFinal "TwinTrees$Node" "TwinTrees$Node" "lastLevel" "I",
  .soleField "TwinTrees$Node" "lastLevel",
  .laysFinal "TwinTrees$Node" "TwinTrees$Node" "print" "I",
  .soleField "TwinTrees$Node" "print",
  .lays "TwinTrees$Node" "TwinTrees$Node" "address" "J",
  .soleField "TwinTrees$Node" "address",
  .lays "TwinTrees$Node" "TwinTrees$Node" "hasAddress" "Z",
  .soleField "TwinTrees$Node" "hasAddress",
  .lays "TwinTrees$Node" "TwinTrees$Node" "stamp" "I",
  .soleField "TwinTrees$Node" "stamp",
  .lays "TwinTrees$Node" "TwinTrees$Node" "next" "LTwinTrees$Node;",
  .soleField "TwinTrees$Node" "next",
  .superclass "TwinTrees$Node" "java/lang/Object",
  .methodLink "TwinTrees$Store" 48 ⟨"TwinTrees$Store", "pend", "(LTwinTrees$Node;)LTwinTrees$Node;"⟩,
  .instanceMethod ⟨"TwinTrees$Store", "pend", "(LTwinTrees$Node;)LTwinTrees$Node;"⟩,
  .code ⟨"TwinTrees$Store", "pend", "(LTwinTrees$Node;)LTwinTrees$Node;"⟩ prog_6_method_6_code 2 (some (.object "TwinTrees$Node")),
  .methodLink "TwinTrees" 56 ⟨"TwinTrees$Store", "keepPending", "()I"⟩,
  .instanceMethod ⟨"TwinTrees$Store", "keepPending", "()I"⟩,
  .selects "TwinTrees$Store" ⟨"TwinTrees$Store", "keepPending", "()I"⟩ ⟨"TwinTrees$Store", "keepPending", "()I"⟩,
  .code ⟨"TwinTrees$Store", "keepPending", "()I"⟩ prog_6_method_4_code 5 (some .int),
  .constant "TwinTrees$Store" 60 60000,
  .methodLink "TwinTrees$Store" 61 ⟨"TwinTrees$Store", "link", "(LTwinTrees$Node;)V"⟩,
  .instanceMethod ⟨"TwinTrees$Store", "link", "(LTwinTrees$Node;)V"⟩,
  .code ⟨"TwinTrees$Store", "link", "(LTwinTrees$Node;)V"⟩ prog_6_method_7_code 3 none]
def aw3 : List Cond := [.fieldLink "TwinTrees" 9 "TwinTrees" "widths" "[I",
  .fieldLink "TwinTrees" 15 "TwinTrees" "roots" "[LTwinTrees$Node;",
  .fieldLink "TwinTrees" 22 "TwinTrees" "store" "LTwinTrees$Store;",
  .fieldLink "TwinTrees" 29 "TwinTrees" "differences" "LTwinTrees$Differences;",
  .fieldLink "TwinTrees" 36 "TwinTrees" "draft" "LTwinTrees$RowList;",
  .fieldLink "TwinTrees" 40 "TwinTrees" "beside" "LTwinTrees$RowList;",
  .fieldLink "TwinTrees" 43 "TwinTrees" "line" "[LTwinTrees$Node;",
  .fieldLink "TwinTrees" 46 "TwinTrees" "lastStamp" "I",
  .laysFinal "TwinTrees" "TwinTrees" "widths" "[I",
  .soleField "TwinTrees" "widths",
  .laysFinal "TwinTrees" "TwinTrees" "roots" "[LTwinTrees$Node;",
  .soleField "TwinTrees" "roots",
  .laysFinal "TwinTrees" "TwinTrees" "store" "LTwinTrees$Store;",
  .soleField "TwinTrees" "store",
  .laysFinal "TwinTrees" "TwinTrees" "differences" "LTwinTrees$Differences;",
  .soleField "TwinTrees" "differences",
  .laysFinal "TwinTrees" "TwinTrees" "draft" "LTwinTrees$RowList;",
  .soleField "TwinTrees" "draft",
  .laysFinal "TwinTrees" "TwinTrees" "beside" "LTwinTrees$RowList;",
  .soleField "TwinTrees" "beside",
  .laysFinal "TwinTrees" "TwinTrees" "line" "[LTwinTrees$Node;",
  .soleField "TwinTrees" "line",
  .lays "TwinTrees" "TwinTrees" "lastStamp" "I",
  .soleField "TwinTrees" "lastStamp",
  .superclass "TwinTrees" "java/lang/Object",
  .methodLink "TwinTreesLaw" 13 ⟨"TwinTrees", "make", "(II)I"⟩,
  .instanceMethod ⟨"TwinTrees", "make", "(II)I"⟩,
  .selects "TwinTrees" ⟨"TwinTrees", "make", "(II)I"⟩ ⟨"TwinTrees", "make", "(II)I"⟩,
  .code ⟨"TwinTrees", "make", "(II)I"⟩ prog_1_method_2_code 4 (some .int),
  .methodLink "TwinTrees" 60 ⟨"TwinTrees", "isTable", "(I)Z"⟩,
  .static ⟨"TwinTrees", "isTable", "(I)Z"⟩,
  .code ⟨"TwinTrees", "isTable", "(I)Z"⟩ prog_1_method_14_code 1 (some .boolean),
  .methodLink "TwinTrees" 67 ⟨"TwinTrees", "plantDraft", "(I)I"⟩,
  .instanceMethod ⟨"TwinTrees", "plantDraft", "(I)I"⟩,
  .code ⟨"TwinTrees", "plantDraft", "(I)I"⟩ prog_1_method_19_code 4 (some .int),
  .methodLink "TwinTrees" 171 ⟨"TwinTrees", "groupRows", "()I"⟩,
  .instanceMethod ⟨"TwinTrees", "groupRows", "()I"⟩,
  .code ⟨"TwinTrees", "groupRows", "()I"⟩ prog_1_method_20_code 4 (some .int),
  .methodLink "TwinTrees" 174 ⟨"TwinTrees", "groupNodes", "(II)I"⟩,
  .instanceMethod ⟨"TwinTrees", "groupNodes", "(II)I"⟩,
  .code ⟨"TwinTrees", "groupNodes", "(II)I"⟩ prog_1_method_21_code 6 (some .int),
  .methodLink "TwinTrees" 184 ⟨"TwinTrees$Store", "branchOf", "(I[LTwinTrees$Node;II)LTwinTrees$Node;"⟩,
  .instanceMethod ⟨"TwinTrees$Store", "branchOf", "(I[LTwinTrees$Node;II)LTwinTrees$Node;"⟩,
  .selects "TwinTrees$Store" ⟨"TwinTrees$Store", "branchOf", "(I[LTwinTrees$Node;II)LTwinTrees$Node;"⟩ ⟨"TwinTrees$Store", "branchOf", "(I[LTwinTrees$Node;II)LTwinTrees$Node;"⟩,
  .code ⟨"TwinTrees$Store", "branchOf", "(I[LTwinTrees$Node;II)LTwinTrees$Node;"⟩ prog_6_method_3_code 7 (some (.object "TwinTrees$Node")),
  .methodLink "TwinTrees$Store" 52 ⟨"TwinTrees$Node", "isLikeBranch", "([LTwinTrees$Node;II)Z"⟩,
  .instanceMethod ⟨"TwinTrees$Node", "isLikeBranch", "([LTwinTrees$Node;II)Z"⟩,
  .selects "TwinTrees$Node" ⟨"TwinTrees$Node", "isLikeBranch", "([LTwinTrees$Node;II)Z"⟩ ⟨"TwinTrees$Node", "isLikeBranch", "([LTwinTrees$Node;II)Z"⟩,
  .code ⟨"TwinTrees$Node", "isLikeBranch", "([LTwinTrees$Node;II)Z"⟩ prog_3_method_4_code 5 (some .boolean),
  .methodLink "TwinTrees$Store" 56 ⟨"TwinTrees$Node", "<init>", "(I[LTwinTrees$Node;III)V"⟩,
  .instanceMethod ⟨"TwinTrees$Node", "<init>", "(I[LTwinTrees$Node;III)V"⟩,
  .code ⟨"TwinTrees$Node", "<init>", "(I[LTwinTrees$Node;III)V"⟩ prog_3_method_2_code 8 none,
  .methodLink "TwinTreesLaw" 18 ⟨"TwinTrees", "put", "(IIIIZ)I"⟩,
  .instanceMethod ⟨"TwinTrees", "put", "(IIIIZ)I"⟩,
  .selects "TwinTrees" ⟨"TwinTrees", "put", "(IIIIZ)I"⟩ ⟨"TwinTrees", "put", "(IIIIZ)I"⟩,
  .code ⟨"TwinTrees", "put", "(IIIIZ)I"⟩ prog_1_method_3_code 7 (some .int),
  .methodLink "TwinTrees" 71 ⟨"TwinTrees", "isColumn", "(II)Z"⟩,
  .instanceMethod ⟨"TwinTrees", "isColumn", "(II)Z"⟩,
  .code ⟨"TwinTrees", "isColumn", "(II)Z"⟩ prog_1_method_15_code 3 (some .boolean),
  .methodLink "TwinTrees" 75 ⟨"TwinTrees", "draftRowsOf", "(I)V"⟩,
  .instanceMethod ⟨"TwinTrees", "draftRowsOf", "(I)V"⟩,
  .code ⟨"TwinTrees", "draftRowsOf", "(I)V"⟩ prog_1_method_17_code 2 none,
  .methodLink "TwinTrees" 126 ⟨"TwinTrees", "newStamp", "()I"⟩,
  .instanceMethod ⟨"TwinTrees", "newStamp", "()I"⟩]
def aw4 : List Cond := [.code ⟨"TwinTrees", "newStamp", "()I"⟩ prog_1_method_16_code 1 (some .int),
  .methodLink "TwinTrees" 167 ⟨"TwinTrees", "gather", "(LTwinTrees$Node;ILTwinTrees$RowList;I)V"⟩,
  .static ⟨"TwinTrees", "gather", "(LTwinTrees$Node;ILTwinTrees$RowList;I)V"⟩,
  .code ⟨"TwinTrees", "gather", "(LTwinTrees$Node;ILTwinTrees$RowList;I)V"⟩ prog_1_method_23_code 8 none,
  .methodLink "TwinTrees" 195 ⟨"TwinTrees$RowList", "append", "(LTwinTrees$Row;)V"⟩,
  .instanceMethod ⟨"TwinTrees$RowList", "append", "(LTwinTrees$Row;)V"⟩,
  .selects "TwinTrees$RowList" ⟨"TwinTrees$RowList", "append", "(LTwinTrees$Row;)V"⟩ ⟨"TwinTrees$RowList", "append", "(LTwinTrees$Row;)V"⟩,
  .code ⟨"TwinTrees$RowList", "append", "(LTwinTrees$Row;)V"⟩ prog_5_method_2_code 2 none,
  .methodLink "TwinTrees" 79 ⟨"TwinTrees$RowList", "placeOf", "(I)I"⟩,
  .instanceMethod ⟨"TwinTrees$RowList", "placeOf", "(I)I"⟩,
  .selects "TwinTrees$RowList" ⟨"TwinTrees$RowList", "placeOf", "(I)I"⟩ ⟨"TwinTrees$RowList", "placeOf", "(I)I"⟩,
  .code ⟨"TwinTrees$RowList", "placeOf", "(I)I"⟩ prog_5_method_3_code 3 (some .int),
  .methodLink "TwinTrees" 82 ⟨"TwinTrees$RowList", "hasKeyAt", "(II)Z"⟩,
  .instanceMethod ⟨"TwinTrees$RowList", "hasKeyAt", "(II)Z"⟩,
  .selects "TwinTrees$RowList" ⟨"TwinTrees$RowList", "hasKeyAt", "(II)Z"⟩ ⟨"TwinTrees$RowList", "hasKeyAt", "(II)Z"⟩,
  .code ⟨"TwinTrees$RowList", "hasKeyAt", "(II)Z"⟩ prog_5_method_4_code 3 (some .boolean),
  .methodLink "TwinTrees" 85 ⟨"TwinTrees", "blankRow", "(II)LTwinTrees$Row;"⟩,
  .static ⟨"TwinTrees", "blankRow", "(II)LTwinTrees$Row;"⟩,
  .code ⟨"TwinTrees", "blankRow", "(II)LTwinTrees$Row;"⟩ prog_1_method_29_code 2 (some (.object "TwinTrees$Row")),
  .instantiable "TwinTrees$Row" 5,
  .methodLink "TwinTrees" 225 ⟨"TwinTrees$Row", "<init>", "(I[II)V"⟩,
  .instanceMethod ⟨"TwinTrees$Row", "<init>", "(I[II)V"⟩,
  .code ⟨"TwinTrees$Row", "<init>", "(I[II)V"⟩ prog_4_method_1_code 9 none,
  .methodLink "TwinTrees$Row" 1 ⟨"java/lang/Object", "<init>", "()V"⟩,
  .static ⟨"TwinTrees", "levelOf", "(I)I"⟩,
  .code ⟨"TwinTrees", "levelOf", "(I)I"⟩ prog_1_method_30_code 3 (some .int),
  .constant "TwinTrees" 228 (-1640531535),
  .constant "TwinTrees" 229 (-2048144777),
  .fieldLink "TwinTrees$Row" 7 "TwinTrees$Row" "key" "I",
  .fieldLink "TwinTrees$Node" 48 "TwinTrees$Row" "key" "I",
  .fieldLink "TwinTrees$Differences" 32 "TwinTrees$Row" "key" "I",
  .fieldLink "TwinTrees$RowList" 21 "TwinTrees$Row" "key" "I",
  .fieldLink "TwinTrees" 202 "TwinTrees$Row" "key" "I",
  .fieldLink "TwinTrees$Row" 13 "TwinTrees$Row" "cells" "[I",
  .fieldLink "TwinTrees$Node" 38 "TwinTrees$Row" "cells" "[I",
  .fieldLink "TwinTrees" 117 "TwinTrees$Row" "cells" "[I",
  .fieldLink "TwinTrees$Row" 17 "TwinTrees$Row" "nulls" "I",
  .fieldLink "TwinTrees$Row" 26 "TwinTrees$Row" "level" "I",
  .fieldLink "TwinTrees$Node" 54 "TwinTrees$Row" "level" "I",
  .fieldLink "TwinTrees" 178 "TwinTrees$Row" "level" "I",
  .fieldLink "TwinTrees$Row" 29 "TwinTrees$Row" "print" "I",
  .fieldLink "TwinTrees$Store" 28 "TwinTrees$Row" "print" "I",
  .laysFinal "TwinTrees$Row" "TwinTrees$Row" "key" "I",
  .soleField "TwinTrees$Row" "key",
  .laysFinal "TwinTrees$Row" "TwinTrees$Row" "cells" "[I",
  .soleField "TwinTrees$Row" "cells",
  .laysFinal "TwinTrees$Row" "TwinTrees$Row" "nulls" "I",
  .soleField "TwinTrees$Row" "nulls",
  .laysFinal "TwinTrees$Row" "TwinTrees$Row" "level" "I",
  .soleField "TwinTrees$Row" "level",
  .laysFinal "TwinTrees$Row" "TwinTrees$Row" "print" "I",
  .soleField "TwinTrees$Row" "print",
  .superclass "TwinTrees$Row" "java/lang/Object",
  .methodLink "TwinTrees" 89 ⟨"TwinTrees$RowList", "insertAt", "(ILTwinTrees$Row;)V"⟩,
  .instanceMethod ⟨"TwinTrees$RowList", "insertAt", "(ILTwinTrees$Row;)V"⟩,
  .selects "TwinTrees$RowList" ⟨"TwinTrees$RowList", "insertAt", "(ILTwinTrees$Row;)V"⟩ ⟨"TwinTrees$RowList", "insertAt", "(ILTwinTrees$Row;)V"⟩,
  .code ⟨"TwinTrees$RowList", "insertAt", "(ILTwinTrees$Row;)V"⟩ prog_5_method_5_code 4 none,
  .methodLink "TwinTrees" 97 ⟨"TwinTrees$Row", "withCell", "(IIZ)LTwinTrees$Row;"⟩,
  .instanceMethod ⟨"TwinTrees$Row", "withCell", "(IIZ)LTwinTrees$Row;"⟩,
  .selects "TwinTrees$Row" ⟨"TwinTrees$Row", "withCell", "(IIZ)LTwinTrees$Row;"⟩ ⟨"TwinTrees$Row", "withCell", "(IIZ)LTwinTrees$Row;"⟩,
  .code ⟨"TwinTrees$Row", "withCell", "(IIZ)LTwinTrees$Row;"⟩ prog_4_method_2_code 6 (some (.object "TwinTrees$Row")),
  .methodLink "TwinTrees$Row" 32 ⟨"[I", "clone", "()Ljava/lang/Object;"⟩,
  .native ⟨"java/lang/Object", "clone", "()Ljava/lang/Object;"⟩,
  .instanceMethod ⟨"java/lang/Object", "clone", "()Ljava/lang/Object;"⟩]
def aw5 : List Cond := [.selects "[I" ⟨"[I", "clone", "()Ljava/lang/Object;"⟩ ⟨"java/lang/Object", "clone", "()Ljava/lang/Object;"⟩,
  .classLink "TwinTrees$Row" 33 "[I",
  .classLink "TwinTrees$Row" 8 "TwinTrees$Row",
  .methodLink "TwinTrees$Row" 37 ⟨"TwinTrees$Row", "<init>", "(I[II)V"⟩,
  .methodLink "TwinTreesLaw" 23 ⟨"TwinTrees", "remove", "(II)I"⟩,
  .instanceMethod ⟨"TwinTrees", "remove", "(II)I"⟩,
  .selects "TwinTrees" ⟨"TwinTrees", "remove", "(II)I"⟩ ⟨"TwinTrees", "remove", "(II)I"⟩,
  .code ⟨"TwinTrees", "remove", "(II)I"⟩ prog_1_method_4_code 4 (some .int),
  .methodLink "TwinTrees" 101 ⟨"TwinTrees$RowList", "takeAt", "(I)V"⟩,
  .instanceMethod ⟨"TwinTrees$RowList", "takeAt", "(I)V"⟩,
  .selects "TwinTrees$RowList" ⟨"TwinTrees$RowList", "takeAt", "(I)V"⟩ ⟨"TwinTrees$RowList", "takeAt", "(I)V"⟩,
  .code ⟨"TwinTrees$RowList", "takeAt", "(I)V"⟩ prog_5_method_6_code 3 none,
  .methodLink "TwinTreesLaw" 27 ⟨"TwinTrees", "copy", "(II)I"⟩,
  .instanceMethod ⟨"TwinTrees", "copy", "(II)I"⟩,
  .selects "TwinTrees" ⟨"TwinTrees", "copy", "(II)I"⟩ ⟨"TwinTrees", "copy", "(II)I"⟩,
  .code ⟨"TwinTrees", "copy", "(II)I"⟩ prog_1_method_5_code 3 (some .int),
  .methodLink "TwinTreesLaw" 31 ⟨"TwinTrees", "get", "(III)J"⟩,
  .instanceMethod ⟨"TwinTrees", "get", "(III)J"⟩,
  .selects "TwinTrees" ⟨"TwinTrees", "get", "(III)J"⟩ ⟨"TwinTrees", "get", "(III)J"⟩,
  .code ⟨"TwinTrees", "get", "(III)J"⟩ prog_1_method_6_code 5 (some .long),
  .constantLong "TwinTrees" 104 1099511627775,
  .methodLink "TwinTrees" 106 ⟨"TwinTrees", "rowWithKey", "(LTwinTrees$Node;I)LTwinTrees$Row;"⟩,
  .static ⟨"TwinTrees", "rowWithKey", "(LTwinTrees$Node;I)LTwinTrees$Row;"⟩,
  .code ⟨"TwinTrees", "rowWithKey", "(LTwinTrees$Node;I)LTwinTrees$Row;"⟩ prog_1_method_24_code 7 (some (.object "TwinTrees$Row")),
  .constantLong "TwinTrees" 110 1099511627774,
  .methodLink "TwinTrees" 112 ⟨"TwinTrees$Row", "isNull", "(I)Z"⟩,
  .instanceMethod ⟨"TwinTrees$Row", "isNull", "(I)Z"⟩,
  .selects "TwinTrees$Row" ⟨"TwinTrees$Row", "isNull", "(I)Z"⟩ ⟨"TwinTrees$Row", "isNull", "(I)Z"⟩,
  .code ⟨"TwinTrees$Row", "isNull", "(I)Z"⟩ prog_4_method_3_code 2 (some .boolean),
  .constantLong "TwinTrees" 115 1099511627776,
  .methodLink "TwinTreesLaw" 36 ⟨"TwinTrees", "measure", "(II)I"⟩,
  .instanceMethod ⟨"TwinTrees", "measure", "(II)I"⟩,
  .selects "TwinTrees" ⟨"TwinTrees", "measure", "(II)I"⟩ ⟨"TwinTrees", "measure", "(II)I"⟩,
  .code ⟨"TwinTrees", "measure", "(II)I"⟩ prog_1_method_7_code 4 (some .int),
  .methodLink "TwinTrees" 129 ⟨"TwinTrees", "stampTree", "(LTwinTrees$Node;II)I"⟩,
  .static ⟨"TwinTrees", "stampTree", "(LTwinTrees$Node;II)I"⟩,
  .code ⟨"TwinTrees", "stampTree", "(LTwinTrees$Node;II)I"⟩ prog_1_method_22_code 8 (some .int),
  .methodLink "TwinTreesLaw" 40 ⟨"TwinTrees", "address", "(I)J"⟩,
  .instanceMethod ⟨"TwinTrees", "address", "(I)J"⟩,
  .selects "TwinTrees" ⟨"TwinTrees", "address", "(I)J"⟩ ⟨"TwinTrees", "address", "(I)J"⟩,
  .code ⟨"TwinTrees", "address", "(I)J"⟩ prog_1_method_8_code 2 (some .long),
  .methodLink "TwinTrees" 133 ⟨"TwinTrees", "addressOf", "(LTwinTrees$Node;I)J"⟩,
  .static ⟨"TwinTrees", "addressOf", "(LTwinTrees$Node;I)J"⟩,
  .code ⟨"TwinTrees", "addressOf", "(LTwinTrees$Node;I)J"⟩ prog_1_method_26_code 8 (some .long),
  .constantLong "TwinTrees" 213 1469598103934665603,
  .methodLink "TwinTrees" 215 ⟨"TwinTrees", "mixed", "(JJ)J"⟩,
  .static ⟨"TwinTrees", "mixed", "(JJ)J"⟩,
  .code ⟨"TwinTrees", "mixed", "(JJ)J"⟩ prog_1_method_28_code 4 (some .long),
  .constantLong "TwinTrees" 223 1099511628211,
  .methodLink "TwinTrees" 219 ⟨"TwinTrees", "mixedRow", "(JLTwinTrees$Row;)J"⟩,
  .static ⟨"TwinTrees", "mixedRow", "(JLTwinTrees$Row;)J"⟩,
  .code ⟨"TwinTrees", "mixedRow", "(JLTwinTrees$Row;)J"⟩ prog_1_method_27_code 6 (some .long),
  .methodLink "TwinTreesLaw" 45 ⟨"TwinTrees", "row", "(II)J"⟩,
  .instanceMethod ⟨"TwinTrees", "row", "(II)J"⟩,
  .selects "TwinTrees" ⟨"TwinTrees", "row", "(II)J"⟩ ⟨"TwinTrees", "row", "(II)J"⟩,
  .code ⟨"TwinTrees", "row", "(II)J"⟩ prog_1_method_9_code 3 (some .long),
  .methodLink "TwinTrees" 137 ⟨"TwinTrees", "keyInOrder", "(LTwinTrees$Node;I)J"⟩,
  .static ⟨"TwinTrees", "keyInOrder", "(LTwinTrees$Node;I)J"⟩,
  .code ⟨"TwinTrees", "keyInOrder", "(LTwinTrees$Node;I)J"⟩ prog_1_method_25_code 6 (some .long),
  .methodLink "TwinTreesLaw" 50 ⟨"TwinTrees", "compare", "(II)I"⟩,
  .instanceMethod ⟨"TwinTrees", "compare", "(II)I"⟩,
  .selects "TwinTrees" ⟨"TwinTrees", "compare", "(II)I"⟩ ⟨"TwinTrees", "compare", "(II)I"⟩,
  .code ⟨"TwinTrees", "compare", "(II)I"⟩ prog_1_method_10_code 3 (some .int),
  .methodLink "TwinTrees" 140 ⟨"TwinTrees", "gatherUnshared", "(IILTwinTrees$RowList;)V"⟩]
def aw6 : List Cond := [.instanceMethod ⟨"TwinTrees", "gatherUnshared", "(IILTwinTrees$RowList;)V"⟩,
  .code ⟨"TwinTrees", "gatherUnshared", "(IILTwinTrees$RowList;)V"⟩ prog_1_method_18_code 5 none,
  .methodLink "TwinTrees" 144 ⟨"TwinTrees$Differences", "collect", "(LTwinTrees$RowList;LTwinTrees$RowList;)V"⟩,
  .instanceMethod ⟨"TwinTrees$Differences", "collect", "(LTwinTrees$RowList;LTwinTrees$RowList;)V"⟩,
  .selects "TwinTrees$Differences" ⟨"TwinTrees$Differences", "collect", "(LTwinTrees$RowList;LTwinTrees$RowList;)V"⟩ ⟨"TwinTrees$Differences", "collect", "(LTwinTrees$RowList;LTwinTrees$RowList;)V"⟩,
  .code ⟨"TwinTrees$Differences", "collect", "(LTwinTrees$RowList;LTwinTrees$RowList;)V"⟩ prog_2_method_2_code 6 none,
  .methodLink "TwinTrees$Differences" 37 ⟨"TwinTrees$Differences", "note", "(III)V"⟩,
  .instanceMethod ⟨"TwinTrees$Differences", "note", "(III)V"⟩,
  .code ⟨"TwinTrees$Differences", "note", "(III)V"⟩ prog_2_method_3_code 4 none,
  .methodLink "TwinTrees$Differences" 41 ⟨"TwinTrees$Row", "unlikeCells", "(LTwinTrees$Row;)I"⟩,
  .methodLink "TwinTreesLaw" 54 ⟨"TwinTrees", "difference", "(II)J"⟩,
  .instanceMethod ⟨"TwinTrees", "difference", "(II)J"⟩,
  .selects "TwinTrees" ⟨"TwinTrees", "difference", "(II)J"⟩ ⟨"TwinTrees", "difference", "(II)J"⟩,
  .code ⟨"TwinTrees", "difference", "(II)J"⟩ prog_1_method_11_code 3 (some .long),
  .methodLink "TwinTreesLaw" 58 ⟨"TwinTrees", "sweep", "()I"⟩,
  .instanceMethod ⟨"TwinTrees", "sweep", "()I"⟩,
  .selects "TwinTrees" ⟨"TwinTrees", "sweep", "()I"⟩ ⟨"TwinTrees", "sweep", "()I"⟩,
  .code ⟨"TwinTrees", "sweep", "()I"⟩ prog_1_method_12_code 6 (some .int),
  .methodLink "TwinTrees" 158 ⟨"TwinTrees$Store", "dropWithout", "(I)I"⟩,
  .instanceMethod ⟨"TwinTrees$Store", "dropWithout", "(I)I"⟩,
  .selects "TwinTrees$Store" ⟨"TwinTrees$Store", "dropWithout", "(I)I"⟩ ⟨"TwinTrees$Store", "dropWithout", "(I)I"⟩,
  .code ⟨"TwinTrees$Store", "dropWithout", "(I)I"⟩ prog_6_method_5_code 6 (some .int),
  .methodLink "TwinTreesLaw" 63 ⟨"TwinTrees", "count", "(I)I"⟩,
  .instanceMethod ⟨"TwinTrees", "count", "(I)I"⟩,
  .selects "TwinTrees" ⟨"TwinTrees", "count", "(I)I"⟩ ⟨"TwinTrees", "count", "(I)I"⟩,
  .code ⟨"TwinTrees", "count", "(I)I"⟩ prog_1_method_13_code 2 (some .int),
  .classLink "TwinTreesLaw" 10 "TwinTreesModel",
  .instantiable "TwinTreesModel" 29,
  .methodLink "TwinTreesLaw" 12 ⟨"TwinTreesModel", "<init>", "()V"⟩,
  .instanceMethod ⟨"TwinTreesModel", "<init>", "()V"⟩,
  .code ⟨"TwinTreesModel", "<init>", "()V"⟩ prog_8_method_1_code 2 none,
  .methodLink "TwinTreesModel" 3 ⟨"java/lang/Object", "<init>", "()V"⟩,
  .classLink "TwinTreesModel" 18 "[[I",
  .classLink "TwinTreesModel" 23 "[[J",
  .constant "TwinTreesModel" 44 60000,
  .methodLink "TwinTreesModel" 75 ⟨"TwinTreesModel", "lay", "(I)Z"⟩,
  .instanceMethod ⟨"TwinTreesModel", "lay", "(I)Z"⟩,
  .code ⟨"TwinTreesModel", "lay", "(I)Z"⟩ prog_8_method_8_code 7 (some .boolean),
  .methodLink "TwinTreesModel" 126 ⟨"TwinTreesModel", "levelOf", "(I)I"⟩,
  .static ⟨"TwinTreesModel", "levelOf", "(I)I"⟩,
  .code ⟨"TwinTreesModel", "levelOf", "(I)I"⟩ prog_8_method_3_code 3 (some .int),
  .constant "TwinTreesModel" 79 (-1640531535),
  .constant "TwinTreesModel" 80 (-2048144777),
  .methodLink "TwinTreesModel" 81 ⟨"java/lang/Math", "min", "(II)I"⟩,
  .static ⟨"java/lang/Math", "min", "(II)I"⟩,
  .code ⟨"java/lang/Math", "min", "(II)I"⟩ prog_10_method_69_code 2 (some .int),
  .methodLink "TwinTreesModel" 130 ⟨"TwinTreesModel", "keep", "(III)Z"⟩,
  .instanceMethod ⟨"TwinTreesModel", "keep", "(III)Z"⟩,
  .code ⟨"TwinTreesModel", "keep", "(III)Z"⟩ prog_8_method_9_code 5 (some .boolean),
  .methodLink "TwinTreesModel" 133 ⟨"TwinTreesModel", "node", "(II)I"⟩,
  .instanceMethod ⟨"TwinTreesModel", "node", "(II)I"⟩,
  .code ⟨"TwinTreesModel", "node", "(II)I"⟩ prog_8_method_6_code 5 (some .int),
  .methodLink "TwinTreesModel" 95 ⟨"TwinTreesModel", "hash", "(II)I"⟩,
  .instanceMethod ⟨"TwinTreesModel", "hash", "(II)I"⟩,
  .code ⟨"TwinTreesModel", "hash", "(II)I"⟩ prog_8_method_4_code 6 (some .int),
  .constantLong "TwinTreesModel" 87 31,
  .constantLong "TwinTreesModel" 93 1000003,
  .methodLink "TwinTreesModel" 98 ⟨"TwinTreesModel", "isMade", "(III)Z"⟩,
  .instanceMethod ⟨"TwinTreesModel", "isMade", "(III)Z"⟩,
  .code ⟨"TwinTreesModel", "isMade", "(III)Z"⟩ prog_8_method_5_code 5 (some .boolean),
  .methodLink "TwinTreesModel" 108 ⟨"java/lang/System", "arraycopy", "(Ljava/lang/Object;ILjava/lang/Object;II)V"⟩,
  .static ⟨"java/lang/System", "arraycopy", "(Ljava/lang/Object;ILjava/lang/Object;II)V"⟩,
  .native ⟨"java/lang/System", "arraycopy", "(Ljava/lang/Object;ILjava/lang/Object;II)V"⟩,
  .fieldLink "TwinTreesModel" 11 "TwinTreesModel" "columns" "[I"]
def aw7 : List Cond := [.fieldLink "TwinTreesModel" 15 "TwinTreesModel" "many" "[I",
  .fieldLink "TwinTreesModel" 20 "TwinTreesModel" "key" "[[I",
  .fieldLink "TwinTreesModel" 25 "TwinTreesModel" "cell" "[[J",
  .fieldLink "TwinTreesModel" 150 "TwinTreesModel" "oldColumns" "I",
  .fieldLink "TwinTreesModel" 153 "TwinTreesModel" "oldMany" "I",
  .fieldLink "TwinTreesModel" 28 "TwinTreesModel" "oldKey" "[I",
  .fieldLink "TwinTreesModel" 31 "TwinTreesModel" "oldCell" "[J",
  .fieldLink "TwinTreesModel" 35 "TwinTreesModel" "differKey" "[I",
  .fieldLink "TwinTreesModel" 38 "TwinTreesModel" "differKind" "[I",
  .fieldLink "TwinTreesModel" 41 "TwinTreesModel" "differBits" "[I",
  .fieldLink "TwinTreesModel" 185 "TwinTreesModel" "differences" "I",
  .fieldLink "TwinTreesModel" 45 "TwinTreesModel" "height" "[I",
  .fieldLink "TwinTreesModel" 48 "TwinTreesModel" "begins" "[I",
  .fieldLink "TwinTreesModel" 51 "TwinTreesModel" "long0" "[I",
  .fieldLink "TwinTreesModel" 54 "TwinTreesModel" "width" "[I",
  .fieldLink "TwinTreesModel" 57 "TwinTreesModel" "chain" "[I",
  .fieldLink "TwinTreesModel" 60 "TwinTreesModel" "pool" "[J",
  .fieldLink "TwinTreesModel" 63 "TwinTreesModel" "bucket" "[I",
  .fieldLink "TwinTreesModel" 105 "TwinTreesModel" "nodes" "I",
  .fieldLink "TwinTreesModel" 102 "TwinTreesModel" "used" "I",
  .fieldLink "TwinTreesModel" 66 "TwinTreesModel" "level" "[I",
  .fieldLink "TwinTreesModel" 69 "TwinTreesModel" "last" "[I",
  .fieldLink "TwinTreesModel" 114 "TwinTreesModel" "levelMany" "I",
  .fieldLink "TwinTreesModel" 72 "TwinTreesModel" "made" "[J",
  .fieldLink "TwinTreesModel" 89 "TwinTreesModel" "madeMany" "I",
  .fieldLink "TwinTreesModel" 117 "TwinTreesModel" "tall" "I",
  .fieldLink "TwinTreesModel" 120 "TwinTreesModel" "counted" "I",
  .fieldLink "TwinTreesModel" 123 "TwinTreesModel" "sized" "I",
  .laysFinal "TwinTreesModel" "TwinTreesModel" "columns" "[I",
  .soleField "TwinTreesModel" "columns",
  .laysFinal "TwinTreesModel" "TwinTreesModel" "many" "[I",
  .soleField "TwinTreesModel" "many",
  .laysFinal "TwinTreesModel" "TwinTreesModel" "key" "[[I",
  .soleField "TwinTreesModel" "key",
  .laysFinal "TwinTreesModel" "TwinTreesModel" "cell" "[[J",
  .soleField "TwinTreesModel" "cell",
  .lays "TwinTreesModel" "TwinTreesModel" "oldColumns" "I",
  .soleField "TwinTreesModel" "oldColumns",
  .lays "TwinTreesModel" "TwinTreesModel" "oldMany" "I",
  .soleField "TwinTreesModel" "oldMany",
  .laysFinal "TwinTreesModel" "TwinTreesModel" "oldKey" "[I",
  .soleField "TwinTreesModel" "oldKey",
  .laysFinal "TwinTreesModel" "TwinTreesModel" "oldCell" "[J",
  .soleField "TwinTreesModel" "oldCell",
  .laysFinal "TwinTreesModel" "TwinTreesModel" "differKey" "[I",
  .soleField "TwinTreesModel" "differKey",
  .laysFinal "TwinTreesModel" "TwinTreesModel" "differKind" "[I",
  .soleField "TwinTreesModel" "differKind",
  .laysFinal "TwinTreesModel" "TwinTreesModel" "differBits" "[I",
  .soleField "TwinTreesModel" "differBits",
  .lays "TwinTreesModel" "TwinTreesModel" "differences" "I",
  .soleField "TwinTreesModel" "differences",
  .laysFinal "TwinTreesModel" "TwinTreesModel" "height" "[I",
  .soleField "TwinTreesModel" "height",
  .laysFinal "TwinTreesModel" "TwinTreesModel" "begins" "[I",
  .soleField "TwinTreesModel" "begins",
  .laysFinal "TwinTreesModel" "TwinTreesModel" "long0" "[I",
  .soleField "TwinTreesModel" "long0",
  .laysFinal "TwinTreesModel" "TwinTreesModel" "width" "[I",
  .soleField "TwinTreesModel" "width",
  .laysFinal "TwinTreesModel" "TwinTreesModel" "chain" "[I",
  .soleField "TwinTreesModel" "chain",
  .laysFinal "TwinTreesModel" "TwinTreesModel" "pool" "[J",
  .soleField "TwinTreesModel" "pool"]
def aw8 : List Cond := [.laysFinal "TwinTreesModel" "TwinTreesModel" "bucket" "[I",
  .soleField "TwinTreesModel" "bucket",
  .lays "TwinTreesModel" "TwinTreesModel" "nodes" "I",
  .soleField "TwinTreesModel" "nodes",
  .lays "TwinTreesModel" "TwinTreesModel" "used" "I",
  .soleField "TwinTreesModel" "used",
  .lays "TwinTreesModel" "TwinTreesModel" "level" "[I",
  .soleField "TwinTreesModel" "level",
  .lays "TwinTreesModel" "TwinTreesModel" "last" "[I",
  .soleField "TwinTreesModel" "last",
  .lays "TwinTreesModel" "TwinTreesModel" "levelMany" "I",
  .soleField "TwinTreesModel" "levelMany",
  .laysFinal "TwinTreesModel" "TwinTreesModel" "made" "[J",
  .soleField "TwinTreesModel" "made",
  .lays "TwinTreesModel" "TwinTreesModel" "madeMany" "I",
  .soleField "TwinTreesModel" "madeMany",
  .lays "TwinTreesModel" "TwinTreesModel" "tall" "I",
  .soleField "TwinTreesModel" "tall",
  .lays "TwinTreesModel" "TwinTreesModel" "counted" "I",
  .soleField "TwinTreesModel" "counted",
  .lays "TwinTreesModel" "TwinTreesModel" "sized" "I",
  .soleField "TwinTreesModel" "sized",
  .superclass "TwinTreesModel" "java/lang/Object",
  .arrayClass .long,
  .methodLink "TwinTreesLaw" 17 ⟨"TwinTreesModel", "make", "(II)I"⟩,
  .instanceMethod ⟨"TwinTreesModel", "make", "(II)I"⟩,
  .selects "TwinTreesModel" ⟨"TwinTreesModel", "make", "(II)I"⟩ ⟨"TwinTreesModel", "make", "(II)I"⟩,
  .code ⟨"TwinTreesModel", "make", "(II)I"⟩ prog_8_method_17_code 3 (some .int),
  .methodLink "TwinTreesModel" 163 ⟨"TwinTreesModel", "in", "(III)Z"⟩,
  .static ⟨"TwinTreesModel", "in", "(III)Z"⟩,
  .code ⟨"TwinTreesModel", "in", "(III)Z"⟩ prog_8_method_2_code 3 (some .boolean),
  .methodLink "TwinTreesModel" 166 ⟨"TwinTreesModel", "remember", "(I)V"⟩,
  .instanceMethod ⟨"TwinTreesModel", "remember", "(I)V"⟩,
  .code ⟨"TwinTreesModel", "remember", "(I)V"⟩ prog_8_method_12_code 2 none,
  .methodLink "TwinTreesModel" 169 ⟨"TwinTreesModel", "write", "(I)I"⟩,
  .instanceMethod ⟨"TwinTreesModel", "write", "(I)I"⟩,
  .code ⟨"TwinTreesModel", "write", "(I)I"⟩ prog_8_method_13_code 3 (some .int),
  .methodLink "TwinTreesModel" 156 ⟨"TwinTreesModel", "back", "(I)V"⟩,
  .instanceMethod ⟨"TwinTreesModel", "back", "(I)V"⟩,
  .code ⟨"TwinTreesModel", "back", "(I)V"⟩ prog_8_method_7_code 2 none,
  .methodLink "TwinTreesLaw" 22 ⟨"TwinTreesModel", "put", "(IIIIZ)I"⟩,
  .instanceMethod ⟨"TwinTreesModel", "put", "(IIIIZ)I"⟩,
  .selects "TwinTreesModel" ⟨"TwinTreesModel", "put", "(IIIIZ)I"⟩ ⟨"TwinTreesModel", "put", "(IIIIZ)I"⟩,
  .code ⟨"TwinTreesModel", "put", "(IIIIZ)I"⟩ prog_8_method_18_code 8 (some .int),
  .methodLink "TwinTreesModel" 172 ⟨"TwinTreesModel", "find", "(II)I"⟩,
  .instanceMethod ⟨"TwinTreesModel", "find", "(II)I"⟩,
  .code ⟨"TwinTreesModel", "find", "(II)I"⟩ prog_8_method_15_code 4 (some .int),
  .methodLink "TwinTreesModel" 160 ⟨"TwinTreesModel", "placeOf", "(II)I"⟩,
  .instanceMethod ⟨"TwinTreesModel", "placeOf", "(II)I"⟩,
  .code ⟨"TwinTreesModel", "placeOf", "(II)I"⟩ prog_8_method_14_code 4 (some .int),
  .methodLink "TwinTreesModel" 175 ⟨"TwinTreesModel", "move", "(III)V"⟩,
  .instanceMethod ⟨"TwinTreesModel", "move", "(III)V"⟩,
  .code ⟨"TwinTreesModel", "move", "(III)V"⟩ prog_8_method_16_code 5 none,
  .constantLong "TwinTreesModel" 146 (-9223372036854775808),
  .methodLink "TwinTreesLaw" 26 ⟨"TwinTreesModel", "remove", "(II)I"⟩,
  .instanceMethod ⟨"TwinTreesModel", "remove", "(II)I"⟩,
  .selects "TwinTreesModel" ⟨"TwinTreesModel", "remove", "(II)I"⟩ ⟨"TwinTreesModel", "remove", "(II)I"⟩,
  .code ⟨"TwinTreesModel", "remove", "(II)I"⟩ prog_8_method_19_code 5 (some .int),
  .methodLink "TwinTreesLaw" 30 ⟨"TwinTreesModel", "copy", "(II)I"⟩,
  .instanceMethod ⟨"TwinTreesModel", "copy", "(II)I"⟩,
  .selects "TwinTreesModel" ⟨"TwinTreesModel", "copy", "(II)I"⟩ ⟨"TwinTreesModel", "copy", "(II)I"⟩,
  .code ⟨"TwinTreesModel", "copy", "(II)I"⟩ prog_8_method_20_code 3 (some .int),
  .methodLink "TwinTreesLaw" 35 ⟨"TwinTreesModel", "get", "(III)J"⟩,
  .instanceMethod ⟨"TwinTreesModel", "get", "(III)J"⟩]
def aw9 : List Cond := [.selects "TwinTreesModel" ⟨"TwinTreesModel", "get", "(III)J"⟩ ⟨"TwinTreesModel", "get", "(III)J"⟩,
  .code ⟨"TwinTreesModel", "get", "(III)J"⟩ prog_8_method_21_code 7 (some .long),
  .constantLong "TwinTreesModel" 179 1099511627775,
  .constantLong "TwinTreesModel" 181 1099511627774,
  .constantLong "TwinTreesModel" 183 1099511627776,
  .methodLink "TwinTreesLaw" 39 ⟨"TwinTreesModel", "measure", "(II)I"⟩,
  .instanceMethod ⟨"TwinTreesModel", "measure", "(II)I"⟩,
  .selects "TwinTreesModel" ⟨"TwinTreesModel", "measure", "(II)I"⟩ ⟨"TwinTreesModel", "measure", "(II)I"⟩,
  .code ⟨"TwinTreesModel", "measure", "(II)I"⟩ prog_8_method_22_code 3 (some .int),
  .methodLink "TwinTreesLaw" 44 ⟨"TwinTreesModel", "address", "(I)J"⟩,
  .instanceMethod ⟨"TwinTreesModel", "address", "(I)J"⟩,
  .selects "TwinTreesModel" ⟨"TwinTreesModel", "address", "(I)J"⟩ ⟨"TwinTreesModel", "address", "(I)J"⟩,
  .code ⟨"TwinTreesModel", "address", "(I)J"⟩ prog_8_method_23_code 2 (some .long),
  .methodLink "TwinTreesModel" 142 ⟨"TwinTreesModel", "addressOf", "(I)J"⟩,
  .instanceMethod ⟨"TwinTreesModel", "addressOf", "(I)J"⟩,
  .code ⟨"TwinTreesModel", "addressOf", "(I)J"⟩ prog_8_method_10_code 8 (some .long),
  .constantLong "TwinTreesModel" 136 1469598103934665603,
  .methodLink "TwinTreesModel" 138 ⟨"TwinTreesModel", "step", "(JJ)J"⟩,
  .static ⟨"TwinTreesModel", "step", "(JJ)J"⟩,
  .code ⟨"TwinTreesModel", "step", "(JJ)J"⟩ prog_8_method_11_code 4 (some .long),
  .constantLong "TwinTreesModel" 148 1099511628211,
  .methodLink "TwinTreesLaw" 49 ⟨"TwinTreesModel", "row", "(II)J"⟩,
  .instanceMethod ⟨"TwinTreesModel", "row", "(II)J"⟩,
  .selects "TwinTreesModel" ⟨"TwinTreesModel", "row", "(II)J"⟩ ⟨"TwinTreesModel", "row", "(II)J"⟩,
  .code ⟨"TwinTreesModel", "row", "(II)J"⟩ prog_8_method_24_code 3 (some .long),
  .methodLink "TwinTreesLaw" 53 ⟨"TwinTreesModel", "compare", "(II)I"⟩,
  .instanceMethod ⟨"TwinTreesModel", "compare", "(II)I"⟩,
  .selects "TwinTreesModel" ⟨"TwinTreesModel", "compare", "(II)I"⟩ ⟨"TwinTreesModel", "compare", "(II)I"⟩,
  .code ⟨"TwinTreesModel", "compare", "(II)I"⟩ prog_8_method_25_code 10 (some .int),
  .methodLink "TwinTreesLaw" 57 ⟨"TwinTreesModel", "difference", "(II)J"⟩,
  .instanceMethod ⟨"TwinTreesModel", "difference", "(II)J"⟩,
  .selects "TwinTreesModel" ⟨"TwinTreesModel", "difference", "(II)J"⟩ ⟨"TwinTreesModel", "difference", "(II)J"⟩,
  .code ⟨"TwinTreesModel", "difference", "(II)J"⟩ prog_8_method_26_code 3 (some .long),
  .methodLink "TwinTreesLaw" 62 ⟨"TwinTreesModel", "sweep", "()I"⟩,
  .instanceMethod ⟨"TwinTreesModel", "sweep", "()I"⟩,
  .selects "TwinTreesModel" ⟨"TwinTreesModel", "sweep", "()I"⟩ ⟨"TwinTreesModel", "sweep", "()I"⟩,
  .code ⟨"TwinTreesModel", "sweep", "()I"⟩ prog_8_method_27_code 3 (some .int),
  .methodLink "TwinTreesModel" 188 ⟨"java/util/Arrays", "fill", "([II)V"⟩,
  .static ⟨"java/util/Arrays", "fill", "([II)V"⟩,
  .code ⟨"java/util/Arrays", "fill", "([II)V"⟩ prog_12_method_103_code 4 none,
  .methodLink "TwinTreesLaw" 67 ⟨"TwinTreesModel", "count", "(I)I"⟩,
  .instanceMethod ⟨"TwinTreesModel", "count", "(I)I"⟩,
  .selects "TwinTreesModel" ⟨"TwinTreesModel", "count", "(I)I"⟩ ⟨"TwinTreesModel", "count", "(I)I"⟩,
  .code ⟨"TwinTreesModel", "count", "(I)I"⟩ prog_8_method_28_code 2 (some .int)]
def aw : List Cond := aw0 ++ (aw1 ++ (aw2 ++ (aw3 ++ (aw4 ++ (aw5 ++ (aw6 ++ (aw7 ++ (aw8 ++ (aw9)))))))))
theorem aw0_in : ∀ w ∈ aw0, w ∈ aw := fun w h => List.mem_append_left _ h
theorem aw0_good : aw0.all goodWord = true := by decide +kernel
theorem aw1_in : ∀ w ∈ aw1, w ∈ aw := fun w h => List.mem_append_right _ (List.mem_append_left _ h)
theorem aw1_good : aw1.all goodWord = true := by decide +kernel
theorem aw2_in : ∀ w ∈ aw2, w ∈ aw := fun w h => List.mem_append_right _ (List.mem_append_right _ (List.mem_append_left _ h))
theorem aw2_good : aw2.all goodWord = true := by decide +kernel
theorem aw3_in : ∀ w ∈ aw3, w ∈ aw := fun w h => List.mem_append_right _ (List.mem_append_right _ (List.mem_append_right _ (List.mem_append_left _ h)))
theorem aw3_good : aw3.all goodWord = true := by decide +kernel
theorem aw4_in : ∀ w ∈ aw4, w ∈ aw := fun w h => List.mem_append_right _ (List.mem_append_right _ (List.mem_append_right _ (List.mem_append_right _ (List.mem_append_left _ h))))
theorem aw4_good : aw4.all goodWord = true := by decide +kernel
theorem aw5_in : ∀ w ∈ aw5, w ∈ aw := fun w h => List.mem_append_right _ (List.mem_append_right _ (List.mem_append_right _ (List.mem_append_right _ (List.mem_append_right _ (List.mem_append_left _ h)))))
theorem aw5_good : aw5.all goodWord = true := by decide +kernel
theorem aw6_in : ∀ w ∈ aw6, w ∈ aw := fun w h => List.mem_append_right _ (List.mem_append_right _ (List.mem_append_right _ (List.mem_append_right _ (List.mem_append_right _ (List.mem_append_right _ (List.mem_append_left _ h))))))
theorem aw6_good : aw6.all goodWord = true := by decide +kernel
theorem aw7_in : ∀ w ∈ aw7, w ∈ aw := fun w h => List.mem_append_right _ (List.mem_append_right _ (List.mem_append_right _ (List.mem_append_right _ (List.mem_append_right _ (List.mem_append_right _ (List.mem_append_right _ (List.mem_append_left _ h)))))))
theorem aw7_good : aw7.all goodWord = true := by decide +kernel
theorem aw8_in : ∀ w ∈ aw8, w ∈ aw := fun w h => List.mem_append_right _ (List.mem_append_right _ (List.mem_append_right _ (List.mem_append_right _ (List.mem_append_right _ (List.mem_append_right _ (List.mem_append_right _ (List.mem_append_right _ (List.mem_append_left _ h))))))))
theorem aw8_good : aw8.all goodWord = true := by decide +kernel
theorem aw9_in : ∀ w ∈ aw9, w ∈ aw := fun w h => List.mem_append_right _ (List.mem_append_right _ (List.mem_append_right _ (List.mem_append_right _ (List.mem_append_right _ (List.mem_append_right _ (List.mem_append_right _ (List.mem_append_right _ (List.mem_append_right _ (h)))))))))
theorem aw9_good : aw9.all goodWord = true := by decide +kernel
theorem w0 : Cond.selects "TwinTrees$Store" ⟨"TwinTrees$Store", "pend", "(LTwinTrees$Node;)LTwinTrees$Node;"⟩ ⟨"TwinTrees$Store", "pend", "(LTwinTrees$Node;)LTwinTrees$Node;"⟩ ∈ aw := aw0_in _ (List.mem_of_getElem? (i := 0) rfl)
theorem w1 : Cond.selects "TwinTrees$Store" ⟨"TwinTrees$Store", "link", "(LTwinTrees$Node;)V"⟩ ⟨"TwinTrees$Store", "link", "(LTwinTrees$Node;)V"⟩ ∈ aw := aw0_in _ (List.mem_of_getElem? (i := 1) rfl)
theorem w2 : Cond.selects "TwinTrees" ⟨"TwinTrees", "plantDraft", "(I)I"⟩ ⟨"TwinTrees", "plantDraft", "(I)I"⟩ ∈ aw := aw0_in _ (List.mem_of_getElem? (i := 2) rfl)
theorem w3 : Cond.selects "TwinTrees" ⟨"TwinTrees", "groupRows", "()I"⟩ ⟨"TwinTrees", "groupRows", "()I"⟩ ∈ aw := aw0_in _ (List.mem_of_getElem? (i := 3) rfl)
theorem w4 : Cond.selects "TwinTrees" ⟨"TwinTrees", "groupNodes", "(II)I"⟩ ⟨"TwinTrees", "groupNodes", "(II)I"⟩ ∈ aw := aw0_in _ (List.mem_of_getElem? (i := 4) rfl)
theorem w5 : Cond.selects "TwinTrees" ⟨"TwinTrees", "isColumn", "(II)Z"⟩ ⟨"TwinTrees", "isColumn", "(II)Z"⟩ ∈ aw := aw0_in _ (List.mem_of_getElem? (i := 5) rfl)
theorem w6 : Cond.selects "TwinTrees" ⟨"TwinTrees", "draftRowsOf", "(I)V"⟩ ⟨"TwinTrees", "draftRowsOf", "(I)V"⟩ ∈ aw := aw0_in _ (List.mem_of_getElem? (i := 6) rfl)
theorem w7 : Cond.selects "TwinTrees" ⟨"TwinTrees", "newStamp", "()I"⟩ ⟨"TwinTrees", "newStamp", "()I"⟩ ∈ aw := aw0_in _ (List.mem_of_getElem? (i := 7) rfl)
theorem w8 : Cond.selects "TwinTrees" ⟨"TwinTrees", "gatherUnshared", "(IILTwinTrees$RowList;)V"⟩ ⟨"TwinTrees", "gatherUnshared", "(IILTwinTrees$RowList;)V"⟩ ∈ aw := aw0_in _ (List.mem_of_getElem? (i := 8) rfl)
theorem w9 : Cond.selects "TwinTrees$Differences" ⟨"TwinTrees$Differences", "note", "(III)V"⟩ ⟨"TwinTrees$Differences", "note", "(III)V"⟩ ∈ aw := aw0_in _ (List.mem_of_getElem? (i := 9) rfl)
theorem w10 : Cond.selects "TwinTreesModel" ⟨"TwinTreesModel", "lay", "(I)Z"⟩ ⟨"TwinTreesModel", "lay", "(I)Z"⟩ ∈ aw := aw0_in _ (List.mem_of_getElem? (i := 10) rfl)
theorem w11 : Cond.selects "TwinTreesModel" ⟨"TwinTreesModel", "keep", "(III)Z"⟩ ⟨"TwinTreesModel", "keep", "(III)Z"⟩ ∈ aw := aw0_in _ (List.mem_of_getElem? (i := 11) rfl)
theorem w12 : Cond.selects "TwinTreesModel" ⟨"TwinTreesModel", "node", "(II)I"⟩ ⟨"TwinTreesModel", "node", "(II)I"⟩ ∈ aw := aw0_in _ (List.mem_of_getElem? (i := 12) rfl)
theorem w13 : Cond.selects "TwinTreesModel" ⟨"TwinTreesModel", "hash", "(II)I"⟩ ⟨"TwinTreesModel", "hash", "(II)I"⟩ ∈ aw := aw0_in _ (List.mem_of_getElem? (i := 13) rfl)
theorem w14 : Cond.selects "TwinTreesModel" ⟨"TwinTreesModel", "isMade", "(III)Z"⟩ ⟨"TwinTreesModel", "isMade", "(III)Z"⟩ ∈ aw := aw0_in _ (List.mem_of_getElem? (i := 14) rfl)
theorem w15 : Cond.selects "TwinTreesModel" ⟨"TwinTreesModel", "remember", "(I)V"⟩ ⟨"TwinTreesModel", "remember", "(I)V"⟩ ∈ aw := aw0_in _ (List.mem_of_getElem? (i := 15) rfl)
theorem w16 : Cond.selects "TwinTreesModel" ⟨"TwinTreesModel", "write", "(I)I"⟩ ⟨"TwinTreesModel", "write", "(I)I"⟩ ∈ aw := aw0_in _ (List.mem_of_getElem? (i := 16) rfl)
theorem w17 : Cond.selects "TwinTreesModel" ⟨"TwinTreesModel", "back", "(I)V"⟩ ⟨"TwinTreesModel", "back", "(I)V"⟩ ∈ aw := aw0_in _ (List.mem_of_getElem? (i := 17) rfl)
theorem w18 : Cond.selects "TwinTreesModel" ⟨"TwinTreesModel", "find", "(II)I"⟩ ⟨"TwinTreesModel", "find", "(II)I"⟩ ∈ aw := aw0_in _ (List.mem_of_getElem? (i := 18) rfl)
theorem w19 : Cond.selects "TwinTreesModel" ⟨"TwinTreesModel", "placeOf", "(II)I"⟩ ⟨"TwinTreesModel", "placeOf", "(II)I"⟩ ∈ aw := aw0_in _ (List.mem_of_getElem? (i := 19) rfl)
theorem w20 : Cond.selects "TwinTreesModel" ⟨"TwinTreesModel", "move", "(III)V"⟩ ⟨"TwinTreesModel", "move", "(III)V"⟩ ∈ aw := aw0_in _ (List.mem_of_getElem? (i := 20) rfl)
theorem w21 : Cond.selects "TwinTreesModel" ⟨"TwinTreesModel", "addressOf", "(I)J"⟩ ⟨"TwinTreesModel", "addressOf", "(I)J"⟩ ∈ aw := aw0_in _ (List.mem_of_getElem? (i := 21) rfl)
theorem w22 : Cond.initialized "TwinTreesLaw" ∈ aw := aw0_in _ (List.mem_of_getElem? (i := 22) rfl)
theorem w23 : Cond.initialized "TwinTrees" ∈ aw := aw0_in _ (List.mem_of_getElem? (i := 23) rfl)
theorem w24 : Cond.initialized "TwinTrees$Store" ∈ aw := aw0_in _ (List.mem_of_getElem? (i := 24) rfl)
theorem w25 : Cond.initialized "TwinTrees$Differences" ∈ aw := aw0_in _ (List.mem_of_getElem? (i := 25) rfl)
theorem w26 : Cond.initialized "TwinTrees$RowList" ∈ aw := aw0_in _ (List.mem_of_getElem? (i := 26) rfl)
theorem w27 : Cond.initialized "TwinTrees$Node" ∈ aw := aw0_in _ (List.mem_of_getElem? (i := 27) rfl)
theorem w28 : Cond.initialized "TwinTreesModel" ∈ aw := aw0_in _ (List.mem_of_getElem? (i := 28) rfl)
theorem w29 : Cond.initialized "java/lang/Math" ∈ aw := aw0_in _ (List.mem_of_getElem? (i := 29) rfl)
theorem w30 : Cond.initialized "java/lang/System" ∈ aw := aw0_in _ (List.mem_of_getElem? (i := 30) rfl)
theorem w31 : Cond.initialized "TwinTrees$Row" ∈ aw := aw0_in _ (List.mem_of_getElem? (i := 31) rfl)
theorem w32 : Cond.initialized "java/util/Arrays" ∈ aw := aw0_in _ (List.mem_of_getElem? (i := 32) rfl)
theorem w33 : Cond.classLink "TwinTreesLaw" 7 "TwinTrees" ∈ aw := aw0_in _ (List.mem_of_getElem? (i := 33) rfl)
theorem w34 : Cond.instantiable "TwinTrees" 8 ∈ aw := aw0_in _ (List.mem_of_getElem? (i := 34) rfl)
theorem w35 : Cond.methodLink "TwinTreesLaw" 9 ⟨"TwinTrees", "<init>", "()V"⟩ ∈ aw := aw0_in _ (List.mem_of_getElem? (i := 35) rfl)
theorem w36 : Cond.instanceMethod ⟨"TwinTrees", "<init>", "()V"⟩ ∈ aw := aw0_in _ (List.mem_of_getElem? (i := 36) rfl)
theorem w37 : Cond.code ⟨"TwinTrees", "<init>", "()V"⟩ prog_1_method_1_code 3 none ∈ aw := aw0_in _ (List.mem_of_getElem? (i := 37) rfl)
theorem w38 : Cond.methodLink "TwinTrees" 1 ⟨"java/lang/Object", "<init>", "()V"⟩ ∈ aw := aw0_in _ (List.mem_of_getElem? (i := 38) rfl)
theorem w39 : Cond.instanceMethod ⟨"java/lang/Object", "<init>", "()V"⟩ ∈ aw := aw0_in _ (List.mem_of_getElem? (i := 39) rfl)
theorem w40 : Cond.code ⟨"java/lang/Object", "<init>", "()V"⟩ object_method_1_code 1 none ∈ aw := aw0_in _ (List.mem_of_getElem? (i := 40) rfl)
theorem w41 : Cond.classLink "TwinTrees" 13 "TwinTrees$Node" ∈ aw := aw0_in _ (List.mem_of_getElem? (i := 41) rfl)
theorem w42 : Cond.classLink "TwinTrees" 19 "TwinTrees$Store" ∈ aw := aw0_in _ (List.mem_of_getElem? (i := 42) rfl)
theorem w43 : Cond.instantiable "TwinTrees$Store" 4 ∈ aw := aw0_in _ (List.mem_of_getElem? (i := 43) rfl)
theorem w44 : Cond.instanceMethod ⟨"TwinTrees$Store", "<init>", "()V"⟩ ∈ aw := aw0_in _ (List.mem_of_getElem? (i := 44) rfl)
theorem w45 : Cond.code ⟨"TwinTrees$Store", "<init>", "()V"⟩ prog_6_method_1_code 1 none ∈ aw := aw0_in _ (List.mem_of_getElem? (i := 45) rfl)
theorem w46 : Cond.methodLink "TwinTrees$Store" 3 ⟨"java/lang/Object", "<init>", "()V"⟩ ∈ aw := aw0_in _ (List.mem_of_getElem? (i := 46) rfl)
theorem w47 : Cond.classLink "TwinTrees$Store" 9 "TwinTrees$Node" ∈ aw := aw0_in _ (List.mem_of_getElem? (i := 47) rfl)
theorem w48 : Cond.fieldLink "TwinTrees$Store" 11 "TwinTrees$Store" "buckets" "[LTwinTrees$Node;" ∈ aw := aw0_in _ (List.mem_of_getElem? (i := 48) rfl)
theorem w49 : Cond.fieldLink "TwinTrees$Store" 17 "TwinTrees$Store" "pending" "LTwinTrees$Node;" ∈ aw := aw0_in _ (List.mem_of_getElem? (i := 49) rfl)
theorem w50 : Cond.fieldLink "TwinTrees$Store" 21 "TwinTrees$Store" "nodes" "I" ∈ aw := aw0_in _ (List.mem_of_getElem? (i := 50) rfl)
theorem w51 : Cond.fieldLink "TwinTrees" 161 "TwinTrees$Store" "nodes" "I" ∈ aw := aw0_in _ (List.mem_of_getElem? (i := 51) rfl)
theorem w52 : Cond.fieldLink "TwinTrees$Store" 25 "TwinTrees$Store" "size" "I" ∈ aw := aw0_in _ (List.mem_of_getElem? (i := 52) rfl)
theorem w53 : Cond.fieldLink "TwinTrees" 164 "TwinTrees$Store" "size" "I" ∈ aw := aw0_in _ (List.mem_of_getElem? (i := 53) rfl)
theorem w54 : Cond.laysFinal "TwinTrees$Store" "TwinTrees$Store" "buckets" "[LTwinTrees$Node;" ∈ aw := aw0_in _ (List.mem_of_getElem? (i := 54) rfl)
theorem w55 : Cond.soleField "TwinTrees$Store" "buckets" ∈ aw := aw0_in _ (List.mem_of_getElem? (i := 55) rfl)
theorem w56 : Cond.lays "TwinTrees$Store" "TwinTrees$Store" "pending" "LTwinTrees$Node;" ∈ aw := aw0_in _ (List.mem_of_getElem? (i := 56) rfl)
theorem w57 : Cond.soleField "TwinTrees$Store" "pending" ∈ aw := aw0_in _ (List.mem_of_getElem? (i := 57) rfl)
theorem w58 : Cond.lays "TwinTrees$Store" "TwinTrees$Store" "nodes" "I" ∈ aw := aw0_in _ (List.mem_of_getElem? (i := 58) rfl)
theorem w59 : Cond.soleField "TwinTrees$Store" "nodes" ∈ aw := aw0_in _ (List.mem_of_getElem? (i := 59) rfl)
theorem w60 : Cond.lays "TwinTrees$Store" "TwinTrees$Store" "size" "I" ∈ aw := aw0_in _ (List.mem_of_getElem? (i := 60) rfl)
theorem w61 : Cond.soleField "TwinTrees$Store" "size" ∈ aw := aw0_in _ (List.mem_of_getElem? (i := 61) rfl)
theorem w62 : Cond.superclass "TwinTrees$Store" "java/lang/Object" ∈ aw := aw0_in _ (List.mem_of_getElem? (i := 62) rfl)
theorem w63 : Cond.arrayClass .int ∈ aw := aw0_in _ (List.mem_of_getElem? (i := 63) rfl)
theorem w64 : Cond.classLink "TwinTrees" 26 "TwinTrees$Differences" ∈ aw := aw1_in _ (List.mem_of_getElem? (i := 0) rfl)
theorem w65 : Cond.instantiable "TwinTrees$Differences" 4 ∈ aw := aw1_in _ (List.mem_of_getElem? (i := 1) rfl)
theorem w66 : Cond.instanceMethod ⟨"TwinTrees$Differences", "<init>", "()V"⟩ ∈ aw := aw1_in _ (List.mem_of_getElem? (i := 2) rfl)
theorem w67 : Cond.code ⟨"TwinTrees$Differences", "<init>", "()V"⟩ prog_2_method_1_code 1 none ∈ aw := aw1_in _ (List.mem_of_getElem? (i := 3) rfl)
theorem w68 : Cond.methodLink "TwinTrees$Differences" 3 ⟨"java/lang/Object", "<init>", "()V"⟩ ∈ aw := aw1_in _ (List.mem_of_getElem? (i := 4) rfl)
theorem w69 : Cond.fieldLink "TwinTrees$Differences" 9 "TwinTrees$Differences" "keys" "[I" ∈ aw := aw1_in _ (List.mem_of_getElem? (i := 5) rfl)
theorem w70 : Cond.fieldLink "TwinTrees" 149 "TwinTrees$Differences" "keys" "[I" ∈ aw := aw1_in _ (List.mem_of_getElem? (i := 6) rfl)
theorem w71 : Cond.fieldLink "TwinTrees$Differences" 15 "TwinTrees$Differences" "sides" "[I" ∈ aw := aw1_in _ (List.mem_of_getElem? (i := 7) rfl)
theorem w72 : Cond.fieldLink "TwinTrees" 152 "TwinTrees$Differences" "sides" "[I" ∈ aw := aw1_in _ (List.mem_of_getElem? (i := 8) rfl)
theorem w73 : Cond.fieldLink "TwinTrees$Differences" 18 "TwinTrees$Differences" "unlikes" "[I" ∈ aw := aw1_in _ (List.mem_of_getElem? (i := 9) rfl)
theorem w74 : Cond.fieldLink "TwinTrees" 155 "TwinTrees$Differences" "unlikes" "[I" ∈ aw := aw1_in _ (List.mem_of_getElem? (i := 10) rfl)
theorem w75 : Cond.fieldLink "TwinTrees$Differences" 21 "TwinTrees$Differences" "length" "I" ∈ aw := aw1_in _ (List.mem_of_getElem? (i := 11) rfl)
theorem w76 : Cond.fieldLink "TwinTrees" 148 "TwinTrees$Differences" "length" "I" ∈ aw := aw1_in _ (List.mem_of_getElem? (i := 12) rfl)
theorem w77 : Cond.laysFinal "TwinTrees$Differences" "TwinTrees$Differences" "keys" "[I" ∈ aw := aw1_in _ (List.mem_of_getElem? (i := 13) rfl)
theorem w78 : Cond.soleField "TwinTrees$Differences" "keys" ∈ aw := aw1_in _ (List.mem_of_getElem? (i := 14) rfl)
theorem w79 : Cond.laysFinal "TwinTrees$Differences" "TwinTrees$Differences" "sides" "[I" ∈ aw := aw1_in _ (List.mem_of_getElem? (i := 15) rfl)
theorem w80 : Cond.soleField "TwinTrees$Differences" "sides" ∈ aw := aw1_in _ (List.mem_of_getElem? (i := 16) rfl)
theorem w81 : Cond.laysFinal "TwinTrees$Differences" "TwinTrees$Differences" "unlikes" "[I" ∈ aw := aw1_in _ (List.mem_of_getElem? (i := 17) rfl)
theorem w82 : Cond.soleField "TwinTrees$Differences" "unlikes" ∈ aw := aw1_in _ (List.mem_of_getElem? (i := 18) rfl)
theorem w83 : Cond.lays "TwinTrees$Differences" "TwinTrees$Differences" "length" "I" ∈ aw := aw1_in _ (List.mem_of_getElem? (i := 19) rfl)
theorem w84 : Cond.soleField "TwinTrees$Differences" "length" ∈ aw := aw1_in _ (List.mem_of_getElem? (i := 20) rfl)
theorem w85 : Cond.superclass "TwinTrees$Differences" "java/lang/Object" ∈ aw := aw1_in _ (List.mem_of_getElem? (i := 21) rfl)
theorem w86 : Cond.classLink "TwinTrees" 33 "TwinTrees$RowList" ∈ aw := aw1_in _ (List.mem_of_getElem? (i := 22) rfl)
theorem w87 : Cond.instantiable "TwinTrees$RowList" 2 ∈ aw := aw1_in _ (List.mem_of_getElem? (i := 23) rfl)
theorem w88 : Cond.instanceMethod ⟨"TwinTrees$RowList", "<init>", "()V"⟩ ∈ aw := aw1_in _ (List.mem_of_getElem? (i := 24) rfl)
theorem w89 : Cond.code ⟨"TwinTrees$RowList", "<init>", "()V"⟩ prog_5_method_1_code 1 none ∈ aw := aw1_in _ (List.mem_of_getElem? (i := 25) rfl)
theorem w90 : Cond.methodLink "TwinTrees$RowList" 3 ⟨"java/lang/Object", "<init>", "()V"⟩ ∈ aw := aw1_in _ (List.mem_of_getElem? (i := 26) rfl)
theorem w91 : Cond.classLink "TwinTrees$RowList" 9 "TwinTrees$Row" ∈ aw := aw1_in _ (List.mem_of_getElem? (i := 27) rfl)
theorem w92 : Cond.fieldLink "TwinTrees$RowList" 11 "TwinTrees$RowList" "rows" "[LTwinTrees$Row;" ∈ aw := aw1_in _ (List.mem_of_getElem? (i := 28) rfl)
theorem w93 : Cond.fieldLink "TwinTrees$Differences" 28 "TwinTrees$RowList" "rows" "[LTwinTrees$Row;" ∈ aw := aw1_in _ (List.mem_of_getElem? (i := 29) rfl)
theorem w94 : Cond.fieldLink "TwinTrees" 93 "TwinTrees$RowList" "rows" "[LTwinTrees$Row;" ∈ aw := aw1_in _ (List.mem_of_getElem? (i := 30) rfl)
theorem w95 : Cond.fieldLink "TwinTrees$RowList" 17 "TwinTrees$RowList" "length" "I" ∈ aw := aw1_in _ (List.mem_of_getElem? (i := 31) rfl)
theorem w96 : Cond.fieldLink "TwinTrees$Differences" 25 "TwinTrees$RowList" "length" "I" ∈ aw := aw1_in _ (List.mem_of_getElem? (i := 32) rfl)
theorem w97 : Cond.fieldLink "TwinTrees" 64 "TwinTrees$RowList" "length" "I" ∈ aw := aw1_in _ (List.mem_of_getElem? (i := 33) rfl)
theorem w98 : Cond.laysFinal "TwinTrees$RowList" "TwinTrees$RowList" "rows" "[LTwinTrees$Row;" ∈ aw := aw1_in _ (List.mem_of_getElem? (i := 34) rfl)
theorem w99 : Cond.soleField "TwinTrees$RowList" "rows" ∈ aw := aw1_in _ (List.mem_of_getElem? (i := 35) rfl)
theorem w100 : Cond.lays "TwinTrees$RowList" "TwinTrees$RowList" "length" "I" ∈ aw := aw1_in _ (List.mem_of_getElem? (i := 36) rfl)
theorem w101 : Cond.soleField "TwinTrees$RowList" "length" ∈ aw := aw1_in _ (List.mem_of_getElem? (i := 37) rfl)
theorem w102 : Cond.superclass "TwinTrees$RowList" "java/lang/Object" ∈ aw := aw1_in _ (List.mem_of_getElem? (i := 38) rfl)
theorem w103 : Cond.classLink "TwinTrees" 50 "TwinTrees$Row" ∈ aw := aw1_in _ (List.mem_of_getElem? (i := 39) rfl)
theorem w104 : Cond.methodLink "TwinTrees" 52 ⟨"TwinTrees$Store", "leafOf", "([LTwinTrees$Row;II)LTwinTrees$Node;"⟩ ∈ aw := aw1_in _ (List.mem_of_getElem? (i := 40) rfl)
theorem w105 : Cond.instanceMethod ⟨"TwinTrees$Store", "leafOf", "([LTwinTrees$Row;II)LTwinTrees$Node;"⟩ ∈ aw := aw1_in _ (List.mem_of_getElem? (i := 41) rfl)
theorem w106 : Cond.selects "TwinTrees$Store" ⟨"TwinTrees$Store", "leafOf", "([LTwinTrees$Row;II)LTwinTrees$Node;"⟩ ⟨"TwinTrees$Store", "leafOf", "([LTwinTrees$Row;II)LTwinTrees$Node;"⟩ ∈ aw := aw1_in _ (List.mem_of_getElem? (i := 42) rfl)
theorem w107 : Cond.code ⟨"TwinTrees$Store", "leafOf", "([LTwinTrees$Row;II)LTwinTrees$Node;"⟩ prog_6_method_2_code 6 (some (.object "TwinTrees$Node")) ∈ aw := aw1_in _ (List.mem_of_getElem? (i := 43) rfl)
theorem w108 : Cond.methodLink "TwinTrees$Store" 33 ⟨"TwinTrees$Store", "bucketOf", "(I)I"⟩ ∈ aw := aw1_in _ (List.mem_of_getElem? (i := 44) rfl)
theorem w109 : Cond.static ⟨"TwinTrees$Store", "bucketOf", "(I)I"⟩ ∈ aw := aw1_in _ (List.mem_of_getElem? (i := 45) rfl)
theorem w110 : Cond.code ⟨"TwinTrees$Store", "bucketOf", "(I)I"⟩ prog_6_method_8_code 1 (some .int) ∈ aw := aw1_in _ (List.mem_of_getElem? (i := 46) rfl)
theorem w111 : Cond.constant "TwinTrees$Store" 68 (-1640531535) ∈ aw := aw1_in _ (List.mem_of_getElem? (i := 47) rfl)
theorem w112 : Cond.methodLink "TwinTrees$Store" 38 ⟨"TwinTrees$Node", "isLikeLeaf", "([LTwinTrees$Row;II)Z"⟩ ∈ aw := aw1_in _ (List.mem_of_getElem? (i := 48) rfl)
theorem w113 : Cond.instanceMethod ⟨"TwinTrees$Node", "isLikeLeaf", "([LTwinTrees$Row;II)Z"⟩ ∈ aw := aw1_in _ (List.mem_of_getElem? (i := 49) rfl)
theorem w114 : Cond.selects "TwinTrees$Node" ⟨"TwinTrees$Node", "isLikeLeaf", "([LTwinTrees$Row;II)Z"⟩ ⟨"TwinTrees$Node", "isLikeLeaf", "([LTwinTrees$Row;II)Z"⟩ ∈ aw := aw1_in _ (List.mem_of_getElem? (i := 50) rfl)
theorem w115 : Cond.code ⟨"TwinTrees$Node", "isLikeLeaf", "([LTwinTrees$Row;II)Z"⟩ prog_3_method_3_code 5 (some .boolean) ∈ aw := aw1_in _ (List.mem_of_getElem? (i := 51) rfl)
theorem w116 : Cond.methodLink "TwinTrees$Node" 63 ⟨"TwinTrees$Row", "isLike", "(LTwinTrees$Row;)Z"⟩ ∈ aw := aw1_in _ (List.mem_of_getElem? (i := 52) rfl)
theorem w117 : Cond.instanceMethod ⟨"TwinTrees$Row", "isLike", "(LTwinTrees$Row;)Z"⟩ ∈ aw := aw1_in _ (List.mem_of_getElem? (i := 53) rfl)
theorem w118 : Cond.selects "TwinTrees$Row" ⟨"TwinTrees$Row", "isLike", "(LTwinTrees$Row;)Z"⟩ ⟨"TwinTrees$Row", "isLike", "(LTwinTrees$Row;)Z"⟩ ∈ aw := aw1_in _ (List.mem_of_getElem? (i := 54) rfl)
theorem w119 : Cond.code ⟨"TwinTrees$Row", "isLike", "(LTwinTrees$Row;)Z"⟩ prog_4_method_4_code 2 (some .boolean) ∈ aw := aw1_in _ (List.mem_of_getElem? (i := 55) rfl)
theorem w120 : Cond.methodLink "TwinTrees$Row" 40 ⟨"TwinTrees$Row", "unlikeCells", "(LTwinTrees$Row;)I"⟩ ∈ aw := aw1_in _ (List.mem_of_getElem? (i := 56) rfl)
theorem w121 : Cond.instanceMethod ⟨"TwinTrees$Row", "unlikeCells", "(LTwinTrees$Row;)I"⟩ ∈ aw := aw1_in _ (List.mem_of_getElem? (i := 57) rfl)
theorem w122 : Cond.selects "TwinTrees$Row" ⟨"TwinTrees$Row", "unlikeCells", "(LTwinTrees$Row;)I"⟩ ⟨"TwinTrees$Row", "unlikeCells", "(LTwinTrees$Row;)I"⟩ ∈ aw := aw1_in _ (List.mem_of_getElem? (i := 58) rfl)
theorem w123 : Cond.code ⟨"TwinTrees$Row", "unlikeCells", "(LTwinTrees$Row;)I"⟩ prog_4_method_5_code 4 (some .int) ∈ aw := aw1_in _ (List.mem_of_getElem? (i := 59) rfl)
theorem w124 : Cond.instantiable "TwinTrees$Node" 12 ∈ aw := aw1_in _ (List.mem_of_getElem? (i := 60) rfl)
theorem w125 : Cond.methodLink "TwinTrees$Store" 45 ⟨"TwinTrees$Node", "<init>", "([LTwinTrees$Row;III)V"⟩ ∈ aw := aw1_in _ (List.mem_of_getElem? (i := 61) rfl)
theorem w126 : Cond.instanceMethod ⟨"TwinTrees$Node", "<init>", "([LTwinTrees$Row;III)V"⟩ ∈ aw := aw1_in _ (List.mem_of_getElem? (i := 62) rfl)
theorem w127 : Cond.code ⟨"TwinTrees$Node", "<init>", "([LTwinTrees$Row;III)V"⟩ prog_3_method_1_code 7 none ∈ aw := aw1_in _ (List.mem_of_getElem? (i := 63) rfl)
theorem w128 : Cond.methodLink "TwinTrees$Node" 1 ⟨"java/lang/Object", "<init>", "()V"⟩ ∈ aw := aw2_in _ (List.mem_of_getElem? (i := 0) rfl)
theorem w129 : Cond.classLink "TwinTrees$Node" 28 "TwinTrees$Row" ∈ aw := aw2_in _ (List.mem_of_getElem? (i := 1) rfl)
theorem w130 : Cond.classLink "TwinTrees$Node" 8 "TwinTrees$Node" ∈ aw := aw2_in _ (List.mem_of_getElem? (i := 2) rfl)
theorem w131 : Cond.fieldLink "TwinTrees$Node" 25 "TwinTrees$Node" "height" "I" ∈ aw := aw2_in _ (List.mem_of_getElem? (i := 3) rfl)
theorem w132 : Cond.fieldLink "TwinTrees" 123 "TwinTrees$Node" "height" "I" ∈ aw := aw2_in _ (List.mem_of_getElem? (i := 4) rfl)
theorem w133 : Cond.fieldLink "TwinTrees$Node" 30 "TwinTrees$Node" "rows" "[LTwinTrees$Row;" ∈ aw := aw2_in _ (List.mem_of_getElem? (i := 5) rfl)
theorem w134 : Cond.fieldLink "TwinTrees" 194 "TwinTrees$Node" "rows" "[LTwinTrees$Row;" ∈ aw := aw2_in _ (List.mem_of_getElem? (i := 6) rfl)
theorem w135 : Cond.fieldLink "TwinTrees$Node" 34 "TwinTrees$Node" "below" "[LTwinTrees$Node;" ∈ aw := aw2_in _ (List.mem_of_getElem? (i := 7) rfl)
theorem w136 : Cond.fieldLink "TwinTrees" 191 "TwinTrees$Node" "below" "[LTwinTrees$Node;" ∈ aw := aw2_in _ (List.mem_of_getElem? (i := 8) rfl)
theorem w137 : Cond.fieldLink "TwinTrees$Node" 42 "TwinTrees$Node" "rowCount" "I" ∈ aw := aw2_in _ (List.mem_of_getElem? (i := 9) rfl)
theorem w138 : Cond.fieldLink "TwinTrees" 120 "TwinTrees$Node" "rowCount" "I" ∈ aw := aw2_in _ (List.mem_of_getElem? (i := 10) rfl)
theorem w139 : Cond.fieldLink "TwinTrees$Node" 45 "TwinTrees$Node" "size" "I" ∈ aw := aw2_in _ (List.mem_of_getElem? (i := 11) rfl)
theorem w140 : Cond.fieldLink "TwinTrees$Store" 59 "TwinTrees$Node" "size" "I" ∈ aw := aw2_in _ (List.mem_of_getElem? (i := 12) rfl)
theorem w141 : Cond.fieldLink "TwinTrees$Node" 51 "TwinTrees$Node" "lastKey" "I" ∈ aw := aw2_in _ (List.mem_of_getElem? (i := 13) rfl)
theorem w142 : Cond.fieldLink "TwinTrees" 199 "TwinTrees$Node" "lastKey" "I" ∈ aw := aw2_in _ (List.mem_of_getElem? (i := 14) rfl)
theorem w143 : Cond.fieldLink "TwinTrees$Node" 57 "TwinTrees$Node" "lastLevel" "I" ∈ aw := aw2_in _ (List.mem_of_getElem? (i := 15) rfl)
theorem w144 : Cond.fieldLink "TwinTrees" 181 "TwinTrees$Node" "lastLevel" "I" ∈ aw := aw2_in _ (List.mem_of_getElem? (i := 16) rfl)
theorem w145 : Cond.fieldLink "TwinTrees$Node" 60 "TwinTrees$Node" "print" "I" ∈ aw := aw2_in _ (List.mem_of_getElem? (i := 17) rfl)
theorem w146 : Cond.fieldLink "TwinTrees$Store" 37 "TwinTrees$Node" "print" "I" ∈ aw := aw2_in _ (List.mem_of_getElem? (i := 18) rfl)
theorem w147 : Cond.fieldLink "TwinTrees$Node" 7 "TwinTrees$Node" "address" "J" ∈ aw := aw2_in _ (List.mem_of_getElem? (i := 19) rfl)
theorem w148 : Cond.fieldLink "TwinTrees" 209 "TwinTrees$Node" "address" "J" ∈ aw := aw2_in _ (List.mem_of_getElem? (i := 20) rfl)
theorem w149 : Cond.fieldLink "TwinTrees$Node" 13 "TwinTrees$Node" "hasAddress" "Z" ∈ aw := aw2_in _ (List.mem_of_getElem? (i := 21) rfl)
theorem w150 : Cond.fieldLink "TwinTrees" 205 "TwinTrees$Node" "hasAddress" "Z" ∈ aw := aw2_in _ (List.mem_of_getElem? (i := 22) rfl)
theorem w151 : Cond.fieldLink "TwinTrees$Node" 17 "TwinTrees$Node" "stamp" "I" ∈ aw := aw2_in _ (List.mem_of_getElem? (i := 23) rfl)
theorem w152 : Cond.fieldLink "TwinTrees$Store" 65 "TwinTrees$Node" "stamp" "I" ∈ aw := aw2_in _ (List.mem_of_getElem? (i := 24) rfl)
theorem w153 : Cond.fieldLink "TwinTrees" 188 "TwinTrees$Node" "stamp" "I" ∈ aw := aw2_in _ (List.mem_of_getElem? (i := 25) rfl)
theorem w154 : Cond.fieldLink "TwinTrees$Node" 21 "TwinTrees$Node" "next" "LTwinTrees$Node;" ∈ aw := aw2_in _ (List.mem_of_getElem? (i := 26) rfl)
theorem w155 : Cond.fieldLink "TwinTrees$Store" 42 "TwinTrees$Node" "next" "LTwinTrees$Node;" ∈ aw := aw2_in _ (List.mem_of_getElem? (i := 27) rfl)
theorem w156 : Cond.laysFinal "TwinTrees$Node" "TwinTrees$Node" "height" "I" ∈ aw := aw2_in _ (List.mem_of_getElem? (i := 28) rfl)
theorem w157 : Cond.soleField "TwinTrees$Node" "height" ∈ aw := aw2_in _ (List.mem_of_getElem? (i := 29) rfl)
theorem w158 : Cond.laysFinal "TwinTrees$Node" "TwinTrees$Node" "rows" "[LTwinTrees$Row;" ∈ aw := aw2_in _ (List.mem_of_getElem? (i := 30) rfl)
theorem w159 : Cond.soleField "TwinTrees$Node" "rows" ∈ aw := aw2_in _ (List.mem_of_getElem? (i := 31) rfl)
theorem w160 : Cond.laysFinal "TwinTrees$Node" "TwinTrees$Node" "below" "[LTwinTrees$Node;" ∈ aw := aw2_in _ (List.mem_of_getElem? (i := 32) rfl)
theorem w161 : Cond.soleField "TwinTrees$Node" "below" ∈ aw := aw2_in _ (List.mem_of_getElem? (i := 33) rfl)
theorem w162 : Cond.laysFinal "TwinTrees$Node" "TwinTrees$Node" "rowCount" "I" ∈ aw := aw2_in _ (List.mem_of_getElem? (i := 34) rfl)
theorem w163 : Cond.soleField "TwinTrees$Node" "rowCount" ∈ aw := aw2_in _ (List.mem_of_getElem? (i := 35) rfl)
theorem w164 : Cond.laysFinal "TwinTrees$Node" "TwinTrees$Node" "size" "I" ∈ aw := aw2_in _ (List.mem_of_getElem? (i := 36) rfl)
theorem w165 : Cond.soleField "TwinTrees$Node" "size" ∈ aw := aw2_in _ (List.mem_of_getElem? (i := 37) rfl)
theorem w166 : Cond.laysFinal "TwinTrees$Node" "TwinTrees$Node" "lastKey" "I" ∈ aw := aw2_in _ (List.mem_of_getElem? (i := 38) rfl)
theorem w167 : Cond.soleField "TwinTrees$Node" "lastKey" ∈ aw := aw2_in _ (List.mem_of_getElem? (i := 39) rfl)
theorem w168 : Cond.laysFinal "TwinTrees$Node" "TwinTrees$Node" "lastLevel" "I" ∈ aw := aw2_in _ (List.mem_of_getElem? (i := 40) rfl)
theorem w169 : Cond.soleField "TwinTrees$Node" "lastLevel" ∈ aw := aw2_in _ (List.mem_of_getElem? (i := 41) rfl)
theorem w170 : Cond.laysFinal "TwinTrees$Node" "TwinTrees$Node" "print" "I" ∈ aw := aw2_in _ (List.mem_of_getElem? (i := 42) rfl)
theorem w171 : Cond.soleField "TwinTrees$Node" "print" ∈ aw := aw2_in _ (List.mem_of_getElem? (i := 43) rfl)
theorem w172 : Cond.lays "TwinTrees$Node" "TwinTrees$Node" "address" "J" ∈ aw := aw2_in _ (List.mem_of_getElem? (i := 44) rfl)
theorem w173 : Cond.soleField "TwinTrees$Node" "address" ∈ aw := aw2_in _ (List.mem_of_getElem? (i := 45) rfl)
theorem w174 : Cond.lays "TwinTrees$Node" "TwinTrees$Node" "hasAddress" "Z" ∈ aw := aw2_in _ (List.mem_of_getElem? (i := 46) rfl)
theorem w175 : Cond.soleField "TwinTrees$Node" "hasAddress" ∈ aw := aw2_in _ (List.mem_of_getElem? (i := 47) rfl)
theorem w176 : Cond.lays "TwinTrees$Node" "TwinTrees$Node" "stamp" "I" ∈ aw := aw2_in _ (List.mem_of_getElem? (i := 48) rfl)
theorem w177 : Cond.soleField "TwinTrees$Node" "stamp" ∈ aw := aw2_in _ (List.mem_of_getElem? (i := 49) rfl)
theorem w178 : Cond.lays "TwinTrees$Node" "TwinTrees$Node" "next" "LTwinTrees$Node;" ∈ aw := aw2_in _ (List.mem_of_getElem? (i := 50) rfl)
theorem w179 : Cond.soleField "TwinTrees$Node" "next" ∈ aw := aw2_in _ (List.mem_of_getElem? (i := 51) rfl)
theorem w180 : Cond.superclass "TwinTrees$Node" "java/lang/Object" ∈ aw := aw2_in _ (List.mem_of_getElem? (i := 52) rfl)
theorem w181 : Cond.methodLink "TwinTrees$Store" 48 ⟨"TwinTrees$Store", "pend", "(LTwinTrees$Node;)LTwinTrees$Node;"⟩ ∈ aw := aw2_in _ (List.mem_of_getElem? (i := 53) rfl)
theorem w182 : Cond.instanceMethod ⟨"TwinTrees$Store", "pend", "(LTwinTrees$Node;)LTwinTrees$Node;"⟩ ∈ aw := aw2_in _ (List.mem_of_getElem? (i := 54) rfl)
theorem w183 : Cond.code ⟨"TwinTrees$Store", "pend", "(LTwinTrees$Node;)LTwinTrees$Node;"⟩ prog_6_method_6_code 2 (some (.object "TwinTrees$Node")) ∈ aw := aw2_in _ (List.mem_of_getElem? (i := 55) rfl)
theorem w184 : Cond.methodLink "TwinTrees" 56 ⟨"TwinTrees$Store", "keepPending", "()I"⟩ ∈ aw := aw2_in _ (List.mem_of_getElem? (i := 56) rfl)
theorem w185 : Cond.instanceMethod ⟨"TwinTrees$Store", "keepPending", "()I"⟩ ∈ aw := aw2_in _ (List.mem_of_getElem? (i := 57) rfl)
theorem w186 : Cond.selects "TwinTrees$Store" ⟨"TwinTrees$Store", "keepPending", "()I"⟩ ⟨"TwinTrees$Store", "keepPending", "()I"⟩ ∈ aw := aw2_in _ (List.mem_of_getElem? (i := 58) rfl)
theorem w187 : Cond.code ⟨"TwinTrees$Store", "keepPending", "()I"⟩ prog_6_method_4_code 5 (some .int) ∈ aw := aw2_in _ (List.mem_of_getElem? (i := 59) rfl)
theorem w188 : Cond.constant "TwinTrees$Store" 60 60000 ∈ aw := aw2_in _ (List.mem_of_getElem? (i := 60) rfl)
theorem w189 : Cond.methodLink "TwinTrees$Store" 61 ⟨"TwinTrees$Store", "link", "(LTwinTrees$Node;)V"⟩ ∈ aw := aw2_in _ (List.mem_of_getElem? (i := 61) rfl)
theorem w190 : Cond.instanceMethod ⟨"TwinTrees$Store", "link", "(LTwinTrees$Node;)V"⟩ ∈ aw := aw2_in _ (List.mem_of_getElem? (i := 62) rfl)
theorem w191 : Cond.code ⟨"TwinTrees$Store", "link", "(LTwinTrees$Node;)V"⟩ prog_6_method_7_code 3 none ∈ aw := aw2_in _ (List.mem_of_getElem? (i := 63) rfl)
theorem w192 : Cond.fieldLink "TwinTrees" 9 "TwinTrees" "widths" "[I" ∈ aw := aw3_in _ (List.mem_of_getElem? (i := 0) rfl)
theorem w193 : Cond.fieldLink "TwinTrees" 15 "TwinTrees" "roots" "[LTwinTrees$Node;" ∈ aw := aw3_in _ (List.mem_of_getElem? (i := 1) rfl)
theorem w194 : Cond.fieldLink "TwinTrees" 22 "TwinTrees" "store" "LTwinTrees$Store;" ∈ aw := aw3_in _ (List.mem_of_getElem? (i := 2) rfl)
theorem w195 : Cond.fieldLink "TwinTrees" 29 "TwinTrees" "differences" "LTwinTrees$Differences;" ∈ aw := aw3_in _ (List.mem_of_getElem? (i := 3) rfl)
theorem w196 : Cond.fieldLink "TwinTrees" 36 "TwinTrees" "draft" "LTwinTrees$RowList;" ∈ aw := aw3_in _ (List.mem_of_getElem? (i := 4) rfl)
theorem w197 : Cond.fieldLink "TwinTrees" 40 "TwinTrees" "beside" "LTwinTrees$RowList;" ∈ aw := aw3_in _ (List.mem_of_getElem? (i := 5) rfl)
theorem w198 : Cond.fieldLink "TwinTrees" 43 "TwinTrees" "line" "[LTwinTrees$Node;" ∈ aw := aw3_in _ (List.mem_of_getElem? (i := 6) rfl)
theorem w199 : Cond.fieldLink "TwinTrees" 46 "TwinTrees" "lastStamp" "I" ∈ aw := aw3_in _ (List.mem_of_getElem? (i := 7) rfl)
theorem w200 : Cond.laysFinal "TwinTrees" "TwinTrees" "widths" "[I" ∈ aw := aw3_in _ (List.mem_of_getElem? (i := 8) rfl)
theorem w201 : Cond.soleField "TwinTrees" "widths" ∈ aw := aw3_in _ (List.mem_of_getElem? (i := 9) rfl)
theorem w202 : Cond.laysFinal "TwinTrees" "TwinTrees" "roots" "[LTwinTrees$Node;" ∈ aw := aw3_in _ (List.mem_of_getElem? (i := 10) rfl)
theorem w203 : Cond.soleField "TwinTrees" "roots" ∈ aw := aw3_in _ (List.mem_of_getElem? (i := 11) rfl)
theorem w204 : Cond.laysFinal "TwinTrees" "TwinTrees" "store" "LTwinTrees$Store;" ∈ aw := aw3_in _ (List.mem_of_getElem? (i := 12) rfl)
theorem w205 : Cond.soleField "TwinTrees" "store" ∈ aw := aw3_in _ (List.mem_of_getElem? (i := 13) rfl)
theorem w206 : Cond.laysFinal "TwinTrees" "TwinTrees" "differences" "LTwinTrees$Differences;" ∈ aw := aw3_in _ (List.mem_of_getElem? (i := 14) rfl)
theorem w207 : Cond.soleField "TwinTrees" "differences" ∈ aw := aw3_in _ (List.mem_of_getElem? (i := 15) rfl)
theorem w208 : Cond.laysFinal "TwinTrees" "TwinTrees" "draft" "LTwinTrees$RowList;" ∈ aw := aw3_in _ (List.mem_of_getElem? (i := 16) rfl)
theorem w209 : Cond.soleField "TwinTrees" "draft" ∈ aw := aw3_in _ (List.mem_of_getElem? (i := 17) rfl)
theorem w210 : Cond.laysFinal "TwinTrees" "TwinTrees" "beside" "LTwinTrees$RowList;" ∈ aw := aw3_in _ (List.mem_of_getElem? (i := 18) rfl)
theorem w211 : Cond.soleField "TwinTrees" "beside" ∈ aw := aw3_in _ (List.mem_of_getElem? (i := 19) rfl)
theorem w212 : Cond.laysFinal "TwinTrees" "TwinTrees" "line" "[LTwinTrees$Node;" ∈ aw := aw3_in _ (List.mem_of_getElem? (i := 20) rfl)
theorem w213 : Cond.soleField "TwinTrees" "line" ∈ aw := aw3_in _ (List.mem_of_getElem? (i := 21) rfl)
theorem w214 : Cond.lays "TwinTrees" "TwinTrees" "lastStamp" "I" ∈ aw := aw3_in _ (List.mem_of_getElem? (i := 22) rfl)
theorem w215 : Cond.soleField "TwinTrees" "lastStamp" ∈ aw := aw3_in _ (List.mem_of_getElem? (i := 23) rfl)
theorem w216 : Cond.superclass "TwinTrees" "java/lang/Object" ∈ aw := aw3_in _ (List.mem_of_getElem? (i := 24) rfl)
theorem w217 : Cond.methodLink "TwinTreesLaw" 13 ⟨"TwinTrees", "make", "(II)I"⟩ ∈ aw := aw3_in _ (List.mem_of_getElem? (i := 25) rfl)
theorem w218 : Cond.instanceMethod ⟨"TwinTrees", "make", "(II)I"⟩ ∈ aw := aw3_in _ (List.mem_of_getElem? (i := 26) rfl)
theorem w219 : Cond.selects "TwinTrees" ⟨"TwinTrees", "make", "(II)I"⟩ ⟨"TwinTrees", "make", "(II)I"⟩ ∈ aw := aw3_in _ (List.mem_of_getElem? (i := 27) rfl)
theorem w220 : Cond.code ⟨"TwinTrees", "make", "(II)I"⟩ prog_1_method_2_code 4 (some .int) ∈ aw := aw3_in _ (List.mem_of_getElem? (i := 28) rfl)
theorem w221 : Cond.methodLink "TwinTrees" 60 ⟨"TwinTrees", "isTable", "(I)Z"⟩ ∈ aw := aw3_in _ (List.mem_of_getElem? (i := 29) rfl)
theorem w222 : Cond.static ⟨"TwinTrees", "isTable", "(I)Z"⟩ ∈ aw := aw3_in _ (List.mem_of_getElem? (i := 30) rfl)
theorem w223 : Cond.code ⟨"TwinTrees", "isTable", "(I)Z"⟩ prog_1_method_14_code 1 (some .boolean) ∈ aw := aw3_in _ (List.mem_of_getElem? (i := 31) rfl)
theorem w224 : Cond.methodLink "TwinTrees" 67 ⟨"TwinTrees", "plantDraft", "(I)I"⟩ ∈ aw := aw3_in _ (List.mem_of_getElem? (i := 32) rfl)
theorem w225 : Cond.instanceMethod ⟨"TwinTrees", "plantDraft", "(I)I"⟩ ∈ aw := aw3_in _ (List.mem_of_getElem? (i := 33) rfl)
theorem w226 : Cond.code ⟨"TwinTrees", "plantDraft", "(I)I"⟩ prog_1_method_19_code 4 (some .int) ∈ aw := aw3_in _ (List.mem_of_getElem? (i := 34) rfl)
theorem w227 : Cond.methodLink "TwinTrees" 171 ⟨"TwinTrees", "groupRows", "()I"⟩ ∈ aw := aw3_in _ (List.mem_of_getElem? (i := 35) rfl)
theorem w228 : Cond.instanceMethod ⟨"TwinTrees", "groupRows", "()I"⟩ ∈ aw := aw3_in _ (List.mem_of_getElem? (i := 36) rfl)
theorem w229 : Cond.code ⟨"TwinTrees", "groupRows", "()I"⟩ prog_1_method_20_code 4 (some .int) ∈ aw := aw3_in _ (List.mem_of_getElem? (i := 37) rfl)
theorem w230 : Cond.methodLink "TwinTrees" 174 ⟨"TwinTrees", "groupNodes", "(II)I"⟩ ∈ aw := aw3_in _ (List.mem_of_getElem? (i := 38) rfl)
theorem w231 : Cond.instanceMethod ⟨"TwinTrees", "groupNodes", "(II)I"⟩ ∈ aw := aw3_in _ (List.mem_of_getElem? (i := 39) rfl)
theorem w232 : Cond.code ⟨"TwinTrees", "groupNodes", "(II)I"⟩ prog_1_method_21_code 6 (some .int) ∈ aw := aw3_in _ (List.mem_of_getElem? (i := 40) rfl)
theorem w233 : Cond.methodLink "TwinTrees" 184 ⟨"TwinTrees$Store", "branchOf", "(I[LTwinTrees$Node;II)LTwinTrees$Node;"⟩ ∈ aw := aw3_in _ (List.mem_of_getElem? (i := 41) rfl)
theorem w234 : Cond.instanceMethod ⟨"TwinTrees$Store", "branchOf", "(I[LTwinTrees$Node;II)LTwinTrees$Node;"⟩ ∈ aw := aw3_in _ (List.mem_of_getElem? (i := 42) rfl)
theorem w235 : Cond.selects "TwinTrees$Store" ⟨"TwinTrees$Store", "branchOf", "(I[LTwinTrees$Node;II)LTwinTrees$Node;"⟩ ⟨"TwinTrees$Store", "branchOf", "(I[LTwinTrees$Node;II)LTwinTrees$Node;"⟩ ∈ aw := aw3_in _ (List.mem_of_getElem? (i := 43) rfl)
theorem w236 : Cond.code ⟨"TwinTrees$Store", "branchOf", "(I[LTwinTrees$Node;II)LTwinTrees$Node;"⟩ prog_6_method_3_code 7 (some (.object "TwinTrees$Node")) ∈ aw := aw3_in _ (List.mem_of_getElem? (i := 44) rfl)
theorem w237 : Cond.methodLink "TwinTrees$Store" 52 ⟨"TwinTrees$Node", "isLikeBranch", "([LTwinTrees$Node;II)Z"⟩ ∈ aw := aw3_in _ (List.mem_of_getElem? (i := 45) rfl)
theorem w238 : Cond.instanceMethod ⟨"TwinTrees$Node", "isLikeBranch", "([LTwinTrees$Node;II)Z"⟩ ∈ aw := aw3_in _ (List.mem_of_getElem? (i := 46) rfl)
theorem w239 : Cond.selects "TwinTrees$Node" ⟨"TwinTrees$Node", "isLikeBranch", "([LTwinTrees$Node;II)Z"⟩ ⟨"TwinTrees$Node", "isLikeBranch", "([LTwinTrees$Node;II)Z"⟩ ∈ aw := aw3_in _ (List.mem_of_getElem? (i := 47) rfl)
theorem w240 : Cond.code ⟨"TwinTrees$Node", "isLikeBranch", "([LTwinTrees$Node;II)Z"⟩ prog_3_method_4_code 5 (some .boolean) ∈ aw := aw3_in _ (List.mem_of_getElem? (i := 48) rfl)
theorem w241 : Cond.methodLink "TwinTrees$Store" 56 ⟨"TwinTrees$Node", "<init>", "(I[LTwinTrees$Node;III)V"⟩ ∈ aw := aw3_in _ (List.mem_of_getElem? (i := 49) rfl)
theorem w242 : Cond.instanceMethod ⟨"TwinTrees$Node", "<init>", "(I[LTwinTrees$Node;III)V"⟩ ∈ aw := aw3_in _ (List.mem_of_getElem? (i := 50) rfl)
theorem w243 : Cond.code ⟨"TwinTrees$Node", "<init>", "(I[LTwinTrees$Node;III)V"⟩ prog_3_method_2_code 8 none ∈ aw := aw3_in _ (List.mem_of_getElem? (i := 51) rfl)
theorem w244 : Cond.methodLink "TwinTreesLaw" 18 ⟨"TwinTrees", "put", "(IIIIZ)I"⟩ ∈ aw := aw3_in _ (List.mem_of_getElem? (i := 52) rfl)
theorem w245 : Cond.instanceMethod ⟨"TwinTrees", "put", "(IIIIZ)I"⟩ ∈ aw := aw3_in _ (List.mem_of_getElem? (i := 53) rfl)
theorem w246 : Cond.selects "TwinTrees" ⟨"TwinTrees", "put", "(IIIIZ)I"⟩ ⟨"TwinTrees", "put", "(IIIIZ)I"⟩ ∈ aw := aw3_in _ (List.mem_of_getElem? (i := 54) rfl)
theorem w247 : Cond.code ⟨"TwinTrees", "put", "(IIIIZ)I"⟩ prog_1_method_3_code 7 (some .int) ∈ aw := aw3_in _ (List.mem_of_getElem? (i := 55) rfl)
theorem w248 : Cond.methodLink "TwinTrees" 71 ⟨"TwinTrees", "isColumn", "(II)Z"⟩ ∈ aw := aw3_in _ (List.mem_of_getElem? (i := 56) rfl)
theorem w249 : Cond.instanceMethod ⟨"TwinTrees", "isColumn", "(II)Z"⟩ ∈ aw := aw3_in _ (List.mem_of_getElem? (i := 57) rfl)
theorem w250 : Cond.code ⟨"TwinTrees", "isColumn", "(II)Z"⟩ prog_1_method_15_code 3 (some .boolean) ∈ aw := aw3_in _ (List.mem_of_getElem? (i := 58) rfl)
theorem w251 : Cond.methodLink "TwinTrees" 75 ⟨"TwinTrees", "draftRowsOf", "(I)V"⟩ ∈ aw := aw3_in _ (List.mem_of_getElem? (i := 59) rfl)
theorem w252 : Cond.instanceMethod ⟨"TwinTrees", "draftRowsOf", "(I)V"⟩ ∈ aw := aw3_in _ (List.mem_of_getElem? (i := 60) rfl)
theorem w253 : Cond.code ⟨"TwinTrees", "draftRowsOf", "(I)V"⟩ prog_1_method_17_code 2 none ∈ aw := aw3_in _ (List.mem_of_getElem? (i := 61) rfl)
theorem w254 : Cond.methodLink "TwinTrees" 126 ⟨"TwinTrees", "newStamp", "()I"⟩ ∈ aw := aw3_in _ (List.mem_of_getElem? (i := 62) rfl)
theorem w255 : Cond.instanceMethod ⟨"TwinTrees", "newStamp", "()I"⟩ ∈ aw := aw3_in _ (List.mem_of_getElem? (i := 63) rfl)
theorem w256 : Cond.code ⟨"TwinTrees", "newStamp", "()I"⟩ prog_1_method_16_code 1 (some .int) ∈ aw := aw4_in _ (List.mem_of_getElem? (i := 0) rfl)
theorem w257 : Cond.methodLink "TwinTrees" 167 ⟨"TwinTrees", "gather", "(LTwinTrees$Node;ILTwinTrees$RowList;I)V"⟩ ∈ aw := aw4_in _ (List.mem_of_getElem? (i := 1) rfl)
theorem w258 : Cond.static ⟨"TwinTrees", "gather", "(LTwinTrees$Node;ILTwinTrees$RowList;I)V"⟩ ∈ aw := aw4_in _ (List.mem_of_getElem? (i := 2) rfl)
theorem w259 : Cond.code ⟨"TwinTrees", "gather", "(LTwinTrees$Node;ILTwinTrees$RowList;I)V"⟩ prog_1_method_23_code 8 none ∈ aw := aw4_in _ (List.mem_of_getElem? (i := 3) rfl)
theorem w260 : Cond.methodLink "TwinTrees" 195 ⟨"TwinTrees$RowList", "append", "(LTwinTrees$Row;)V"⟩ ∈ aw := aw4_in _ (List.mem_of_getElem? (i := 4) rfl)
theorem w261 : Cond.instanceMethod ⟨"TwinTrees$RowList", "append", "(LTwinTrees$Row;)V"⟩ ∈ aw := aw4_in _ (List.mem_of_getElem? (i := 5) rfl)
theorem w262 : Cond.selects "TwinTrees$RowList" ⟨"TwinTrees$RowList", "append", "(LTwinTrees$Row;)V"⟩ ⟨"TwinTrees$RowList", "append", "(LTwinTrees$Row;)V"⟩ ∈ aw := aw4_in _ (List.mem_of_getElem? (i := 6) rfl)
theorem w263 : Cond.code ⟨"TwinTrees$RowList", "append", "(LTwinTrees$Row;)V"⟩ prog_5_method_2_code 2 none ∈ aw := aw4_in _ (List.mem_of_getElem? (i := 7) rfl)
theorem w264 : Cond.methodLink "TwinTrees" 79 ⟨"TwinTrees$RowList", "placeOf", "(I)I"⟩ ∈ aw := aw4_in _ (List.mem_of_getElem? (i := 8) rfl)
theorem w265 : Cond.instanceMethod ⟨"TwinTrees$RowList", "placeOf", "(I)I"⟩ ∈ aw := aw4_in _ (List.mem_of_getElem? (i := 9) rfl)
theorem w266 : Cond.selects "TwinTrees$RowList" ⟨"TwinTrees$RowList", "placeOf", "(I)I"⟩ ⟨"TwinTrees$RowList", "placeOf", "(I)I"⟩ ∈ aw := aw4_in _ (List.mem_of_getElem? (i := 10) rfl)
theorem w267 : Cond.code ⟨"TwinTrees$RowList", "placeOf", "(I)I"⟩ prog_5_method_3_code 3 (some .int) ∈ aw := aw4_in _ (List.mem_of_getElem? (i := 11) rfl)
theorem w268 : Cond.methodLink "TwinTrees" 82 ⟨"TwinTrees$RowList", "hasKeyAt", "(II)Z"⟩ ∈ aw := aw4_in _ (List.mem_of_getElem? (i := 12) rfl)
theorem w269 : Cond.instanceMethod ⟨"TwinTrees$RowList", "hasKeyAt", "(II)Z"⟩ ∈ aw := aw4_in _ (List.mem_of_getElem? (i := 13) rfl)
theorem w270 : Cond.selects "TwinTrees$RowList" ⟨"TwinTrees$RowList", "hasKeyAt", "(II)Z"⟩ ⟨"TwinTrees$RowList", "hasKeyAt", "(II)Z"⟩ ∈ aw := aw4_in _ (List.mem_of_getElem? (i := 14) rfl)
theorem w271 : Cond.code ⟨"TwinTrees$RowList", "hasKeyAt", "(II)Z"⟩ prog_5_method_4_code 3 (some .boolean) ∈ aw := aw4_in _ (List.mem_of_getElem? (i := 15) rfl)
theorem w272 : Cond.methodLink "TwinTrees" 85 ⟨"TwinTrees", "blankRow", "(II)LTwinTrees$Row;"⟩ ∈ aw := aw4_in _ (List.mem_of_getElem? (i := 16) rfl)
theorem w273 : Cond.static ⟨"TwinTrees", "blankRow", "(II)LTwinTrees$Row;"⟩ ∈ aw := aw4_in _ (List.mem_of_getElem? (i := 17) rfl)
theorem w274 : Cond.code ⟨"TwinTrees", "blankRow", "(II)LTwinTrees$Row;"⟩ prog_1_method_29_code 2 (some (.object "TwinTrees$Row")) ∈ aw := aw4_in _ (List.mem_of_getElem? (i := 18) rfl)
theorem w275 : Cond.instantiable "TwinTrees$Row" 5 ∈ aw := aw4_in _ (List.mem_of_getElem? (i := 19) rfl)
theorem w276 : Cond.methodLink "TwinTrees" 225 ⟨"TwinTrees$Row", "<init>", "(I[II)V"⟩ ∈ aw := aw4_in _ (List.mem_of_getElem? (i := 20) rfl)
theorem w277 : Cond.instanceMethod ⟨"TwinTrees$Row", "<init>", "(I[II)V"⟩ ∈ aw := aw4_in _ (List.mem_of_getElem? (i := 21) rfl)
theorem w278 : Cond.code ⟨"TwinTrees$Row", "<init>", "(I[II)V"⟩ prog_4_method_1_code 9 none ∈ aw := aw4_in _ (List.mem_of_getElem? (i := 22) rfl)
theorem w279 : Cond.methodLink "TwinTrees$Row" 1 ⟨"java/lang/Object", "<init>", "()V"⟩ ∈ aw := aw4_in _ (List.mem_of_getElem? (i := 23) rfl)
theorem w280 : Cond.static ⟨"TwinTrees", "levelOf", "(I)I"⟩ ∈ aw := aw4_in _ (List.mem_of_getElem? (i := 24) rfl)
theorem w281 : Cond.code ⟨"TwinTrees", "levelOf", "(I)I"⟩ prog_1_method_30_code 3 (some .int) ∈ aw := aw4_in _ (List.mem_of_getElem? (i := 25) rfl)
theorem w282 : Cond.constant "TwinTrees" 228 (-1640531535) ∈ aw := aw4_in _ (List.mem_of_getElem? (i := 26) rfl)
theorem w283 : Cond.constant "TwinTrees" 229 (-2048144777) ∈ aw := aw4_in _ (List.mem_of_getElem? (i := 27) rfl)
theorem w284 : Cond.fieldLink "TwinTrees$Row" 7 "TwinTrees$Row" "key" "I" ∈ aw := aw4_in _ (List.mem_of_getElem? (i := 28) rfl)
theorem w285 : Cond.fieldLink "TwinTrees$Node" 48 "TwinTrees$Row" "key" "I" ∈ aw := aw4_in _ (List.mem_of_getElem? (i := 29) rfl)
theorem w286 : Cond.fieldLink "TwinTrees$Differences" 32 "TwinTrees$Row" "key" "I" ∈ aw := aw4_in _ (List.mem_of_getElem? (i := 30) rfl)
theorem w287 : Cond.fieldLink "TwinTrees$RowList" 21 "TwinTrees$Row" "key" "I" ∈ aw := aw4_in _ (List.mem_of_getElem? (i := 31) rfl)
theorem w288 : Cond.fieldLink "TwinTrees" 202 "TwinTrees$Row" "key" "I" ∈ aw := aw4_in _ (List.mem_of_getElem? (i := 32) rfl)
theorem w289 : Cond.fieldLink "TwinTrees$Row" 13 "TwinTrees$Row" "cells" "[I" ∈ aw := aw4_in _ (List.mem_of_getElem? (i := 33) rfl)
theorem w290 : Cond.fieldLink "TwinTrees$Node" 38 "TwinTrees$Row" "cells" "[I" ∈ aw := aw4_in _ (List.mem_of_getElem? (i := 34) rfl)
theorem w291 : Cond.fieldLink "TwinTrees" 117 "TwinTrees$Row" "cells" "[I" ∈ aw := aw4_in _ (List.mem_of_getElem? (i := 35) rfl)
theorem w292 : Cond.fieldLink "TwinTrees$Row" 17 "TwinTrees$Row" "nulls" "I" ∈ aw := aw4_in _ (List.mem_of_getElem? (i := 36) rfl)
theorem w293 : Cond.fieldLink "TwinTrees$Row" 26 "TwinTrees$Row" "level" "I" ∈ aw := aw4_in _ (List.mem_of_getElem? (i := 37) rfl)
theorem w294 : Cond.fieldLink "TwinTrees$Node" 54 "TwinTrees$Row" "level" "I" ∈ aw := aw4_in _ (List.mem_of_getElem? (i := 38) rfl)
theorem w295 : Cond.fieldLink "TwinTrees" 178 "TwinTrees$Row" "level" "I" ∈ aw := aw4_in _ (List.mem_of_getElem? (i := 39) rfl)
theorem w296 : Cond.fieldLink "TwinTrees$Row" 29 "TwinTrees$Row" "print" "I" ∈ aw := aw4_in _ (List.mem_of_getElem? (i := 40) rfl)
theorem w297 : Cond.fieldLink "TwinTrees$Store" 28 "TwinTrees$Row" "print" "I" ∈ aw := aw4_in _ (List.mem_of_getElem? (i := 41) rfl)
theorem w298 : Cond.laysFinal "TwinTrees$Row" "TwinTrees$Row" "key" "I" ∈ aw := aw4_in _ (List.mem_of_getElem? (i := 42) rfl)
theorem w299 : Cond.soleField "TwinTrees$Row" "key" ∈ aw := aw4_in _ (List.mem_of_getElem? (i := 43) rfl)
theorem w300 : Cond.laysFinal "TwinTrees$Row" "TwinTrees$Row" "cells" "[I" ∈ aw := aw4_in _ (List.mem_of_getElem? (i := 44) rfl)
theorem w301 : Cond.soleField "TwinTrees$Row" "cells" ∈ aw := aw4_in _ (List.mem_of_getElem? (i := 45) rfl)
theorem w302 : Cond.laysFinal "TwinTrees$Row" "TwinTrees$Row" "nulls" "I" ∈ aw := aw4_in _ (List.mem_of_getElem? (i := 46) rfl)
theorem w303 : Cond.soleField "TwinTrees$Row" "nulls" ∈ aw := aw4_in _ (List.mem_of_getElem? (i := 47) rfl)
theorem w304 : Cond.laysFinal "TwinTrees$Row" "TwinTrees$Row" "level" "I" ∈ aw := aw4_in _ (List.mem_of_getElem? (i := 48) rfl)
theorem w305 : Cond.soleField "TwinTrees$Row" "level" ∈ aw := aw4_in _ (List.mem_of_getElem? (i := 49) rfl)
theorem w306 : Cond.laysFinal "TwinTrees$Row" "TwinTrees$Row" "print" "I" ∈ aw := aw4_in _ (List.mem_of_getElem? (i := 50) rfl)
theorem w307 : Cond.soleField "TwinTrees$Row" "print" ∈ aw := aw4_in _ (List.mem_of_getElem? (i := 51) rfl)
theorem w308 : Cond.superclass "TwinTrees$Row" "java/lang/Object" ∈ aw := aw4_in _ (List.mem_of_getElem? (i := 52) rfl)
theorem w309 : Cond.methodLink "TwinTrees" 89 ⟨"TwinTrees$RowList", "insertAt", "(ILTwinTrees$Row;)V"⟩ ∈ aw := aw4_in _ (List.mem_of_getElem? (i := 53) rfl)
theorem w310 : Cond.instanceMethod ⟨"TwinTrees$RowList", "insertAt", "(ILTwinTrees$Row;)V"⟩ ∈ aw := aw4_in _ (List.mem_of_getElem? (i := 54) rfl)
theorem w311 : Cond.selects "TwinTrees$RowList" ⟨"TwinTrees$RowList", "insertAt", "(ILTwinTrees$Row;)V"⟩ ⟨"TwinTrees$RowList", "insertAt", "(ILTwinTrees$Row;)V"⟩ ∈ aw := aw4_in _ (List.mem_of_getElem? (i := 55) rfl)
theorem w312 : Cond.code ⟨"TwinTrees$RowList", "insertAt", "(ILTwinTrees$Row;)V"⟩ prog_5_method_5_code 4 none ∈ aw := aw4_in _ (List.mem_of_getElem? (i := 56) rfl)
theorem w313 : Cond.methodLink "TwinTrees" 97 ⟨"TwinTrees$Row", "withCell", "(IIZ)LTwinTrees$Row;"⟩ ∈ aw := aw4_in _ (List.mem_of_getElem? (i := 57) rfl)
theorem w314 : Cond.instanceMethod ⟨"TwinTrees$Row", "withCell", "(IIZ)LTwinTrees$Row;"⟩ ∈ aw := aw4_in _ (List.mem_of_getElem? (i := 58) rfl)
theorem w315 : Cond.selects "TwinTrees$Row" ⟨"TwinTrees$Row", "withCell", "(IIZ)LTwinTrees$Row;"⟩ ⟨"TwinTrees$Row", "withCell", "(IIZ)LTwinTrees$Row;"⟩ ∈ aw := aw4_in _ (List.mem_of_getElem? (i := 59) rfl)
theorem w316 : Cond.code ⟨"TwinTrees$Row", "withCell", "(IIZ)LTwinTrees$Row;"⟩ prog_4_method_2_code 6 (some (.object "TwinTrees$Row")) ∈ aw := aw4_in _ (List.mem_of_getElem? (i := 60) rfl)
theorem w317 : Cond.methodLink "TwinTrees$Row" 32 ⟨"[I", "clone", "()Ljava/lang/Object;"⟩ ∈ aw := aw4_in _ (List.mem_of_getElem? (i := 61) rfl)
theorem w318 : Cond.native ⟨"java/lang/Object", "clone", "()Ljava/lang/Object;"⟩ ∈ aw := aw4_in _ (List.mem_of_getElem? (i := 62) rfl)
theorem w319 : Cond.instanceMethod ⟨"java/lang/Object", "clone", "()Ljava/lang/Object;"⟩ ∈ aw := aw4_in _ (List.mem_of_getElem? (i := 63) rfl)
theorem w320 : Cond.selects "[I" ⟨"[I", "clone", "()Ljava/lang/Object;"⟩ ⟨"java/lang/Object", "clone", "()Ljava/lang/Object;"⟩ ∈ aw := aw5_in _ (List.mem_of_getElem? (i := 0) rfl)
theorem w321 : Cond.classLink "TwinTrees$Row" 33 "[I" ∈ aw := aw5_in _ (List.mem_of_getElem? (i := 1) rfl)
theorem w322 : Cond.classLink "TwinTrees$Row" 8 "TwinTrees$Row" ∈ aw := aw5_in _ (List.mem_of_getElem? (i := 2) rfl)
theorem w323 : Cond.methodLink "TwinTrees$Row" 37 ⟨"TwinTrees$Row", "<init>", "(I[II)V"⟩ ∈ aw := aw5_in _ (List.mem_of_getElem? (i := 3) rfl)
theorem w324 : Cond.methodLink "TwinTreesLaw" 23 ⟨"TwinTrees", "remove", "(II)I"⟩ ∈ aw := aw5_in _ (List.mem_of_getElem? (i := 4) rfl)
theorem w325 : Cond.instanceMethod ⟨"TwinTrees", "remove", "(II)I"⟩ ∈ aw := aw5_in _ (List.mem_of_getElem? (i := 5) rfl)
theorem w326 : Cond.selects "TwinTrees" ⟨"TwinTrees", "remove", "(II)I"⟩ ⟨"TwinTrees", "remove", "(II)I"⟩ ∈ aw := aw5_in _ (List.mem_of_getElem? (i := 6) rfl)
theorem w327 : Cond.code ⟨"TwinTrees", "remove", "(II)I"⟩ prog_1_method_4_code 4 (some .int) ∈ aw := aw5_in _ (List.mem_of_getElem? (i := 7) rfl)
theorem w328 : Cond.methodLink "TwinTrees" 101 ⟨"TwinTrees$RowList", "takeAt", "(I)V"⟩ ∈ aw := aw5_in _ (List.mem_of_getElem? (i := 8) rfl)
theorem w329 : Cond.instanceMethod ⟨"TwinTrees$RowList", "takeAt", "(I)V"⟩ ∈ aw := aw5_in _ (List.mem_of_getElem? (i := 9) rfl)
theorem w330 : Cond.selects "TwinTrees$RowList" ⟨"TwinTrees$RowList", "takeAt", "(I)V"⟩ ⟨"TwinTrees$RowList", "takeAt", "(I)V"⟩ ∈ aw := aw5_in _ (List.mem_of_getElem? (i := 10) rfl)
theorem w331 : Cond.code ⟨"TwinTrees$RowList", "takeAt", "(I)V"⟩ prog_5_method_6_code 3 none ∈ aw := aw5_in _ (List.mem_of_getElem? (i := 11) rfl)
theorem w332 : Cond.methodLink "TwinTreesLaw" 27 ⟨"TwinTrees", "copy", "(II)I"⟩ ∈ aw := aw5_in _ (List.mem_of_getElem? (i := 12) rfl)
theorem w333 : Cond.instanceMethod ⟨"TwinTrees", "copy", "(II)I"⟩ ∈ aw := aw5_in _ (List.mem_of_getElem? (i := 13) rfl)
theorem w334 : Cond.selects "TwinTrees" ⟨"TwinTrees", "copy", "(II)I"⟩ ⟨"TwinTrees", "copy", "(II)I"⟩ ∈ aw := aw5_in _ (List.mem_of_getElem? (i := 14) rfl)
theorem w335 : Cond.code ⟨"TwinTrees", "copy", "(II)I"⟩ prog_1_method_5_code 3 (some .int) ∈ aw := aw5_in _ (List.mem_of_getElem? (i := 15) rfl)
theorem w336 : Cond.methodLink "TwinTreesLaw" 31 ⟨"TwinTrees", "get", "(III)J"⟩ ∈ aw := aw5_in _ (List.mem_of_getElem? (i := 16) rfl)
theorem w337 : Cond.instanceMethod ⟨"TwinTrees", "get", "(III)J"⟩ ∈ aw := aw5_in _ (List.mem_of_getElem? (i := 17) rfl)
theorem w338 : Cond.selects "TwinTrees" ⟨"TwinTrees", "get", "(III)J"⟩ ⟨"TwinTrees", "get", "(III)J"⟩ ∈ aw := aw5_in _ (List.mem_of_getElem? (i := 18) rfl)
theorem w339 : Cond.code ⟨"TwinTrees", "get", "(III)J"⟩ prog_1_method_6_code 5 (some .long) ∈ aw := aw5_in _ (List.mem_of_getElem? (i := 19) rfl)
theorem w340 : Cond.constantLong "TwinTrees" 104 1099511627775 ∈ aw := aw5_in _ (List.mem_of_getElem? (i := 20) rfl)
theorem w341 : Cond.methodLink "TwinTrees" 106 ⟨"TwinTrees", "rowWithKey", "(LTwinTrees$Node;I)LTwinTrees$Row;"⟩ ∈ aw := aw5_in _ (List.mem_of_getElem? (i := 21) rfl)
theorem w342 : Cond.static ⟨"TwinTrees", "rowWithKey", "(LTwinTrees$Node;I)LTwinTrees$Row;"⟩ ∈ aw := aw5_in _ (List.mem_of_getElem? (i := 22) rfl)
theorem w343 : Cond.code ⟨"TwinTrees", "rowWithKey", "(LTwinTrees$Node;I)LTwinTrees$Row;"⟩ prog_1_method_24_code 7 (some (.object "TwinTrees$Row")) ∈ aw := aw5_in _ (List.mem_of_getElem? (i := 23) rfl)
theorem w344 : Cond.constantLong "TwinTrees" 110 1099511627774 ∈ aw := aw5_in _ (List.mem_of_getElem? (i := 24) rfl)
theorem w345 : Cond.methodLink "TwinTrees" 112 ⟨"TwinTrees$Row", "isNull", "(I)Z"⟩ ∈ aw := aw5_in _ (List.mem_of_getElem? (i := 25) rfl)
theorem w346 : Cond.instanceMethod ⟨"TwinTrees$Row", "isNull", "(I)Z"⟩ ∈ aw := aw5_in _ (List.mem_of_getElem? (i := 26) rfl)
theorem w347 : Cond.selects "TwinTrees$Row" ⟨"TwinTrees$Row", "isNull", "(I)Z"⟩ ⟨"TwinTrees$Row", "isNull", "(I)Z"⟩ ∈ aw := aw5_in _ (List.mem_of_getElem? (i := 27) rfl)
theorem w348 : Cond.code ⟨"TwinTrees$Row", "isNull", "(I)Z"⟩ prog_4_method_3_code 2 (some .boolean) ∈ aw := aw5_in _ (List.mem_of_getElem? (i := 28) rfl)
theorem w349 : Cond.constantLong "TwinTrees" 115 1099511627776 ∈ aw := aw5_in _ (List.mem_of_getElem? (i := 29) rfl)
theorem w350 : Cond.methodLink "TwinTreesLaw" 36 ⟨"TwinTrees", "measure", "(II)I"⟩ ∈ aw := aw5_in _ (List.mem_of_getElem? (i := 30) rfl)
theorem w351 : Cond.instanceMethod ⟨"TwinTrees", "measure", "(II)I"⟩ ∈ aw := aw5_in _ (List.mem_of_getElem? (i := 31) rfl)
theorem w352 : Cond.selects "TwinTrees" ⟨"TwinTrees", "measure", "(II)I"⟩ ⟨"TwinTrees", "measure", "(II)I"⟩ ∈ aw := aw5_in _ (List.mem_of_getElem? (i := 32) rfl)
theorem w353 : Cond.code ⟨"TwinTrees", "measure", "(II)I"⟩ prog_1_method_7_code 4 (some .int) ∈ aw := aw5_in _ (List.mem_of_getElem? (i := 33) rfl)
theorem w354 : Cond.methodLink "TwinTrees" 129 ⟨"TwinTrees", "stampTree", "(LTwinTrees$Node;II)I"⟩ ∈ aw := aw5_in _ (List.mem_of_getElem? (i := 34) rfl)
theorem w355 : Cond.static ⟨"TwinTrees", "stampTree", "(LTwinTrees$Node;II)I"⟩ ∈ aw := aw5_in _ (List.mem_of_getElem? (i := 35) rfl)
theorem w356 : Cond.code ⟨"TwinTrees", "stampTree", "(LTwinTrees$Node;II)I"⟩ prog_1_method_22_code 8 (some .int) ∈ aw := aw5_in _ (List.mem_of_getElem? (i := 36) rfl)
theorem w357 : Cond.methodLink "TwinTreesLaw" 40 ⟨"TwinTrees", "address", "(I)J"⟩ ∈ aw := aw5_in _ (List.mem_of_getElem? (i := 37) rfl)
theorem w358 : Cond.instanceMethod ⟨"TwinTrees", "address", "(I)J"⟩ ∈ aw := aw5_in _ (List.mem_of_getElem? (i := 38) rfl)
theorem w359 : Cond.selects "TwinTrees" ⟨"TwinTrees", "address", "(I)J"⟩ ⟨"TwinTrees", "address", "(I)J"⟩ ∈ aw := aw5_in _ (List.mem_of_getElem? (i := 39) rfl)
theorem w360 : Cond.code ⟨"TwinTrees", "address", "(I)J"⟩ prog_1_method_8_code 2 (some .long) ∈ aw := aw5_in _ (List.mem_of_getElem? (i := 40) rfl)
theorem w361 : Cond.methodLink "TwinTrees" 133 ⟨"TwinTrees", "addressOf", "(LTwinTrees$Node;I)J"⟩ ∈ aw := aw5_in _ (List.mem_of_getElem? (i := 41) rfl)
theorem w362 : Cond.static ⟨"TwinTrees", "addressOf", "(LTwinTrees$Node;I)J"⟩ ∈ aw := aw5_in _ (List.mem_of_getElem? (i := 42) rfl)
theorem w363 : Cond.code ⟨"TwinTrees", "addressOf", "(LTwinTrees$Node;I)J"⟩ prog_1_method_26_code 8 (some .long) ∈ aw := aw5_in _ (List.mem_of_getElem? (i := 43) rfl)
theorem w364 : Cond.constantLong "TwinTrees" 213 1469598103934665603 ∈ aw := aw5_in _ (List.mem_of_getElem? (i := 44) rfl)
theorem w365 : Cond.methodLink "TwinTrees" 215 ⟨"TwinTrees", "mixed", "(JJ)J"⟩ ∈ aw := aw5_in _ (List.mem_of_getElem? (i := 45) rfl)
theorem w366 : Cond.static ⟨"TwinTrees", "mixed", "(JJ)J"⟩ ∈ aw := aw5_in _ (List.mem_of_getElem? (i := 46) rfl)
theorem w367 : Cond.code ⟨"TwinTrees", "mixed", "(JJ)J"⟩ prog_1_method_28_code 4 (some .long) ∈ aw := aw5_in _ (List.mem_of_getElem? (i := 47) rfl)
theorem w368 : Cond.constantLong "TwinTrees" 223 1099511628211 ∈ aw := aw5_in _ (List.mem_of_getElem? (i := 48) rfl)
theorem w369 : Cond.methodLink "TwinTrees" 219 ⟨"TwinTrees", "mixedRow", "(JLTwinTrees$Row;)J"⟩ ∈ aw := aw5_in _ (List.mem_of_getElem? (i := 49) rfl)
theorem w370 : Cond.static ⟨"TwinTrees", "mixedRow", "(JLTwinTrees$Row;)J"⟩ ∈ aw := aw5_in _ (List.mem_of_getElem? (i := 50) rfl)
theorem w371 : Cond.code ⟨"TwinTrees", "mixedRow", "(JLTwinTrees$Row;)J"⟩ prog_1_method_27_code 6 (some .long) ∈ aw := aw5_in _ (List.mem_of_getElem? (i := 51) rfl)
theorem w372 : Cond.methodLink "TwinTreesLaw" 45 ⟨"TwinTrees", "row", "(II)J"⟩ ∈ aw := aw5_in _ (List.mem_of_getElem? (i := 52) rfl)
theorem w373 : Cond.instanceMethod ⟨"TwinTrees", "row", "(II)J"⟩ ∈ aw := aw5_in _ (List.mem_of_getElem? (i := 53) rfl)
theorem w374 : Cond.selects "TwinTrees" ⟨"TwinTrees", "row", "(II)J"⟩ ⟨"TwinTrees", "row", "(II)J"⟩ ∈ aw := aw5_in _ (List.mem_of_getElem? (i := 54) rfl)
theorem w375 : Cond.code ⟨"TwinTrees", "row", "(II)J"⟩ prog_1_method_9_code 3 (some .long) ∈ aw := aw5_in _ (List.mem_of_getElem? (i := 55) rfl)
theorem w376 : Cond.methodLink "TwinTrees" 137 ⟨"TwinTrees", "keyInOrder", "(LTwinTrees$Node;I)J"⟩ ∈ aw := aw5_in _ (List.mem_of_getElem? (i := 56) rfl)
theorem w377 : Cond.static ⟨"TwinTrees", "keyInOrder", "(LTwinTrees$Node;I)J"⟩ ∈ aw := aw5_in _ (List.mem_of_getElem? (i := 57) rfl)
theorem w378 : Cond.code ⟨"TwinTrees", "keyInOrder", "(LTwinTrees$Node;I)J"⟩ prog_1_method_25_code 6 (some .long) ∈ aw := aw5_in _ (List.mem_of_getElem? (i := 58) rfl)
theorem w379 : Cond.methodLink "TwinTreesLaw" 50 ⟨"TwinTrees", "compare", "(II)I"⟩ ∈ aw := aw5_in _ (List.mem_of_getElem? (i := 59) rfl)
theorem w380 : Cond.instanceMethod ⟨"TwinTrees", "compare", "(II)I"⟩ ∈ aw := aw5_in _ (List.mem_of_getElem? (i := 60) rfl)
theorem w381 : Cond.selects "TwinTrees" ⟨"TwinTrees", "compare", "(II)I"⟩ ⟨"TwinTrees", "compare", "(II)I"⟩ ∈ aw := aw5_in _ (List.mem_of_getElem? (i := 61) rfl)
theorem w382 : Cond.code ⟨"TwinTrees", "compare", "(II)I"⟩ prog_1_method_10_code 3 (some .int) ∈ aw := aw5_in _ (List.mem_of_getElem? (i := 62) rfl)
theorem w383 : Cond.methodLink "TwinTrees" 140 ⟨"TwinTrees", "gatherUnshared", "(IILTwinTrees$RowList;)V"⟩ ∈ aw := aw5_in _ (List.mem_of_getElem? (i := 63) rfl)
theorem w384 : Cond.instanceMethod ⟨"TwinTrees", "gatherUnshared", "(IILTwinTrees$RowList;)V"⟩ ∈ aw := aw6_in _ (List.mem_of_getElem? (i := 0) rfl)
theorem w385 : Cond.code ⟨"TwinTrees", "gatherUnshared", "(IILTwinTrees$RowList;)V"⟩ prog_1_method_18_code 5 none ∈ aw := aw6_in _ (List.mem_of_getElem? (i := 1) rfl)
theorem w386 : Cond.methodLink "TwinTrees" 144 ⟨"TwinTrees$Differences", "collect", "(LTwinTrees$RowList;LTwinTrees$RowList;)V"⟩ ∈ aw := aw6_in _ (List.mem_of_getElem? (i := 2) rfl)
theorem w387 : Cond.instanceMethod ⟨"TwinTrees$Differences", "collect", "(LTwinTrees$RowList;LTwinTrees$RowList;)V"⟩ ∈ aw := aw6_in _ (List.mem_of_getElem? (i := 3) rfl)
theorem w388 : Cond.selects "TwinTrees$Differences" ⟨"TwinTrees$Differences", "collect", "(LTwinTrees$RowList;LTwinTrees$RowList;)V"⟩ ⟨"TwinTrees$Differences", "collect", "(LTwinTrees$RowList;LTwinTrees$RowList;)V"⟩ ∈ aw := aw6_in _ (List.mem_of_getElem? (i := 4) rfl)
theorem w389 : Cond.code ⟨"TwinTrees$Differences", "collect", "(LTwinTrees$RowList;LTwinTrees$RowList;)V"⟩ prog_2_method_2_code 6 none ∈ aw := aw6_in _ (List.mem_of_getElem? (i := 5) rfl)
theorem w390 : Cond.methodLink "TwinTrees$Differences" 37 ⟨"TwinTrees$Differences", "note", "(III)V"⟩ ∈ aw := aw6_in _ (List.mem_of_getElem? (i := 6) rfl)
theorem w391 : Cond.instanceMethod ⟨"TwinTrees$Differences", "note", "(III)V"⟩ ∈ aw := aw6_in _ (List.mem_of_getElem? (i := 7) rfl)
theorem w392 : Cond.code ⟨"TwinTrees$Differences", "note", "(III)V"⟩ prog_2_method_3_code 4 none ∈ aw := aw6_in _ (List.mem_of_getElem? (i := 8) rfl)
theorem w393 : Cond.methodLink "TwinTrees$Differences" 41 ⟨"TwinTrees$Row", "unlikeCells", "(LTwinTrees$Row;)I"⟩ ∈ aw := aw6_in _ (List.mem_of_getElem? (i := 9) rfl)
theorem w394 : Cond.methodLink "TwinTreesLaw" 54 ⟨"TwinTrees", "difference", "(II)J"⟩ ∈ aw := aw6_in _ (List.mem_of_getElem? (i := 10) rfl)
theorem w395 : Cond.instanceMethod ⟨"TwinTrees", "difference", "(II)J"⟩ ∈ aw := aw6_in _ (List.mem_of_getElem? (i := 11) rfl)
theorem w396 : Cond.selects "TwinTrees" ⟨"TwinTrees", "difference", "(II)J"⟩ ⟨"TwinTrees", "difference", "(II)J"⟩ ∈ aw := aw6_in _ (List.mem_of_getElem? (i := 12) rfl)
theorem w397 : Cond.code ⟨"TwinTrees", "difference", "(II)J"⟩ prog_1_method_11_code 3 (some .long) ∈ aw := aw6_in _ (List.mem_of_getElem? (i := 13) rfl)
theorem w398 : Cond.methodLink "TwinTreesLaw" 58 ⟨"TwinTrees", "sweep", "()I"⟩ ∈ aw := aw6_in _ (List.mem_of_getElem? (i := 14) rfl)
theorem w399 : Cond.instanceMethod ⟨"TwinTrees", "sweep", "()I"⟩ ∈ aw := aw6_in _ (List.mem_of_getElem? (i := 15) rfl)
theorem w400 : Cond.selects "TwinTrees" ⟨"TwinTrees", "sweep", "()I"⟩ ⟨"TwinTrees", "sweep", "()I"⟩ ∈ aw := aw6_in _ (List.mem_of_getElem? (i := 16) rfl)
theorem w401 : Cond.code ⟨"TwinTrees", "sweep", "()I"⟩ prog_1_method_12_code 6 (some .int) ∈ aw := aw6_in _ (List.mem_of_getElem? (i := 17) rfl)
theorem w402 : Cond.methodLink "TwinTrees" 158 ⟨"TwinTrees$Store", "dropWithout", "(I)I"⟩ ∈ aw := aw6_in _ (List.mem_of_getElem? (i := 18) rfl)
theorem w403 : Cond.instanceMethod ⟨"TwinTrees$Store", "dropWithout", "(I)I"⟩ ∈ aw := aw6_in _ (List.mem_of_getElem? (i := 19) rfl)
theorem w404 : Cond.selects "TwinTrees$Store" ⟨"TwinTrees$Store", "dropWithout", "(I)I"⟩ ⟨"TwinTrees$Store", "dropWithout", "(I)I"⟩ ∈ aw := aw6_in _ (List.mem_of_getElem? (i := 20) rfl)
theorem w405 : Cond.code ⟨"TwinTrees$Store", "dropWithout", "(I)I"⟩ prog_6_method_5_code 6 (some .int) ∈ aw := aw6_in _ (List.mem_of_getElem? (i := 21) rfl)
theorem w406 : Cond.methodLink "TwinTreesLaw" 63 ⟨"TwinTrees", "count", "(I)I"⟩ ∈ aw := aw6_in _ (List.mem_of_getElem? (i := 22) rfl)
theorem w407 : Cond.instanceMethod ⟨"TwinTrees", "count", "(I)I"⟩ ∈ aw := aw6_in _ (List.mem_of_getElem? (i := 23) rfl)
theorem w408 : Cond.selects "TwinTrees" ⟨"TwinTrees", "count", "(I)I"⟩ ⟨"TwinTrees", "count", "(I)I"⟩ ∈ aw := aw6_in _ (List.mem_of_getElem? (i := 24) rfl)
theorem w409 : Cond.code ⟨"TwinTrees", "count", "(I)I"⟩ prog_1_method_13_code 2 (some .int) ∈ aw := aw6_in _ (List.mem_of_getElem? (i := 25) rfl)
theorem w410 : Cond.classLink "TwinTreesLaw" 10 "TwinTreesModel" ∈ aw := aw6_in _ (List.mem_of_getElem? (i := 26) rfl)
theorem w411 : Cond.instantiable "TwinTreesModel" 29 ∈ aw := aw6_in _ (List.mem_of_getElem? (i := 27) rfl)
theorem w412 : Cond.methodLink "TwinTreesLaw" 12 ⟨"TwinTreesModel", "<init>", "()V"⟩ ∈ aw := aw6_in _ (List.mem_of_getElem? (i := 28) rfl)
theorem w413 : Cond.instanceMethod ⟨"TwinTreesModel", "<init>", "()V"⟩ ∈ aw := aw6_in _ (List.mem_of_getElem? (i := 29) rfl)
theorem w414 : Cond.code ⟨"TwinTreesModel", "<init>", "()V"⟩ prog_8_method_1_code 2 none ∈ aw := aw6_in _ (List.mem_of_getElem? (i := 30) rfl)
theorem w415 : Cond.methodLink "TwinTreesModel" 3 ⟨"java/lang/Object", "<init>", "()V"⟩ ∈ aw := aw6_in _ (List.mem_of_getElem? (i := 31) rfl)
theorem w416 : Cond.classLink "TwinTreesModel" 18 "[[I" ∈ aw := aw6_in _ (List.mem_of_getElem? (i := 32) rfl)
theorem w417 : Cond.classLink "TwinTreesModel" 23 "[[J" ∈ aw := aw6_in _ (List.mem_of_getElem? (i := 33) rfl)
theorem w418 : Cond.constant "TwinTreesModel" 44 60000 ∈ aw := aw6_in _ (List.mem_of_getElem? (i := 34) rfl)
theorem w419 : Cond.methodLink "TwinTreesModel" 75 ⟨"TwinTreesModel", "lay", "(I)Z"⟩ ∈ aw := aw6_in _ (List.mem_of_getElem? (i := 35) rfl)
theorem w420 : Cond.instanceMethod ⟨"TwinTreesModel", "lay", "(I)Z"⟩ ∈ aw := aw6_in _ (List.mem_of_getElem? (i := 36) rfl)
theorem w421 : Cond.code ⟨"TwinTreesModel", "lay", "(I)Z"⟩ prog_8_method_8_code 7 (some .boolean) ∈ aw := aw6_in _ (List.mem_of_getElem? (i := 37) rfl)
theorem w422 : Cond.methodLink "TwinTreesModel" 126 ⟨"TwinTreesModel", "levelOf", "(I)I"⟩ ∈ aw := aw6_in _ (List.mem_of_getElem? (i := 38) rfl)
theorem w423 : Cond.static ⟨"TwinTreesModel", "levelOf", "(I)I"⟩ ∈ aw := aw6_in _ (List.mem_of_getElem? (i := 39) rfl)
theorem w424 : Cond.code ⟨"TwinTreesModel", "levelOf", "(I)I"⟩ prog_8_method_3_code 3 (some .int) ∈ aw := aw6_in _ (List.mem_of_getElem? (i := 40) rfl)
theorem w425 : Cond.constant "TwinTreesModel" 79 (-1640531535) ∈ aw := aw6_in _ (List.mem_of_getElem? (i := 41) rfl)
theorem w426 : Cond.constant "TwinTreesModel" 80 (-2048144777) ∈ aw := aw6_in _ (List.mem_of_getElem? (i := 42) rfl)
theorem w427 : Cond.methodLink "TwinTreesModel" 81 ⟨"java/lang/Math", "min", "(II)I"⟩ ∈ aw := aw6_in _ (List.mem_of_getElem? (i := 43) rfl)
theorem w428 : Cond.static ⟨"java/lang/Math", "min", "(II)I"⟩ ∈ aw := aw6_in _ (List.mem_of_getElem? (i := 44) rfl)
theorem w429 : Cond.code ⟨"java/lang/Math", "min", "(II)I"⟩ prog_10_method_69_code 2 (some .int) ∈ aw := aw6_in _ (List.mem_of_getElem? (i := 45) rfl)
theorem w430 : Cond.methodLink "TwinTreesModel" 130 ⟨"TwinTreesModel", "keep", "(III)Z"⟩ ∈ aw := aw6_in _ (List.mem_of_getElem? (i := 46) rfl)
theorem w431 : Cond.instanceMethod ⟨"TwinTreesModel", "keep", "(III)Z"⟩ ∈ aw := aw6_in _ (List.mem_of_getElem? (i := 47) rfl)
theorem w432 : Cond.code ⟨"TwinTreesModel", "keep", "(III)Z"⟩ prog_8_method_9_code 5 (some .boolean) ∈ aw := aw6_in _ (List.mem_of_getElem? (i := 48) rfl)
theorem w433 : Cond.methodLink "TwinTreesModel" 133 ⟨"TwinTreesModel", "node", "(II)I"⟩ ∈ aw := aw6_in _ (List.mem_of_getElem? (i := 49) rfl)
theorem w434 : Cond.instanceMethod ⟨"TwinTreesModel", "node", "(II)I"⟩ ∈ aw := aw6_in _ (List.mem_of_getElem? (i := 50) rfl)
theorem w435 : Cond.code ⟨"TwinTreesModel", "node", "(II)I"⟩ prog_8_method_6_code 5 (some .int) ∈ aw := aw6_in _ (List.mem_of_getElem? (i := 51) rfl)
theorem w436 : Cond.methodLink "TwinTreesModel" 95 ⟨"TwinTreesModel", "hash", "(II)I"⟩ ∈ aw := aw6_in _ (List.mem_of_getElem? (i := 52) rfl)
theorem w437 : Cond.instanceMethod ⟨"TwinTreesModel", "hash", "(II)I"⟩ ∈ aw := aw6_in _ (List.mem_of_getElem? (i := 53) rfl)
theorem w438 : Cond.code ⟨"TwinTreesModel", "hash", "(II)I"⟩ prog_8_method_4_code 6 (some .int) ∈ aw := aw6_in _ (List.mem_of_getElem? (i := 54) rfl)
theorem w439 : Cond.constantLong "TwinTreesModel" 87 31 ∈ aw := aw6_in _ (List.mem_of_getElem? (i := 55) rfl)
theorem w440 : Cond.constantLong "TwinTreesModel" 93 1000003 ∈ aw := aw6_in _ (List.mem_of_getElem? (i := 56) rfl)
theorem w441 : Cond.methodLink "TwinTreesModel" 98 ⟨"TwinTreesModel", "isMade", "(III)Z"⟩ ∈ aw := aw6_in _ (List.mem_of_getElem? (i := 57) rfl)
theorem w442 : Cond.instanceMethod ⟨"TwinTreesModel", "isMade", "(III)Z"⟩ ∈ aw := aw6_in _ (List.mem_of_getElem? (i := 58) rfl)
theorem w443 : Cond.code ⟨"TwinTreesModel", "isMade", "(III)Z"⟩ prog_8_method_5_code 5 (some .boolean) ∈ aw := aw6_in _ (List.mem_of_getElem? (i := 59) rfl)
theorem w444 : Cond.methodLink "TwinTreesModel" 108 ⟨"java/lang/System", "arraycopy", "(Ljava/lang/Object;ILjava/lang/Object;II)V"⟩ ∈ aw := aw6_in _ (List.mem_of_getElem? (i := 60) rfl)
theorem w445 : Cond.static ⟨"java/lang/System", "arraycopy", "(Ljava/lang/Object;ILjava/lang/Object;II)V"⟩ ∈ aw := aw6_in _ (List.mem_of_getElem? (i := 61) rfl)
theorem w446 : Cond.native ⟨"java/lang/System", "arraycopy", "(Ljava/lang/Object;ILjava/lang/Object;II)V"⟩ ∈ aw := aw6_in _ (List.mem_of_getElem? (i := 62) rfl)
theorem w447 : Cond.fieldLink "TwinTreesModel" 11 "TwinTreesModel" "columns" "[I" ∈ aw := aw6_in _ (List.mem_of_getElem? (i := 63) rfl)
theorem w448 : Cond.fieldLink "TwinTreesModel" 15 "TwinTreesModel" "many" "[I" ∈ aw := aw7_in _ (List.mem_of_getElem? (i := 0) rfl)
theorem w449 : Cond.fieldLink "TwinTreesModel" 20 "TwinTreesModel" "key" "[[I" ∈ aw := aw7_in _ (List.mem_of_getElem? (i := 1) rfl)
theorem w450 : Cond.fieldLink "TwinTreesModel" 25 "TwinTreesModel" "cell" "[[J" ∈ aw := aw7_in _ (List.mem_of_getElem? (i := 2) rfl)
theorem w451 : Cond.fieldLink "TwinTreesModel" 150 "TwinTreesModel" "oldColumns" "I" ∈ aw := aw7_in _ (List.mem_of_getElem? (i := 3) rfl)
theorem w452 : Cond.fieldLink "TwinTreesModel" 153 "TwinTreesModel" "oldMany" "I" ∈ aw := aw7_in _ (List.mem_of_getElem? (i := 4) rfl)
theorem w453 : Cond.fieldLink "TwinTreesModel" 28 "TwinTreesModel" "oldKey" "[I" ∈ aw := aw7_in _ (List.mem_of_getElem? (i := 5) rfl)
theorem w454 : Cond.fieldLink "TwinTreesModel" 31 "TwinTreesModel" "oldCell" "[J" ∈ aw := aw7_in _ (List.mem_of_getElem? (i := 6) rfl)
theorem w455 : Cond.fieldLink "TwinTreesModel" 35 "TwinTreesModel" "differKey" "[I" ∈ aw := aw7_in _ (List.mem_of_getElem? (i := 7) rfl)
theorem w456 : Cond.fieldLink "TwinTreesModel" 38 "TwinTreesModel" "differKind" "[I" ∈ aw := aw7_in _ (List.mem_of_getElem? (i := 8) rfl)
theorem w457 : Cond.fieldLink "TwinTreesModel" 41 "TwinTreesModel" "differBits" "[I" ∈ aw := aw7_in _ (List.mem_of_getElem? (i := 9) rfl)
theorem w458 : Cond.fieldLink "TwinTreesModel" 185 "TwinTreesModel" "differences" "I" ∈ aw := aw7_in _ (List.mem_of_getElem? (i := 10) rfl)
theorem w459 : Cond.fieldLink "TwinTreesModel" 45 "TwinTreesModel" "height" "[I" ∈ aw := aw7_in _ (List.mem_of_getElem? (i := 11) rfl)
theorem w460 : Cond.fieldLink "TwinTreesModel" 48 "TwinTreesModel" "begins" "[I" ∈ aw := aw7_in _ (List.mem_of_getElem? (i := 12) rfl)
theorem w461 : Cond.fieldLink "TwinTreesModel" 51 "TwinTreesModel" "long0" "[I" ∈ aw := aw7_in _ (List.mem_of_getElem? (i := 13) rfl)
theorem w462 : Cond.fieldLink "TwinTreesModel" 54 "TwinTreesModel" "width" "[I" ∈ aw := aw7_in _ (List.mem_of_getElem? (i := 14) rfl)
theorem w463 : Cond.fieldLink "TwinTreesModel" 57 "TwinTreesModel" "chain" "[I" ∈ aw := aw7_in _ (List.mem_of_getElem? (i := 15) rfl)
theorem w464 : Cond.fieldLink "TwinTreesModel" 60 "TwinTreesModel" "pool" "[J" ∈ aw := aw7_in _ (List.mem_of_getElem? (i := 16) rfl)
theorem w465 : Cond.fieldLink "TwinTreesModel" 63 "TwinTreesModel" "bucket" "[I" ∈ aw := aw7_in _ (List.mem_of_getElem? (i := 17) rfl)
theorem w466 : Cond.fieldLink "TwinTreesModel" 105 "TwinTreesModel" "nodes" "I" ∈ aw := aw7_in _ (List.mem_of_getElem? (i := 18) rfl)
theorem w467 : Cond.fieldLink "TwinTreesModel" 102 "TwinTreesModel" "used" "I" ∈ aw := aw7_in _ (List.mem_of_getElem? (i := 19) rfl)
theorem w468 : Cond.fieldLink "TwinTreesModel" 66 "TwinTreesModel" "level" "[I" ∈ aw := aw7_in _ (List.mem_of_getElem? (i := 20) rfl)
theorem w469 : Cond.fieldLink "TwinTreesModel" 69 "TwinTreesModel" "last" "[I" ∈ aw := aw7_in _ (List.mem_of_getElem? (i := 21) rfl)
theorem w470 : Cond.fieldLink "TwinTreesModel" 114 "TwinTreesModel" "levelMany" "I" ∈ aw := aw7_in _ (List.mem_of_getElem? (i := 22) rfl)
theorem w471 : Cond.fieldLink "TwinTreesModel" 72 "TwinTreesModel" "made" "[J" ∈ aw := aw7_in _ (List.mem_of_getElem? (i := 23) rfl)
theorem w472 : Cond.fieldLink "TwinTreesModel" 89 "TwinTreesModel" "madeMany" "I" ∈ aw := aw7_in _ (List.mem_of_getElem? (i := 24) rfl)
theorem w473 : Cond.fieldLink "TwinTreesModel" 117 "TwinTreesModel" "tall" "I" ∈ aw := aw7_in _ (List.mem_of_getElem? (i := 25) rfl)
theorem w474 : Cond.fieldLink "TwinTreesModel" 120 "TwinTreesModel" "counted" "I" ∈ aw := aw7_in _ (List.mem_of_getElem? (i := 26) rfl)
theorem w475 : Cond.fieldLink "TwinTreesModel" 123 "TwinTreesModel" "sized" "I" ∈ aw := aw7_in _ (List.mem_of_getElem? (i := 27) rfl)
theorem w476 : Cond.laysFinal "TwinTreesModel" "TwinTreesModel" "columns" "[I" ∈ aw := aw7_in _ (List.mem_of_getElem? (i := 28) rfl)
theorem w477 : Cond.soleField "TwinTreesModel" "columns" ∈ aw := aw7_in _ (List.mem_of_getElem? (i := 29) rfl)
theorem w478 : Cond.laysFinal "TwinTreesModel" "TwinTreesModel" "many" "[I" ∈ aw := aw7_in _ (List.mem_of_getElem? (i := 30) rfl)
theorem w479 : Cond.soleField "TwinTreesModel" "many" ∈ aw := aw7_in _ (List.mem_of_getElem? (i := 31) rfl)
theorem w480 : Cond.laysFinal "TwinTreesModel" "TwinTreesModel" "key" "[[I" ∈ aw := aw7_in _ (List.mem_of_getElem? (i := 32) rfl)
theorem w481 : Cond.soleField "TwinTreesModel" "key" ∈ aw := aw7_in _ (List.mem_of_getElem? (i := 33) rfl)
theorem w482 : Cond.laysFinal "TwinTreesModel" "TwinTreesModel" "cell" "[[J" ∈ aw := aw7_in _ (List.mem_of_getElem? (i := 34) rfl)
theorem w483 : Cond.soleField "TwinTreesModel" "cell" ∈ aw := aw7_in _ (List.mem_of_getElem? (i := 35) rfl)
theorem w484 : Cond.lays "TwinTreesModel" "TwinTreesModel" "oldColumns" "I" ∈ aw := aw7_in _ (List.mem_of_getElem? (i := 36) rfl)
theorem w485 : Cond.soleField "TwinTreesModel" "oldColumns" ∈ aw := aw7_in _ (List.mem_of_getElem? (i := 37) rfl)
theorem w486 : Cond.lays "TwinTreesModel" "TwinTreesModel" "oldMany" "I" ∈ aw := aw7_in _ (List.mem_of_getElem? (i := 38) rfl)
theorem w487 : Cond.soleField "TwinTreesModel" "oldMany" ∈ aw := aw7_in _ (List.mem_of_getElem? (i := 39) rfl)
theorem w488 : Cond.laysFinal "TwinTreesModel" "TwinTreesModel" "oldKey" "[I" ∈ aw := aw7_in _ (List.mem_of_getElem? (i := 40) rfl)
theorem w489 : Cond.soleField "TwinTreesModel" "oldKey" ∈ aw := aw7_in _ (List.mem_of_getElem? (i := 41) rfl)
theorem w490 : Cond.laysFinal "TwinTreesModel" "TwinTreesModel" "oldCell" "[J" ∈ aw := aw7_in _ (List.mem_of_getElem? (i := 42) rfl)
theorem w491 : Cond.soleField "TwinTreesModel" "oldCell" ∈ aw := aw7_in _ (List.mem_of_getElem? (i := 43) rfl)
theorem w492 : Cond.laysFinal "TwinTreesModel" "TwinTreesModel" "differKey" "[I" ∈ aw := aw7_in _ (List.mem_of_getElem? (i := 44) rfl)
theorem w493 : Cond.soleField "TwinTreesModel" "differKey" ∈ aw := aw7_in _ (List.mem_of_getElem? (i := 45) rfl)
theorem w494 : Cond.laysFinal "TwinTreesModel" "TwinTreesModel" "differKind" "[I" ∈ aw := aw7_in _ (List.mem_of_getElem? (i := 46) rfl)
theorem w495 : Cond.soleField "TwinTreesModel" "differKind" ∈ aw := aw7_in _ (List.mem_of_getElem? (i := 47) rfl)
theorem w496 : Cond.laysFinal "TwinTreesModel" "TwinTreesModel" "differBits" "[I" ∈ aw := aw7_in _ (List.mem_of_getElem? (i := 48) rfl)
theorem w497 : Cond.soleField "TwinTreesModel" "differBits" ∈ aw := aw7_in _ (List.mem_of_getElem? (i := 49) rfl)
theorem w498 : Cond.lays "TwinTreesModel" "TwinTreesModel" "differences" "I" ∈ aw := aw7_in _ (List.mem_of_getElem? (i := 50) rfl)
theorem w499 : Cond.soleField "TwinTreesModel" "differences" ∈ aw := aw7_in _ (List.mem_of_getElem? (i := 51) rfl)
theorem w500 : Cond.laysFinal "TwinTreesModel" "TwinTreesModel" "height" "[I" ∈ aw := aw7_in _ (List.mem_of_getElem? (i := 52) rfl)
theorem w501 : Cond.soleField "TwinTreesModel" "height" ∈ aw := aw7_in _ (List.mem_of_getElem? (i := 53) rfl)
theorem w502 : Cond.laysFinal "TwinTreesModel" "TwinTreesModel" "begins" "[I" ∈ aw := aw7_in _ (List.mem_of_getElem? (i := 54) rfl)
theorem w503 : Cond.soleField "TwinTreesModel" "begins" ∈ aw := aw7_in _ (List.mem_of_getElem? (i := 55) rfl)
theorem w504 : Cond.laysFinal "TwinTreesModel" "TwinTreesModel" "long0" "[I" ∈ aw := aw7_in _ (List.mem_of_getElem? (i := 56) rfl)
theorem w505 : Cond.soleField "TwinTreesModel" "long0" ∈ aw := aw7_in _ (List.mem_of_getElem? (i := 57) rfl)
theorem w506 : Cond.laysFinal "TwinTreesModel" "TwinTreesModel" "width" "[I" ∈ aw := aw7_in _ (List.mem_of_getElem? (i := 58) rfl)
theorem w507 : Cond.soleField "TwinTreesModel" "width" ∈ aw := aw7_in _ (List.mem_of_getElem? (i := 59) rfl)
theorem w508 : Cond.laysFinal "TwinTreesModel" "TwinTreesModel" "chain" "[I" ∈ aw := aw7_in _ (List.mem_of_getElem? (i := 60) rfl)
theorem w509 : Cond.soleField "TwinTreesModel" "chain" ∈ aw := aw7_in _ (List.mem_of_getElem? (i := 61) rfl)
theorem w510 : Cond.laysFinal "TwinTreesModel" "TwinTreesModel" "pool" "[J" ∈ aw := aw7_in _ (List.mem_of_getElem? (i := 62) rfl)
theorem w511 : Cond.soleField "TwinTreesModel" "pool" ∈ aw := aw7_in _ (List.mem_of_getElem? (i := 63) rfl)
theorem w512 : Cond.laysFinal "TwinTreesModel" "TwinTreesModel" "bucket" "[I" ∈ aw := aw8_in _ (List.mem_of_getElem? (i := 0) rfl)
theorem w513 : Cond.soleField "TwinTreesModel" "bucket" ∈ aw := aw8_in _ (List.mem_of_getElem? (i := 1) rfl)
theorem w514 : Cond.lays "TwinTreesModel" "TwinTreesModel" "nodes" "I" ∈ aw := aw8_in _ (List.mem_of_getElem? (i := 2) rfl)
theorem w515 : Cond.soleField "TwinTreesModel" "nodes" ∈ aw := aw8_in _ (List.mem_of_getElem? (i := 3) rfl)
theorem w516 : Cond.lays "TwinTreesModel" "TwinTreesModel" "used" "I" ∈ aw := aw8_in _ (List.mem_of_getElem? (i := 4) rfl)
theorem w517 : Cond.soleField "TwinTreesModel" "used" ∈ aw := aw8_in _ (List.mem_of_getElem? (i := 5) rfl)
theorem w518 : Cond.lays "TwinTreesModel" "TwinTreesModel" "level" "[I" ∈ aw := aw8_in _ (List.mem_of_getElem? (i := 6) rfl)
theorem w519 : Cond.soleField "TwinTreesModel" "level" ∈ aw := aw8_in _ (List.mem_of_getElem? (i := 7) rfl)
theorem w520 : Cond.lays "TwinTreesModel" "TwinTreesModel" "last" "[I" ∈ aw := aw8_in _ (List.mem_of_getElem? (i := 8) rfl)
theorem w521 : Cond.soleField "TwinTreesModel" "last" ∈ aw := aw8_in _ (List.mem_of_getElem? (i := 9) rfl)
theorem w522 : Cond.lays "TwinTreesModel" "TwinTreesModel" "levelMany" "I" ∈ aw := aw8_in _ (List.mem_of_getElem? (i := 10) rfl)
theorem w523 : Cond.soleField "TwinTreesModel" "levelMany" ∈ aw := aw8_in _ (List.mem_of_getElem? (i := 11) rfl)
theorem w524 : Cond.laysFinal "TwinTreesModel" "TwinTreesModel" "made" "[J" ∈ aw := aw8_in _ (List.mem_of_getElem? (i := 12) rfl)
theorem w525 : Cond.soleField "TwinTreesModel" "made" ∈ aw := aw8_in _ (List.mem_of_getElem? (i := 13) rfl)
theorem w526 : Cond.lays "TwinTreesModel" "TwinTreesModel" "madeMany" "I" ∈ aw := aw8_in _ (List.mem_of_getElem? (i := 14) rfl)
theorem w527 : Cond.soleField "TwinTreesModel" "madeMany" ∈ aw := aw8_in _ (List.mem_of_getElem? (i := 15) rfl)
theorem w528 : Cond.lays "TwinTreesModel" "TwinTreesModel" "tall" "I" ∈ aw := aw8_in _ (List.mem_of_getElem? (i := 16) rfl)
theorem w529 : Cond.soleField "TwinTreesModel" "tall" ∈ aw := aw8_in _ (List.mem_of_getElem? (i := 17) rfl)
theorem w530 : Cond.lays "TwinTreesModel" "TwinTreesModel" "counted" "I" ∈ aw := aw8_in _ (List.mem_of_getElem? (i := 18) rfl)
theorem w531 : Cond.soleField "TwinTreesModel" "counted" ∈ aw := aw8_in _ (List.mem_of_getElem? (i := 19) rfl)
theorem w532 : Cond.lays "TwinTreesModel" "TwinTreesModel" "sized" "I" ∈ aw := aw8_in _ (List.mem_of_getElem? (i := 20) rfl)
theorem w533 : Cond.soleField "TwinTreesModel" "sized" ∈ aw := aw8_in _ (List.mem_of_getElem? (i := 21) rfl)
theorem w534 : Cond.superclass "TwinTreesModel" "java/lang/Object" ∈ aw := aw8_in _ (List.mem_of_getElem? (i := 22) rfl)
theorem w535 : Cond.arrayClass .long ∈ aw := aw8_in _ (List.mem_of_getElem? (i := 23) rfl)
theorem w536 : Cond.methodLink "TwinTreesLaw" 17 ⟨"TwinTreesModel", "make", "(II)I"⟩ ∈ aw := aw8_in _ (List.mem_of_getElem? (i := 24) rfl)
theorem w537 : Cond.instanceMethod ⟨"TwinTreesModel", "make", "(II)I"⟩ ∈ aw := aw8_in _ (List.mem_of_getElem? (i := 25) rfl)
theorem w538 : Cond.selects "TwinTreesModel" ⟨"TwinTreesModel", "make", "(II)I"⟩ ⟨"TwinTreesModel", "make", "(II)I"⟩ ∈ aw := aw8_in _ (List.mem_of_getElem? (i := 26) rfl)
theorem w539 : Cond.code ⟨"TwinTreesModel", "make", "(II)I"⟩ prog_8_method_17_code 3 (some .int) ∈ aw := aw8_in _ (List.mem_of_getElem? (i := 27) rfl)
theorem w540 : Cond.methodLink "TwinTreesModel" 163 ⟨"TwinTreesModel", "in", "(III)Z"⟩ ∈ aw := aw8_in _ (List.mem_of_getElem? (i := 28) rfl)
theorem w541 : Cond.static ⟨"TwinTreesModel", "in", "(III)Z"⟩ ∈ aw := aw8_in _ (List.mem_of_getElem? (i := 29) rfl)
theorem w542 : Cond.code ⟨"TwinTreesModel", "in", "(III)Z"⟩ prog_8_method_2_code 3 (some .boolean) ∈ aw := aw8_in _ (List.mem_of_getElem? (i := 30) rfl)
theorem w543 : Cond.methodLink "TwinTreesModel" 166 ⟨"TwinTreesModel", "remember", "(I)V"⟩ ∈ aw := aw8_in _ (List.mem_of_getElem? (i := 31) rfl)
theorem w544 : Cond.instanceMethod ⟨"TwinTreesModel", "remember", "(I)V"⟩ ∈ aw := aw8_in _ (List.mem_of_getElem? (i := 32) rfl)
theorem w545 : Cond.code ⟨"TwinTreesModel", "remember", "(I)V"⟩ prog_8_method_12_code 2 none ∈ aw := aw8_in _ (List.mem_of_getElem? (i := 33) rfl)
theorem w546 : Cond.methodLink "TwinTreesModel" 169 ⟨"TwinTreesModel", "write", "(I)I"⟩ ∈ aw := aw8_in _ (List.mem_of_getElem? (i := 34) rfl)
theorem w547 : Cond.instanceMethod ⟨"TwinTreesModel", "write", "(I)I"⟩ ∈ aw := aw8_in _ (List.mem_of_getElem? (i := 35) rfl)
theorem w548 : Cond.code ⟨"TwinTreesModel", "write", "(I)I"⟩ prog_8_method_13_code 3 (some .int) ∈ aw := aw8_in _ (List.mem_of_getElem? (i := 36) rfl)
theorem w549 : Cond.methodLink "TwinTreesModel" 156 ⟨"TwinTreesModel", "back", "(I)V"⟩ ∈ aw := aw8_in _ (List.mem_of_getElem? (i := 37) rfl)
theorem w550 : Cond.instanceMethod ⟨"TwinTreesModel", "back", "(I)V"⟩ ∈ aw := aw8_in _ (List.mem_of_getElem? (i := 38) rfl)
theorem w551 : Cond.code ⟨"TwinTreesModel", "back", "(I)V"⟩ prog_8_method_7_code 2 none ∈ aw := aw8_in _ (List.mem_of_getElem? (i := 39) rfl)
theorem w552 : Cond.methodLink "TwinTreesLaw" 22 ⟨"TwinTreesModel", "put", "(IIIIZ)I"⟩ ∈ aw := aw8_in _ (List.mem_of_getElem? (i := 40) rfl)
theorem w553 : Cond.instanceMethod ⟨"TwinTreesModel", "put", "(IIIIZ)I"⟩ ∈ aw := aw8_in _ (List.mem_of_getElem? (i := 41) rfl)
theorem w554 : Cond.selects "TwinTreesModel" ⟨"TwinTreesModel", "put", "(IIIIZ)I"⟩ ⟨"TwinTreesModel", "put", "(IIIIZ)I"⟩ ∈ aw := aw8_in _ (List.mem_of_getElem? (i := 42) rfl)
theorem w555 : Cond.code ⟨"TwinTreesModel", "put", "(IIIIZ)I"⟩ prog_8_method_18_code 8 (some .int) ∈ aw := aw8_in _ (List.mem_of_getElem? (i := 43) rfl)
theorem w556 : Cond.methodLink "TwinTreesModel" 172 ⟨"TwinTreesModel", "find", "(II)I"⟩ ∈ aw := aw8_in _ (List.mem_of_getElem? (i := 44) rfl)
theorem w557 : Cond.instanceMethod ⟨"TwinTreesModel", "find", "(II)I"⟩ ∈ aw := aw8_in _ (List.mem_of_getElem? (i := 45) rfl)
theorem w558 : Cond.code ⟨"TwinTreesModel", "find", "(II)I"⟩ prog_8_method_15_code 4 (some .int) ∈ aw := aw8_in _ (List.mem_of_getElem? (i := 46) rfl)
theorem w559 : Cond.methodLink "TwinTreesModel" 160 ⟨"TwinTreesModel", "placeOf", "(II)I"⟩ ∈ aw := aw8_in _ (List.mem_of_getElem? (i := 47) rfl)
theorem w560 : Cond.instanceMethod ⟨"TwinTreesModel", "placeOf", "(II)I"⟩ ∈ aw := aw8_in _ (List.mem_of_getElem? (i := 48) rfl)
theorem w561 : Cond.code ⟨"TwinTreesModel", "placeOf", "(II)I"⟩ prog_8_method_14_code 4 (some .int) ∈ aw := aw8_in _ (List.mem_of_getElem? (i := 49) rfl)
theorem w562 : Cond.methodLink "TwinTreesModel" 175 ⟨"TwinTreesModel", "move", "(III)V"⟩ ∈ aw := aw8_in _ (List.mem_of_getElem? (i := 50) rfl)
theorem w563 : Cond.instanceMethod ⟨"TwinTreesModel", "move", "(III)V"⟩ ∈ aw := aw8_in _ (List.mem_of_getElem? (i := 51) rfl)
theorem w564 : Cond.code ⟨"TwinTreesModel", "move", "(III)V"⟩ prog_8_method_16_code 5 none ∈ aw := aw8_in _ (List.mem_of_getElem? (i := 52) rfl)
theorem w565 : Cond.constantLong "TwinTreesModel" 146 (-9223372036854775808) ∈ aw := aw8_in _ (List.mem_of_getElem? (i := 53) rfl)
theorem w566 : Cond.methodLink "TwinTreesLaw" 26 ⟨"TwinTreesModel", "remove", "(II)I"⟩ ∈ aw := aw8_in _ (List.mem_of_getElem? (i := 54) rfl)
theorem w567 : Cond.instanceMethod ⟨"TwinTreesModel", "remove", "(II)I"⟩ ∈ aw := aw8_in _ (List.mem_of_getElem? (i := 55) rfl)
theorem w568 : Cond.selects "TwinTreesModel" ⟨"TwinTreesModel", "remove", "(II)I"⟩ ⟨"TwinTreesModel", "remove", "(II)I"⟩ ∈ aw := aw8_in _ (List.mem_of_getElem? (i := 56) rfl)
theorem w569 : Cond.code ⟨"TwinTreesModel", "remove", "(II)I"⟩ prog_8_method_19_code 5 (some .int) ∈ aw := aw8_in _ (List.mem_of_getElem? (i := 57) rfl)
theorem w570 : Cond.methodLink "TwinTreesLaw" 30 ⟨"TwinTreesModel", "copy", "(II)I"⟩ ∈ aw := aw8_in _ (List.mem_of_getElem? (i := 58) rfl)
theorem w571 : Cond.instanceMethod ⟨"TwinTreesModel", "copy", "(II)I"⟩ ∈ aw := aw8_in _ (List.mem_of_getElem? (i := 59) rfl)
theorem w572 : Cond.selects "TwinTreesModel" ⟨"TwinTreesModel", "copy", "(II)I"⟩ ⟨"TwinTreesModel", "copy", "(II)I"⟩ ∈ aw := aw8_in _ (List.mem_of_getElem? (i := 60) rfl)
theorem w573 : Cond.code ⟨"TwinTreesModel", "copy", "(II)I"⟩ prog_8_method_20_code 3 (some .int) ∈ aw := aw8_in _ (List.mem_of_getElem? (i := 61) rfl)
theorem w574 : Cond.methodLink "TwinTreesLaw" 35 ⟨"TwinTreesModel", "get", "(III)J"⟩ ∈ aw := aw8_in _ (List.mem_of_getElem? (i := 62) rfl)
theorem w575 : Cond.instanceMethod ⟨"TwinTreesModel", "get", "(III)J"⟩ ∈ aw := aw8_in _ (List.mem_of_getElem? (i := 63) rfl)
theorem w576 : Cond.selects "TwinTreesModel" ⟨"TwinTreesModel", "get", "(III)J"⟩ ⟨"TwinTreesModel", "get", "(III)J"⟩ ∈ aw := aw9_in _ (List.mem_of_getElem? (i := 0) rfl)
theorem w577 : Cond.code ⟨"TwinTreesModel", "get", "(III)J"⟩ prog_8_method_21_code 7 (some .long) ∈ aw := aw9_in _ (List.mem_of_getElem? (i := 1) rfl)
theorem w578 : Cond.constantLong "TwinTreesModel" 179 1099511627775 ∈ aw := aw9_in _ (List.mem_of_getElem? (i := 2) rfl)
theorem w579 : Cond.constantLong "TwinTreesModel" 181 1099511627774 ∈ aw := aw9_in _ (List.mem_of_getElem? (i := 3) rfl)
theorem w580 : Cond.constantLong "TwinTreesModel" 183 1099511627776 ∈ aw := aw9_in _ (List.mem_of_getElem? (i := 4) rfl)
theorem w581 : Cond.methodLink "TwinTreesLaw" 39 ⟨"TwinTreesModel", "measure", "(II)I"⟩ ∈ aw := aw9_in _ (List.mem_of_getElem? (i := 5) rfl)
theorem w582 : Cond.instanceMethod ⟨"TwinTreesModel", "measure", "(II)I"⟩ ∈ aw := aw9_in _ (List.mem_of_getElem? (i := 6) rfl)
theorem w583 : Cond.selects "TwinTreesModel" ⟨"TwinTreesModel", "measure", "(II)I"⟩ ⟨"TwinTreesModel", "measure", "(II)I"⟩ ∈ aw := aw9_in _ (List.mem_of_getElem? (i := 7) rfl)
theorem w584 : Cond.code ⟨"TwinTreesModel", "measure", "(II)I"⟩ prog_8_method_22_code 3 (some .int) ∈ aw := aw9_in _ (List.mem_of_getElem? (i := 8) rfl)
theorem w585 : Cond.methodLink "TwinTreesLaw" 44 ⟨"TwinTreesModel", "address", "(I)J"⟩ ∈ aw := aw9_in _ (List.mem_of_getElem? (i := 9) rfl)
theorem w586 : Cond.instanceMethod ⟨"TwinTreesModel", "address", "(I)J"⟩ ∈ aw := aw9_in _ (List.mem_of_getElem? (i := 10) rfl)
theorem w587 : Cond.selects "TwinTreesModel" ⟨"TwinTreesModel", "address", "(I)J"⟩ ⟨"TwinTreesModel", "address", "(I)J"⟩ ∈ aw := aw9_in _ (List.mem_of_getElem? (i := 11) rfl)
theorem w588 : Cond.code ⟨"TwinTreesModel", "address", "(I)J"⟩ prog_8_method_23_code 2 (some .long) ∈ aw := aw9_in _ (List.mem_of_getElem? (i := 12) rfl)
theorem w589 : Cond.methodLink "TwinTreesModel" 142 ⟨"TwinTreesModel", "addressOf", "(I)J"⟩ ∈ aw := aw9_in _ (List.mem_of_getElem? (i := 13) rfl)
theorem w590 : Cond.instanceMethod ⟨"TwinTreesModel", "addressOf", "(I)J"⟩ ∈ aw := aw9_in _ (List.mem_of_getElem? (i := 14) rfl)
theorem w591 : Cond.code ⟨"TwinTreesModel", "addressOf", "(I)J"⟩ prog_8_method_10_code 8 (some .long) ∈ aw := aw9_in _ (List.mem_of_getElem? (i := 15) rfl)
theorem w592 : Cond.constantLong "TwinTreesModel" 136 1469598103934665603 ∈ aw := aw9_in _ (List.mem_of_getElem? (i := 16) rfl)
theorem w593 : Cond.methodLink "TwinTreesModel" 138 ⟨"TwinTreesModel", "step", "(JJ)J"⟩ ∈ aw := aw9_in _ (List.mem_of_getElem? (i := 17) rfl)
theorem w594 : Cond.static ⟨"TwinTreesModel", "step", "(JJ)J"⟩ ∈ aw := aw9_in _ (List.mem_of_getElem? (i := 18) rfl)
theorem w595 : Cond.code ⟨"TwinTreesModel", "step", "(JJ)J"⟩ prog_8_method_11_code 4 (some .long) ∈ aw := aw9_in _ (List.mem_of_getElem? (i := 19) rfl)
theorem w596 : Cond.constantLong "TwinTreesModel" 148 1099511628211 ∈ aw := aw9_in _ (List.mem_of_getElem? (i := 20) rfl)
theorem w597 : Cond.methodLink "TwinTreesLaw" 49 ⟨"TwinTreesModel", "row", "(II)J"⟩ ∈ aw := aw9_in _ (List.mem_of_getElem? (i := 21) rfl)
theorem w598 : Cond.instanceMethod ⟨"TwinTreesModel", "row", "(II)J"⟩ ∈ aw := aw9_in _ (List.mem_of_getElem? (i := 22) rfl)
theorem w599 : Cond.selects "TwinTreesModel" ⟨"TwinTreesModel", "row", "(II)J"⟩ ⟨"TwinTreesModel", "row", "(II)J"⟩ ∈ aw := aw9_in _ (List.mem_of_getElem? (i := 23) rfl)
theorem w600 : Cond.code ⟨"TwinTreesModel", "row", "(II)J"⟩ prog_8_method_24_code 3 (some .long) ∈ aw := aw9_in _ (List.mem_of_getElem? (i := 24) rfl)
theorem w601 : Cond.methodLink "TwinTreesLaw" 53 ⟨"TwinTreesModel", "compare", "(II)I"⟩ ∈ aw := aw9_in _ (List.mem_of_getElem? (i := 25) rfl)
theorem w602 : Cond.instanceMethod ⟨"TwinTreesModel", "compare", "(II)I"⟩ ∈ aw := aw9_in _ (List.mem_of_getElem? (i := 26) rfl)
theorem w603 : Cond.selects "TwinTreesModel" ⟨"TwinTreesModel", "compare", "(II)I"⟩ ⟨"TwinTreesModel", "compare", "(II)I"⟩ ∈ aw := aw9_in _ (List.mem_of_getElem? (i := 27) rfl)
theorem w604 : Cond.code ⟨"TwinTreesModel", "compare", "(II)I"⟩ prog_8_method_25_code 10 (some .int) ∈ aw := aw9_in _ (List.mem_of_getElem? (i := 28) rfl)
theorem w605 : Cond.methodLink "TwinTreesLaw" 57 ⟨"TwinTreesModel", "difference", "(II)J"⟩ ∈ aw := aw9_in _ (List.mem_of_getElem? (i := 29) rfl)
theorem w606 : Cond.instanceMethod ⟨"TwinTreesModel", "difference", "(II)J"⟩ ∈ aw := aw9_in _ (List.mem_of_getElem? (i := 30) rfl)
theorem w607 : Cond.selects "TwinTreesModel" ⟨"TwinTreesModel", "difference", "(II)J"⟩ ⟨"TwinTreesModel", "difference", "(II)J"⟩ ∈ aw := aw9_in _ (List.mem_of_getElem? (i := 31) rfl)
theorem w608 : Cond.code ⟨"TwinTreesModel", "difference", "(II)J"⟩ prog_8_method_26_code 3 (some .long) ∈ aw := aw9_in _ (List.mem_of_getElem? (i := 32) rfl)
theorem w609 : Cond.methodLink "TwinTreesLaw" 62 ⟨"TwinTreesModel", "sweep", "()I"⟩ ∈ aw := aw9_in _ (List.mem_of_getElem? (i := 33) rfl)
theorem w610 : Cond.instanceMethod ⟨"TwinTreesModel", "sweep", "()I"⟩ ∈ aw := aw9_in _ (List.mem_of_getElem? (i := 34) rfl)
theorem w611 : Cond.selects "TwinTreesModel" ⟨"TwinTreesModel", "sweep", "()I"⟩ ⟨"TwinTreesModel", "sweep", "()I"⟩ ∈ aw := aw9_in _ (List.mem_of_getElem? (i := 35) rfl)
theorem w612 : Cond.code ⟨"TwinTreesModel", "sweep", "()I"⟩ prog_8_method_27_code 3 (some .int) ∈ aw := aw9_in _ (List.mem_of_getElem? (i := 36) rfl)
theorem w613 : Cond.methodLink "TwinTreesModel" 188 ⟨"java/util/Arrays", "fill", "([II)V"⟩ ∈ aw := aw9_in _ (List.mem_of_getElem? (i := 37) rfl)
theorem w614 : Cond.static ⟨"java/util/Arrays", "fill", "([II)V"⟩ ∈ aw := aw9_in _ (List.mem_of_getElem? (i := 38) rfl)
theorem w615 : Cond.code ⟨"java/util/Arrays", "fill", "([II)V"⟩ prog_12_method_103_code 4 none ∈ aw := aw9_in _ (List.mem_of_getElem? (i := 39) rfl)
theorem w616 : Cond.methodLink "TwinTreesLaw" 67 ⟨"TwinTreesModel", "count", "(I)I"⟩ ∈ aw := aw9_in _ (List.mem_of_getElem? (i := 40) rfl)
theorem w617 : Cond.instanceMethod ⟨"TwinTreesModel", "count", "(I)I"⟩ ∈ aw := aw9_in _ (List.mem_of_getElem? (i := 41) rfl)
theorem w618 : Cond.selects "TwinTreesModel" ⟨"TwinTreesModel", "count", "(I)I"⟩ ⟨"TwinTreesModel", "count", "(I)I"⟩ ∈ aw := aw9_in _ (List.mem_of_getElem? (i := 42) rfl)
theorem w619 : Cond.code ⟨"TwinTreesModel", "count", "(I)I"⟩ prog_8_method_28_code 2 (some .int) ∈ aw := aw9_in _ (List.mem_of_getElem? (i := 43) rfl)
theorem aw_good : ∀ w ∈ aw, goodWord w = true := by
  intro w h
  rcases List.mem_append.mp h with h | h
  · exact List.all_eq_true.mp aw0_good w h
  rcases List.mem_append.mp h with h | h
  · exact List.all_eq_true.mp aw1_good w h
  rcases List.mem_append.mp h with h | h
  · exact List.all_eq_true.mp aw2_good w h
  rcases List.mem_append.mp h with h | h
  · exact List.all_eq_true.mp aw3_good w h
  rcases List.mem_append.mp h with h | h
  · exact List.all_eq_true.mp aw4_good w h
  rcases List.mem_append.mp h with h | h
  · exact List.all_eq_true.mp aw5_good w h
  rcases List.mem_append.mp h with h | h
  · exact List.all_eq_true.mp aw6_good w h
  rcases List.mem_append.mp h with h | h
  · exact List.all_eq_true.mp aw7_good w h
  rcases List.mem_append.mp h with h | h
  · exact List.all_eq_true.mp aw8_good w h
  exact List.all_eq_true.mp aw9_good w h
theorem aw_all : GoodIn aw aw := fun w h => ⟨h, good_of_word (aw_good w h)⟩
theorem uwT : ∀ w ∈ u_ws kT fT 8, w ∈ aw := by
  intro w h
  obtain ⟨k, hk, rfl⟩ := List.mem_map.mp h
  have hk := List.mem_range.mp hk
  by_cases h0 : k = 0
  · subst h0; exact w200
  by_cases h1 : k = 1
  · subst h1; exact w202
  by_cases h2 : k = 2
  · subst h2; exact w204
  by_cases h3 : k = 3
  · subst h3; exact w206
  by_cases h4 : k = 4
  · subst h4; exact w208
  by_cases h5 : k = 5
  · subst h5; exact w210
  by_cases h6 : k = 6
  · subst h6; exact w212
  by_cases h7 : k = 7
  · subst h7; exact w214
  omega
theorem uwD : ∀ w ∈ u_ws kD fD 4, w ∈ aw := by
  intro w h
  obtain ⟨k, hk, rfl⟩ := List.mem_map.mp h
  have hk := List.mem_range.mp hk
  by_cases h0 : k = 0
  · subst h0; exact w77
  by_cases h1 : k = 1
  · subst h1; exact w79
  by_cases h2 : k = 2
  · subst h2; exact w81
  by_cases h3 : k = 3
  · subst h3; exact w83
  omega
theorem uwN : ∀ w ∈ u_ws kN fN 12, w ∈ aw := by
  intro w h
  obtain ⟨k, hk, rfl⟩ := List.mem_map.mp h
  have hk := List.mem_range.mp hk
  by_cases h0 : k = 0
  · subst h0; exact w156
  by_cases h1 : k = 1
  · subst h1; exact w158
  by_cases h2 : k = 2
  · subst h2; exact w160
  by_cases h3 : k = 3
  · subst h3; exact w162
  by_cases h4 : k = 4
  · subst h4; exact w164
  by_cases h5 : k = 5
  · subst h5; exact w166
  by_cases h6 : k = 6
  · subst h6; exact w168
  by_cases h7 : k = 7
  · subst h7; exact w170
  by_cases h8 : k = 8
  · subst h8; exact w172
  by_cases h9 : k = 9
  · subst h9; exact w174
  by_cases h10 : k = 10
  · subst h10; exact w176
  by_cases h11 : k = 11
  · subst h11; exact w178
  omega
theorem uwR : ∀ w ∈ u_ws kR fR 5, w ∈ aw := by
  intro w h
  obtain ⟨k, hk, rfl⟩ := List.mem_map.mp h
  have hk := List.mem_range.mp hk
  by_cases h0 : k = 0
  · subst h0; exact w298
  by_cases h1 : k = 1
  · subst h1; exact w300
  by_cases h2 : k = 2
  · subst h2; exact w302
  by_cases h3 : k = 3
  · subst h3; exact w304
  by_cases h4 : k = 4
  · subst h4; exact w306
  omega
theorem uwQ : ∀ w ∈ u_ws kQ fQ 2, w ∈ aw := by
  intro w h
  obtain ⟨k, hk, rfl⟩ := List.mem_map.mp h
  have hk := List.mem_range.mp hk
  by_cases h0 : k = 0
  · subst h0; exact w98
  by_cases h1 : k = 1
  · subst h1; exact w100
  omega
theorem uwS : ∀ w ∈ u_ws kS fS 4, w ∈ aw := by
  intro w h
  obtain ⟨k, hk, rfl⟩ := List.mem_map.mp h
  have hk := List.mem_range.mp hk
  by_cases h0 : k = 0
  · subst h0; exact w54
  by_cases h1 : k = 1
  · subst h1; exact w56
  by_cases h2 : k = 2
  · subst h2; exact w58
  by_cases h3 : k = 3
  · subst h3; exact w60
  omega
theorem uwM : ∀ w ∈ u_ws kM fM 29, w ∈ aw := by
  intro w h
  obtain ⟨k, hk, rfl⟩ := List.mem_map.mp h
  have hk := List.mem_range.mp hk
  by_cases h0 : k = 0
  · subst h0; exact w476
  by_cases h1 : k = 1
  · subst h1; exact w478
  by_cases h2 : k = 2
  · subst h2; exact w480
  by_cases h3 : k = 3
  · subst h3; exact w482
  by_cases h4 : k = 4
  · subst h4; exact w484
  by_cases h5 : k = 5
  · subst h5; exact w486
  by_cases h6 : k = 6
  · subst h6; exact w488
  by_cases h7 : k = 7
  · subst h7; exact w490
  by_cases h8 : k = 8
  · subst h8; exact w492
  by_cases h9 : k = 9
  · subst h9; exact w494
  by_cases h10 : k = 10
  · subst h10; exact w496
  by_cases h11 : k = 11
  · subst h11; exact w498
  by_cases h12 : k = 12
  · subst h12; exact w500
  by_cases h13 : k = 13
  · subst h13; exact w502
  by_cases h14 : k = 14
  · subst h14; exact w504
  by_cases h15 : k = 15
  · subst h15; exact w506
  by_cases h16 : k = 16
  · subst h16; exact w508
  by_cases h17 : k = 17
  · subst h17; exact w510
  by_cases h18 : k = 18
  · subst h18; exact w512
  by_cases h19 : k = 19
  · subst h19; exact w514
  by_cases h20 : k = 20
  · subst h20; exact w516
  by_cases h21 : k = 21
  · subst h21; exact w518
  by_cases h22 : k = 22
  · subst h22; exact w520
  by_cases h23 : k = 23
  · subst h23; exact w522
  by_cases h24 : k = 24
  · subst h24; exact w524
  by_cases h25 : k = 25
  · subst h25; exact w526
  by_cases h26 : k = 26
  · subst h26; exact w528
  by_cases h27 : k = 27
  · subst h27; exact w530
  by_cases h28 : k = 28
  · subst h28; exact w532
  omega
abbrev bT_init : ByteArray := prog_1_method_1_code
abbrev yT_init : MethodName := ⟨"TwinTrees", "<init>", "()V"⟩
abbrev sT_init : List Cond := .code yT_init bT_init 3 none :: aw
abbrev bJO_init : ByteArray := object_method_1_code
abbrev yJO_init : MethodName := ⟨"java/lang/Object", "<init>", "()V"⟩
abbrev sJO_init : List Cond := .code yJO_init bJO_init 1 none :: aw
abbrev bS_init : ByteArray := prog_6_method_1_code
abbrev yS_init : MethodName := ⟨"TwinTrees$Store", "<init>", "()V"⟩
abbrev sS_init : List Cond := .code yS_init bS_init 1 none :: aw
abbrev bD_init : ByteArray := prog_2_method_1_code
abbrev yD_init : MethodName := ⟨"TwinTrees$Differences", "<init>", "()V"⟩
abbrev sD_init : List Cond := .code yD_init bD_init 1 none :: aw
abbrev bQ_init : ByteArray := prog_5_method_1_code
abbrev yQ_init : MethodName := ⟨"TwinTrees$RowList", "<init>", "()V"⟩
abbrev sQ_init : List Cond := .code yQ_init bQ_init 1 none :: aw
abbrev bS_leafOf : ByteArray := prog_6_method_2_code
abbrev yS_leafOf : MethodName := ⟨"TwinTrees$Store", "leafOf", "([LTwinTrees$Row;II)LTwinTrees$Node;"⟩
abbrev sS_leafOf : List Cond := .code yS_leafOf bS_leafOf 6 (some (.object "TwinTrees$Node")) :: aw
abbrev bS_bucketOf : ByteArray := prog_6_method_8_code
abbrev yS_bucketOf : MethodName := ⟨"TwinTrees$Store", "bucketOf", "(I)I"⟩
abbrev sS_bucketOf : List Cond := .code yS_bucketOf bS_bucketOf 1 (some .int) :: aw
abbrev bN_isLikeLeaf : ByteArray := prog_3_method_3_code
abbrev yN_isLikeLeaf : MethodName := ⟨"TwinTrees$Node", "isLikeLeaf", "([LTwinTrees$Row;II)Z"⟩
abbrev sN_isLikeLeaf : List Cond := .code yN_isLikeLeaf bN_isLikeLeaf 5 (some .boolean) :: aw
abbrev bR_isLike : ByteArray := prog_4_method_4_code
abbrev yR_isLike : MethodName := ⟨"TwinTrees$Row", "isLike", "(LTwinTrees$Row;)Z"⟩
abbrev sR_isLike : List Cond := .code yR_isLike bR_isLike 2 (some .boolean) :: aw
abbrev bR_unlikeCells : ByteArray := prog_4_method_5_code
abbrev yR_unlikeCells : MethodName := ⟨"TwinTrees$Row", "unlikeCells", "(LTwinTrees$Row;)I"⟩
abbrev sR_unlikeCells : List Cond := .code yR_unlikeCells bR_unlikeCells 4 (some .int) :: aw
abbrev bN_init : ByteArray := prog_3_method_1_code
abbrev yN_init : MethodName := ⟨"TwinTrees$Node", "<init>", "([LTwinTrees$Row;III)V"⟩
abbrev sN_init : List Cond := .code yN_init bN_init 7 none :: aw
abbrev bS_pend : ByteArray := prog_6_method_6_code
abbrev yS_pend : MethodName := ⟨"TwinTrees$Store", "pend", "(LTwinTrees$Node;)LTwinTrees$Node;"⟩
abbrev sS_pend : List Cond := .code yS_pend bS_pend 2 (some (.object "TwinTrees$Node")) :: aw
abbrev bS_keepPending : ByteArray := prog_6_method_4_code
abbrev yS_keepPending : MethodName := ⟨"TwinTrees$Store", "keepPending", "()I"⟩
abbrev sS_keepPending : List Cond := .code yS_keepPending bS_keepPending 5 (some .int) :: aw
abbrev bS_link : ByteArray := prog_6_method_7_code
abbrev yS_link : MethodName := ⟨"TwinTrees$Store", "link", "(LTwinTrees$Node;)V"⟩
abbrev sS_link : List Cond := .code yS_link bS_link 3 none :: aw
abbrev bT_make : ByteArray := prog_1_method_2_code
abbrev yT_make : MethodName := ⟨"TwinTrees", "make", "(II)I"⟩
abbrev sT_make : List Cond := .code yT_make bT_make 4 (some .int) :: aw
abbrev bT_isTable : ByteArray := prog_1_method_14_code
abbrev yT_isTable : MethodName := ⟨"TwinTrees", "isTable", "(I)Z"⟩
abbrev sT_isTable : List Cond := .code yT_isTable bT_isTable 1 (some .boolean) :: aw
abbrev bT_plantDraft : ByteArray := prog_1_method_19_code
abbrev yT_plantDraft : MethodName := ⟨"TwinTrees", "plantDraft", "(I)I"⟩
abbrev sT_plantDraft : List Cond := .code yT_plantDraft bT_plantDraft 4 (some .int) :: aw
abbrev bT_groupRows : ByteArray := prog_1_method_20_code
abbrev yT_groupRows : MethodName := ⟨"TwinTrees", "groupRows", "()I"⟩
abbrev sT_groupRows : List Cond := .code yT_groupRows bT_groupRows 4 (some .int) :: aw
abbrev bT_groupNodes : ByteArray := prog_1_method_21_code
abbrev yT_groupNodes : MethodName := ⟨"TwinTrees", "groupNodes", "(II)I"⟩
abbrev sT_groupNodes : List Cond := .code yT_groupNodes bT_groupNodes 6 (some .int) :: aw
abbrev bS_branchOf : ByteArray := prog_6_method_3_code
abbrev yS_branchOf : MethodName := ⟨"TwinTrees$Store", "branchOf", "(I[LTwinTrees$Node;II)LTwinTrees$Node;"⟩
abbrev sS_branchOf : List Cond := .code yS_branchOf bS_branchOf 7 (some (.object "TwinTrees$Node")) :: aw
abbrev bN_isLikeBranch : ByteArray := prog_3_method_4_code
abbrev yN_isLikeBranch : MethodName := ⟨"TwinTrees$Node", "isLikeBranch", "([LTwinTrees$Node;II)Z"⟩
abbrev sN_isLikeBranch : List Cond := .code yN_isLikeBranch bN_isLikeBranch 5 (some .boolean) :: aw
abbrev bN_init2 : ByteArray := prog_3_method_2_code
abbrev yN_init2 : MethodName := ⟨"TwinTrees$Node", "<init>", "(I[LTwinTrees$Node;III)V"⟩
abbrev sN_init2 : List Cond := .code yN_init2 bN_init2 8 none :: aw
abbrev bT_put : ByteArray := prog_1_method_3_code
abbrev yT_put : MethodName := ⟨"TwinTrees", "put", "(IIIIZ)I"⟩
abbrev sT_put : List Cond := .code yT_put bT_put 7 (some .int) :: aw
abbrev bT_isColumn : ByteArray := prog_1_method_15_code
abbrev yT_isColumn : MethodName := ⟨"TwinTrees", "isColumn", "(II)Z"⟩
abbrev sT_isColumn : List Cond := .code yT_isColumn bT_isColumn 3 (some .boolean) :: aw
abbrev bT_draftRowsOf : ByteArray := prog_1_method_17_code
abbrev yT_draftRowsOf : MethodName := ⟨"TwinTrees", "draftRowsOf", "(I)V"⟩
abbrev sT_draftRowsOf : List Cond := .code yT_draftRowsOf bT_draftRowsOf 2 none :: aw
abbrev bT_newStamp : ByteArray := prog_1_method_16_code
abbrev yT_newStamp : MethodName := ⟨"TwinTrees", "newStamp", "()I"⟩
abbrev sT_newStamp : List Cond := .code yT_newStamp bT_newStamp 1 (some .int) :: aw
abbrev bT_gather : ByteArray := prog_1_method_23_code
abbrev yT_gather : MethodName := ⟨"TwinTrees", "gather", "(LTwinTrees$Node;ILTwinTrees$RowList;I)V"⟩
abbrev sT_gather : List Cond := .code yT_gather bT_gather 8 none :: aw
abbrev bQ_append : ByteArray := prog_5_method_2_code
abbrev yQ_append : MethodName := ⟨"TwinTrees$RowList", "append", "(LTwinTrees$Row;)V"⟩
abbrev sQ_append : List Cond := .code yQ_append bQ_append 2 none :: aw
abbrev bQ_placeOf : ByteArray := prog_5_method_3_code
abbrev yQ_placeOf : MethodName := ⟨"TwinTrees$RowList", "placeOf", "(I)I"⟩
abbrev sQ_placeOf : List Cond := .code yQ_placeOf bQ_placeOf 3 (some .int) :: aw
abbrev bQ_hasKeyAt : ByteArray := prog_5_method_4_code
abbrev yQ_hasKeyAt : MethodName := ⟨"TwinTrees$RowList", "hasKeyAt", "(II)Z"⟩
abbrev sQ_hasKeyAt : List Cond := .code yQ_hasKeyAt bQ_hasKeyAt 3 (some .boolean) :: aw
abbrev bT_blankRow : ByteArray := prog_1_method_29_code
abbrev yT_blankRow : MethodName := ⟨"TwinTrees", "blankRow", "(II)LTwinTrees$Row;"⟩
abbrev sT_blankRow : List Cond := .code yT_blankRow bT_blankRow 2 (some (.object "TwinTrees$Row")) :: aw
abbrev bR_init : ByteArray := prog_4_method_1_code
abbrev yR_init : MethodName := ⟨"TwinTrees$Row", "<init>", "(I[II)V"⟩
abbrev sR_init : List Cond := .code yR_init bR_init 9 none :: aw
abbrev bT_levelOf : ByteArray := prog_1_method_30_code
abbrev yT_levelOf : MethodName := ⟨"TwinTrees", "levelOf", "(I)I"⟩
abbrev sT_levelOf : List Cond := .code yT_levelOf bT_levelOf 3 (some .int) :: aw
abbrev bQ_insertAt : ByteArray := prog_5_method_5_code
abbrev yQ_insertAt : MethodName := ⟨"TwinTrees$RowList", "insertAt", "(ILTwinTrees$Row;)V"⟩
abbrev sQ_insertAt : List Cond := .code yQ_insertAt bQ_insertAt 4 none :: aw
abbrev bR_withCell : ByteArray := prog_4_method_2_code
abbrev yR_withCell : MethodName := ⟨"TwinTrees$Row", "withCell", "(IIZ)LTwinTrees$Row;"⟩
abbrev sR_withCell : List Cond := .code yR_withCell bR_withCell 6 (some (.object "TwinTrees$Row")) :: aw
abbrev bT_remove : ByteArray := prog_1_method_4_code
abbrev yT_remove : MethodName := ⟨"TwinTrees", "remove", "(II)I"⟩
abbrev sT_remove : List Cond := .code yT_remove bT_remove 4 (some .int) :: aw
abbrev bQ_takeAt : ByteArray := prog_5_method_6_code
abbrev yQ_takeAt : MethodName := ⟨"TwinTrees$RowList", "takeAt", "(I)V"⟩
abbrev sQ_takeAt : List Cond := .code yQ_takeAt bQ_takeAt 3 none :: aw
abbrev bT_copy : ByteArray := prog_1_method_5_code
abbrev yT_copy : MethodName := ⟨"TwinTrees", "copy", "(II)I"⟩
abbrev sT_copy : List Cond := .code yT_copy bT_copy 3 (some .int) :: aw
abbrev bT_get : ByteArray := prog_1_method_6_code
abbrev yT_get : MethodName := ⟨"TwinTrees", "get", "(III)J"⟩
abbrev sT_get : List Cond := .code yT_get bT_get 5 (some .long) :: aw
abbrev bT_rowWithKey : ByteArray := prog_1_method_24_code
abbrev yT_rowWithKey : MethodName := ⟨"TwinTrees", "rowWithKey", "(LTwinTrees$Node;I)LTwinTrees$Row;"⟩
abbrev sT_rowWithKey : List Cond := .code yT_rowWithKey bT_rowWithKey 7 (some (.object "TwinTrees$Row")) :: aw
abbrev bR_isNull : ByteArray := prog_4_method_3_code
abbrev yR_isNull : MethodName := ⟨"TwinTrees$Row", "isNull", "(I)Z"⟩
abbrev sR_isNull : List Cond := .code yR_isNull bR_isNull 2 (some .boolean) :: aw
abbrev bT_measure : ByteArray := prog_1_method_7_code
abbrev yT_measure : MethodName := ⟨"TwinTrees", "measure", "(II)I"⟩
abbrev sT_measure : List Cond := .code yT_measure bT_measure 4 (some .int) :: aw
abbrev bT_stampTree : ByteArray := prog_1_method_22_code
abbrev yT_stampTree : MethodName := ⟨"TwinTrees", "stampTree", "(LTwinTrees$Node;II)I"⟩
abbrev sT_stampTree : List Cond := .code yT_stampTree bT_stampTree 8 (some .int) :: aw
abbrev bT_address : ByteArray := prog_1_method_8_code
abbrev yT_address : MethodName := ⟨"TwinTrees", "address", "(I)J"⟩
abbrev sT_address : List Cond := .code yT_address bT_address 2 (some .long) :: aw
abbrev bT_addressOf : ByteArray := prog_1_method_26_code
abbrev yT_addressOf : MethodName := ⟨"TwinTrees", "addressOf", "(LTwinTrees$Node;I)J"⟩
abbrev sT_addressOf : List Cond := .code yT_addressOf bT_addressOf 8 (some .long) :: aw
abbrev bT_mixed : ByteArray := prog_1_method_28_code
abbrev yT_mixed : MethodName := ⟨"TwinTrees", "mixed", "(JJ)J"⟩
abbrev sT_mixed : List Cond := .code yT_mixed bT_mixed 4 (some .long) :: aw
abbrev bT_mixedRow : ByteArray := prog_1_method_27_code
abbrev yT_mixedRow : MethodName := ⟨"TwinTrees", "mixedRow", "(JLTwinTrees$Row;)J"⟩
abbrev sT_mixedRow : List Cond := .code yT_mixedRow bT_mixedRow 6 (some .long) :: aw
abbrev bT_row : ByteArray := prog_1_method_9_code
abbrev yT_row : MethodName := ⟨"TwinTrees", "row", "(II)J"⟩
abbrev sT_row : List Cond := .code yT_row bT_row 3 (some .long) :: aw
abbrev bT_keyInOrder : ByteArray := prog_1_method_25_code
abbrev yT_keyInOrder : MethodName := ⟨"TwinTrees", "keyInOrder", "(LTwinTrees$Node;I)J"⟩
abbrev sT_keyInOrder : List Cond := .code yT_keyInOrder bT_keyInOrder 6 (some .long) :: aw
abbrev bT_compare : ByteArray := prog_1_method_10_code
abbrev yT_compare : MethodName := ⟨"TwinTrees", "compare", "(II)I"⟩
abbrev sT_compare : List Cond := .code yT_compare bT_compare 3 (some .int) :: aw
abbrev bT_gatherUnshared : ByteArray := prog_1_method_18_code
abbrev yT_gatherUnshared : MethodName := ⟨"TwinTrees", "gatherUnshared", "(IILTwinTrees$RowList;)V"⟩
abbrev sT_gatherUnshared : List Cond := .code yT_gatherUnshared bT_gatherUnshared 5 none :: aw
abbrev bD_collect : ByteArray := prog_2_method_2_code
abbrev yD_collect : MethodName := ⟨"TwinTrees$Differences", "collect", "(LTwinTrees$RowList;LTwinTrees$RowList;)V"⟩
abbrev sD_collect : List Cond := .code yD_collect bD_collect 6 none :: aw
abbrev bD_note : ByteArray := prog_2_method_3_code
abbrev yD_note : MethodName := ⟨"TwinTrees$Differences", "note", "(III)V"⟩
abbrev sD_note : List Cond := .code yD_note bD_note 4 none :: aw
abbrev bT_difference : ByteArray := prog_1_method_11_code
abbrev yT_difference : MethodName := ⟨"TwinTrees", "difference", "(II)J"⟩
abbrev sT_difference : List Cond := .code yT_difference bT_difference 3 (some .long) :: aw
abbrev bT_sweep : ByteArray := prog_1_method_12_code
abbrev yT_sweep : MethodName := ⟨"TwinTrees", "sweep", "()I"⟩
abbrev sT_sweep : List Cond := .code yT_sweep bT_sweep 6 (some .int) :: aw
abbrev bS_dropWithout : ByteArray := prog_6_method_5_code
abbrev yS_dropWithout : MethodName := ⟨"TwinTrees$Store", "dropWithout", "(I)I"⟩
abbrev sS_dropWithout : List Cond := .code yS_dropWithout bS_dropWithout 6 (some .int) :: aw
abbrev bT_count : ByteArray := prog_1_method_13_code
abbrev yT_count : MethodName := ⟨"TwinTrees", "count", "(I)I"⟩
abbrev sT_count : List Cond := .code yT_count bT_count 2 (some .int) :: aw
abbrev bM_init : ByteArray := prog_8_method_1_code
abbrev yM_init : MethodName := ⟨"TwinTreesModel", "<init>", "()V"⟩
abbrev sM_init : List Cond := .code yM_init bM_init 2 none :: aw
abbrev bM_lay : ByteArray := prog_8_method_8_code
abbrev yM_lay : MethodName := ⟨"TwinTreesModel", "lay", "(I)Z"⟩
abbrev sM_lay : List Cond := .code yM_lay bM_lay 7 (some .boolean) :: aw
abbrev bM_levelOf : ByteArray := prog_8_method_3_code
abbrev yM_levelOf : MethodName := ⟨"TwinTreesModel", "levelOf", "(I)I"⟩
abbrev sM_levelOf : List Cond := .code yM_levelOf bM_levelOf 3 (some .int) :: aw
abbrev bJM_min : ByteArray := prog_10_method_69_code
abbrev yJM_min : MethodName := ⟨"java/lang/Math", "min", "(II)I"⟩
abbrev sJM_min : List Cond := .code yJM_min bJM_min 2 (some .int) :: aw
abbrev bM_keep : ByteArray := prog_8_method_9_code
abbrev yM_keep : MethodName := ⟨"TwinTreesModel", "keep", "(III)Z"⟩
abbrev sM_keep : List Cond := .code yM_keep bM_keep 5 (some .boolean) :: aw
abbrev bM_node : ByteArray := prog_8_method_6_code
abbrev yM_node : MethodName := ⟨"TwinTreesModel", "node", "(II)I"⟩
abbrev sM_node : List Cond := .code yM_node bM_node 5 (some .int) :: aw
abbrev bM_hash : ByteArray := prog_8_method_4_code
abbrev yM_hash : MethodName := ⟨"TwinTreesModel", "hash", "(II)I"⟩
abbrev sM_hash : List Cond := .code yM_hash bM_hash 6 (some .int) :: aw
abbrev bM_isMade : ByteArray := prog_8_method_5_code
abbrev yM_isMade : MethodName := ⟨"TwinTreesModel", "isMade", "(III)Z"⟩
abbrev sM_isMade : List Cond := .code yM_isMade bM_isMade 5 (some .boolean) :: aw
abbrev bM_make : ByteArray := prog_8_method_17_code
abbrev yM_make : MethodName := ⟨"TwinTreesModel", "make", "(II)I"⟩
abbrev sM_make : List Cond := .code yM_make bM_make 3 (some .int) :: aw
abbrev bM_in : ByteArray := prog_8_method_2_code
abbrev yM_in : MethodName := ⟨"TwinTreesModel", "in", "(III)Z"⟩
abbrev sM_in : List Cond := .code yM_in bM_in 3 (some .boolean) :: aw
abbrev bM_remember : ByteArray := prog_8_method_12_code
abbrev yM_remember : MethodName := ⟨"TwinTreesModel", "remember", "(I)V"⟩
abbrev sM_remember : List Cond := .code yM_remember bM_remember 2 none :: aw
abbrev bM_write : ByteArray := prog_8_method_13_code
abbrev yM_write : MethodName := ⟨"TwinTreesModel", "write", "(I)I"⟩
abbrev sM_write : List Cond := .code yM_write bM_write 3 (some .int) :: aw
abbrev bM_back : ByteArray := prog_8_method_7_code
abbrev yM_back : MethodName := ⟨"TwinTreesModel", "back", "(I)V"⟩
abbrev sM_back : List Cond := .code yM_back bM_back 2 none :: aw
abbrev bM_put : ByteArray := prog_8_method_18_code
abbrev yM_put : MethodName := ⟨"TwinTreesModel", "put", "(IIIIZ)I"⟩
abbrev sM_put : List Cond := .code yM_put bM_put 8 (some .int) :: aw
abbrev bM_find : ByteArray := prog_8_method_15_code
abbrev yM_find : MethodName := ⟨"TwinTreesModel", "find", "(II)I"⟩
abbrev sM_find : List Cond := .code yM_find bM_find 4 (some .int) :: aw
abbrev bM_placeOf : ByteArray := prog_8_method_14_code
abbrev yM_placeOf : MethodName := ⟨"TwinTreesModel", "placeOf", "(II)I"⟩
abbrev sM_placeOf : List Cond := .code yM_placeOf bM_placeOf 4 (some .int) :: aw
abbrev bM_move : ByteArray := prog_8_method_16_code
abbrev yM_move : MethodName := ⟨"TwinTreesModel", "move", "(III)V"⟩
abbrev sM_move : List Cond := .code yM_move bM_move 5 none :: aw
abbrev bM_remove : ByteArray := prog_8_method_19_code
abbrev yM_remove : MethodName := ⟨"TwinTreesModel", "remove", "(II)I"⟩
abbrev sM_remove : List Cond := .code yM_remove bM_remove 5 (some .int) :: aw
abbrev bM_copy : ByteArray := prog_8_method_20_code
abbrev yM_copy : MethodName := ⟨"TwinTreesModel", "copy", "(II)I"⟩
abbrev sM_copy : List Cond := .code yM_copy bM_copy 3 (some .int) :: aw
abbrev bM_get : ByteArray := prog_8_method_21_code
abbrev yM_get : MethodName := ⟨"TwinTreesModel", "get", "(III)J"⟩
abbrev sM_get : List Cond := .code yM_get bM_get 7 (some .long) :: aw
abbrev bM_measure : ByteArray := prog_8_method_22_code
abbrev yM_measure : MethodName := ⟨"TwinTreesModel", "measure", "(II)I"⟩
abbrev sM_measure : List Cond := .code yM_measure bM_measure 3 (some .int) :: aw
abbrev bM_address : ByteArray := prog_8_method_23_code
abbrev yM_address : MethodName := ⟨"TwinTreesModel", "address", "(I)J"⟩
abbrev sM_address : List Cond := .code yM_address bM_address 2 (some .long) :: aw
abbrev bM_addressOf : ByteArray := prog_8_method_10_code
abbrev yM_addressOf : MethodName := ⟨"TwinTreesModel", "addressOf", "(I)J"⟩
abbrev sM_addressOf : List Cond := .code yM_addressOf bM_addressOf 8 (some .long) :: aw
abbrev bM_step : ByteArray := prog_8_method_11_code
abbrev yM_step : MethodName := ⟨"TwinTreesModel", "step", "(JJ)J"⟩
abbrev sM_step : List Cond := .code yM_step bM_step 4 (some .long) :: aw
abbrev bM_row : ByteArray := prog_8_method_24_code
abbrev yM_row : MethodName := ⟨"TwinTreesModel", "row", "(II)J"⟩
abbrev sM_row : List Cond := .code yM_row bM_row 3 (some .long) :: aw
abbrev bM_compare : ByteArray := prog_8_method_25_code
abbrev yM_compare : MethodName := ⟨"TwinTreesModel", "compare", "(II)I"⟩
abbrev sM_compare : List Cond := .code yM_compare bM_compare 10 (some .int) :: aw
abbrev bM_difference : ByteArray := prog_8_method_26_code
abbrev yM_difference : MethodName := ⟨"TwinTreesModel", "difference", "(II)J"⟩
abbrev sM_difference : List Cond := .code yM_difference bM_difference 3 (some .long) :: aw
abbrev bM_sweep : ByteArray := prog_8_method_27_code
abbrev yM_sweep : MethodName := ⟨"TwinTreesModel", "sweep", "()I"⟩
abbrev sM_sweep : List Cond := .code yM_sweep bM_sweep 3 (some .int) :: aw
abbrev bJA_fill : ByteArray := prog_12_method_103_code
abbrev yJA_fill : MethodName := ⟨"java/util/Arrays", "fill", "([II)V"⟩
abbrev sJA_fill : List Cond := .code yJA_fill bJA_fill 4 none :: aw
abbrev bM_count : ByteArray := prog_8_method_28_code
abbrev yM_count : MethodName := ⟨"TwinTreesModel", "count", "(I)I"⟩
abbrev sM_count : List Cond := .code yM_count bM_count 2 (some .int) :: aw
end
section
/-! The ghost heap and the judgement J: a walk's state is a ghost heap g, the cells and slots used, pc, named locals, the stack. -/
abbrev GH : Type := List Nat × (Nat → va_E)
abbrev ZZ : Type := va_G × List vw_C × List (ClassId × FieldType) × List Cond × (Nat → Prop)
abbrev CX : Type := Program × Launch × Env × Room × State × MethodId × Array Value × List Frame × Method × Code × (State → Prop)
def gAt (g : GH) (a : Nat) (e : va_E) : Prop := a ∈ g.1 ∧ g.2 a = e
def gUp (g : GH) (a : Nat) (e : va_E) : GH := (g.1, va_up g.2 a e)
def gNew (g : GH) (a : Nat) (e : va_E) : GH := (g.1 ++ [a], va_up g.2 a e)
theorem gAt.eq {g : GH} {a : Nat} {e e' : va_E} (h : gAt g a e) (h' : gAt g a e') : e = e' := h.2.symm.trans h'.2
theorem gAt.ne {g : GH} {a b : Nat} {e e' : va_E} (h : gAt g a e) (h' : gAt g b e') (n : e ≠ e') : a ≠ b := fun q => by subst q; exact n (h.eq h')
theorem gUp_self {g : GH} {a : Nat} {e e' : va_E} (h : gAt g a e) : gAt (gUp g a e') a e' := ⟨h.1, va_up_self _ _ _⟩
theorem gUp_ne {g : GH} {a b : Nat} {e e' : va_E} (h : gAt g b e) (n : b ≠ a) : gAt (gUp g a e') b e := ⟨h.1, (va_up_ne _ _ n).trans h.2⟩
theorem gUp_of {g : GH} {a b : Nat} {e e' : va_E} (h : gAt (gUp g a e') b e) (n : b ≠ a) : gAt g b e := ⟨h.1, (va_up_ne _ _ n).symm.trans h.2⟩
theorem gNew_self {g : GH} {a : Nat} {e : va_E} : gAt (gNew g a e) a e := ⟨List.mem_append_right _ List.mem_cons_self, va_up_self _ _ _⟩
theorem gNew_old {g : GH} {a b : Nat} {e e' : va_E} (h : gAt g b e) (n : a ∉ g.1) : gAt (gNew g a e') b e := ⟨List.mem_append_left _ h.1, (va_up_ne _ _ (fun q : b = a => n (q ▸ h.1))).trans h.2⟩
theorem gNew_of {g : GH} {a b : Nat} {e e' : va_E} (h : gAt (gNew g a e') b e) (n : b ≠ a) : gAt g b e := by
  refine ⟨?_, (va_up_ne _ _ n).symm.trans h.2⟩
  rcases List.mem_append.mp h.1 with q | q
  · exact q
  · exact absurd (List.mem_singleton.mp q) n
theorem gAt.nin {g : GH} {a b : Nat} {e : va_E} (h : gAt g b e) (n : a ∉ g.1) : b ≠ a := fun q => n (q ▸ h.1)
theorem gUp_up {g : GH} {a : Nat} {e e' : va_E} : gUp (gUp g a e) a e' = gUp g a e' := by
  simp only [gUp, bx_uu]
theorem gNew_up {g : GH} {a : Nat} {e e' : va_E} : gUp (gNew g a e) a e' = gNew g a e' := by
  simp only [gUp, gNew, bx_uu]
theorem gUp_id {g : GH} {a : Nat} {e : va_E} (h : gAt g a e) : gUp g a e = g := by
  obtain ⟨L, f⟩ := g
  simp only [gUp]
  congr 1
  funext j
  by_cases q : j = a
  · subst q
    rw [va_up_self]
    exact h.2.symm
  · exact va_up_ne _ _ q
def zA (Z : ZZ) : Nat → Prop := Z.2.2.2.2
/-- words that no word list carries: they hold, and go on holding -/
def zN (Z : ZZ) (U : State) : Prop := ∀ w ∈ Z.2.2.2.1, w.onTables = true ∧ (∀ s V : State, s.WarmedH V.vm → va_Nw w s → va_Nw w V) ∧ va_Nw w U
theorem zN.warm {Z : ZZ} {s U : State} (h : zN Z s) (hW : s.WarmedH U.vm) : zN Z U := fun w hw => ⟨(h w hw).1, (h w hw).2.1, (h w hw).2.1 s U hW (h w hw).2.2⟩
def gW (Z : ZZ) (g : GH) (H : Heap) : Prop := va_P Z.1 Z.2.1 (va_pl g.1 g.2) H ∧ va_D (zA Z) (va_pl g.1 g.2)
def gB (Z : ZZ) (g : GH) (U : State) : Prop := gW Z g U.heap ∧ va_K Z.1 Z.2.1 Z.2.2.1 U ∧ (∀ q : Nat, U.heap.size ≤ q → zA Z q) ∧ zN Z U
theorem gB.blind {Z : ZZ} {g : GH} {a : Array Value} {U : State} {fr : JFrame} {mk : MethodId} (h : gB Z g U) : gB Z g (U.calling fr mk a) :=
  ⟨h.1, va_K.moved (u := U) (U := U.calling fr mk a) (Vm.Alike.refl U.vm) h.2.1, h.2.2.1, fun w hw => ⟨(h.2.2.2 w hw).1, (h.2.2.2 w hw).2.1, va_Nw.same (h.2.2.2 w hw).1 (u := U) rfl (h.2.2.2 w hw).2.2⟩⟩
def jQ (Z : ZZ) (post : Option Value → GH → Prop) : Array Value → State → Outcome → State → Prop := fun _ st oc t => (∃ (v : Option Value) (g' : GH), oc = .returned v ∧ post v g' ∧ gW Z g' t.heap) ∧ va_F (zA Z) st t
/-- a method's contract at these arguments and this ghost heap -/
def Ct (l : Launch) (y : MethodName) (ws : List Cond) (rm : Room) (Z : ZZ) (av : List Value) (g : GH) (mc ms : Nat) (post : Option Value → GH → Prop) : Prop := Met l y ws rm (va_Pc av (gB Z g)) (jQ Z post) mc ms (zA Z)
def J (X : CX) (nL : Nat) (Z : ZZ) (g : GH) (k n pc : Nat) (lv : List (Nat × Value)) (st : List Value) : Prop :=
  ∀ (H : Heap) (locs : List Loc) (ls : Array Slot), gW Z g H → va_S (zA Z) X.2.2.2.2.1.heap H locs → lv_has ls nL lv → W X.1 X.2.1 X.2.2.1 X.2.2.2.1 X.2.2.2.2.1 X.2.2.2.2.2.1 X.2.2.2.2.2.2.1 X.2.2.2.2.2.2.2.1 X.2.2.2.2.2.2.2.2.1 X.2.2.2.2.2.2.2.2.2.1 H locs k n X.2.2.2.2.2.2.2.2.2.2 (F0 X.2.2.2.2.2.1 pc ls st)
/-- the walk's surroundings: machine, code, tables' words, classes, room -/
def Ok (X : CX) (cc : ByteArray) (nL : Nat) (own : String) (Z : ZZ) (rm : Room) : Prop :=
  CallFix X.1 X.2.2.2.2.2.1 X.2.2.2.2.2.2.2.2.2.1 cc nL X.2.2.2.2.1 X.2.2.2.2.2.2.1 aw own ∧ va_K Z.1 Z.2.1 Z.2.2.1 X.2.2.2.2.1 ∧ (∀ q : Nat, X.2.2.2.2.1.heap.size ≤ q → zA Z q) ∧ X.2.2.2.1 = rm ∧ zN Z X.2.2.2.2.1
/-- the walk is that of a method with a contract -/
def Om (X : CX) (Z : ZZ) (ret : Option FieldType) (mc ms : Nat) (post : Option Value → GH → Prop) : Prop :=
  X.2.2.2.2.2.2.2.2.1.sig.returnType = ret ∧ X.2.2.2.2.2.2.2.2.1.locks = false ∧ X.2.2.2.2.2.2.2.2.2.2 = MQ X.2.2.2.2.2.2.2.1 (jQ Z post) X.2.2.2.2.2.2.1 X.2.2.2.2.1 mc ms (zA Z)
/-- a constructor: its name -/
def On (X : CX) : Prop := X.2.2.2.2.2.2.2.2.1.name = "<init>"
def jg : List (Nat × Value) → Nat → Option Value
  | [], _ => none
  | q :: r, i => bif Nat.beq q.1 i then some q.2 else jg r i
theorem jg_in : ∀ (lv : List (Nat × Value)) (i : Nat) (v : Value), jg lv i = some v → (i, v) ∈ lv
  | [], _, _, h => by cases h
  | (j, w) :: r, i, v, h => by
    simp only [jg] at h
    cases hb : Nat.beq j i with
    | true =>
      rw [hb, cond_true] at h
      cases h
      rw [Nat.eq_of_beq_eq_true hb]
      exact List.mem_cons_self
    | false =>
      rw [hb, cond_false] at h
      exact List.mem_cons_of_mem _ (jg_in r i v h)
theorem jg_at {ls : Array Slot} {nL : Nat} {lv : List (Nat × Value)} {i : Nat} {v : Value} (h : lv_has ls nL lv) (hv : jg lv i = some v) : ls[i]? = some (.val v) := h.2.2 (i, v) (jg_in lv i v hv)
def jlv1 (lv : List (Nat × Value)) (i : Nat) (v : Value) : List (Nat × Value) := (i, v) :: lv.filter (fun q => !(q.1 == i) && !(q.1 + 1 == i && q.2.category == 2))
def jlv2 (lv : List (Nat × Value)) (i : Nat) (v : Value) : List (Nat × Value) := (i, v) :: lv.filter (fun q => !(q.1 == i) && (!(q.1 == i + 1) && !(q.1 + 1 == i && q.2.category == 2)))
theorem gAt.k {g : GH} {a : Nat} {e : va_E} (h : gAt g a e) : ∃ k : Nat, (va_pl g.1 g.2)[k]? = some (a, e) := by
  obtain ⟨k, hk⟩ := va_pl_get (X := []) (f := g.2) h.1
  rw [h.2] at hk
  exact ⟨k, hk⟩
theorem gSet {Z : ZZ} {g : GH} {a k : Nat} {e e' : va_E} (hD : va_D (zA Z) (va_pl g.1 g.2)) (h : gAt g a e) (hk : (va_pl g.1 g.2)[k]? = some (a, e)) : (va_pl g.1 g.2).set k (a, e') = va_pl (gUp g a e').1 (gUp g a e').2 := by
  have hk' : ([] ++ va_pl g.1 g.2)[k]? = some (a, g.2 a) := by rw [h.2]; exact hk
  exact va_pl_set (X := []) (e := e') hD h.1 hk'
theorem gPush {Z : ZZ} {g : GH} {a : Nat} {e : va_E} (hD : va_D (zA Z) (va_pl g.1 g.2 ++ [(a, e)])) : a ∉ g.1 := by
  intro h
  obtain ⟨k, hk⟩ := (gAt.k (g := g) ⟨h, rfl⟩)
  have hl := (List.getElem?_eq_some_iff.mp hk).1
  have h1 : (va_pl g.1 g.2 ++ [(a, e)])[k]? = some (a, g.2 a) := by rw [List.getElem?_append_left hl]; exact hk
  have h2 : (va_pl g.1 g.2 ++ [(a, e)])[(va_pl g.1 g.2).length]? = some (a, e) := by simp
  have := hD.1 _ _ _ _ h1 h2 rfl
  omega
theorem gWc {c : Cond} (h : c ∈ aw) : GoodIn aw (c :: aw) := fun w hw => (List.mem_cons.mp hw).elim (fun e => by rw [e]; exact aw_all c h) (aw_all w)
theorem gWs {own : String} {index : Nat} {y : MethodName} {c : Cond} (h1 : Cond.methodLink own index y ∈ aw) (h2 : Cond.static y ∈ aw) (h3 : Cond.initialized y.cls ∈ aw) (h4 : c ∈ aw) : GoodIn aw (va_wsS own index y (c :: aw)) := by
  intro w hw
  unfold va_wsS at hw
  rcases List.mem_append.mp hw with q | q
  · simp only [List.mem_cons, List.not_mem_nil, or_false] at q
    rcases q with q | q | q <;> subst q
    · exact aw_all _ h1
    · exact aw_all _ h2
    · exact aw_all _ h3
  · exact gWc h4 w q
theorem gWv {own : String} {index : Nat} {C : String} {y : MethodName} {c : Cond} (h1 : Cond.methodLink own index y ∈ aw) (h2 : Cond.instanceMethod y ∈ aw) (h3 : Cond.selects C y y ∈ aw) (h5 : Cond.initialized C ∈ aw) (h4 : c ∈ aw) : GoodIn aw (wsV own index C y (c :: aw)) := by
  intro w hw
  unfold wsV at hw
  rcases List.mem_append.mp hw with q | q
  · simp only [List.mem_cons, List.not_mem_nil, or_false] at q
    rcases q with q | q | q | q <;> subst q
    · exact aw_all _ h1
    · exact aw_all _ h2
    · exact aw_all _ h3
    · exact aw_all _ h5
  · exact gWc h4 w q
section JR
variable {X : CX} {cc : ByteArray} {nL : Nat} {own : String} {Z : ZZ} {rm : Room} {g : GH} {k n pc : Nat} {lv : List (Nat × Value)} {st : List Value}
theorem Ok.b (O : Ok X cc nL own Z rm) {w : Cond} (h : w ∈ aw) : w.before X.2.2.2.2.2.2.1 X.2.2.2.2.1 = true := O.1.2.2.2.2 w h
theorem Ok.A (O : Ok X cc nL own Z rm) : ∀ q : Nat, X.2.2.2.2.1.heap.size ≤ q → zA Z q := O.2.2.1
theorem J.widen {k' n' : Nat} (h1 : k ≤ k') (h2 : n ≤ n') (kk : J X nL Z g k' n' pc lv st) : J X nL Z g k n pc lv st := fun H locs ls a b c => W.widen h1 h2 (kk H locs ls a b c)
theorem J.sublv {lv' : List (Nat × Value)} (h : ∀ q ∈ lv', q ∈ lv) (kk : J X nL Z g k n pc lv' st) : J X nL Z g k n pc lv st := fun H locs ls a b c => kk H locs ls a b ⟨c.1, c.2.1, fun q hq => c.2.2 q (h q hq)⟩
theorem J.pk (ks : List Nat) {lv' : List (Nat × Value)} (h : lv_pick lv ks = lv') (kk : J X nL Z g k n pc lv' st) : J X nL Z g k n pc lv st := fun H locs ls a b c => kk H locs ls a b (lv_sub c ks h)
theorem J.geq {g' : GH} (h : g = g') (kk : J X nL Z g' k n pc lv st) : J X nL Z g k n pc lv st := h ▸ kk
theorem J.steq {st' : List Value} (h : st = st') (kk : J X nL Z g k n pc lv st') : J X nL Z g k n pc lv st := h ▸ kk
theorem j_iconst (O : Ok X cc nL own Z rm) {i : Int} {v : Int32} (d : decode cc pc = .ok (.iconst i, 1)) (hv : Int32.ofInt i = v) (kk : J X nL Z g k n (pc + 1) lv (.int v :: st)) : J X nL Z g k n (pc) lv (st) := fun H locs ls a b h => lv_iconst O.1.1 O.1.2.1 d hv (kk H locs ls a b h)
theorem j_bipush (O : Ok X cc nL own Z rm) {i : Int} {v : Int32} (d : decode cc pc = .ok (.bipush i, 2)) (hv : (Int8.ofInt i).toInt32 = v) (kk : J X nL Z g k n (pc + 2) lv (.int v :: st)) : J X nL Z g k n (pc) lv (st) := fun H locs ls a b h => lv_bipush O.1.1 O.1.2.1 d hv (kk H locs ls a b h)
theorem j_sipush (O : Ok X cc nL own Z rm) {i : Int} {v : Int32} (d : decode cc pc = .ok (.sipush i, 3)) (hv : (Int16.ofInt i).toInt32 = v) (kk : J X nL Z g k n (pc + 3) lv (.int v :: st)) : J X nL Z g k n (pc) lv (st) := fun H locs ls a b h => lv_sipush O.1.1 O.1.2.1 d hv (kk H locs ls a b h)
theorem j_lconst (O : Ok X cc nL own Z rm) {i : Fin 2} {v : Int64} (d : decode cc pc = .ok (.lconst i, 1)) (hv : Int64.ofNat (i : Nat) = v) (kk : J X nL Z g k n (pc + 1) lv (.long v :: st)) : J X nL Z g k n (pc) lv (st) := fun H locs ls a b h => lv_lconst O.1.1 O.1.2.1 d hv (kk H locs ls a b h)
theorem j_null (O : Ok X cc nL own Z rm)  (d : decode cc pc = .ok (.aconst_null, 1)) (kk : J X nL Z g k n (pc + 1) lv (.null :: st)) : J X nL Z g k n (pc) lv (st) := fun H locs ls a b h => lv_null O.1.1 O.1.2.1 d (kk H locs ls a b h)
theorem j_ldc (O : Ok X cc nL own Z rm) {i : Nat} (v : Int32) (hc : Cond.constant own i v ∈ aw) (d : decode cc pc = .ok (.ldc i, 2)) (kk : J X nL Z g k n (pc + 2) lv (.int v :: st)) : J X nL Z g k n (pc) lv (st) := fun H locs ls a b h => lv_ldc O.1.1 O.1.2.1 O.1.2.2.2.1 (O.b hc) d (kk H locs ls a b h)
theorem j_ldcw (O : Ok X cc nL own Z rm) {i : Nat} (v : Int32) (hc : Cond.constant own i v ∈ aw) (d : decode cc pc = .ok (.ldc_w i, 3)) (kk : J X nL Z g k n (pc + 3) lv (.int v :: st)) : J X nL Z g k n (pc) lv (st) := fun H locs ls a b h => lv_ldcw O.1.1 O.1.2.1 O.1.2.2.2.1 (O.b hc) d (kk H locs ls a b h)
theorem j_ldc2 (O : Ok X cc nL own Z rm) {i : Nat} (v : Int64) (hc : Cond.constantLong own i v ∈ aw) (d : decode cc pc = .ok (.ldc2_w i, 3)) (kk : J X nL Z g k n (pc + 3) lv (.long v :: st)) : J X nL Z g k n (pc) lv (st) := fun H locs ls a b h => lv_ldc2 O.1.1 O.1.2.1 O.1.2.2.2.1 (O.b hc) d (kk H locs ls a b h)
theorem j_iload_n (O : Ok X cc nL own Z rm) {f : Fin 4} (i : Nat) {x : Int32} (d : decode cc pc = .ok (.iload_n f, 1)) (hi : (f : Nat) = i) (hv : jg lv i = some (.int x)) (kk : J X nL Z g k n (pc + 1) lv (.int x :: st)) : J X nL Z g k n (pc) lv (st) := fun H locs ls a b h => lv_iload_n O.1.1 O.1.2.1 d hi (jg_at h hv) (kk H locs ls a b h)
theorem j_iload (O : Ok X cc nL own Z rm) {i : Nat} {x : Int32} (d : decode cc pc = .ok (.iload i, 2)) (hv : jg lv i = some (.int x)) (kk : J X nL Z g k n (pc + 2) lv (.int x :: st)) : J X nL Z g k n (pc) lv (st) := fun H locs ls a b h => lv_iload O.1.1 O.1.2.1 d (jg_at h hv) (kk H locs ls a b h)
theorem j_lload_n (O : Ok X cc nL own Z rm) {f : Fin 4} (i : Nat) {x : Int64} (d : decode cc pc = .ok (.lload_n f, 1)) (hi : (f : Nat) = i) (hv : jg lv i = some (.long x)) (kk : J X nL Z g k n (pc + 1) lv (.long x :: st)) : J X nL Z g k n (pc) lv (st) := fun H locs ls a b h => lv_lload_n O.1.1 O.1.2.1 d hi (jg_at h hv) (kk H locs ls a b h)
theorem j_lload (O : Ok X cc nL own Z rm) {i : Nat} {x : Int64} (d : decode cc pc = .ok (.lload i, 2)) (hv : jg lv i = some (.long x)) (kk : J X nL Z g k n (pc + 2) lv (.long x :: st)) : J X nL Z g k n (pc) lv (st) := fun H locs ls a b h => lv_lload O.1.1 O.1.2.1 d (jg_at h hv) (kk H locs ls a b h)
theorem j_aload_n (O : Ok X cc nL own Z rm) {f : Fin 4} (i : Nat) {x : Nat} (d : decode cc pc = .ok (.aload_n f, 1)) (hi : (f : Nat) = i) (hv : jg lv i = some (.ref x)) (kk : J X nL Z g k n (pc + 1) lv (.ref x :: st)) : J X nL Z g k n (pc) lv (st) := fun H locs ls a b h => lv_aload_n O.1.1 O.1.2.1 d hi (jg_at h hv) (kk H locs ls a b h)
theorem j_aload (O : Ok X cc nL own Z rm) {i : Nat} {x : Nat} (d : decode cc pc = .ok (.aload i, 2)) (hv : jg lv i = some (.ref x)) (kk : J X nL Z g k n (pc + 2) lv (.ref x :: st)) : J X nL Z g k n (pc) lv (st) := fun H locs ls a b h => lv_aload O.1.1 O.1.2.1 d (jg_at h hv) (kk H locs ls a b h)
theorem j_aload_nN (O : Ok X cc nL own Z rm) {f : Fin 4} (i : Nat) (d : decode cc pc = .ok (.aload_n f, 1)) (hi : (f : Nat) = i) (hv : jg lv i = some .null) (kk : J X nL Z g k n (pc + 1) lv (.null :: st)) : J X nL Z g k n (pc) lv (st) := fun H locs ls a b h => lv_aload_nN O.1.1 O.1.2.1 d hi (jg_at h hv) (kk H locs ls a b h)
theorem j_aloadN (O : Ok X cc nL own Z rm) {i : Nat} (d : decode cc pc = .ok (.aload i, 2)) (hv : jg lv i = some .null) (kk : J X nL Z g k n (pc + 2) lv (.null :: st)) : J X nL Z g k n (pc) lv (st) := fun H locs ls a b h => lv_aloadN O.1.1 O.1.2.1 d (jg_at h hv) (kk H locs ls a b h)
theorem j_aload_nO (O : Ok X cc nL own Z rm) {f : Fin 4} (i : Nat) {o : Option Nat} (d : decode cc pc = .ok (.aload_n f, 1)) (hi : (f : Nat) = i) (hv : jg lv i = some (va_rf o)) (kk : J X nL Z g k n (pc + 1) lv (va_rf o :: st)) : J X nL Z g k n (pc) lv (st) := by
  cases o with
  | none => exact j_aload_nN O i d hi hv kk
  | some x => exact j_aload_n O i d hi hv kk
theorem j_aloadO (O : Ok X cc nL own Z rm) {i : Nat} {o : Option Nat} (d : decode cc pc = .ok (.aload i, 2)) (hv : jg lv i = some (va_rf o)) (kk : J X nL Z g k n (pc + 2) lv (va_rf o :: st)) : J X nL Z g k n (pc) lv (st) := by
  cases o with
  | none => exact j_aloadN O d hv kk
  | some x => exact j_aload O d hv kk
theorem j_istore_n (O : Ok X cc nL own Z rm) {f : Fin 4} (i : Nat) {x : Int32} (lw : List (Nat × Value)) (d : decode cc pc = .ok (.istore_n f, 1)) (hi : (f : Nat) = i) (hn : i < nL) (hl : jlv1 lv i (.int x) = lw) (kk : J X nL Z g k n (pc + 1) lw (st)) : J X nL Z g k n (pc) lv (.int x :: st) := fun H locs ls a b h => lv_istore_n O.1.1 O.1.2.1 d hi h hn hl (fun ls2 h2 => kk H locs ls2 a b h2)
theorem j_istore (O : Ok X cc nL own Z rm) {i : Nat} {x : Int32} (lw : List (Nat × Value)) (d : decode cc pc = .ok (.istore i, 2)) (hn : i < nL) (hl : jlv1 lv i (.int x) = lw) (kk : J X nL Z g k n (pc + 2) lw (st)) : J X nL Z g k n (pc) lv (.int x :: st) := fun H locs ls a b h => lv_istore O.1.1 O.1.2.1 d h hn hl (fun ls2 h2 => kk H locs ls2 a b h2)
theorem j_lstore_n (O : Ok X cc nL own Z rm) {f : Fin 4} (i : Nat) {x : Int64} (lw : List (Nat × Value)) (d : decode cc pc = .ok (.lstore_n f, 1)) (hi : (f : Nat) = i) (hn : i + 1 < nL) (hl : jlv2 lv i (.long x) = lw) (kk : J X nL Z g k n (pc + 1) lw (st)) : J X nL Z g k n (pc) lv (.long x :: st) := fun H locs ls a b h => lv_lstore_n O.1.1 O.1.2.1 d hi h hn hl (fun ls2 h2 => kk H locs ls2 a b h2)
theorem j_lstore (O : Ok X cc nL own Z rm) {i : Nat} {x : Int64} (lw : List (Nat × Value)) (d : decode cc pc = .ok (.lstore i, 2)) (hn : i + 1 < nL) (hl : jlv2 lv i (.long x) = lw) (kk : J X nL Z g k n (pc + 2) lw (st)) : J X nL Z g k n (pc) lv (.long x :: st) := fun H locs ls a b h => lv_lstore O.1.1 O.1.2.1 d h hn hl (fun ls2 h2 => kk H locs ls2 a b h2)
theorem j_astore_n (O : Ok X cc nL own Z rm) {f : Fin 4} (i : Nat) {x : Nat} (lw : List (Nat × Value)) (d : decode cc pc = .ok (.astore_n f, 1)) (hi : (f : Nat) = i) (hn : i < nL) (hl : jlv1 lv i (.ref x) = lw) (kk : J X nL Z g k n (pc + 1) lw (st)) : J X nL Z g k n (pc) lv (.ref x :: st) := fun H locs ls a b h => lv_astore_n O.1.1 O.1.2.1 d hi h hn hl (fun ls2 h2 => kk H locs ls2 a b h2)
theorem j_astore (O : Ok X cc nL own Z rm) {i : Nat} {x : Nat} (lw : List (Nat × Value)) (d : decode cc pc = .ok (.astore i, 2)) (hn : i < nL) (hl : jlv1 lv i (.ref x) = lw) (kk : J X nL Z g k n (pc + 2) lw (st)) : J X nL Z g k n (pc) lv (.ref x :: st) := fun H locs ls a b h => lv_astore O.1.1 O.1.2.1 d h hn hl (fun ls2 h2 => kk H locs ls2 a b h2)
theorem j_astore_nN (O : Ok X cc nL own Z rm) {f : Fin 4} (i : Nat) (lw : List (Nat × Value)) (d : decode cc pc = .ok (.astore_n f, 1)) (hi : (f : Nat) = i) (hn : i < nL) (hl : jlv1 lv i .null = lw) (kk : J X nL Z g k n (pc + 1) lw (st)) : J X nL Z g k n (pc) lv (.null :: st) := fun H locs ls a b h => lv_astore_nN O.1.1 O.1.2.1 d hi h hn hl (fun ls2 h2 => kk H locs ls2 a b h2)
theorem j_astoreN (O : Ok X cc nL own Z rm) {i : Nat} (lw : List (Nat × Value)) (d : decode cc pc = .ok (.astore i, 2)) (hn : i < nL) (hl : jlv1 lv i .null = lw) (kk : J X nL Z g k n (pc + 2) lw (st)) : J X nL Z g k n (pc) lv (.null :: st) := fun H locs ls a b h => lv_astoreN O.1.1 O.1.2.1 d h hn hl (fun ls2 h2 => kk H locs ls2 a b h2)
theorem j_astore_nO (O : Ok X cc nL own Z rm) {f : Fin 4} (i : Nat) {o : Option Nat} (lw : List (Nat × Value)) (d : decode cc pc = .ok (.astore_n f, 1)) (hi : (f : Nat) = i) (hn : i < nL) (hl : jlv1 lv i (va_rf o) = lw) (kk : J X nL Z g k n (pc + 1) lw (st)) : J X nL Z g k n (pc) lv (va_rf o :: st) := by
  cases o with
  | none => exact j_astore_nN O i lw d hi hn hl kk
  | some x => exact j_astore_n O i lw d hi hn hl kk
theorem j_astoreO (O : Ok X cc nL own Z rm) {i : Nat} {o : Option Nat} (lw : List (Nat × Value)) (d : decode cc pc = .ok (.astore i, 2)) (hn : i < nL) (hl : jlv1 lv i (va_rf o) = lw) (kk : J X nL Z g k n (pc + 2) lw (st)) : J X nL Z g k n (pc) lv (va_rf o :: st) := by
  cases o with
  | none => exact j_astoreN O lw d hn hl kk
  | some x => exact j_astore O lw d hn hl kk
theorem j_iinc (O : Ok X cc nL own Z rm) {i : Nat} {z : Int} {x : Int32} (v : Int32) (lw : List (Nat × Value)) (d : decode cc pc = .ok (.iinc i z, 3)) (hx : jg lv i = some (.int x)) (hv : x + Int32.ofInt z = v) (hn : i < nL) (hl : jlv1 lv i (.int v) = lw) (kk : J X nL Z g k n (pc + 3) lw (st)) : J X nL Z g k n (pc) lv (st) := by
  intro H locs ls a b h
  obtain ⟨q, hq⟩ := List.getElem?_of_mem (jg_in lv i _ hx)
  exact lv_iinc O.1.1 O.1.2.1 d h hq hv hn hl (fun ls2 h2 => kk H locs ls2 a b h2)
theorem j_iadd (O : Ok X cc nL own Z rm) {x y : Int32} (d : decode cc pc = .ok (.iadd, 1)) (kk : J X nL Z g k n (pc + 1) lv (.int (x + y) :: st)) : J X nL Z g k n (pc) lv (.int y :: .int x :: st) := fun H locs ls a b h => lv_iadd O.1.1 O.1.2.1 d (kk H locs ls a b h)
theorem j_isub (O : Ok X cc nL own Z rm) {x y : Int32} (d : decode cc pc = .ok (.isub, 1)) (kk : J X nL Z g k n (pc + 1) lv (.int (x - y) :: st)) : J X nL Z g k n (pc) lv (.int y :: .int x :: st) := fun H locs ls a b h => lv_isub O.1.1 O.1.2.1 d (kk H locs ls a b h)
theorem j_imul (O : Ok X cc nL own Z rm) {x y : Int32} (d : decode cc pc = .ok (.imul, 1)) (kk : J X nL Z g k n (pc + 1) lv (.int (x * y) :: st)) : J X nL Z g k n (pc) lv (.int y :: .int x :: st) := fun H locs ls a b h => lv_imul O.1.1 O.1.2.1 d (kk H locs ls a b h)
theorem j_iand (O : Ok X cc nL own Z rm) {x y : Int32} (d : decode cc pc = .ok (.iand, 1)) (kk : J X nL Z g k n (pc + 1) lv (.int (x &&& y) :: st)) : J X nL Z g k n (pc) lv (.int y :: .int x :: st) := fun H locs ls a b h => lv_iand O.1.1 O.1.2.1 d (kk H locs ls a b h)
theorem j_ior (O : Ok X cc nL own Z rm) {x y : Int32} (d : decode cc pc = .ok (.ior, 1)) (kk : J X nL Z g k n (pc + 1) lv (.int (x ||| y) :: st)) : J X nL Z g k n (pc) lv (.int y :: .int x :: st) := fun H locs ls a b h => lv_ior O.1.1 O.1.2.1 d (kk H locs ls a b h)
theorem j_ixor (O : Ok X cc nL own Z rm) {x y : Int32} (d : decode cc pc = .ok (.ixor, 1)) (kk : J X nL Z g k n (pc + 1) lv (.int (x ^^^ y) :: st)) : J X nL Z g k n (pc) lv (.int y :: .int x :: st) := fun H locs ls a b h => lv_ixor O.1.1 O.1.2.1 d (kk H locs ls a b h)
theorem j_ishl (O : Ok X cc nL own Z rm) {x y : Int32} (d : decode cc pc = .ok (.ishl, 1)) (kk : J X nL Z g k n (pc + 1) lv (.int (x <<< (y &&& 31)) :: st)) : J X nL Z g k n (pc) lv (.int y :: .int x :: st) := fun H locs ls a b h => lv_ishl O.1.1 O.1.2.1 d (kk H locs ls a b h)
theorem j_ishr (O : Ok X cc nL own Z rm) {x y : Int32} (d : decode cc pc = .ok (.ishr, 1)) (kk : J X nL Z g k n (pc + 1) lv (.int (x >>> (y &&& 31)) :: st)) : J X nL Z g k n (pc) lv (.int y :: .int x :: st) := fun H locs ls a b h => lv_ishr O.1.1 O.1.2.1 d (kk H locs ls a b h)
theorem j_ladd (O : Ok X cc nL own Z rm) {x y : Int64} (d : decode cc pc = .ok (.ladd, 1)) (kk : J X nL Z g k n (pc + 1) lv (.long (x + y) :: st)) : J X nL Z g k n (pc) lv (.long y :: .long x :: st) := fun H locs ls a b h => lv_ladd O.1.1 O.1.2.1 d (kk H locs ls a b h)
theorem j_lsub (O : Ok X cc nL own Z rm) {x y : Int64} (d : decode cc pc = .ok (.lsub, 1)) (kk : J X nL Z g k n (pc + 1) lv (.long (x - y) :: st)) : J X nL Z g k n (pc) lv (.long y :: .long x :: st) := fun H locs ls a b h => lv_lsub O.1.1 O.1.2.1 d (kk H locs ls a b h)
theorem j_lmul (O : Ok X cc nL own Z rm) {x y : Int64} (d : decode cc pc = .ok (.lmul, 1)) (kk : J X nL Z g k n (pc + 1) lv (.long (x * y) :: st)) : J X nL Z g k n (pc) lv (.long y :: .long x :: st) := fun H locs ls a b h => lv_lmul O.1.1 O.1.2.1 d (kk H locs ls a b h)
theorem j_land (O : Ok X cc nL own Z rm) {x y : Int64} (d : decode cc pc = .ok (.land, 1)) (kk : J X nL Z g k n (pc + 1) lv (.long (x &&& y) :: st)) : J X nL Z g k n (pc) lv (.long y :: .long x :: st) := fun H locs ls a b h => lv_land O.1.1 O.1.2.1 d (kk H locs ls a b h)
theorem j_lor (O : Ok X cc nL own Z rm) {x y : Int64} (d : decode cc pc = .ok (.lor, 1)) (kk : J X nL Z g k n (pc + 1) lv (.long (x ||| y) :: st)) : J X nL Z g k n (pc) lv (.long y :: .long x :: st) := fun H locs ls a b h => lv_lor O.1.1 O.1.2.1 d (kk H locs ls a b h)
theorem j_lxor (O : Ok X cc nL own Z rm) {x y : Int64} (d : decode cc pc = .ok (.lxor, 1)) (kk : J X nL Z g k n (pc + 1) lv (.long (x ^^^ y) :: st)) : J X nL Z g k n (pc) lv (.long y :: .long x :: st) := fun H locs ls a b h => lv_lxor O.1.1 O.1.2.1 d (kk H locs ls a b h)
theorem j_ineg (O : Ok X cc nL own Z rm) {x : Int32} (d : decode cc pc = .ok (.ineg, 1)) (kk : J X nL Z g k n (pc + 1) lv (.int (-x) :: st)) : J X nL Z g k n (pc) lv (.int x :: st) := fun H locs ls a b h => lv_ineg O.1.1 O.1.2.1 d (kk H locs ls a b h)
theorem j_iushr (O : Ok X cc nL own Z rm) {x y : Int32} (d : decode cc pc = .ok (.iushr, 1)) (kk : J X nL Z g k n (pc + 1) lv (.int ((x.toUInt32 >>> (y.toUInt32 &&& Int32.toUInt32 31)).toInt32) :: st)) : J X nL Z g k n (pc) lv (.int y :: .int x :: st) := fun H locs ls a b h => lv_iushr O.1.1 O.1.2.1 d rfl (kk H locs ls a b h)
theorem j_lushr (O : Ok X cc nL own Z rm) {x : Int64} {y : Int32} (d : decode cc pc = .ok (.lushr, 1)) (kk : J X nL Z g k n (pc + 1) lv (.long ((x.toUInt64 >>> (y.toInt64.toUInt64 &&& Int64.toUInt64 63)).toInt64) :: st)) : J X nL Z g k n (pc) lv (.int y :: .long x :: st) := fun H locs ls a b h => lv_lushr O.1.1 O.1.2.1 d rfl (kk H locs ls a b h)
theorem j_lshl (O : Ok X cc nL own Z rm) {x : Int64} {y : Int32} (d : decode cc pc = .ok (.lshl, 1)) (kk : J X nL Z g k n (pc + 1) lv (.long (x <<< (y.toInt64 &&& 63)) :: st)) : J X nL Z g k n (pc) lv (.int y :: .long x :: st) := fun H locs ls a b h => lv_lshl O.1.1 O.1.2.1 d rfl (kk H locs ls a b h)
theorem j_i2l (O : Ok X cc nL own Z rm) {x : Int32} (d : decode cc pc = .ok (.i2l, 1)) (kk : J X nL Z g k n (pc + 1) lv (.long x.toInt64 :: st)) : J X nL Z g k n (pc) lv (.int x :: st) := fun H locs ls a b h => lv_i2l O.1.1 O.1.2.1 d rfl (kk H locs ls a b h)
theorem j_l2i (O : Ok X cc nL own Z rm) {x : Int64} (d : decode cc pc = .ok (.l2i, 1)) (kk : J X nL Z g k n (pc + 1) lv (.int x.toInt32 :: st)) : J X nL Z g k n (pc) lv (.long x :: st) := fun H locs ls a b h => lv_l2i O.1.1 O.1.2.1 d rfl (kk H locs ls a b h)
theorem j_lcmp (O : Ok X cc nL own Z rm) {x y : Int64} (d : decode cc pc = .ok (.lcmp, 1)) (kk : J X nL Z g k n (pc + 1) lv (.int (lg_cmp x y) :: st)) : J X nL Z g k n (pc) lv (.long y :: .long x :: st) := fun H locs ls a b h => W.lcmp O.1.1 O.1.2.1 d (kk H locs ls a b h)
theorem j_dup (O : Ok X cc nL own Z rm) {va : Value} (d : decode cc pc = .ok (.dup, 1)) (h1 : va.category = 1) (kk : J X nL Z g k n (pc + 1) lv (va :: va :: st)) : J X nL Z g k n (pc) lv (va :: st) := fun H locs ls a b h => lv_dup O.1.1 O.1.2.1 d h1 (kk H locs ls a b h)
theorem j_pop (O : Ok X cc nL own Z rm) {va : Value} (d : decode cc pc = .ok (.pop, 1)) (h1 : va.category = 1) (kk : J X nL Z g k n (pc + 1) lv (st)) : J X nL Z g k n (pc) lv (va :: st) := fun H locs ls a b h => lv_pop O.1.1 O.1.2.1 d h1 (kk H locs ls a b h)
theorem j_pop2 (O : Ok X cc nL own Z rm) {va : Value} (d : decode cc pc = .ok (.pop2, 1)) (h1 : va.category = 2) (kk : J X nL Z g k n (pc + 1) lv (st)) : J X nL Z g k n (pc) lv (va :: st) := fun H locs ls a b h => lv_pop2_2 O.1.1 O.1.2.1 d h1 (kk H locs ls a b h)
theorem j_dup_x1 (O : Ok X cc nL own Z rm) {va vb : Value} (d : decode cc pc = .ok (.dup_x1, 1)) (h1 : va.category = 1) (h2 : vb.category = 1) (kk : J X nL Z g k n (pc + 1) lv (va :: vb :: va :: st)) : J X nL Z g k n (pc) lv (va :: vb :: st) := fun H locs ls a b h => lv_dup_x1 O.1.1 O.1.2.1 d h1 h2 (kk H locs ls a b h)
theorem j_dup2 (O : Ok X cc nL own Z rm) {va vb : Value} (d : decode cc pc = .ok (.dup2, 1)) (h1 : va.category = 1) (h2 : vb.category = 1) (kk : J X nL Z g k n (pc + 1) lv (va :: vb :: va :: vb :: st)) : J X nL Z g k n (pc) lv (va :: vb :: st) := fun H locs ls a b h => lv_dup2_11 O.1.1 O.1.2.1 d h1 h2 (kk H locs ls a b h)
theorem j_if_eq (O : Ok X cc nL own Z rm) {x : Int32} {off : Int} (tgt : Nat) (d : decode cc pc = .ok (.ifCond .eq off, 3)) (ht : (pc : Int) + off = (tgt : Int)) (kt : x = 0 → J X nL Z g k n (tgt) lv (st)) (kf : ¬ x = 0 → J X nL Z g k n (pc + 3) lv (st)) : J X nL Z g k n (pc) lv (.int x :: st) := fun H locs ls a b h => lv_if_eq O.1.1 O.1.2.1 d ht (fun q => kt q H locs ls a b h) (fun q => kf q H locs ls a b h)
theorem j_icmp_eq (O : Ok X cc nL own Z rm) {x y : Int32} {off : Int} (tgt : Nat) (d : decode cc pc = .ok (.if_icmp .eq off, 3)) (ht : (pc : Int) + off = (tgt : Int)) (kt : x = y → J X nL Z g k n (tgt) lv (st)) (kf : ¬ x = y → J X nL Z g k n (pc + 3) lv (st)) : J X nL Z g k n (pc) lv (.int y :: .int x :: st) := fun H locs ls a b h => lv_icmp_eq O.1.1 O.1.2.1 d ht (fun q => kt q H locs ls a b h) (fun q => kf q H locs ls a b h)
theorem j_if_ne (O : Ok X cc nL own Z rm) {x : Int32} {off : Int} (tgt : Nat) (d : decode cc pc = .ok (.ifCond .ne off, 3)) (ht : (pc : Int) + off = (tgt : Int)) (kt : ¬ x = 0 → J X nL Z g k n (tgt) lv (st)) (kf : x = 0 → J X nL Z g k n (pc + 3) lv (st)) : J X nL Z g k n (pc) lv (.int x :: st) := fun H locs ls a b h => lv_if_ne O.1.1 O.1.2.1 d ht (fun q => kt q H locs ls a b h) (fun q => kf q H locs ls a b h)
theorem j_icmp_ne (O : Ok X cc nL own Z rm) {x y : Int32} {off : Int} (tgt : Nat) (d : decode cc pc = .ok (.if_icmp .ne off, 3)) (ht : (pc : Int) + off = (tgt : Int)) (kt : ¬ x = y → J X nL Z g k n (tgt) lv (st)) (kf : x = y → J X nL Z g k n (pc + 3) lv (st)) : J X nL Z g k n (pc) lv (.int y :: .int x :: st) := fun H locs ls a b h => lv_icmp_ne O.1.1 O.1.2.1 d ht (fun q => kt q H locs ls a b h) (fun q => kf q H locs ls a b h)
theorem j_if_lt (O : Ok X cc nL own Z rm) {x : Int32} {off : Int} (tgt : Nat) (d : decode cc pc = .ok (.ifCond .lt off, 3)) (ht : (pc : Int) + off = (tgt : Int)) (kt : x < 0 → J X nL Z g k n (tgt) lv (st)) (kf : ¬ x < 0 → J X nL Z g k n (pc + 3) lv (st)) : J X nL Z g k n (pc) lv (.int x :: st) := fun H locs ls a b h => lv_if_lt O.1.1 O.1.2.1 d ht (fun q => kt q H locs ls a b h) (fun q => kf q H locs ls a b h)
theorem j_icmp_lt (O : Ok X cc nL own Z rm) {x y : Int32} {off : Int} (tgt : Nat) (d : decode cc pc = .ok (.if_icmp .lt off, 3)) (ht : (pc : Int) + off = (tgt : Int)) (kt : x < y → J X nL Z g k n (tgt) lv (st)) (kf : ¬ x < y → J X nL Z g k n (pc + 3) lv (st)) : J X nL Z g k n (pc) lv (.int y :: .int x :: st) := fun H locs ls a b h => lv_icmp_lt O.1.1 O.1.2.1 d ht (fun q => kt q H locs ls a b h) (fun q => kf q H locs ls a b h)
theorem j_if_ge (O : Ok X cc nL own Z rm) {x : Int32} {off : Int} (tgt : Nat) (d : decode cc pc = .ok (.ifCond .ge off, 3)) (ht : (pc : Int) + off = (tgt : Int)) (kt : 0 ≤ x → J X nL Z g k n (tgt) lv (st)) (kf : ¬ 0 ≤ x → J X nL Z g k n (pc + 3) lv (st)) : J X nL Z g k n (pc) lv (.int x :: st) := fun H locs ls a b h => lv_if_ge O.1.1 O.1.2.1 d ht (fun q => kt q H locs ls a b h) (fun q => kf q H locs ls a b h)
theorem j_icmp_ge (O : Ok X cc nL own Z rm) {x y : Int32} {off : Int} (tgt : Nat) (d : decode cc pc = .ok (.if_icmp .ge off, 3)) (ht : (pc : Int) + off = (tgt : Int)) (kt : y ≤ x → J X nL Z g k n (tgt) lv (st)) (kf : ¬ y ≤ x → J X nL Z g k n (pc + 3) lv (st)) : J X nL Z g k n (pc) lv (.int y :: .int x :: st) := fun H locs ls a b h => lv_icmp_ge O.1.1 O.1.2.1 d ht (fun q => kt q H locs ls a b h) (fun q => kf q H locs ls a b h)
theorem j_if_gt (O : Ok X cc nL own Z rm) {x : Int32} {off : Int} (tgt : Nat) (d : decode cc pc = .ok (.ifCond .gt off, 3)) (ht : (pc : Int) + off = (tgt : Int)) (kt : 0 < x → J X nL Z g k n (tgt) lv (st)) (kf : ¬ 0 < x → J X nL Z g k n (pc + 3) lv (st)) : J X nL Z g k n (pc) lv (.int x :: st) := fun H locs ls a b h => lv_if_gt O.1.1 O.1.2.1 d ht (fun q => kt q H locs ls a b h) (fun q => kf q H locs ls a b h)
theorem j_icmp_gt (O : Ok X cc nL own Z rm) {x y : Int32} {off : Int} (tgt : Nat) (d : decode cc pc = .ok (.if_icmp .gt off, 3)) (ht : (pc : Int) + off = (tgt : Int)) (kt : y < x → J X nL Z g k n (tgt) lv (st)) (kf : ¬ y < x → J X nL Z g k n (pc + 3) lv (st)) : J X nL Z g k n (pc) lv (.int y :: .int x :: st) := fun H locs ls a b h => lv_icmp_gt O.1.1 O.1.2.1 d ht (fun q => kt q H locs ls a b h) (fun q => kf q H locs ls a b h)
theorem j_if_le (O : Ok X cc nL own Z rm) {x : Int32} {off : Int} (tgt : Nat) (d : decode cc pc = .ok (.ifCond .le off, 3)) (ht : (pc : Int) + off = (tgt : Int)) (kt : x ≤ 0 → J X nL Z g k n (tgt) lv (st)) (kf : ¬ x ≤ 0 → J X nL Z g k n (pc + 3) lv (st)) : J X nL Z g k n (pc) lv (.int x :: st) := fun H locs ls a b h => lv_if_le O.1.1 O.1.2.1 d ht (fun q => kt q H locs ls a b h) (fun q => kf q H locs ls a b h)
theorem j_icmp_le (O : Ok X cc nL own Z rm) {x y : Int32} {off : Int} (tgt : Nat) (d : decode cc pc = .ok (.if_icmp .le off, 3)) (ht : (pc : Int) + off = (tgt : Int)) (kt : x ≤ y → J X nL Z g k n (tgt) lv (st)) (kf : ¬ x ≤ y → J X nL Z g k n (pc + 3) lv (st)) : J X nL Z g k n (pc) lv (.int y :: .int x :: st) := fun H locs ls a b h => lv_icmp_le O.1.1 O.1.2.1 d ht (fun q => kt q H locs ls a b h) (fun q => kf q H locs ls a b h)
theorem j_goto (O : Ok X cc nL own Z rm) {off : Int} (tgt : Nat) (d : decode cc pc = .ok (.goto off, 3)) (ht : (pc : Int) + off = (tgt : Int)) (kk : J X nL Z g k n (tgt) lv (st)) : J X nL Z g k n (pc) lv (st) := fun H locs ls a b h => lv_goto O.1.1 O.1.2.1 d ht (kk H locs ls a b h)
theorem j_ifnull (O : Ok X cc nL own Z rm) {o : Option Nat} {off : Int} (tgt : Nat) (d : decode cc pc = .ok (.ifnull off, 3)) (ht : (pc : Int) + off = (tgt : Int)) (kt : o = none → J X nL Z g k n (tgt) lv (st)) (kf : ∀ x, o = some x → J X nL Z g k n (pc + 3) lv (st)) : J X nL Z g k n (pc) lv (va_rf o :: st) := by
  intro H locs ls a b h
  cases o with
  | none => exact lv_ifnullN O.1.1 O.1.2.1 d ht (kt rfl H locs ls a b h)
  | some x => exact lv_ifnull O.1.1 O.1.2.1 d (kf x rfl H locs ls a b h)
theorem j_ifnonnull (O : Ok X cc nL own Z rm) {o : Option Nat} {off : Int} (tgt : Nat) (d : decode cc pc = .ok (.ifnonnull off, 3)) (ht : (pc : Int) + off = (tgt : Int)) (kt : ∀ x, o = some x → J X nL Z g k n (tgt) lv (st)) (kf : o = none → J X nL Z g k n (pc + 3) lv (st)) : J X nL Z g k n (pc) lv (va_rf o :: st) := by
  intro H locs ls a b h
  cases o with
  | none => exact lv_ifnonnullN O.1.1 O.1.2.1 d (kf rfl H locs ls a b h)
  | some x => exact lv_ifnonnull O.1.1 O.1.2.1 d ht (kt x rfl H locs ls a b h)
theorem j_acmp_eq (O : Ok X cc nL own Z rm) {rx ry : Option Nat} {off : Int} (tgt : Nat) (d : decode cc pc = .ok (.if_acmp .eq off, 3)) (ht : (pc : Int) + off = (tgt : Int)) (kt : rx = ry → J X nL Z g k n (tgt) lv (st)) (kf : ¬ rx = ry → J X nL Z g k n (pc + 3) lv (st)) : J X nL Z g k n (pc) lv (va_rf ry :: va_rf rx :: st) := fun H locs ls a b h => lv_acmp_eq O.1.1 O.1.2.1 d ht (fun q => kt q H locs ls a b h) (fun q => kf q H locs ls a b h)
theorem j_acmp_ne (O : Ok X cc nL own Z rm) {rx ry : Option Nat} {off : Int} (tgt : Nat) (d : decode cc pc = .ok (.if_acmp .ne off, 3)) (ht : (pc : Int) + off = (tgt : Int)) (kt : ¬ rx = ry → J X nL Z g k n (tgt) lv (st)) (kf : rx = ry → J X nL Z g k n (pc + 3) lv (st)) : J X nL Z g k n (pc) lv (va_rf ry :: va_rf rx :: st) := fun H locs ls a b h => lv_acmp_ne O.1.1 O.1.2.1 d ht (fun q => kt q H locs ls a b h) (fun q => kf q H locs ls a b h)
theorem j_lookup (O : Ok X cc nL own Z rm) {dflt : Int} {ps : Array (Int × Int)} {len : Nat} {x : Int32} {off : Int} (tgt : Nat) (d : decode cc pc = .ok (.lookupswitch dflt ps, len)) (hp : (ps.toList.zip (ps.toList.drop 1)).all (fun (a, next) => a.1 < next.1) = true) (ho : Op.lookupswitch.offset ps.toList dflt x.toInt = off) (ht : (pc : Int) + off = (tgt : Int)) (kk : J X nL Z g k n (tgt) lv (st)) : J X nL Z g k n (pc) lv (.int x :: st) := fun H locs ls a b h => lv_lookup O.1.1 O.1.2.1 d hp ho ht (kk H locs ls a b h)
theorem j_tableOut (O : Ok X cc nL own Z rm) {dflt lo hi : Int} {offs : Array Int} {len : Nat} {x : Int32} (tgt : Nat) (d : decode cc pc = .ok (.tableswitch dflt lo hi offs, len)) (hx : x.toInt < lo ∨ hi < x.toInt) (ht : (pc : Int) + dflt = (tgt : Int)) (kk : J X nL Z g k n (tgt) lv (st)) : J X nL Z g k n (pc) lv (.int x :: st) := fun H locs ls a b h => lv_tableOut O.1.1 O.1.2.1 d hx ht (kk H locs ls a b h)
theorem j_tableIn (O : Ok X cc nL own Z rm) {dflt lo hi : Int} {offs : Array Int} {len : Nat} {x : Int32} {off : Int} (tgt : Nat) (d : decode cc pc = .ok (.tableswitch dflt lo hi offs, len)) (h1 : ¬ x.toInt < lo) (h2 : ¬ hi < x.toInt) (ho : offs[(x.toInt - lo).toNat]? = some off) (ht : (pc : Int) + off = (tgt : Int)) (kk : J X nL Z g k n (tgt) lv (st)) : J X nL Z g k n (pc) lv (.int x :: st) := fun H locs ls a b h => lv_tableIn O.1.1 O.1.2.1 d h1 h2 ho ht (kk H locs ls a b h)
theorem j_topi {x : Int32} (kk : ∀ y : Int32, y = x → J X nL Z g k n (pc) lv (.int y :: st)) : J X nL Z g k n (pc) lv (.int x :: st) := kk x rfl
theorem j_topl {x : Int64} (kk : ∀ y : Int64, y = x → J X nL Z g k n (pc) lv (.long y :: st)) : J X nL Z g k n (pc) lv (.long x :: st) := kk x rfl
theorem j_eqi {x : Int32} (y : Int32) (e : x = y) (kk : J X nL Z g k n (pc) lv (.int y :: st)) : J X nL Z g k n (pc) lv (.int x :: st) := by subst e; exact kk
theorem j_eql {x : Int64} (y : Int64) (e : x = y) (kk : J X nL Z g k n (pc) lv (.long y :: st)) : J X nL Z g k n (pc) lv (.long x :: st) := by subst e; exact kk
theorem j_get (O : Ok X cc nL own Z rm) {ref C : String} {T : u_T} {N ci index : Nat} (hin : ∀ w ∈ u_ws C T N, w ∈ aw) {a : Nat} {fs : List Value} (ha : gAt g a (.inr (ci, fs))) (hc : Z.2.1[ci]? = some (C, T, N)) (f : Nat) (hf : f < N) (hlink : Cond.fieldLink own index ref (T f).2.1 (T f).2.2.1 ∈ aw) (href : (T f).1 = ref) {v : Value} (hv : fs[f]? = some v) (d : decode cc pc = .ok (.getfield index, 3)) (kk : J X nL Z g k n (pc + 3) lv (v :: st)) : J X nL Z g k n (pc) lv (.ref a :: st) := by
  subst href
  intro H locs ls a0 b h
  obtain ⟨q, hq⟩ := ha.k
  exact va_get O.1.1 O.1.2.1 O.1.2.2.2.2 hin O.1.2.2.2.1 O.2.1 a0.1 q hq hc f hf (O.b hlink) (fun _ h9 => h9) hv d (kk H locs ls a0 b h)
theorem j_put (O : Ok X cc nL own Z rm) {ref C : String} {T : u_T} {N ci index : Nat} (hin : ∀ w ∈ u_ws C T N, w ∈ aw) {a : Nat} {fs : List Value} (ha : gAt g a (.inr (ci, fs))) (hc : Z.2.1[ci]? = some (C, T, N)) (f : Nat) (hf : f < N) (hlink : Cond.fieldLink own index ref (T f).2.1 (T f).2.2.1 ∈ aw) (href : (T f).1 = ref) (ty0 : Nat → FieldType) (hty : ∀ k, k < N → parseFieldDescriptor (T k).2.2.1 = some (ty0 k)) (hnm : ∀ a, a < N → ∀ b, b < N → a ≠ b → (T a).2.1 ≠ (T b).2.1) (hfin : (T f).2.2.2 = false) (ty : FieldType) {v : Value} (hd : parseFieldDescriptor (T f).2.2.1 = some ty) (hn : narrow ty v = v) (hfit : fits ty v = true) (hl : f < fs.length) (fs2 : List Value) (hs : fs.set f v = fs2) (d : decode cc pc = .ok (.putfield index, 3)) (kk : ∀ g1 : GH, g1 = gUp g a (.inr (ci, fs2)) → J X nL Z g1 k n (pc + 3) lv (st)) : J X nL Z g k n (pc) lv (v :: .ref a :: st) := by
  subst href
  subst hs
  intro H locs ls a0 b h
  obtain ⟨q, hq⟩ := ha.k
  refine va_put O.1.1 O.1.2.1 O.1.2.2.2.2 hin ty0 hty hnm O.1.2.2.2.1 O.2.1 a0.1 a0.2 b q hq hc f hf (O.b hlink) (fun _ h9 => h9) hfin hd hn hfit hl d (fun H1 locs1 p1 d1 s1 => ?_)
  rw [gSet a0.2 ha hq] at p1 d1
  exact kk _ rfl H1 locs1 ls ⟨p1, d1⟩ s1 h
theorem j_putF (O : Ok X cc nL own Z rm) (hN : On X) {ref C : String} {T : u_T} {N ci index : Nat} (hin : ∀ w ∈ u_ws C T N, w ∈ aw) {a : Nat} {fs : List Value} (ha : gAt g a (.inr (ci, fs))) (hc : Z.2.1[ci]? = some (C, T, N)) (f : Nat) (hf : f < N) (hlink : Cond.fieldLink own index ref (T f).2.1 (T f).2.2.1 ∈ aw) (href : (T f).1 = ref) (ty0 : Nat → FieldType) (hty : ∀ k, k < N → parseFieldDescriptor (T k).2.2.1 = some (ty0 k)) (hnm : ∀ a, a < N → ∀ b, b < N → a ≠ b → (T a).2.1 ≠ (T b).2.1) (hfin : (T f).2.2.2 = true) (hdecl : (T f).1 = own) (ty : FieldType) {v : Value} (hd : parseFieldDescriptor (T f).2.2.1 = some ty) (hn : narrow ty v = v) (hfit : fits ty v = true) (hl : f < fs.length) (fs2 : List Value) (hs : fs.set f v = fs2) (d : decode cc pc = .ok (.putfield index, 3)) (kk : ∀ g1 : GH, g1 = gUp g a (.inr (ci, fs2)) → J X nL Z g1 k n (pc + 3) lv (st)) : J X nL Z g k n (pc) lv (v :: .ref a :: st) := by
  subst href
  subst hs
  intro H locs ls a0 b h
  obtain ⟨q, hq⟩ := ha.k
  refine va_putF O.1.1 O.1.2.1 O.1.2.2.2.2 hin ty0 hty hnm O.1.2.2.2.1 O.2.1 a0.1 a0.2 b q hq hc f hf (O.b hlink) (fun _ h9 => h9) hfin hN hdecl hd hn hfit hl d (fun H1 locs1 p1 d1 s1 => ?_)
  rw [gSet a0.2 ha hq] at p1 d1
  exact kk _ rfl H1 locs1 ls ⟨p1, d1⟩ s1 h
theorem j_new (O : Ok X cc nL own Z rm) {C : String} {T : u_T} {N ci index : Nat} (hin : ∀ w ∈ u_ws C T N, w ∈ aw) (ty : Nat → FieldType) (hty : ∀ k, k < N → parseFieldDescriptor (T k).2.2.1 = some (ty k)) (hcl : Cond.classLink own index C ∈ aw) (hinst : Cond.instantiable C N ∈ aw) (hini : Cond.initialized C ∈ aw) (hc : Z.2.1[ci]? = some (C, T, N)) (fs : List Value) (hfs : ∀ j, j < N → defaultValue (ty j) = vp_V fs j) (hcells : k + 1 ≤ rm.cells) (hslots : n + N ≤ rm.slots) (d : decode cc pc = .ok (.new index, 3)) (kk : ∀ (q : Nat) (g1 : GH), q ∉ g.1 → g1 = gNew g q (.inr (ci, fs)) → J X nL Z g1 (k + 1) (n + N) (pc + 3) lv (.ref q :: st)) : J X nL Z g k n (pc) lv (st) := by
  intro H locs ls a0 b h
  refine va_new O.1.1 O.1.2.1 O.1.2.2.2.2 hin ty hty O.1.2.2.2.1 (O.b hcl) (O.b hinst) (O.b hini) O.2.1 a0.1 a0.2 b O.A hc hfs (by rw [O.2.2.2.1]; exact hcells) (by rw [O.2.2.2.1]; exact hslots) d (fun q H1 p1 d1 s1 => ?_)
  have hq := gPush d1
  rw [va_pl_push hq] at p1 d1
  exact kk q _ hq rfl H1 locs ls ⟨p1, d1⟩ s1 h
theorem j_newa (O : Ok X cc nL own Z rm) {atype : ArrayType} (harr : Cond.arrayClass (newarray.typeOf atype) ∈ aw) (ty : FieldType) (hty : newarray.typeOf atype = ty) (t0 : Nat) {cA : ClassId} (ht : Z.2.2.1[t0]? = some (cA, ty)) (hob : va_RA X.2.2.2.2.1 cA ty = (X.2.2.2.2.1.vm.findClass ("[" ++ ty.toString) = some cA)) {i : Int32} (N : Nat) (a0 : vp_A) (ha : ∀ cA : ClassId, vp_cell cA a0 = arrV cA N (fun _ => defaultValue ty)) (hn : ¬ i < 0) (hN : i.toNatClampNeg = N) (hbytes : N * componentBytes ty ≤ 536870912) (hcells : k + 1 ≤ rm.cells) (hslots : n + N ≤ rm.slots) (d : decode cc pc = .ok (.newarray atype, 2)) (kk : ∀ (q : Nat) (g1 : GH), q ∉ g.1 → g1 = gNew g q (.inl (cA, a0)) → J X nL Z g1 (k + 1) (n + N) (pc + 2) lv (.ref q :: st)) : J X nL Z g k n (pc) lv (.int i :: st) := by
  intro H locs ls a1 b h
  have hK := O.2.1.2 t0 _ ht
  rw [hob] at hK
  refine va_newa O.1.1 O.1.2.1 (O.b harr) hty O.2.1 a1.1 a1.2 b O.A ha hn hN hbytes (by rw [O.2.2.2.1]; exact hcells) (by rw [O.2.2.2.1]; exact hslots) d (fun q c2 H1 k1 p1 d1 s1 => ?_)
  have hk := (k1.2 Z.2.2.1.length (c2, ty) (by simp)).2
  have he : c2 = cA := by
    subst hty
    have hk' : X.2.2.2.2.1.vm.findClass ("[" ++ (newarray.typeOf atype).toString) = some c2 := by cases atype <;> exact hk
    exact Option.some.inj (hk'.symm.trans hK.2)
  subst he
  have hq := gPush d1
  rw [va_pl_push hq] at p1 d1
  exact kk q _ hq rfl H1 locs ls ⟨p1, d1⟩ s1 h
theorem j_newq (O : Ok X cc nL own Z rm) {C : String} {index : Nat} (hcl : Cond.classLink own index C ∈ aw) (hover : Cond.arrayOver (.object C) ∈ Z.2.2.2.1) (t0 : Nat) {cA : ClassId} (ht : Z.2.2.1[t0]? = some (cA, .object C)) {i : Int32} (N : Nat) (hn : ¬ i < 0) (hN : i.toNatClampNeg = N) (hbytes : N * 4 ≤ 536870912) (hcells : k + 1 ≤ rm.cells) (hslots : n + N ≤ rm.slots) (d : decode cc pc = .ok (.anewarray index, 3)) (kk : ∀ (q : Nat) (g1 : GH), q ∉ g.1 → g1 = gNew g q (.inl (cA, N, .inr (.inr (.inr (.inr (fun _ => none)))))) → J X nL Z g1 (k + 1) (n + N) (pc + 3) lv (.ref q :: st)) : J X nL Z g k n (pc) lv (.int i :: st) := by
  intro H locs ls a1 b h
  obtain ⟨kA, comp, -, -, -, hf⟩ := (O.2.1.2 t0 _ ht).2
  refine va_newq O.1.1 O.1.2.1 O.1.2.2.2.1 (O.b hcl) (va_AO.of (O.2.2.2.2 _ hover).2.2) O.2.1 a1.1 a1.2 b O.A hn hN hbytes (by rw [O.2.2.2.1]; exact hcells) (by rw [O.2.2.2.1]; exact hslots) d (fun q c2 H1 k1 p1 d1 s1 => ?_)
  obtain ⟨kB, comp2, -, -, -, hf2⟩ := (k1.2 Z.2.2.1.length (c2, .object C) (by simp)).2
  have he : c2 = cA := Option.some.inj (hf2.symm.trans hf)
  subst he
  have hq := gPush d1
  rw [va_pl_push hq] at p1 d1
  exact kk q _ hq rfl H1 locs ls ⟨p1, d1⟩ s1 h
theorem j_alen (O : Ok X cc nL own Z rm) {a : Nat} {cA : ClassId} {x : vp_A} (ha : gAt g a (.inl (cA, x))) (t0 : Nat) {ty : FieldType} (ht : Z.2.2.1[t0]? = some (cA, ty)) (d : decode cc pc = .ok (.arraylength, 1)) (kk : J X nL Z g k n (pc + 1) lv (.int (nI x.1) :: st)) : J X nL Z g k n (pc) lv (.ref a :: st) := by
  intro H locs ls a0 b h
  obtain ⟨q, hq⟩ := ha.k
  exact va_alen O.1.1 O.1.2.1 O.2.1 a0.1 q t0 hq ht rfl d (kk H locs ls a0 b h)
theorem j_iaload (O : Ok X cc nL own Z rm) {a : Nat} {cA : ClassId} {N : Nat} {f : Nat → Int32} (ha : gAt g a (.inl (cA, N, .inl f))) (t0 : Nat) (ht : Z.2.2.1[t0]? = some (cA, .int)) {i : Int32} (hi : vp_in i N) (d : decode cc pc = .ok (.iaload, 1)) (kk : J X nL Z g k n (pc + 1) lv (.int (f i.toNatClampNeg) :: st)) : J X nL Z g k n (pc) lv (.int i :: .ref a :: st) := by
  intro H locs ls a0 b h
  obtain ⟨q, hq⟩ := ha.k
  exact va_iald O.1.1 O.1.2.1 O.2.1 a0.1 q t0 hq ht hi d (kk H locs ls a0 b h)
theorem j_laload (O : Ok X cc nL own Z rm) {a : Nat} {cA : ClassId} {N : Nat} {f : Nat → Int64} (ha : gAt g a (.inl (cA, N, .inr (.inl f)))) (t0 : Nat) (ht : Z.2.2.1[t0]? = some (cA, .long)) {i : Int32} (hi : vp_in i N) (d : decode cc pc = .ok (.laload, 1)) (kk : J X nL Z g k n (pc + 1) lv (.long (f i.toNatClampNeg) :: st)) : J X nL Z g k n (pc) lv (.int i :: .ref a :: st) := by
  intro H locs ls a0 b h
  obtain ⟨q, hq⟩ := ha.k
  exact va_lald O.1.1 O.1.2.1 O.2.1 a0.1 q t0 hq ht hi d (kk H locs ls a0 b h)
theorem j_zaload (O : Ok X cc nL own Z rm) {a : Nat} {cA : ClassId} {N : Nat} {f : Nat → Int32} (ha : gAt g a (.inl (cA, N, .inl f))) (t0 : Nat) (ht : Z.2.2.1[t0]? = some (cA, .boolean)) {i : Int32} (hi : vp_in i N) (d : decode cc pc = .ok (.baload, 1)) (kk : J X nL Z g k n (pc + 1) lv (.int (f i.toNatClampNeg) :: st)) : J X nL Z g k n (pc) lv (.int i :: .ref a :: st) := by
  intro H locs ls a0 b h
  obtain ⟨q, hq⟩ := ha.k
  exact va_zald O.1.1 O.1.2.1 O.2.1 a0.1 q t0 hq ht hi d (kk H locs ls a0 b h)
theorem j_aaload (O : Ok X cc nL own Z rm) {a : Nat} {cA : ClassId} {C : String} {N : Nat} {f : Nat → Option Nat} (ha : gAt g a (.inl (cA, N, .inr (.inr (.inr (.inr f)))))) (t0 : Nat) (ht : Z.2.2.1[t0]? = some (cA, .object C)) {i : Int32} (hi : vp_in i N) (d : decode cc pc = .ok (.aaload, 1)) (kk : J X nL Z g k n (pc + 1) lv (va_rf (f i.toNatClampNeg) :: st)) : J X nL Z g k n (pc) lv (.int i :: .ref a :: st) := by
  intro H locs ls a0 b h
  obtain ⟨q, hq⟩ := ha.k
  exact va_aldq O.1.1 O.1.2.1 O.2.1 a0.1 q t0 hq ht hi d (kk H locs ls a0 b h)
theorem j_iastore (O : Ok X cc nL own Z rm) {a : Nat} {cA : ClassId} {N : Nat} {f : Nat → Int32} (ha : gAt g a (.inl (cA, N, .inl f))) (t0 : Nat) (ht : Z.2.2.1[t0]? = some (cA, .int)) {i : Int32} {x : Int32} (hi : vp_in i N) (d : decode cc pc = .ok (.iastore, 1)) (kk : ∀ g1 : GH, g1 = gUp g a (.inl (cA, N, .inl (upd f i.toNatClampNeg x))) → J X nL Z g1 k n (pc + 1) lv (st)) : J X nL Z g k n (pc) lv (.int x :: .int i :: .ref a :: st) := by
  intro H locs ls a0 b h
  obtain ⟨q, hq⟩ := ha.k
  refine va_iast O.1.1 O.1.2.1 O.2.1 a0.1 a0.2 b q t0 hq ht hi d (fun H1 locs1 p1 d1 s1 => ?_)
  rw [gSet a0.2 ha hq] at p1 d1
  exact kk _ rfl H1 locs1 ls ⟨p1, d1⟩ s1 h
theorem j_lastore (O : Ok X cc nL own Z rm) {a : Nat} {cA : ClassId} {N : Nat} {f : Nat → Int64} (ha : gAt g a (.inl (cA, N, .inr (.inl f)))) (t0 : Nat) (ht : Z.2.2.1[t0]? = some (cA, .long)) {i : Int32} {x : Int64} (hi : vp_in i N) (d : decode cc pc = .ok (.lastore, 1)) (kk : ∀ g1 : GH, g1 = gUp g a (.inl (cA, N, .inr (.inl (vp_updL f i.toNatClampNeg x)))) → J X nL Z g1 k n (pc + 1) lv (st)) : J X nL Z g k n (pc) lv (.long x :: .int i :: .ref a :: st) := by
  intro H locs ls a0 b h
  obtain ⟨q, hq⟩ := ha.k
  refine va_last O.1.1 O.1.2.1 O.2.1 a0.1 a0.2 b q t0 hq ht hi d (fun H1 locs1 p1 d1 s1 => ?_)
  rw [gSet a0.2 ha hq] at p1 d1
  exact kk _ rfl H1 locs1 ls ⟨p1, d1⟩ s1 h
theorem j_zastore (O : Ok X cc nL own Z rm) {a : Nat} {cA : ClassId} {N : Nat} {f : Nat → Int32} (ha : gAt g a (.inl (cA, N, .inl f))) (t0 : Nat) (ht : Z.2.2.1[t0]? = some (cA, .boolean)) {i : Int32} {x : Int32} (hi : vp_in i N) (d : decode cc pc = .ok (.bastore, 1)) (kk : ∀ g1 : GH, g1 = gUp g a (.inl (cA, N, .inl (upd f i.toNatClampNeg (vp_nar .boolean x)))) → J X nL Z g1 k n (pc + 1) lv (st)) : J X nL Z g k n (pc) lv (.int x :: .int i :: .ref a :: st) := by
  intro H locs ls a0 b h
  obtain ⟨q, hq⟩ := ha.k
  refine va_zast O.1.1 O.1.2.1 O.2.1 a0.1 a0.2 b q t0 hq ht hi d (fun H1 locs1 p1 d1 s1 => ?_)
  rw [gSet a0.2 ha hq] at p1 d1
  exact kk _ rfl H1 locs1 ls ⟨p1, d1⟩ s1 h
theorem j_aastore (O : Ok X cc nL own Z rm) {a : Nat} {cA : ClassId} {N : Nat} {f : Nat → Option Nat} (ha : gAt g a (.inl (cA, N, .inr (.inr (.inr (.inr f)))))) (t0 : Nat) {r : vw_C} (ht : Z.2.2.1[t0]? = some (cA, .object r.1)) {v ci : Nat} {vs : List Value} (hv : gAt g v (.inr (ci, vs))) (hc : Z.2.1[ci]? = some r) {i : Int32} (hi : vp_in i N) (d : decode cc pc = .ok (.aastore, 1)) (kk : ∀ g1 : GH, g1 = gUp g a (.inl (cA, N, .inr (.inr (.inr (.inr (va_up f i.toNatClampNeg (some v))))))) → J X nL Z g1 k n (pc + 1) lv (st)) : J X nL Z g k n (pc) lv (.ref v :: .int i :: .ref a :: st) := by
  intro H locs ls a0 b h
  obtain ⟨q, hq⟩ := ha.k
  obtain ⟨q2, hq2⟩ := hv.k
  refine va_astq O.1.1 O.1.2.1 O.2.1 a0.1 a0.2 b q t0 q2 ci hq ht hq2 hc hi d (fun H1 locs1 p1 d1 s1 => ?_)
  rw [gSet a0.2 ha hq] at p1 d1
  exact kk _ rfl H1 locs1 ls ⟨p1, d1⟩ s1 h
theorem j_aastoreN (O : Ok X cc nL own Z rm) {a : Nat} {cA : ClassId} {N : Nat} {f : Nat → Option Nat} (ha : gAt g a (.inl (cA, N, .inr (.inr (.inr (.inr f)))))) (t0 : Nat) {C : String} (ht : Z.2.2.1[t0]? = some (cA, .object C)) {i : Int32} (hi : vp_in i N) (d : decode cc pc = .ok (.aastore, 1)) (kk : ∀ g1 : GH, g1 = gUp g a (.inl (cA, N, .inr (.inr (.inr (.inr (va_up f i.toNatClampNeg none)))))) → J X nL Z g1 k n (pc + 1) lv (st)) : J X nL Z g k n (pc) lv (.null :: .int i :: .ref a :: st) := by
  intro H locs ls a0 b h
  obtain ⟨q, hq⟩ := ha.k
  refine va_astqN O.1.1 O.1.2.1 O.2.1 a0.1 a0.2 b q t0 hq ht hi d (fun H1 locs1 p1 d1 s1 => ?_)
  rw [gSet a0.2 ha hq] at p1 d1
  exact kk _ rfl H1 locs1 ls ⟨p1, d1⟩ s1 h
theorem j_iald (O : Ok X cc nL own Z rm) {a : Nat} {cA : ClassId} {N : Nat} {f : Nat → Int32} (ha : gAt g a (.inl (cA, N, .inl f))) (t0 : Nat) (ht : Z.2.2.1[t0]? = some (cA, .int)) {i : Nat} (hi : i < N) (hN : N < 2 ^ 31) (d : decode cc pc = .ok (.iaload, 1)) (kk : J X nL Z g k n (pc + 1) lv (.int (f i) :: st)) : J X nL Z g k n (pc) lv (.int (nI i) :: .ref a :: st) := by
  refine j_iaload O ha t0 ht (vp_in_nI hi hN) d ?_
  rw [nI_clamp (by omega)]
  exact kk
theorem j_lald (O : Ok X cc nL own Z rm) {a : Nat} {cA : ClassId} {N : Nat} {f : Nat → Int64} (ha : gAt g a (.inl (cA, N, .inr (.inl f)))) (t0 : Nat) (ht : Z.2.2.1[t0]? = some (cA, .long)) {i : Nat} (hi : i < N) (hN : N < 2 ^ 31) (d : decode cc pc = .ok (.laload, 1)) (kk : J X nL Z g k n (pc + 1) lv (.long (f i) :: st)) : J X nL Z g k n (pc) lv (.int (nI i) :: .ref a :: st) := by
  refine j_laload O ha t0 ht (vp_in_nI hi hN) d ?_
  rw [nI_clamp (by omega)]
  exact kk
theorem j_zald (O : Ok X cc nL own Z rm) {a : Nat} {cA : ClassId} {N : Nat} {f : Nat → Int32} (ha : gAt g a (.inl (cA, N, .inl f))) (t0 : Nat) (ht : Z.2.2.1[t0]? = some (cA, .boolean)) {i : Nat} (hi : i < N) (hN : N < 2 ^ 31) (d : decode cc pc = .ok (.baload, 1)) (kk : J X nL Z g k n (pc + 1) lv (.int (f i) :: st)) : J X nL Z g k n (pc) lv (.int (nI i) :: .ref a :: st) := by
  refine j_zaload O ha t0 ht (vp_in_nI hi hN) d ?_
  rw [nI_clamp (by omega)]
  exact kk
theorem j_aald (O : Ok X cc nL own Z rm) {a : Nat} {cA : ClassId} {C : String} {N : Nat} {f : Nat → Option Nat} (ha : gAt g a (.inl (cA, N, .inr (.inr (.inr (.inr f)))))) (t0 : Nat) (ht : Z.2.2.1[t0]? = some (cA, .object C)) {i : Nat} (hi : i < N) (hN : N < 2 ^ 31) (d : decode cc pc = .ok (.aaload, 1)) (kk : J X nL Z g k n (pc + 1) lv (va_rf (f i) :: st)) : J X nL Z g k n (pc) lv (.int (nI i) :: .ref a :: st) := by
  refine j_aaload O ha t0 ht (vp_in_nI hi hN) d ?_
  rw [nI_clamp (by omega)]
  exact kk
theorem j_iast (O : Ok X cc nL own Z rm) {a : Nat} {cA : ClassId} {N : Nat} {f : Nat → Int32} (ha : gAt g a (.inl (cA, N, .inl f))) (t0 : Nat) (ht : Z.2.2.1[t0]? = some (cA, .int)) {i : Nat} (hi : i < N) (hN : N < 2 ^ 31) {x : Int32} (d : decode cc pc = .ok (.iastore, 1)) (kk : ∀ g1 : GH, g1 = gUp g a (.inl (cA, N, .inl (upd f i x))) → J X nL Z g1 k n (pc + 1) lv (st)) : J X nL Z g k n (pc) lv (.int x :: .int (nI i) :: .ref a :: st) := by
  refine j_iastore O ha t0 ht (vp_in_nI hi hN) d (fun g1 e => kk g1 ?_)
  rw [nI_clamp (by omega)] at e
  exact e
theorem j_last (O : Ok X cc nL own Z rm) {a : Nat} {cA : ClassId} {N : Nat} {f : Nat → Int64} (ha : gAt g a (.inl (cA, N, .inr (.inl f)))) (t0 : Nat) (ht : Z.2.2.1[t0]? = some (cA, .long)) {i : Nat} (hi : i < N) (hN : N < 2 ^ 31) {x : Int64} (d : decode cc pc = .ok (.lastore, 1)) (kk : ∀ g1 : GH, g1 = gUp g a (.inl (cA, N, .inr (.inl (vp_updL f i x)))) → J X nL Z g1 k n (pc + 1) lv (st)) : J X nL Z g k n (pc) lv (.long x :: .int (nI i) :: .ref a :: st) := by
  refine j_lastore O ha t0 ht (vp_in_nI hi hN) d (fun g1 e => kk g1 ?_)
  rw [nI_clamp (by omega)] at e
  exact e
theorem j_aast (O : Ok X cc nL own Z rm) {a : Nat} {cA : ClassId} {N : Nat} {f : Nat → Option Nat} (ha : gAt g a (.inl (cA, N, .inr (.inr (.inr (.inr f)))))) (t0 : Nat) {r : vw_C} (ht : Z.2.2.1[t0]? = some (cA, .object r.1)) {v ci : Nat} {vs : List Value} (hv : gAt g v (.inr (ci, vs))) (hc : Z.2.1[ci]? = some r) {i : Nat} (hi : i < N) (hN : N < 2 ^ 31) (d : decode cc pc = .ok (.aastore, 1)) (kk : ∀ g1 : GH, g1 = gUp g a (.inl (cA, N, .inr (.inr (.inr (.inr (va_up f i (some v))))))) → J X nL Z g1 k n (pc + 1) lv (st)) : J X nL Z g k n (pc) lv (.ref v :: .int (nI i) :: .ref a :: st) := by
  refine j_aastore O ha t0 ht hv hc (vp_in_nI hi hN) d (fun g1 e => kk g1 ?_)
  rw [nI_clamp (by omega)] at e
  exact e
theorem j_aastN (O : Ok X cc nL own Z rm) {a : Nat} {cA : ClassId} {N : Nat} {f : Nat → Option Nat} (ha : gAt g a (.inl (cA, N, .inr (.inr (.inr (.inr f)))))) (t0 : Nat) {C : String} (ht : Z.2.2.1[t0]? = some (cA, .object C)) {i : Nat} (hi : i < N) (hN : N < 2 ^ 31) (d : decode cc pc = .ok (.aastore, 1)) (kk : ∀ g1 : GH, g1 = gUp g a (.inl (cA, N, .inr (.inr (.inr (.inr (va_up f i none)))))) → J X nL Z g1 k n (pc + 1) lv (st)) : J X nL Z g k n (pc) lv (.null :: .int (nI i) :: .ref a :: st) := by
  refine j_aastoreN O ha t0 ht (vp_in_nI hi hN) d (fun g1 e => kk g1 ?_)
  rw [nI_clamp (by omega)] at e
  exact e
theorem j_objInit (O : Ok X cc nL own Z rm) {idx : Nat} (hlink : Cond.methodLink own idx objectInit ∈ aw) (hinst : Cond.instanceMethod objectInit ∈ aw) (hcode : Cond.code objectInit ⟨#[0xb1]⟩ 1 none ∈ aw) {a : Nat} (d : decode cc pc = .ok (.invokespecial idx, 3)) (hfr : 1 ≤ rm.frames) (hlo : (st.map fun v => v.category).sum + 12 ≤ rm.locals) (kk : J X nL Z g k n (pc + 3) lv (st)) : J X nL Z g k n (pc) lv (.ref a :: st) := by
  intro H locs ls a0 b h
  exact W.objInit O.1.1 O.1.2.1 O.1.2.2.2.1 (O.b hlink) (O.b hinst) (O.b hcode) (g := F0 X.2.2.2.2.2.1 pc ls (.ref a :: st)) rfl (h.1.trans O.1.2.2.1.symm) rfl d (by rw [O.2.2.2.1]; exact hfr) (by rw [O.2.2.2.1]; show 2 * 0 + _ + 12 ≤ _; omega) (kk H locs ls a0 b h)
theorem j_run (O : Ok X cc nL own Z rm) {mc ms : Nat} {post : Option Value → GH → Prop} {a : Array Value} {st0 : List Value} (hr : ∀ (H : Heap) (locs : List Loc) (ls : Array Slot), gW Z g H → va_S (zA Z) X.2.2.2.2.1.heap H locs → lv_has ls nL lv → va_Run X.1 X.2.1 X.2.2.1 X.2.2.2.1 X.2.2.2.2.1 X.2.2.2.2.2.1 X.2.2.2.2.2.2.1 X.2.2.2.2.2.2.2.1 X.2.2.2.2.2.2.2.2.1 X.2.2.2.2.2.2.2.2.2.1 H locs k n mc ms (F0 X.2.2.2.2.2.1 pc ls st0) st (jQ Z post a) (zA Z)) (kk : ∀ (v : Option Value) (g' : GH), post v g' → J X nL Z g' (k + mc) (n + ms) (pc + 3) lv (v.toList ++ st)) : J X nL Z g k n (pc) lv (st0) := by
  intro H locs ls a0 b h T hT X0
  obtain ⟨v, s0, t, T', L, h0, X', hL, e1, e2, ⟨⟨v', g', hv, hp, hb⟩, hz, hk⟩, sx⟩ := hr H locs ls a0 b h T hT X0
  cases hv
  rw [h0] at hz hk
  obtain ⟨t2, a1, b1⟩ := kk v g' hp T'.heap (locs ++ L) ls (by rw [e1]; exact hb) ⟨Nat.le_trans b.1 (by rw [e1]; exact hz), fun q h1 h2 => by rw [e1, hk q (Nat.lt_of_lt_of_le h1 b.1) h2]; exact b.2.1 q h1 h2, fun q hq => by
      rcases List.mem_append.mp hq with h | h
      · exact b.2.2 q h
      · exact hL q h⟩ h T' rfl X'
  exact ⟨t2, sx t2 a1, b1⟩
theorem Ok.pre (O : Ok X cc nL own Z rm) {H : Heap} {locs : List Loc} (a0 : gW Z g H) (b : va_S (zA Z) X.2.2.2.2.1.heap H locs) {av : List Value} (U : State) (hU : U.heap = H) (hW : X.2.2.2.2.1.WarmedH U.vm) : va_Pc av (gB Z g) av.toArray U :=
  ⟨rfl, by rw [hU]; exact a0, va_K.moved hW.alike O.2.1, fun q h => O.2.2.1 q (Nat.le_trans b.1 (by rw [← hU]; exact h)), O.2.2.2.2.warm hW⟩
theorem j_callS (O : Ok X cc nL own Z rm) {y : MethodName} {bytes : ByteArray} {maxL mc ms index : Nat} {ret : Option FieldType} {rm2 : Room} {post : Option Value → GH → Prop} (As : List Value) (hM : Ct X.2.1 y (.code y bytes maxL ret :: aw) rm2 Z As g mc ms post) (hml : Cond.methodLink own index y ∈ aw) (hst1 : Cond.static y ∈ aw) (hini : Cond.initialized y.cls ∈ aw) (hcd : Cond.code y bytes maxL ret ∈ aw) (hrc : rm2.cells = mc) (hrs : rm2.slots = ms) (hd : y.cls ≠ "java/lang/invoke/MethodHandle" ∧ y.cls ≠ "java/lang/invoke/VarHandle" ∧ (parseMethodDescriptor y.desc).map (fun d => d.parameters.length) = some As.length) (hR : rm2.frames + 1 ≤ rm.frames ∧ 8 + (maxL + 11) + rm2.locals ≤ rm.locals) {st0 : List Value} (hst : st0 = As.reverse ++ st) (hs : (st.map fun v => v.category).sum ≤ 8) (d : decode cc pc = .ok (.invokestatic index, 3)) (hcs : k + mc ≤ rm.cells ∧ n + ms ≤ rm.slots) (kk : ∀ (v : Option Value) (g' : GH), post v g' → J X nL Z g' (k + mc) (n + ms) (pc + 3) lv (v.toList ++ st)) : J X nL Z g k n (pc) lv (st0) := by
  refine j_run O (a := As.toArray) (fun H locs ls a0 b h => ?_) kk
  exact va_runS (As := As) (rest := st) O.1 hM (va_cwS As.length O.1.2.2.2.2 (gWs hml hst1 hini hcd) rfl hrc hrs hd (by rw [O.2.2.2.1]; exact hR)) ⟨fun a U fr mk q => ⟨q.1, q.2.blind⟩, fun U hU hW => O.pre a0 b U hU hW⟩ rfl rfl h.1 hst (lv_room hs) d (by rw [O.2.2.2.1]; exact hcs)
theorem j_callV (O : Ok X cc nL own Z rm) {y : MethodName} {bytes : ByteArray} {maxL mc ms index : Nat} {ret : Option FieldType} {rm2 : Room} {post : Option Value → GH → Prop} {C : String} {b0 ci : Nat} {T : u_T} {N : Nat} {fs : List Value} (As : List Value) (hM : Ct X.2.1 y (.code y bytes maxL ret :: aw) rm2 Z (.ref b0 :: As) g mc ms post) (ha : gAt g b0 (.inr (ci, fs))) (hc : Z.2.1[ci]? = some (C, T, N)) (hml : Cond.methodLink own index y ∈ aw) (him : Cond.instanceMethod y ∈ aw) (hsel : Cond.selects C y y ∈ aw) (hini : Cond.initialized C ∈ aw) (hcd : Cond.code y bytes maxL ret ∈ aw) (hrc : rm2.cells = mc) (hrs : rm2.slots = ms) (hd : y.cls = C ∧ y.cls ≠ "java/lang/invoke/MethodHandle" ∧ y.cls ≠ "java/lang/invoke/VarHandle" ∧ (parseMethodDescriptor y.desc).map (fun d => d.parameters.length) = some As.length) (hR : rm2.frames + 1 ≤ rm.frames ∧ 8 + (maxL + 11) + rm2.locals ≤ rm.locals) {st0 : List Value} (hst : st0 = As.reverse ++ .ref b0 :: st) (hs : (st.map fun v => v.category).sum ≤ 8) (d : decode cc pc = .ok (.invokevirtual index, 3)) (hcs : k + mc ≤ rm.cells ∧ n + ms ≤ rm.slots) (kk : ∀ (v : Option Value) (g' : GH), post v g' → J X nL Z g' (k + mc) (n + ms) (pc + 3) lv (v.toList ++ st)) : J X nL Z g k n (pc) lv (st0) := by
  refine j_run O (a := (Value.ref b0 :: As).toArray) (fun H locs ls a0 b h => ?_) kk
  obtain ⟨q, hq⟩ := ha.k
  exact va_runV (As := As) (rest := st) O.1 hM (cwV As.length O.1.2.2.2.2 (gWv hml him hsel hini hcd) rfl hrc hrs hd (by rw [O.2.2.2.1]; exact hR)) ⟨fun a U fr mk q => ⟨q.1, q.2.blind⟩, va_recv O.2.1 a0.1 hc hq, fun U hU hW => O.pre a0 b U hU hW⟩ rfl rfl h.1 hst (lv_room hs) d (by rw [O.2.2.2.1]; exact hcs)
theorem j_callI (O : Ok X cc nL own Z rm) {y : MethodName} {bytes : ByteArray} {maxL mc ms index : Nat} {rm2 : Room} {post : Option Value → GH → Prop} {b0 : Nat} (As : List Value) (hM : Ct X.2.1 y (.code y bytes maxL none :: aw) rm2 Z (.ref b0 :: As) g mc ms post) (hcd : Cond.code y bytes maxL none ∈ aw) (hrc : rm2.cells = mc) (hrs : rm2.slots = ms) (hini : Cond.initialized y.cls ∈ aw) (hml : Cond.methodLink own index y ∈ aw) (him : Cond.instanceMethod y ∈ aw) (hy1 : y.name = "<init>") (hd : y.cls ≠ "java/lang/invoke/MethodHandle" ∧ y.cls ≠ "java/lang/invoke/VarHandle" ∧ (parseMethodDescriptor y.desc).map (fun d => d.parameters.length) = some As.length) (hR : rm2.frames + 1 ≤ rm.frames ∧ 8 + (maxL + 11) + rm2.locals ≤ rm.locals) {st0 : List Value} (hst : st0 = As.reverse ++ .ref b0 :: st) (hs : (st.map fun v => v.category).sum ≤ 8) (d : decode cc pc = .ok (.invokespecial index, 3)) (hcs : k + mc ≤ rm.cells ∧ n + ms ≤ rm.slots) (kk : ∀ (v : Option Value) (g' : GH), post v g' → J X nL Z g' (k + mc) (n + ms) (pc + 3) lv (v.toList ++ st)) : J X nL Z g k n (pc) lv (st0) := by
  refine j_run O (a := (Value.ref b0 :: As).toArray) (fun H locs ls a0 b h => ?_) kk
  exact va_runI (As := As) (rest := st) O.1 hM (cwI As.length O.1.2.2.2.2 (gWc hcd) rfl hrc hrs (O.b hini) (O.b hml) (O.b him) hy1 hd (by rw [O.2.2.2.1]; exact hR)) ⟨fun a U fr mk q => ⟨q.1, q.2.blind⟩, fun U hU hW => O.pre a0 b U hU hW⟩ rfl rfl h.1 hst (lv_room hs) d (by rw [O.2.2.2.1]; exact hcs)
theorem j_callSN (O : Ok X cc nL own Z rm) {y : MethodName} {bytes : ByteArray} {maxL mc ms index : Nat} {ret : Option FieldType} {rm2 : Room} {post : Option Value → GH → Prop} {host : String} (As : List Value) (hM : Ct X.2.1 y (.code y bytes maxL ret :: aw) rm2 Z As g mc ms post) (hcd : Cond.code y bytes maxL ret ∈ aw) (hrc : rm2.cells = mc) (hrs : rm2.slots = ms) (hnl : Cond.methodLinkNest own index y host ∈ Z.2.2.2.1) (hini : Cond.initialized y.cls ∈ aw) (hstat : Cond.static y ∈ aw) (hd : y.cls ≠ "java/lang/invoke/MethodHandle" ∧ y.cls ≠ "java/lang/invoke/VarHandle" ∧ (parseMethodDescriptor y.desc).map (fun d => d.parameters.length) = some As.length) (hR : rm2.frames + 1 ≤ rm.frames ∧ 8 + (maxL + 11) + rm2.locals ≤ rm.locals) {st0 : List Value} (hst : st0 = As.reverse ++ st) (hs : (st.map fun v => v.category).sum ≤ 8) (d : decode cc pc = .ok (.invokestatic index, 3)) (hcs : k + mc ≤ rm.cells ∧ n + ms ≤ rm.slots) (kk : ∀ (v : Option Value) (g' : GH), post v g' → J X nL Z g' (k + mc) (n + ms) (pc + 3) lv (v.toList ++ st)) : J X nL Z g k n (pc) lv (st0) := by
  refine j_run O (a := As.toArray) (fun H locs ls a0 b h => ?_) kk
  exact va_runSN (As := As) (rest := st) O.1 hM ⟨va_cnB As.length O.1.2.2.2.2 (gWc hcd) rfl hrc hrs (O.2.2.2.2 _ hnl).2.2 (O.b hini) hd (by rw [O.2.2.2.1]; exact hR), O.b hstat, trivial⟩ ⟨fun a U fr mk q => ⟨q.1, q.2.blind⟩, fun U hU hW => O.pre a0 b U hU hW⟩ rfl rfl h.1 hst (lv_room hs) d (by rw [O.2.2.2.1]; exact hcs)
theorem j_iret (O : Ok X cc nL own Z rm) {mc ms : Nat} {post : Option Value → GH → Prop} {v : Int32} (M : Om X Z (some .int) mc ms post) (h1 : k ≤ mc) (h2 : n ≤ ms) (hp : post (some (.int v)) g) (d : decode cc pc = .ok (.ireturn, 1)) : J X nL Z g k n (pc) lv ([.int v]) := by
  intro H locs ls a0 b h
  rw [M.2.2]
  refine W.widen h1 h2 ?_
  exact W.iret O.1.1 O.1.2.1 M.1 (fun t ht hW => ⟨⟨_, g, rfl, hp, by rw [ht]; exact a0⟩, b.F ht⟩) b.2.2 d M.2.1
theorem j_zret (O : Ok X cc nL own Z rm) {mc ms : Nat} {post : Option Value → GH → Prop} {v : Int32} (hz : narrow .boolean (.int v) = .int v) (M : Om X Z (some .boolean) mc ms post) (h1 : k ≤ mc) (h2 : n ≤ ms) (hp : post (some (.int v)) g) (d : decode cc pc = .ok (.ireturn, 1)) : J X nL Z g k n (pc) lv ([.int v]) := by
  intro H locs ls a0 b h
  rw [M.2.2]
  refine W.widen h1 h2 ?_
  exact W.zret O.1.1 O.1.2.1 M.1 hz (fun t ht hW => ⟨⟨_, g, rfl, hp, by rw [ht]; exact a0⟩, b.F ht⟩) b.2.2 d M.2.1
theorem j_lret (O : Ok X cc nL own Z rm) {mc ms : Nat} {post : Option Value → GH → Prop} {v : Int64} (M : Om X Z (some .long) mc ms post) (h1 : k ≤ mc) (h2 : n ≤ ms) (hp : post (some (.long v)) g) (d : decode cc pc = .ok (.lreturn, 1)) : J X nL Z g k n (pc) lv ([.long v]) := by
  intro H locs ls a0 b h
  rw [M.2.2]
  refine W.widen h1 h2 ?_
  exact W.lret O.1.1 O.1.2.1 M.1 (fun t ht hW => ⟨⟨_, g, rfl, hp, by rw [ht]; exact a0⟩, b.F ht⟩) b.2.2 d M.2.1
theorem j_vret (O : Ok X cc nL own Z rm) {mc ms : Nat} {post : Option Value → GH → Prop}  (M : Om X Z none mc ms post) (h1 : k ≤ mc) (h2 : n ≤ ms) (hp : post none g) (d : decode cc pc = .ok (.return_, 1)) : J X nL Z g k n (pc) lv ([]) := by
  intro H locs ls a0 b h
  rw [M.2.2]
  refine W.widen h1 h2 ?_
  exact W.vret O.1.1 O.1.2.1 M.1 (fun t ht hW => ⟨⟨_, g, rfl, hp, by rw [ht]; exact a0⟩, b.F ht⟩) b.2.2 d M.2.1
theorem j_aret (O : Ok X cc nL own Z rm) {mc ms : Nat} {post : Option Value → GH → Prop} {rt : FieldType} {o : Option Nat} (hrt : (∃ n, rt = .object n) ∨ ∃ t, rt = .array t) (M : Om X Z (some rt) mc ms post) (h1 : k ≤ mc) (h2 : n ≤ ms) (hp : post (some (va_rf o)) g) (d : decode cc pc = .ok (.areturn, 1)) : J X nL Z g k n (pc) lv ([va_rf o]) := by
  intro H locs ls a0 b h
  rw [M.2.2]
  refine W.widen h1 h2 ?_
  exact W.aret O.1.1 O.1.2.1 M.1 hrt (by cases o with | none => exact Or.inl rfl | some x => exact Or.inr ⟨x, rfl⟩) (fun t ht hW => ⟨⟨_, g, rfl, hp, by rw [ht]; exact a0⟩, b.F ht⟩) b.2.2 d M.2.1
end JR
theorem Ct.of {l : Launch} {y : MethodName} {rm : Room} {Z : ZZ} {av : List Value} {g : GH} {mc ms : Nat} {post : Option Value → GH → Prop} {cc : ByteArray} {maxL : Nat} {ret : Option FieldType} (hy : plainName y.cls = true) (hlen : (lg_sl av).length ≤ maxL)
    (body : ∀ X : CX, X.2.1 = l → Ok X cc maxL y.cls Z rm → Om X Z ret mc ms post → (y.name = "<init>" → On X) → J X maxL Z g 0 0 0 (lv_args 0 av) []) : Ct l y (.code y cc maxL ret :: aw) rm Z av g mc ms post := by
  refine Met.ofW (cc := cc) (maxL := maxL) (ret := ret) hy rfl ?_
  intro p e s m args below meth c s1 B hml hv
  obtain ⟨rfl, hB⟩ := hv
  have hown : s.vm.findClass y.cls = some m.cls := findClass_of_methodNamed B.named
  have hl := lv_entry av (n := maxL) hlen
  rw [lg_entry_eq]
  exact body (p, l, e, rm, s, m, av.toArray, below, meth, c, MQ below (jQ Z post) av.toArray s mc ms (zA Z)) rfl ⟨⟨B.exec, B.bytes, hml, hown, fun w hw => atoms_spec (ws := .code y cc maxL ret :: aw) B.pre w (List.mem_cons_of_mem _ hw)⟩, hB.2.1, hB.2.2.1, rfl, hB.2.2.2⟩ ⟨B.returns, B.notSynchronized, rfl⟩ (fun hn => (name_of_methodNamed B.named B.method).1.trans hn) s.heap [] _ hB.1 va_S.rf hl
end
section
/-! Two ghost heaps side by side: the law's world is the system's cells and the reference's cells; a call touches one of them. Kp: what a stretch of code keeps. -/
theorem gP_iff {D : va_G} {cl : List vw_C} {L : List Nat} {f : Nat → va_E} {H : Heap} : va_P D cl (va_pl L f) H ↔ ∀ a ∈ L, va_at D cl (a, f a) H := by
  constructor
  · intro h a ha
    obtain ⟨k, hk⟩ := gAt.k (g := (L, f)) ⟨ha, rfl⟩
    exact h k _ hk
  · intro h k q hk
    obtain ⟨a, ha, rfl⟩ := List.mem_map.mp (List.mem_of_getElem? hk)
    exact h a ha
theorem gD_iff {A : Nat → Prop} {L : List Nat} {f : Nat → va_E} : va_D A (va_pl L f) ↔ L.Nodup ∧ ∀ a ∈ L, A a := by
  constructor
  · intro h
    constructor
    · rw [List.Nodup, List.pairwise_iff_getElem]
      intro i j hi hj hij he
      have h1 : (va_pl L f)[i]? = some (L[i], f L[i]) := by simp [va_pl, hi]
      have h2 : (va_pl L f)[j]? = some (L[j], f L[j]) := by simp [va_pl, hj]
      have := h.1 i j _ _ h1 h2 he
      omega
    · intro a ha
      obtain ⟨k, hk⟩ := gAt.k (g := (L, f)) ⟨ha, rfl⟩
      exact h.2 k _ hk
  · intro h
    have hn := h.1
    rw [List.Nodup, List.pairwise_iff_getElem] at hn
    refine ⟨fun i j p q hp hq hpq => ?_, fun k q hk => ?_⟩
    · have hi : i < L.length := by have := (List.getElem?_eq_some_iff.mp hp).1; simpa [va_pl] using this
      have hj : j < L.length := by have := (List.getElem?_eq_some_iff.mp hq).1; simpa [va_pl] using this
      have e1 : L[i] = p.1 := by
        have : (va_pl L f)[i]? = some (L[i], f L[i]) := by simp [va_pl, hi]
        rw [this] at hp
        exact (congrArg Prod.fst (Option.some.inj hp))
      have e2 : L[j] = q.1 := by
        have : (va_pl L f)[j]? = some (L[j], f L[j]) := by simp [va_pl, hj]
        rw [this] at hq
        exact (congrArg Prod.fst (Option.some.inj hq))
      rcases Nat.lt_trichotomy i j with c | c | c
      · exact absurd (e1.trans (hpq.trans e2.symm)) (hn i j hi hj c)
      · exact c
      · exact absurd (e2.trans (hpq.symm.trans e1.symm)) (hn j i hj hi c)
    · obtain ⟨a, ha, rfl⟩ := List.mem_map.mp (List.mem_of_getElem? hk)
      exact h.2 a ha
theorem gW_iff {Z : ZZ} {g : GH} {H : Heap} : gW Z g H ↔ (∀ a ∈ g.1, va_at Z.1 Z.2.1 (a, g.2 a) H) ∧ g.1.Nodup ∧ ∀ a ∈ g.1, zA Z a := by
  unfold gW
  rw [gP_iff, gD_iff]
def gPl (g1 g2 : GH) : GH := (g1.1 ++ g2.1, fun a => if a ∈ g1.1 then g1.2 a else g2.2 a)
/-- what is needed of g1 beside g2 -/
theorem gPl_iff {Z : ZZ} {g1 g2 : GH} {H : Heap} : gW Z (gPl g1 g2) H ↔ gW Z g1 H ∧ gW Z g2 H ∧ ∀ a ∈ g1.1, a ∉ g2.1 := by
  rw [gW_iff, gW_iff, gW_iff]
  constructor
  · rintro ⟨h1, h2, h3⟩
    have h2' := List.nodup_append.mp h2
    have hdis : ∀ a ∈ g1.1, a ∉ g2.1 := fun a ha hb => h2'.2.2 a ha a hb rfl
    refine ⟨⟨fun a ha => ?_, h2'.1, fun a ha => h3 a (List.mem_append_left _ ha)⟩, ⟨fun a ha => ?_, h2'.2.1, fun a ha => h3 a (List.mem_append_right _ ha)⟩, hdis⟩
    · have := h1 a (List.mem_append_left _ ha)
      simp only [gPl, if_pos ha] at this
      exact this
    · have := h1 a (List.mem_append_right _ ha)
      have hn : a ∉ g1.1 := fun q => hdis a q ha
      simp only [gPl, if_neg hn] at this
      exact this
  · rintro ⟨⟨a1, a2, a3⟩, ⟨b1, b2, b3⟩, hdis⟩
    refine ⟨fun a ha => ?_, List.nodup_append.mpr ⟨a2, b2, fun a ha b hb q => hdis a ha (q ▸ hb)⟩, fun a ha => ?_⟩
    · by_cases hq : a ∈ g1.1
      · simp only [gPl, if_pos hq]
        exact a1 a hq
      · simp only [gPl, if_neg hq]
        rcases List.mem_append.mp ha with h | h
        · exact absurd h hq
        · exact b1 a h
    · rcases List.mem_append.mp ha with h | h
      · exact a3 a h
      · exact b3 a h
theorem gPl_comm {Z : ZZ} {g1 g2 : GH} {H : Heap} (h : gW Z (gPl g1 g2) H) : gW Z (gPl g2 g1) H := by
  rw [gPl_iff] at h ⊢
  exact ⟨h.2.1, h.1, fun a ha hb => h.2.2 a hb ha⟩
section JF
variable {X : CX} {cc : ByteArray} {nL : Nat} {own : String} {Z : ZZ} {rm : Room} {g g1 g2 : GH} {k n pc : Nat} {lv : List (Nat × Value)} {st : List Value}
theorem J.comm (kk : J X nL Z (gPl g2 g1) k n pc lv st) : J X nL Z (gPl g1 g2) k n pc lv st := fun H locs ls a b h => kk H locs ls (gPl_comm a) b h
/-- a call beside a frame g2: the callee's contract speaks of g1 alone, whatever may change -/
theorem j_runF (O : Ok X cc nL own Z rm) {mc ms : Nat} {post : Option Value → GH → Prop} {a : Array Value} {st0 : List Value}
    (hr : ∀ (H : Heap) (locs : List Loc) (ls : Array Slot) (A1 : Nat → Prop), A1 = (fun q => q ∈ g1.1 ∨ H.size ≤ q) → gW (Z.1, Z.2.1, Z.2.2.1, Z.2.2.2.1, A1) g1 H → va_S (zA Z) X.2.2.2.2.1.heap H locs → lv_has ls nL lv → va_Run X.1 X.2.1 X.2.2.1 X.2.2.2.1 X.2.2.2.2.1 X.2.2.2.2.2.1 X.2.2.2.2.2.2.1 X.2.2.2.2.2.2.2.1 X.2.2.2.2.2.2.2.2.1 X.2.2.2.2.2.2.2.2.2.1 H locs k n mc ms (F0 X.2.2.2.2.2.1 pc ls st0) st (jQ (Z.1, Z.2.1, Z.2.2.1, Z.2.2.2.1, A1) post a) A1)
    (kk : ∀ (v : Option Value) (g' : GH), post v g' → J X nL Z (gPl g' g2) (k + mc) (n + ms) (pc + 3) lv (v.toList ++ st)) : J X nL Z (gPl g1 g2) k n pc lv st0 := by
  intro H locs ls a0 b h T hT X0
  obtain ⟨w1, w2, hdis⟩ := gPl_iff.mp a0
  have w1' := gW_iff.mp w1
  have w2' := gW_iff.mp w2
  have hW1 : gW (Z.1, Z.2.1, Z.2.2.1, Z.2.2.2.1, fun q => q ∈ g1.1 ∨ H.size ≤ q) g1 H := gW_iff.mpr ⟨w1'.1, w1'.2.1, fun a ha => Or.inl ha⟩
  have hA : ∀ q : Nat, (q ∈ g1.1 ∨ H.size ≤ q) → zA Z q := by
    rintro q (h1 | h1)
    · exact w1'.2.2 q h1
    · exact O.2.2.1 q (Nat.le_trans b.1 h1)
  obtain ⟨v, s0, t, T', L, h0, X', hL, e1, e2, ⟨⟨v', g', hv, hp, hb⟩, hz, hk⟩, sx⟩ := hr H locs ls _ rfl hW1 b h T hT X0
  cases hv
  rw [h0] at hz hk
  have hn2 : ∀ a ∈ g2.1, a < H.size ∧ ¬ (a ∈ g1.1 ∨ H.size ≤ a) := by
    intro a ha
    have hl : a < H.size := (w2'.1 a ha).lt
    exact ⟨hl, fun q => by
      rcases q with q | q
      · exact hdis a q ha
      · omega⟩
  have b1 := gW_iff.mp hb
  have hW' : gW Z (gPl g' g2) T'.heap := by
    rw [gPl_iff, gW_iff, gW_iff, e1]
    refine ⟨⟨b1.1, b1.2.1, fun a ha => hA a (b1.2.2 a ha)⟩, ⟨fun a ha => ?_, w2'.2.1, w2'.2.2⟩, fun a ha hb2 => (hn2 a hb2).2 (b1.2.2 a ha)⟩
    exact (w2'.1 a ha).kept (hk a (hn2 a ha).1 (hn2 a ha).2)
  obtain ⟨t2, a1, c1⟩ := kk v g' hp T'.heap (locs ++ L) ls hW' ⟨Nat.le_trans b.1 (by rw [e1]; exact hz), fun q h1 h2 => by rw [e1, hk q (Nat.lt_of_lt_of_le h1 b.1) (fun z => h2 (hA q z))]; exact b.2.1 q h1 h2, fun q hq => by
      rcases List.mem_append.mp hq with h | h
      · exact b.2.2 q h
      · exact hA _ (hL q h)⟩ h T' rfl X'
  exact ⟨t2, sx t2 a1, c1⟩
theorem j_callVF (O : Ok X cc nL own Z rm) {y : MethodName} {bytes : ByteArray} {maxL mc ms index : Nat} {ret : Option FieldType} {rm2 : Room} {post : Option Value → GH → Prop} {C : String} {b0 ci : Nat} {T : u_T} {N : Nat} {fs : List Value} (As : List Value) (hM : ∀ A1 : Nat → Prop, Ct X.2.1 y (.code y bytes maxL ret :: aw) rm2 (Z.1, Z.2.1, Z.2.2.1, Z.2.2.2.1, A1) (.ref b0 :: As) g1 mc ms post) (ha : gAt g1 b0 (.inr (ci, fs))) (hc : Z.2.1[ci]? = some (C, T, N)) (hml : Cond.methodLink own index y ∈ aw) (him : Cond.instanceMethod y ∈ aw) (hsel : Cond.selects C y y ∈ aw) (hini : Cond.initialized C ∈ aw) (hcd : Cond.code y bytes maxL ret ∈ aw) (hrc : rm2.cells = mc) (hrs : rm2.slots = ms) (hd : y.cls = C ∧ y.cls ≠ "java/lang/invoke/MethodHandle" ∧ y.cls ≠ "java/lang/invoke/VarHandle" ∧ (parseMethodDescriptor y.desc).map (fun d => d.parameters.length) = some As.length) (hR : rm2.frames + 1 ≤ rm.frames ∧ 8 + (maxL + 11) + rm2.locals ≤ rm.locals) {st0 : List Value} (hst : st0 = As.reverse ++ .ref b0 :: st) (hs : (st.map fun v => v.category).sum ≤ 8) (d : decode cc pc = .ok (.invokevirtual index, 3)) (hcs : k + mc ≤ rm.cells ∧ n + ms ≤ rm.slots) (kk : ∀ (v : Option Value) (g' : GH), post v g' → J X nL Z (gPl g' g2) (k + mc) (n + ms) (pc + 3) lv (v.toList ++ st)) : J X nL Z (gPl g1 g2) k n pc lv st0 := by
  refine j_runF O (a := (Value.ref b0 :: As).toArray) (fun H locs ls A1 hA1 a0 b h => ?_) kk
  obtain ⟨q, hq⟩ := ha.k
  exact va_runV (As := As) (rest := st) O.1 (hM A1) (cwV As.length O.1.2.2.2.2 (gWv hml him hsel hini hcd) rfl hrc hrs hd (by rw [O.2.2.2.1]; exact hR)) ⟨fun a U fr mk q => ⟨q.1, q.2.blind⟩, va_recv O.2.1 a0.1 hc hq, fun U hU hW => ⟨rfl, by rw [hU]; exact a0, va_K.moved hW.alike O.2.1, fun q h => by rw [hA1]; exact Or.inr (by rw [← hU]; exact h), O.2.2.2.2.warm hW⟩⟩ rfl rfl h.1 hst (lv_room hs) d (by rw [O.2.2.2.1]; exact hcs)
theorem j_callIF (O : Ok X cc nL own Z rm) {y : MethodName} {bytes : ByteArray} {maxL mc ms index : Nat} {rm2 : Room} {post : Option Value → GH → Prop} {b0 : Nat} (As : List Value) (hM : ∀ A1 : Nat → Prop, Ct X.2.1 y (.code y bytes maxL none :: aw) rm2 (Z.1, Z.2.1, Z.2.2.1, Z.2.2.2.1, A1) (.ref b0 :: As) g1 mc ms post) (hcd : Cond.code y bytes maxL none ∈ aw) (hrc : rm2.cells = mc) (hrs : rm2.slots = ms) (hini : Cond.initialized y.cls ∈ aw) (hml : Cond.methodLink own index y ∈ aw) (him : Cond.instanceMethod y ∈ aw) (hy1 : y.name = "<init>") (hd : y.cls ≠ "java/lang/invoke/MethodHandle" ∧ y.cls ≠ "java/lang/invoke/VarHandle" ∧ (parseMethodDescriptor y.desc).map (fun d => d.parameters.length) = some As.length) (hR : rm2.frames + 1 ≤ rm.frames ∧ 8 + (maxL + 11) + rm2.locals ≤ rm.locals) {st0 : List Value} (hst : st0 = As.reverse ++ .ref b0 :: st) (hs : (st.map fun v => v.category).sum ≤ 8) (d : decode cc pc = .ok (.invokespecial index, 3)) (hcs : k + mc ≤ rm.cells ∧ n + ms ≤ rm.slots) (kk : ∀ (v : Option Value) (g' : GH), post v g' → J X nL Z (gPl g' g2) (k + mc) (n + ms) (pc + 3) lv (v.toList ++ st)) : J X nL Z (gPl g1 g2) k n pc lv st0 := by
  refine j_runF O (a := (Value.ref b0 :: As).toArray) (fun H locs ls A1 hA1 a0 b h => ?_) kk
  exact va_runI (As := As) (rest := st) O.1 (hM A1) (cwI As.length O.1.2.2.2.2 (gWc hcd) rfl hrc hrs (O.b hini) (O.b hml) (O.b him) hy1 hd (by rw [O.2.2.2.1]; exact hR)) ⟨fun a U fr mk q => ⟨q.1, q.2.blind⟩, fun U hU hW => ⟨rfl, by rw [hU]; exact a0, va_K.moved hW.alike O.2.1, fun q h => by rw [hA1]; exact Or.inr (by rw [← hU]; exact h), O.2.2.2.2.warm hW⟩⟩ rfl rfl h.1 hst (lv_room hs) d (by rw [O.2.2.2.1]; exact hcs)
end JF
/-- what a stretch of code keeps: all that was there stays there; of the cells outside M also what they hold -/
def Kp (M : List Nat) (g g' : GH) : Prop := (∀ b ∈ g.1, b ∈ g'.1) ∧ ∀ (b : Nat) (e : va_E), b ∉ M → gAt g b e → gAt g' b e
theorem Kp.rf {M : List Nat} {g : GH} : Kp M g g := ⟨fun _ h => h, fun _ _ _ h => h⟩
theorem Kp.tr {M : List Nat} {g g1 g2 : GH} (h1 : Kp M g g1) (h2 : Kp M g1 g2) : Kp M g g2 := ⟨fun b h => h2.1 b (h1.1 b h), fun b e n h => h2.2 b e n (h1.2 b e n h)⟩
theorem Kp.mono {M M' : List Nat} {g g' : GH} (h : Kp M g g') (hm : ∀ a ∈ M, a ∈ M') : Kp M' g g' := ⟨h.1, fun b e n q => h.2 b e (fun z => n (hm b z)) q⟩
theorem Kp.up {M : List Nat} {g g1 : GH} {a : Nat} {e : va_E} (h : Kp M g g1) (ha : a ∈ M) : Kp M g (gUp g1 a e) := ⟨h.1, fun b f n q => gUp_ne (h.2 b f n q) (fun z => n (z ▸ ha))⟩
/-- a cell that was not there at the start may be written -/
theorem Kp.upN {M : List Nat} {g g1 : GH} {a : Nat} {e : va_E} (h : Kp M g g1) (ha : a ∉ g.1) : Kp M g (gUp g1 a e) := ⟨h.1, fun b f n q => gUp_ne (h.2 b f n q) (fun z => ha (z ▸ q.1))⟩
theorem Kp.new {M : List Nat} {g g1 : GH} {a : Nat} {e : va_E} (h : Kp M g g1) (ha : a ∉ g1.1) : Kp M g (gNew g1 a e) := ⟨fun b q => List.mem_append_left _ (h.1 b q), fun b f n q => gNew_old (h.2 b f n q) ha⟩
theorem Kp.nin {M : List Nat} {g g1 : GH} {a : Nat} (h : Kp M g g1) (ha : a ∉ g1.1) : a ∉ g.1 := fun q => ha (h.1 a q)
/-- cells made on the way are none of the caller's -/
theorem Kp.sub {M M' : List Nat} {g g1 g2 : GH} (h1 : Kp M g g1) (h2 : Kp M' g1 g2) (hm : ∀ a ∈ M', a ∈ M ∨ a ∉ g.1) : Kp M g g2 := ⟨fun b h => h2.1 b (h1.1 b h), fun b e n h => h2.2 b e (fun z => (hm b z).elim n (fun q => q h.1)) (h1.2 b e n h)⟩
theorem va_rf_cat (o : Option Nat) : (va_rf o).category = 1 := by cases o <;> rfl
end
section
/-! Numbers and lists: levels, prints, runs. A row is (key, cells, bits of the cells that are NULL); a node is (height, rows). -/
abbrev RV : Type := Int32 × List Int32 × Int32
def ush (x y : Int32) : Int32 := (x.toUInt32 >>> (y.toUInt32 &&& Int32.toUInt32 31)).toInt32
def mixA (k : Int32) : Int32 := (k * (-1640531535)) ^^^ ush (k * (-1640531535)) 15
def mixB (x : Int32) : Int32 := (x * (-2048144777)) ^^^ ush (x * (-2048144777)) 13
def lvG : Nat → Int32 → Nat
  | 0, _ => 0
  | n + 1, x => if x &&& 3 = 0 then lvG n (ush x 2) + 1 else 0
def lvl (k : Int32) : Nat := lvG 5 (mixB (mixA k))
theorem lvG_le : ∀ (n : Nat) (x : Int32), lvG n x ≤ n
  | 0, _ => Nat.le_refl _
  | n + 1, x => by
    unfold lvG
    split
    · exact Nat.succ_le_succ (lvG_le n _)
    · exact Nat.zero_le _
theorem lvl_le (k : Int32) : lvl k ≤ 5 := lvG_le 5 _
def prt (r : RV) : Int32 := r.2.1.foldl (fun m c => m * 31 + c) (r.1 * 31 + r.2.2)
/-- runs of a list, each of which ends with one that p holds of, or with the last -/
def runsP {α : Type} (p : α → Bool) : List α → List (List α)
  | [] => []
  | r :: rs => if p r then [r] :: runsP p rs else match runsP p rs with
    | [] => [[r]]
    | q :: qs => (r :: q) :: qs
theorem runsP_flat {α : Type} (p : α → Bool) : ∀ rs : List α, (runsP p rs).flatten = rs
  | [] => rfl
  | r :: rs => by
    have ih := runsP_flat p rs
    unfold runsP
    split
    · simp [ih]
    · split
      · next h => rw [h] at ih; simp at ih; subst ih; rfl
      · next q qs h => rw [h] at ih; simp at ih; simp [ih]
theorem runsP_ne {α : Type} (p : α → Bool) : ∀ (rs : List α) (q : List α), q ∈ runsP p rs → q ≠ []
  | [], q, h => by cases h
  | r :: rs, q, h => by
    have ih := runsP_ne p rs
    unfold runsP at h
    split at h
    · rcases List.mem_cons.mp h with h | h
      · subst h; simp
      · exact ih q h
    · split at h
      · rw [List.mem_singleton.mp h]; simp
      · next a as e =>
        rcases List.mem_cons.mp h with h | h
        · subst h; simp
        · exact ih q (by rw [e]; exact List.mem_cons_of_mem _ h)
theorem runsP_nil {α : Type} (p : α → Bool) {rs : List α} (h : runsP p rs = []) : rs = [] := by
  have := runsP_flat p rs
  rw [h] at this
  exact this.symm
/-- a stretch where p holds of none, and one of which p holds behind it -/
theorem runsP_low {α : Type} (p : α → Bool) (r : α) (rest : List α) (hr : p r = true) : ∀ xs : List α, (∀ x ∈ xs, p x = false) → runsP p (xs ++ r :: rest) = (xs ++ [r]) :: runsP p rest
  | [], _ => by simp [runsP, hr]
  | x :: xs, h => by
    have ih := runsP_low p r rest hr xs (fun y hy => h y (List.mem_cons_of_mem _ hy))
    have hx := h x List.mem_cons_self
    rw [List.cons_append, runsP, hx, ih]
    simp
theorem runsP_end {α : Type} (p : α → Bool) (r : α) : ∀ xs : List α, (∀ x ∈ xs, p x = false) → runsP p (xs ++ [r]) = [xs ++ [r]]
  | [], _ => by
    cases hr : p r <;> simp [runsP, hr]
  | x :: xs, h => by
    have ih := runsP_end p r xs (fun y hy => h y (List.mem_cons_of_mem _ hy))
    have hx := h x List.mem_cons_self
    rw [List.cons_append, runsP, hx, ih]
    simp
/-- the same by places: what a loop sees that goes through a list with a mark behind the last end -/
theorem runsP_step {α : Type} (p : α → Bool) (rs : List α) (f i : Nat) (hf : f ≤ i) (hi : i < rs.length) (low : ∀ j (hj : j < rs.length), f ≤ j → j < i → p rs[j] = false) (hb : p rs[i] = true ∨ i + 1 = rs.length) :
    runsP p (rs.drop f) = (rs.drop f).take (i + 1 - f) :: runsP p (rs.drop (i + 1)) := by
  have e1 : rs.drop f = (rs.drop f).take (i - f) ++ rs[i] :: rs.drop (i + 1) := by
    have h1 : rs.drop f = (rs.drop f).take (i - f) ++ (rs.drop f).drop (i - f) := (List.take_append_drop _ _).symm
    rw [List.drop_drop, show f + (i - f) = i by omega, List.drop_eq_getElem_cons hi] at h1
    exact h1
  have e2 : (rs.drop f).take (i + 1 - f) = (rs.drop f).take (i - f) ++ [rs[i]] := by
    rw [show i + 1 - f = (i - f) + 1 by omega, List.take_succ, List.getElem?_drop, show f + (i - f) = i by omega, List.getElem?_eq_getElem hi]
    rfl
  have hl : ∀ x ∈ (rs.drop f).take (i - f), p x = false := by
    intro x hx
    obtain ⟨j, hj, rfl⟩ := List.getElem_of_mem hx
    have hj2 : j < i - f := by
      have := hj
      rw [List.length_take] at this
      omega
    rw [List.getElem_take, List.getElem_drop]
    exact low (f + j) (by omega) (by omega) (by omega)
  rw [e2]
  conv => lhs; rw [e1]
  rcases hb with hb | hb
  · exact runsP_low p _ _ hb _ hl
  · have : rs.drop (i + 1) = [] := List.drop_eq_nil_of_le (by omega)
    rw [this]
    exact runsP_end p _ _ hl
def lastP {α : Type} (p : α → Bool) (q : List α) : Bool := match q.getLast? with
  | some r => p r
  | none => false
theorem lastP_cons {α : Type} (p : α → Bool) (r : α) {q : List α} (h : q ≠ []) : lastP p (r :: q) = lastP p q := by
  cases q with
  | nil => exact absurd rfl h
  | cons a as => simp [lastP, List.getLast?_cons_cons]
/-- runs of runs: by a p2 that holds of fewer, the runs of the runs by p1 are the runs by p2 -/
theorem runsP_runs {α : Type} (p1 p2 : α → Bool) (h12 : ∀ r, p2 r = true → p1 r = true) : ∀ rs : List α, (runsP (lastP p2) (runsP p1 rs)).map List.flatten = runsP p2 rs
  | [] => rfl
  | r :: rs => by
    have ih := runsP_runs p1 p2 h12 rs
    cases h1 : p1 r with
    | true =>
      have e1 : runsP p1 (r :: rs) = [r] :: runsP p1 rs := by simp [runsP, h1]
      rw [e1]
      cases h2 : p2 r with
      | true => simp [runsP, lastP, h2, ih]
      | false =>
        have e2 : lastP p2 [r] = false := by simp [lastP, h2]
        rw [runsP, e2]
        rw [show runsP p2 (r :: rs) = (match runsP p2 rs with | [] => [[r]] | q :: qs => (r :: q) :: qs) by simp [runsP, h2]]
        rw [← ih]
        cases runsP (lastP p2) (runsP p1 rs) <;> simp
    | false =>
      have h2 : p2 r = false := by
        cases h : p2 r with
        | false => rfl
        | true => rw [h12 r h] at h1; exact absurd h1 (by simp)
      cases e : runsP p1 rs with
      | nil =>
        have := runsP_nil p1 e
        subst this
        simp [runsP, h1, h2, lastP]
      | cons q qs =>
        have e1 : runsP p1 (r :: rs) = (r :: q) :: qs := by simp [runsP, h1, e]
        rw [e1]
        have hq : q ≠ [] := runsP_ne p1 rs q (by rw [e]; exact List.mem_cons_self)
        rw [e] at ih
        rw [show runsP p2 (r :: rs) = (match runsP p2 rs with | [] => [[r]] | q :: qs => (r :: q) :: qs) by simp [runsP, h2]]
        rw [← ih]
        rw [runsP, runsP, lastP_cons p2 r hq]
        cases lastP p2 q with
        | true => simp
        | false =>
          cases runsP (lastP p2) qs <;> simp
/-- each run of runs is what the runs of its rows are -/
theorem runsP_in {α : Type} (p1 p2 : α → Bool) (h12 : ∀ r, p2 r = true → p1 r = true) : ∀ (rs : List α) (G : List (List α)), G ∈ runsP (lastP p2) (runsP p1 rs) → runsP p1 G.flatten = G
  | [], G, h => by cases h
  | r :: rs, G, h => by
    have ih := runsP_in p1 p2 h12 rs
    cases h1 : p1 r with
    | true =>
      have e1 : runsP p1 (r :: rs) = [r] :: runsP p1 rs := by simp [runsP, h1]
      rw [e1] at h
      cases h2 : p2 r with
      | true =>
        have e2 : lastP p2 [r] = true := by simp [lastP, h2]
        rw [runsP, e2] at h
        simp only [if_true] at h
        rcases List.mem_cons.mp h with h | h
        · subst h; simp [runsP, h1]
        · exact ih G h
      | false =>
        have e2 : lastP p2 [r] = false := by simp [lastP, h2]
        rw [runsP, e2] at h
        simp only [Bool.false_eq_true, if_false] at h
        cases e : runsP (lastP p2) (runsP p1 rs) with
        | nil =>
          rw [e] at h
          rw [List.mem_singleton.mp h]
          simp [runsP, h1]
        | cons q qs =>
          rw [e] at h
          rcases List.mem_cons.mp h with h | h
          · subst h
            have := ih q (by rw [e]; exact List.mem_cons_self)
            simp [runsP, h1, this]
          · exact ih G (by rw [e]; exact List.mem_cons_of_mem _ h)
    | false =>
      have h2 : p2 r = false := by
        cases h : p2 r with
        | false => rfl
        | true => rw [h12 r h] at h1; exact absurd h1 (by simp)
      cases e : runsP p1 rs with
      | nil =>
        have := runsP_nil p1 e
        subst this
        simp [runsP, h1, lastP, h2] at h
        subst h
        simp [runsP, h1]
      | cons q qs =>
        have e1 : runsP p1 (r :: rs) = (r :: q) :: qs := by simp [runsP, h1, e]
        rw [e1] at h
        have hq : q ≠ [] := runsP_ne p1 rs q (by rw [e]; exact List.mem_cons_self)
        rw [e] at ih
        rw [runsP, lastP_cons p2 r hq] at h
        rw [runsP] at ih
        cases hl : lastP p2 q with
        | true =>
          rw [hl] at h ih
          simp only [if_true] at h ih
          rcases List.mem_cons.mp h with h | h
          · subst h
            have := ih [q] List.mem_cons_self
            simp at this
            simp [runsP, h1, this]
          · exact ih G (List.mem_cons_of_mem _ h)
        | false =>
          rw [hl] at h ih
          simp only [Bool.false_eq_true, if_false] at h ih
          cases e3 : runsP (lastP p2) qs with
          | nil =>
            rw [e3] at h ih
            rw [List.mem_singleton.mp h]
            have := ih [q] List.mem_cons_self
            simp at this
            simp [runsP, h1, this]
          | cons a as =>
            rw [e3] at h ih
            rcases List.mem_cons.mp h with h | h
            · subst h
              have := ih (q :: a) List.mem_cons_self
              simp at this
              simp [runsP, h1, this]
            · exact ih G (List.mem_cons_of_mem _ h)
def lvB (t : Nat) (r : RV) : Bool := decide (t ≤ lvl r.1)
/-- the runs that end with a row of level t or above, or with the last -/
def runs (t : Nat) (rs : List RV) : List (List RV) := runsP (lvB t) rs
theorem lvB_mono {t : Nat} (r : RV) (h : lvB (t + 1) r = true) : lvB t r = true := by
  simp only [lvB, decide_eq_true_eq] at h ⊢
  omega
/-- a node's print, size, address: by its height and rows -/
def nprt : Nat → List RV → Int32
  | 0, rs => rs.foldl (fun p r => p * 31 + prt r) 0
  | h + 1, rs => (runs (h + 1) rs).foldl (fun p q => p * 31 + nprt h q) (nI (h + 1))
def nsz : Nat → List RV → Nat
  | 0, rs => rs.foldl (fun n r => n + (1 + r.2.1.length)) 0
  | h + 1, rs => (runs (h + 1) rs).length
/-- is the cell of column i NULL -/
def bitN (m : Int32) (i : Nat) : Bool := decide (¬ (ush m (nI i) &&& 1) = 0)
def adM (h x : Int64) : Int64 := (h ^^^ x) * 1099511628211
def rad (h : Int64) (r : RV) : Int64 := (r.2.1.zipIdx).foldl (fun h c => if bitN r.2.2 c.2 then adM h 0 else adM (adM h 1) c.1.toInt64) (adM h r.1.toInt64)
def nad : Nat → List RV → Int64
  | 0, rs => rs.foldl rad (adM 1469598103934665603 0)
  | h + 1, rs => (runs (h + 1) rs).foldl (fun a q => adM a (nad h q)) (adM 1469598103934665603 (nI (h + 1)).toInt64)
def lastK (rs : List RV) : Int32 := match rs.getLast? with
  | some r => r.1
  | none => 0
def lastL (rs : List RV) : Nat := match rs.getLast? with
  | some r => lvl r.1
  | none => 0
end
