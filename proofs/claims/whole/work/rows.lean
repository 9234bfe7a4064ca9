section
-- ===== PART A: goes FIRST, ahead of the names: the tables' words, and 'selects' of the private methods out of them =====
/-- a private method of a class that the tables say can be made, by its rows of tables_1 -/
def lw_okq (q : MethodName × Nat) : Prop := (q.1.cls ≠ "java/lang/invoke/MethodHandle" ∧ q.1.cls ≠ "java/lang/invoke/VarHandle") ∧ Cond.instantiable q.1.cls q.2 ∈ tables_1 ∧ Cond.privateMethod q.1 ∈ tables_1 ∧ Cond.instanceMethod q.1 ∈ tables_1
theorem lw_p0 : lw_okq (⟨"TwinTrees$Store", "pend", "(LTwinTrees$Node;)LTwinTrees$Node;"⟩, 4) := ⟨⟨by decide +kernel, by decide +kernel⟩, List.mem_of_getElem? (i := 22) (by decide +kernel), List.mem_of_getElem? (i := 165) (by decide +kernel), List.mem_of_getElem? (i := 166) (by decide +kernel)⟩
theorem lw_p1 : lw_okq (⟨"TwinTrees$Store", "link", "(LTwinTrees$Node;)V"⟩, 4) := ⟨⟨by decide +kernel, by decide +kernel⟩, List.mem_of_getElem? (i := 22) (by decide +kernel), List.mem_of_getElem? (i := 174) (by decide +kernel), List.mem_of_getElem? (i := 175) (by decide +kernel)⟩
theorem lw_p2 : lw_okq (⟨"TwinTrees", "plantDraft", "(I)I"⟩, 8) := ⟨⟨by decide +kernel, by decide +kernel⟩, List.mem_of_getElem? (i := 12) (by decide +kernel), List.mem_of_getElem? (i := 210) (by decide +kernel), List.mem_of_getElem? (i := 211) (by decide +kernel)⟩
theorem lw_p3 : lw_okq (⟨"TwinTrees", "groupRows", "()I"⟩, 8) := ⟨⟨by decide +kernel, by decide +kernel⟩, List.mem_of_getElem? (i := 12) (by decide +kernel), List.mem_of_getElem? (i := 214) (by decide +kernel), List.mem_of_getElem? (i := 215) (by decide +kernel)⟩
theorem lw_p4 : lw_okq (⟨"TwinTrees", "groupNodes", "(II)I"⟩, 8) := ⟨⟨by decide +kernel, by decide +kernel⟩, List.mem_of_getElem? (i := 12) (by decide +kernel), List.mem_of_getElem? (i := 218) (by decide +kernel), List.mem_of_getElem? (i := 219) (by decide +kernel)⟩
theorem lw_p5 : lw_okq (⟨"TwinTrees", "isColumn", "(II)Z"⟩, 8) := ⟨⟨by decide +kernel, by decide +kernel⟩, List.mem_of_getElem? (i := 12) (by decide +kernel), List.mem_of_getElem? (i := 237) (by decide +kernel), List.mem_of_getElem? (i := 238) (by decide +kernel)⟩
theorem lw_p6 : lw_okq (⟨"TwinTrees", "draftRowsOf", "(I)V"⟩, 8) := ⟨⟨by decide +kernel, by decide +kernel⟩, List.mem_of_getElem? (i := 12) (by decide +kernel), List.mem_of_getElem? (i := 241) (by decide +kernel), List.mem_of_getElem? (i := 242) (by decide +kernel)⟩
theorem lw_p7 : lw_okq (⟨"TwinTrees", "newStamp", "()I"⟩, 8) := ⟨⟨by decide +kernel, by decide +kernel⟩, List.mem_of_getElem? (i := 12) (by decide +kernel), List.mem_of_getElem? (i := 245) (by decide +kernel), List.mem_of_getElem? (i := 246) (by decide +kernel)⟩
theorem lw_p8 : lw_okq (⟨"TwinTrees", "gatherUnshared", "(IILTwinTrees$RowList;)V"⟩, 8) := ⟨⟨by decide +kernel, by decide +kernel⟩, List.mem_of_getElem? (i := 12) (by decide +kernel), List.mem_of_getElem? (i := 378) (by decide +kernel), List.mem_of_getElem? (i := 379) (by decide +kernel)⟩
theorem lw_p9 : lw_okq (⟨"TwinTrees$Differences", "note", "(III)V"⟩, 4) := ⟨⟨by decide +kernel, by decide +kernel⟩, List.mem_of_getElem? (i := 45) (by decide +kernel), List.mem_of_getElem? (i := 386) (by decide +kernel), List.mem_of_getElem? (i := 387) (by decide +kernel)⟩
theorem lw_p10 : lw_okq (⟨"TwinTreesModel", "lay", "(I)Z"⟩, 29) := ⟨⟨by decide +kernel, by decide +kernel⟩, List.mem_of_getElem? (i := 407) (by decide +kernel), List.mem_of_getElem? (i := 418) (by decide +kernel), List.mem_of_getElem? (i := 419) (by decide +kernel)⟩
theorem lw_p11 : lw_okq (⟨"TwinTreesModel", "keep", "(III)Z"⟩, 29) := ⟨⟨by decide +kernel, by decide +kernel⟩, List.mem_of_getElem? (i := 407) (by decide +kernel), List.mem_of_getElem? (i := 430) (by decide +kernel), List.mem_of_getElem? (i := 431) (by decide +kernel)⟩
theorem lw_p12 : lw_okq (⟨"TwinTreesModel", "node", "(II)I"⟩, 29) := ⟨⟨by decide +kernel, by decide +kernel⟩, List.mem_of_getElem? (i := 407) (by decide +kernel), List.mem_of_getElem? (i := 434) (by decide +kernel), List.mem_of_getElem? (i := 435) (by decide +kernel)⟩
theorem lw_p13 : lw_okq (⟨"TwinTreesModel", "hash", "(II)I"⟩, 29) := ⟨⟨by decide +kernel, by decide +kernel⟩, List.mem_of_getElem? (i := 407) (by decide +kernel), List.mem_of_getElem? (i := 438) (by decide +kernel), List.mem_of_getElem? (i := 439) (by decide +kernel)⟩
theorem lw_p14 : lw_okq (⟨"TwinTreesModel", "isMade", "(III)Z"⟩, 29) := ⟨⟨by decide +kernel, by decide +kernel⟩, List.mem_of_getElem? (i := 407) (by decide +kernel), List.mem_of_getElem? (i := 444) (by decide +kernel), List.mem_of_getElem? (i := 445) (by decide +kernel)⟩
theorem lw_p15 : lw_okq (⟨"TwinTreesModel", "remember", "(I)V"⟩, 29) := ⟨⟨by decide +kernel, by decide +kernel⟩, List.mem_of_getElem? (i := 407) (by decide +kernel), List.mem_of_getElem? (i := 547) (by decide +kernel), List.mem_of_getElem? (i := 548) (by decide +kernel)⟩
def lw_privs_1 : List (MethodName × Nat) := [(⟨"TwinTrees$Store", "pend", "(LTwinTrees$Node;)LTwinTrees$Node;"⟩, 4), (⟨"TwinTrees$Store", "link", "(LTwinTrees$Node;)V"⟩, 4), (⟨"TwinTrees", "plantDraft", "(I)I"⟩, 8), (⟨"TwinTrees", "groupRows", "()I"⟩, 8), (⟨"TwinTrees", "groupNodes", "(II)I"⟩, 8), (⟨"TwinTrees", "isColumn", "(II)Z"⟩, 8), (⟨"TwinTrees", "draftRowsOf", "(I)V"⟩, 8), (⟨"TwinTrees", "newStamp", "()I"⟩, 8), (⟨"TwinTrees", "gatherUnshared", "(IILTwinTrees$RowList;)V"⟩, 8), (⟨"TwinTrees$Differences", "note", "(III)V"⟩, 4), (⟨"TwinTreesModel", "lay", "(I)Z"⟩, 29), (⟨"TwinTreesModel", "keep", "(III)Z"⟩, 29), (⟨"TwinTreesModel", "node", "(II)I"⟩, 29), (⟨"TwinTreesModel", "hash", "(II)I"⟩, 29), (⟨"TwinTreesModel", "isMade", "(III)Z"⟩, 29), (⟨"TwinTreesModel", "remember", "(I)V"⟩, 29)]
theorem lw_r1 : ∀ q ∈ lw_privs_1, lw_okq q := List.forall_mem_cons.mpr ⟨lw_p0, List.forall_mem_cons.mpr ⟨lw_p1, List.forall_mem_cons.mpr ⟨lw_p2, List.forall_mem_cons.mpr ⟨lw_p3, List.forall_mem_cons.mpr ⟨lw_p4, List.forall_mem_cons.mpr ⟨lw_p5, List.forall_mem_cons.mpr ⟨lw_p6, List.forall_mem_cons.mpr ⟨lw_p7, List.forall_mem_cons.mpr ⟨lw_p8, List.forall_mem_cons.mpr ⟨lw_p9, List.forall_mem_cons.mpr ⟨lw_p10, List.forall_mem_cons.mpr ⟨lw_p11, List.forall_mem_cons.mpr ⟨lw_p12, List.forall_mem_cons.mpr ⟨lw_p13, List.forall_mem_cons.mpr ⟨lw_p14, List.forall_mem_cons.mpr ⟨lw_p15, fun _ h => absurd h List.not_mem_nil⟩⟩⟩⟩⟩⟩⟩⟩⟩⟩⟩⟩⟩⟩⟩⟩
theorem lw_p16 : lw_okq (⟨"TwinTreesModel", "write", "(I)I"⟩, 29) := ⟨⟨by decide +kernel, by decide +kernel⟩, List.mem_of_getElem? (i := 407) (by decide +kernel), List.mem_of_getElem? (i := 551) (by decide +kernel), List.mem_of_getElem? (i := 552) (by decide +kernel)⟩
theorem lw_p17 : lw_okq (⟨"TwinTreesModel", "back", "(I)V"⟩, 29) := ⟨⟨by decide +kernel, by decide +kernel⟩, List.mem_of_getElem? (i := 407) (by decide +kernel), List.mem_of_getElem? (i := 555) (by decide +kernel), List.mem_of_getElem? (i := 556) (by decide +kernel)⟩
theorem lw_p18 : lw_okq (⟨"TwinTreesModel", "find", "(II)I"⟩, 29) := ⟨⟨by decide +kernel, by decide +kernel⟩, List.mem_of_getElem? (i := 407) (by decide +kernel), List.mem_of_getElem? (i := 563) (by decide +kernel), List.mem_of_getElem? (i := 564) (by decide +kernel)⟩
theorem lw_p19 : lw_okq (⟨"TwinTreesModel", "placeOf", "(II)I"⟩, 29) := ⟨⟨by decide +kernel, by decide +kernel⟩, List.mem_of_getElem? (i := 407) (by decide +kernel), List.mem_of_getElem? (i := 567) (by decide +kernel), List.mem_of_getElem? (i := 568) (by decide +kernel)⟩
theorem lw_p20 : lw_okq (⟨"TwinTreesModel", "move", "(III)V"⟩, 29) := ⟨⟨by decide +kernel, by decide +kernel⟩, List.mem_of_getElem? (i := 407) (by decide +kernel), List.mem_of_getElem? (i := 571) (by decide +kernel), List.mem_of_getElem? (i := 572) (by decide +kernel)⟩
theorem lw_p21 : lw_okq (⟨"TwinTreesModel", "addressOf", "(I)J"⟩, 29) := ⟨⟨by decide +kernel, by decide +kernel⟩, List.mem_of_getElem? (i := 407) (by decide +kernel), List.mem_of_getElem? (i := 599) (by decide +kernel), List.mem_of_getElem? (i := 600) (by decide +kernel)⟩
def lw_privs_2 : List (MethodName × Nat) := [(⟨"TwinTreesModel", "write", "(I)I"⟩, 29), (⟨"TwinTreesModel", "back", "(I)V"⟩, 29), (⟨"TwinTreesModel", "find", "(II)I"⟩, 29), (⟨"TwinTreesModel", "placeOf", "(II)I"⟩, 29), (⟨"TwinTreesModel", "move", "(III)V"⟩, 29), (⟨"TwinTreesModel", "addressOf", "(I)J"⟩, 29)]
theorem lw_r2 : ∀ q ∈ lw_privs_2, lw_okq q := List.forall_mem_cons.mpr ⟨lw_p16, List.forall_mem_cons.mpr ⟨lw_p17, List.forall_mem_cons.mpr ⟨lw_p18, List.forall_mem_cons.mpr ⟨lw_p19, List.forall_mem_cons.mpr ⟨lw_p20, List.forall_mem_cons.mpr ⟨lw_p21, fun _ h => absurd h List.not_mem_nil⟩⟩⟩⟩⟩⟩
def lw_privs : List (MethodName × Nat) := lw_privs_1 ++ (lw_privs_2)
def lw_tbl : List Cond := k2_sels lw_privs ++ tables_1
theorem lw_privs_ok : ∀ q ∈ lw_privs, lw_okq q := by
  show ∀ q ∈ lw_privs_1 ++ (lw_privs_2), lw_okq q
  exact List.forall_mem_append.mpr ⟨lw_r1, lw_r2⟩
end
section
/-! names, by program: classes, fields, methods; aw: the words that every method gets -/
abbrev kT : String := "TwinTrees"
def fT : u_T := fun k => match k with
  | 0 => ("TwinTrees", "widths", "[I", true)
  | 1 => ("TwinTrees", "roots", "[LTwinTrees$Node;", true)
  | 2 => ("TwinTrees", "store", "LTwinTrees$Store;", true)
  | 3 => ("TwinTrees", "differences", "LTwinTrees$Differences;", true)
  | 4 => ("TwinTrees", "draft", "LTwinTrees$RowList;", true)
  | 5 => ("TwinTrees", "beside", "LTwinTrees$RowList;", true)
  | 6 => ("TwinTrees", "line", "[LTwinTrees$Node;", true)
  | _ => ("TwinTrees", "lastStamp", "I", false)
def tT : Nat → FieldType := fun k => match k with
  | 0 => .array .int
  | 1 => .array (.object "TwinTrees$Node")
  | 2 => .object "TwinTrees$Store"
  | 3 => .object "TwinTrees$Differences"
  | 4 => .object "TwinTrees$RowList"
  | 5 => .object "TwinTrees$RowList"
  | 6 => .array (.object "TwinTrees$Node")
  | _ => .int
theorem fnT : ∀ a, a < 8 → ∀ b, b < 8 → a ≠ b → (fT a).2.1 ≠ (fT b).2.1 := by decide +kernel
theorem ftT : ∀ k, k < 8 → parseFieldDescriptor (fT k).2.2.1 = some (tT k) := by decide +kernel
abbrev kD : String := "TwinTrees$Differences"
def fD : u_T := fun k => match k with
  | 0 => ("TwinTrees$Differences", "keys", "[I", true)
  | 1 => ("TwinTrees$Differences", "sides", "[I", true)
  | 2 => ("TwinTrees$Differences", "unlikes", "[I", true)
  | _ => ("TwinTrees$Differences", "length", "I", false)
def tD : Nat → FieldType := fun k => match k with
  | 0 => .array .int
  | 1 => .array .int
  | 2 => .array .int
  | _ => .int
theorem fnD : ∀ a, a < 4 → ∀ b, b < 4 → a ≠ b → (fD a).2.1 ≠ (fD b).2.1 := by decide +kernel
theorem ftD : ∀ k, k < 4 → parseFieldDescriptor (fD k).2.2.1 = some (tD k) := by decide +kernel
abbrev kN : String := "TwinTrees$Node"
def fN : u_T := fun k => match k with
  | 0 => ("TwinTrees$Node", "height", "I", true)
  | 1 => ("TwinTrees$Node", "rows", "[LTwinTrees$Row;", true)
  | 2 => ("TwinTrees$Node", "below", "[LTwinTrees$Node;", true)
  | 3 => ("TwinTrees$Node", "rowCount", "I", true)
  | 4 => ("TwinTrees$Node", "size", "I", true)
  | 5 => ("TwinTrees$Node", "lastKey", "I", true)
  | 6 => ("TwinTrees$Node", "lastLevel", "I", true)
  | 7 => ("TwinTrees$Node", "print", "I", true)
  | 8 => ("TwinTrees$Node", "address", "J", false)
  | 9 => ("TwinTrees$Node", "hasAddress", "Z", false)
  | 10 => ("TwinTrees$Node", "stamp", "I", false)
  | _ => ("TwinTrees$Node", "next", "LTwinTrees$Node;", false)
def tN : Nat → FieldType := fun k => match k with
  | 0 => .int
  | 1 => .array (.object "TwinTrees$Row")
  | 2 => .array (.object "TwinTrees$Node")
  | 3 => .int
  | 4 => .int
  | 5 => .int
  | 6 => .int
  | 7 => .int
  | 8 => .long
  | 9 => .boolean
  | 10 => .int
  | _ => .object "TwinTrees$Node"
theorem fnN : ∀ a, a < 12 → ∀ b, b < 12 → a ≠ b → (fN a).2.1 ≠ (fN b).2.1 := by decide +kernel
theorem ftN : ∀ k, k < 12 → parseFieldDescriptor (fN k).2.2.1 = some (tN k) := by decide +kernel
abbrev kR : String := "TwinTrees$Row"
def fR : u_T := fun k => match k with
  | 0 => ("TwinTrees$Row", "key", "I", true)
  | 1 => ("TwinTrees$Row", "cells", "[I", true)
  | 2 => ("TwinTrees$Row", "nulls", "I", true)
  | 3 => ("TwinTrees$Row", "level", "I", true)
  | _ => ("TwinTrees$Row", "print", "I", true)
def tR : Nat → FieldType := fun k => match k with
  | 0 => .int
  | 1 => .array .int
  | 2 => .int
  | 3 => .int
  | _ => .int
theorem fnR : ∀ a, a < 5 → ∀ b, b < 5 → a ≠ b → (fR a).2.1 ≠ (fR b).2.1 := by decide +kernel
theorem ftR : ∀ k, k < 5 → parseFieldDescriptor (fR k).2.2.1 = some (tR k) := by decide +kernel
abbrev kQ : String := "TwinTrees$RowList"
def fQ : u_T := fun k => match k with
  | 0 => ("TwinTrees$RowList", "rows", "[LTwinTrees$Row;", true)
  | _ => ("TwinTrees$RowList", "length", "I", false)
def tQ : Nat → FieldType := fun k => match k with
  | 0 => .array (.object "TwinTrees$Row")
  | _ => .int
theorem fnQ : ∀ a, a < 2 → ∀ b, b < 2 → a ≠ b → (fQ a).2.1 ≠ (fQ b).2.1 := by decide +kernel
theorem ftQ : ∀ k, k < 2 → parseFieldDescriptor (fQ k).2.2.1 = some (tQ k) := by decide +kernel
abbrev kS : String := "TwinTrees$Store"
def fS : u_T := fun k => match k with
  | 0 => ("TwinTrees$Store", "buckets", "[LTwinTrees$Node;", true)
  | 1 => ("TwinTrees$Store", "pending", "LTwinTrees$Node;", false)
  | 2 => ("TwinTrees$Store", "nodes", "I", false)
  | _ => ("TwinTrees$Store", "size", "I", false)
def tS : Nat → FieldType := fun k => match k with
  | 0 => .array (.object "TwinTrees$Node")
  | 1 => .object "TwinTrees$Node"
  | 2 => .int
  | _ => .int
theorem fnS : ∀ a, a < 4 → ∀ b, b < 4 → a ≠ b → (fS a).2.1 ≠ (fS b).2.1 := by decide +kernel
theorem ftS : ∀ k, k < 4 → parseFieldDescriptor (fS k).2.2.1 = some (tS k) := by decide +kernel
abbrev kM : String := "TwinTreesModel"
def fM : u_T := fun k => match k with
  | 0 => ("TwinTreesModel", "columns", "[I", true)
  | 1 => ("TwinTreesModel", "many", "[I", true)
  | 2 => ("TwinTreesModel", "key", "[[I", true)
  | 3 => ("TwinTreesModel", "cell", "[[J", true)
  | 4 => ("TwinTreesModel", "oldColumns", "I", false)
  | 5 => ("TwinTreesModel", "oldMany", "I", false)
  | 6 => ("TwinTreesModel", "oldKey", "[I", true)
  | 7 => ("TwinTreesModel", "oldCell", "[J", true)
  | 8 => ("TwinTreesModel", "differKey", "[I", true)
  | 9 => ("TwinTreesModel", "differKind", "[I", true)
  | 10 => ("TwinTreesModel", "differBits", "[I", true)
  | 11 => ("TwinTreesModel", "differences", "I", false)
  | 12 => ("TwinTreesModel", "height", "[I", true)
  | 13 => ("TwinTreesModel", "begins", "[I", true)
  | 14 => ("TwinTreesModel", "long0", "[I", true)
  | 15 => ("TwinTreesModel", "width", "[I", true)
  | 16 => ("TwinTreesModel", "chain", "[I", true)
  | 17 => ("TwinTreesModel", "pool", "[J", true)
  | 18 => ("TwinTreesModel", "bucket", "[I", true)
  | 19 => ("TwinTreesModel", "nodes", "I", false)
  | 20 => ("TwinTreesModel", "used", "I", false)
  | 21 => ("TwinTreesModel", "level", "[I", false)
  | 22 => ("TwinTreesModel", "last", "[I", false)
  | 23 => ("TwinTreesModel", "levelMany", "I", false)
  | 24 => ("TwinTreesModel", "made", "[J", true)
  | 25 => ("TwinTreesModel", "madeMany", "I", false)
  | 26 => ("TwinTreesModel", "tall", "I", false)
  | 27 => ("TwinTreesModel", "counted", "I", false)
  | _ => ("TwinTreesModel", "sized", "I", false)
def tM : Nat → FieldType := fun k => match k with
  | 0 => .array .int
  | 1 => .array .int
  | 2 => .array (.array .int)
  | 3 => .array (.array .long)
  | 4 => .int
  | 5 => .int
  | 6 => .array .int
  | 7 => .array .long
  | 8 => .array .int
  | 9 => .array .int
  | 10 => .array .int
  | 11 => .int
  | 12 => .array .int
  | 13 => .array .int
  | 14 => .array .int
  | 15 => .array .int
  | 16 => .array .int
  | 17 => .array .long
  | 18 => .array .int
  | 19 => .int
  | 20 => .int
  | 21 => .array .int
  | 22 => .array .int
  | 23 => .int
  | 24 => .array .long
  | 25 => .int
  | 26 => .int
  | 27 => .int
  | _ => .int
theorem fnM : ∀ a, a < 29 → ∀ b, b < 29 → a ≠ b → (fM a).2.1 ≠ (fM b).2.1 := by decide +kernel
theorem ftM : ∀ k, k < 29 → parseFieldDescriptor (fM k).2.2.1 = some (tM k) := by decide +kernel
abbrev kL : String := "TwinTreesLaw"
abbrev clA : List vw_C := [(kT, fT, 8), (kD, fD, 4), (kN, fN, 12), (kR, fR, 5), (kQ, fQ, 2), (kS, fS, 4), (kM, fM, 29)]
/-- the words of the tables that go on holding, in the order of lw_tbl -/
def aw0 : List Cond := [.selects "TwinTrees$Store" ⟨"TwinTrees$Store", "pend", "(LTwinTrees$Node;)LTwinTrees$Node;"⟩ ⟨"TwinTrees$Store", "pend", "(LTwinTrees$Node;)LTwinTrees$Node;"⟩,
  .selects "TwinTrees$Store" ⟨"TwinTrees$Store", "link", "(LTwinTrees$Node;)V"⟩ ⟨"TwinTrees$Store", "link", "(LTwinTrees$Node;)V"⟩,
  .selects "TwinTrees" ⟨"TwinTrees", "plantDraft", "(I)I"⟩ ⟨"TwinTrees", "plantDraft", "(I)I"⟩,
  .selects "TwinTrees" ⟨"TwinTrees", "groupRows", "()I"⟩ ⟨"TwinTrees", "groupRows", "()I"⟩,
  .selects "TwinTrees" ⟨"TwinTrees", "groupNodes", "(II)I"⟩ ⟨"TwinTrees", "groupNodes", "(II)I"⟩,
  .selects "TwinTrees" ⟨"TwinTrees", "isColumn", "(II)Z"⟩ ⟨"TwinTrees", "isColumn", "(II)Z"⟩,
  .selects "TwinTrees" ⟨"TwinTrees", "draftRowsOf", "(I)V"⟩ ⟨"TwinTrees", "draftRowsOf", "(I)V"⟩,
  .selects "TwinTrees" ⟨"TwinTrees", "newStamp", "()I"⟩ ⟨"TwinTrees", "newStamp", "()I"⟩,
  .selects "TwinTrees" ⟨"TwinTrees", "gatherUnshared", "(IILTwinTrees$RowList;)V"⟩ ⟨"TwinTrees", "gatherUnshared", "(IILTwinTrees$RowList;)V"⟩,
  .selects "TwinTrees$Differences" ⟨"TwinTrees$Differences", "note", "(III)V"⟩ ⟨"TwinTrees$Differences", "note", "(III)V"⟩,
  .selects "TwinTreesModel" ⟨"TwinTreesModel", "lay", "(I)Z"⟩ ⟨"TwinTreesModel", "lay", "(I)Z"⟩,
  .selects "TwinTreesModel" ⟨"TwinTreesModel", "keep", "(III)Z"⟩ ⟨"TwinTreesModel", "keep", "(III)Z"⟩,
  .selects "TwinTreesModel" ⟨"TwinTreesModel", "node", "(II)I"⟩ ⟨"TwinTreesModel", "node", "(II)I"⟩,
  .selects "TwinTreesModel" ⟨"TwinTreesModel", "hash", "(II)I"⟩ ⟨"TwinTreesModel", "hash", "(II)I"⟩,
  .selects "TwinTreesModel" ⟨"TwinTreesModel", "isMade", "(III)Z"⟩ ⟨"TwinTreesModel", "isMade", "(III)Z"⟩,
  .selects "TwinTreesModel" ⟨"TwinTreesModel", "remember", "(I)V"⟩ ⟨"TwinTreesModel", "remember", "(I)V"⟩,
  .selects "TwinTreesModel" ⟨"TwinTreesModel", "write", "(I)I"⟩ ⟨"TwinTreesModel", "write", "(I)I"⟩,
  .selects "TwinTreesModel" ⟨"TwinTreesModel", "back", "(I)V"⟩ ⟨"TwinTreesModel", "back", "(I)V"⟩,
  .selects "TwinTreesModel" ⟨"TwinTreesModel", "find", "(II)I"⟩ ⟨"TwinTreesModel", "find", "(II)I"⟩,
  .selects "TwinTreesModel" ⟨"TwinTreesModel", "placeOf", "(II)I"⟩ ⟨"TwinTreesModel", "placeOf", "(II)I"⟩,
  .selects "TwinTreesModel" ⟨"TwinTreesModel", "move", "(III)V"⟩ ⟨"TwinTreesModel", "move", "(III)V"⟩,
  .selects "TwinTreesModel" ⟨"TwinTreesModel", "addressOf", "(I)J"⟩ ⟨"TwinTreesModel", "addressOf", "(I)J"⟩,
  .initialized "TwinTreesLaw",
  .initialized "TwinTrees",
  .initialized "TwinTrees$Store",
  .initialized "TwinTrees$Differences",
  .initialized "TwinTrees$RowList",
  .initialized "TwinTrees$Node",
  .initialized "TwinTreesModel",
  .initialized "java/lang/Math",
  .initialized "java/lang/System",
  .initialized "TwinTrees$Row",
  .initialized "java/util/Arrays",
  .classLink "TwinTreesLaw" 7 "TwinTrees",
  .instantiable "TwinTrees" 8,
  .methodLink "TwinTreesLaw" 9 ⟨"TwinTrees", "<init>", "()V"⟩,
  .instanceMethod ⟨"TwinTrees", "<init>", "()V"⟩,
  .code ⟨"TwinTrees", "<init>", "()V"⟩ prog_1_method_1_code 3 none,
  .methodLink "TwinTrees" 1 ⟨"java/lang/Object", "<init>", "()V"⟩,
  .instanceMethod ⟨"java/lang/Object", "<init>", "()V"⟩,
  .code ⟨"java/lang/Object", "<init>", "()V"⟩ object_method_1_code 1 none,
  .classLink "TwinTrees" 13 "TwinTrees$Node",
  .classLink "TwinTrees" 19 "TwinTrees$Store",
  .instantiable "TwinTrees$Store" 4,
  .instanceMethod ⟨"TwinTrees$Store", "<init>", "()V"⟩,
  .code ⟨"TwinTrees$Store", "<init>", "()V"⟩ prog_6_method_1_code 1 none,
  .methodLink "TwinTrees$Store" 3 ⟨"java/lang/Object", "<init>", "()V"⟩,
  .classLink "TwinTrees$Store" 9 "TwinTrees$Node",
  .fieldLink "TwinTrees$Store" 11 "TwinTrees$Store" "buckets" "[LTwinTrees$Node;",
  .fieldLink "TwinTrees$Store" 17 "TwinTrees$Store" "pending" "LTwinTrees$Node;",
  .fieldLink "TwinTrees$Store" 21 "TwinTrees$Store" "nodes" "I",
  .fieldLink "TwinTrees" 161 "TwinTrees$Store" "nodes" "I",
  .fieldLink "TwinTrees$Store" 25 "TwinTrees$Store" "size" "I",
  .fieldLink "TwinTrees" 164 "TwinTrees$Store" "size" "I",
  .laysFinal "TwinTrees$Store" "TwinTrees$Store" "buckets" "[LTwinTrees$Node;",
  .soleField "TwinTrees$Store" "buckets",
  .lays "TwinTrees$Store" "TwinTrees$Store" "pending" "LTwinTrees$Node;",
  .soleField "TwinTrees$Store" "pending",
  .lays "TwinTrees$Store" "TwinTrees$Store" "nodes" "I",
  .soleField "TwinTrees$Store" "nodes",
  .lays "TwinTrees$Store" "TwinTrees$Store" "size" "I",
  .soleField "TwinTrees$Store" "size",
  .superclass "TwinTrees$Store" "java/lang/Object",
  .arrayClass .int]
def aw1 : List Cond := [.classLink "TwinTrees" 26 "TwinTrees$Differences",
  .instantiable "TwinTrees$Differences" 4,
  .instanceMethod ⟨"TwinTrees$Differences", "<init>", "()V"⟩,
  .code ⟨"TwinTrees$Differences", "<init>", "()V"⟩ prog_2_method_1_code 1 none,
  .methodLink "TwinTrees$Differences" 3 ⟨"java/lang/Object", "<init>", "()V"⟩,
  .fieldLink "TwinTrees$Differences" 9 "TwinTrees$Differences" "keys" "[I",
  .fieldLink "TwinTrees" 149 "TwinTrees$Differences" "keys" "[I",
  .fieldLink "TwinTrees$Differences" 15 "TwinTrees$Differences" "sides" "[I",
  .fieldLink "TwinTrees" 152 "TwinTrees$Differences" "sides" "[I",
  .fieldLink "TwinTrees$Differences" 18 "TwinTrees$Differences" "unlikes" "[I",
  .fieldLink "TwinTrees" 155 "TwinTrees$Differences" "unlikes" "[I",
  .fieldLink "TwinTrees$Differences" 21 "TwinTrees$Differences" "length" "I",
  .fieldLink "TwinTrees" 148 "TwinTrees$Differences" "length" "I",
  .laysFinal "TwinTrees$Differences" "TwinTrees$Differences" "keys" "[I",
  .soleField "TwinTrees$Differences" "keys",
  .laysFinal "TwinTrees$Differences" "TwinTrees$Differences" "sides" "[I",
  .soleField "TwinTrees$Differences" "sides",
  .laysFinal "TwinTrees$Differences" "TwinTrees$Differences" "unlikes" "[I",
  .soleField "TwinTrees$Differences" "unlikes",
  .lays "TwinTrees$Differences" "TwinTrees$Differences" "length" "I",
  .soleField "TwinTrees$Differences" "length",
  .superclass "TwinTrees$Differences" "java/lang/Object",
  .classLink "TwinTrees" 33 "TwinTrees$RowList",
  .instantiable "TwinTrees$RowList" 2,
  .instanceMethod ⟨"TwinTrees$RowList", "<init>", "()V"⟩,
  .code ⟨"TwinTrees$RowList", "<init>", "()V"⟩ prog_5_method_1_code 1 none,
  .methodLink "TwinTrees$RowList" 3 ⟨"java/lang/Object", "<init>", "()V"⟩,
  .classLink "TwinTrees$RowList" 9 "TwinTrees$Row",
  .fieldLink "TwinTrees$RowList" 11 "TwinTrees$RowList" "rows" "[LTwinTrees$Row;",
  .fieldLink "TwinTrees$Differences" 28 "TwinTrees$RowList" "rows" "[LTwinTrees$Row;",
  .fieldLink "TwinTrees" 93 "TwinTrees$RowList" "rows" "[LTwinTrees$Row;",
  .fieldLink "TwinTrees$RowList" 17 "TwinTrees$RowList" "length" "I",
  .fieldLink "TwinTrees$Differences" 25 "TwinTrees$RowList" "length" "I",
  .fieldLink "TwinTrees" 64 "TwinTrees$RowList" "length" "I",
  .laysFinal "TwinTrees$RowList" "TwinTrees$RowList" "rows" "[LTwinTrees$Row;",
  .soleField "TwinTrees$RowList" "rows",
  .lays "TwinTrees$RowList" "TwinTrees$RowList" "length" "I",
  .soleField "TwinTrees$RowList" "length",
  .superclass "TwinTrees$RowList" "java/lang/Object",
  .classLink "TwinTrees" 50 "TwinTrees$Row",
  .methodLink "TwinTrees" 52 ⟨"TwinTrees$Store", "leafOf", "([LTwinTrees$Row;II)LTwinTrees$Node;"⟩,
  .instanceMethod ⟨"TwinTrees$Store", "leafOf", "([LTwinTrees$Row;II)LTwinTrees$Node;"⟩,
  .selects "TwinTrees$Store" ⟨"TwinTrees$Store", "leafOf", "([LTwinTrees$Row;II)LTwinTrees$Node;"⟩ ⟨"TwinTrees$Store", "leafOf", "([LTwinTrees$Row;II)LTwinTrees$Node;"⟩,
  .code ⟨"TwinTrees$Store", "leafOf", "([LTwinTrees$Row;II)LTwinTrees$Node;"⟩ prog_6_method_2_code 6 (some (.object "TwinTrees$Node")),
  .methodLink "TwinTrees$Store" 33 ⟨"TwinTrees$Store", "bucketOf", "(I)I"⟩,
  .static ⟨"TwinTrees$Store", "bucketOf", "(I)I"⟩,
  .code ⟨"TwinTrees$Store", "bucketOf", "(I)I"⟩ prog_6_method_8_code 1 (some .int),
  .constant "TwinTrees$Store" 68 (-1640531535),
  .methodLink "TwinTrees$Store" 38 ⟨"TwinTrees$Node", "isLikeLeaf", "([LTwinTrees$Row;II)Z"⟩,
  .instanceMethod ⟨"TwinTrees$Node", "isLikeLeaf", "([LTwinTrees$Row;II)Z"⟩,
  .selects "TwinTrees$Node" ⟨"TwinTrees$Node", "isLikeLeaf", "([LTwinTrees$Row;II)Z"⟩ ⟨"TwinTrees$Node", "isLikeLeaf", "([LTwinTrees$Row;II)Z"⟩,
  .code ⟨"TwinTrees$Node", "isLikeLeaf", "([LTwinTrees$Row;II)Z"⟩ prog_3_method_3_code 5 (some .boolean),
  .methodLink "TwinTrees$Node" 63 ⟨"TwinTrees$Row", "isLike", "(LTwinTrees$Row;)Z"⟩,
  .instanceMethod ⟨"TwinTrees$Row", "isLike", "(LTwinTrees$Row;)Z"⟩,
  .selects "TwinTrees$Row" ⟨"TwinTrees$Row", "isLike", "(LTwinTrees$Row;)Z"⟩ ⟨"TwinTrees$Row", "isLike", "(LTwinTrees$Row;)Z"⟩,
  .code ⟨"TwinTrees$Row", "isLike", "(LTwinTrees$Row;)Z"⟩ prog_4_method_4_code 2 (some .boolean),
  .methodLink "TwinTrees$Row" 40 ⟨"TwinTrees$Row", "unlikeCells", "(LTwinTrees$Row;)I"⟩,
  .instanceMethod ⟨"TwinTrees$Row", "unlikeCells", "(LTwinTrees$Row;)I"⟩,
  .selects "TwinTrees$Row" ⟨"TwinTrees$Row", "unlikeCells", "(LTwinTrees$Row;)I"⟩ ⟨"TwinTrees$Row", "unlikeCells", "(LTwinTrees$Row;)I"⟩,
  .code ⟨"TwinTrees$Row", "unlikeCells", "(LTwinTrees$Row;)I"⟩ prog_4_method_5_code 4 (some .int),
  .instantiable "TwinTrees$Node" 12,
  .methodLink "TwinTrees$Store" 45 ⟨"TwinTrees$Node", "<init>", "([LTwinTrees$Row;III)V"⟩,
  .instanceMethod ⟨"TwinTrees$Node", "<init>", "([LTwinTrees$Row;III)V"⟩,
  .code ⟨"TwinTrees$Node", "<init>", "([LTwinTrees$Row;III)V"⟩ prog_3_method_1_code 7 none]
def aw2 : List Cond := [.methodLink "TwinTrees$Node" 1 ⟨"java/lang/Object", "<init>", "()V"⟩,
  .classLink "TwinTrees$Node" 28 "TwinTrees$Row",
  .classLink "TwinTrees$Node" 8 "TwinTrees$Node",
  .fieldLink "TwinTrees$Node" 25 "TwinTrees$Node" "height" "I",
  .fieldLink "TwinTrees" 123 "TwinTrees$Node" "height" "I",
  .fieldLink "TwinTrees$Node" 30 "TwinTrees$Node" "rows" "[LTwinTrees$Row;",
  .fieldLink "TwinTrees" 194 "TwinTrees$Node" "rows" "[LTwinTrees$Row;",
  .fieldLink "TwinTrees$Node" 34 "TwinTrees$Node" "below" "[LTwinTrees$Node;",
  .fieldLink "TwinTrees" 191 "TwinTrees$Node" "below" "[LTwinTrees$Node;",
  .fieldLink "TwinTrees$Node" 42 "TwinTrees$Node" "rowCount" "I",
  .fieldLink "TwinTrees" 120 "TwinTrees$Node" "rowCount" "I",
  .fieldLink "TwinTrees$Node" 45 "TwinTrees$Node" "size" "I",
  .fieldLink "TwinTrees$Store" 59 "TwinTrees$Node" "size" "I",
  .fieldLink "TwinTrees$Node" 51 "TwinTrees$Node" "lastKey" "I",
  .fieldLink "TwinTrees" 199 "TwinTrees$Node" "lastKey" "I",
  .fieldLink "TwinTrees$Node" 57 "TwinTrees$Node" "lastLevel" "I",
  .fieldLink "TwinTrees" 181 "TwinTrees$Node" "lastLevel" "I",
  .fieldLink "TwinTrees$Node" 60 "TwinTrees$Node" "print" "I",
  .fieldLink "TwinTrees$Store" 37 "TwinTrees$Node" "print" "I",
  .fieldLink "TwinTrees$Node" 7 "TwinTrees$Node" "address" "J",
  .fieldLink "TwinTrees" 209 "TwinTrees$Node" "address" "J",
  .fieldLink "TwinTrees$Node" 13 "TwinTrees$Node" "hasAddress" "Z",
  .fieldLink "TwinTrees" 205 "TwinTrees$Node" "hasAddress" "Z",
  .fieldLink "TwinTrees$Node" 17 "TwinTrees$Node" "stamp" "I",
  .fieldLink "TwinTrees$Store" 65 "TwinTrees$Node" "stamp" "I",
  .fieldLink "TwinTrees" 188 "TwinTrees$Node" "stamp" "I",
  .fieldLink "TwinTrees$Node" 21 "TwinTrees$Node" "next" "LTwinTrees$Node;",
  .fieldLink "TwinTrees$Store" 42 "TwinTrees$Node" "next" "LTwinTrees$Node;",
  .laysFinal "TwinTrees$Node" "TwinTrees$Node" "height" "I",
  .soleField "TwinTrees$Node" "height",
  .laysFinal "TwinTrees$Node" "TwinTrees$Node" "rows" "[LTwinTrees$Row;",
  .soleField "TwinTrees$Node" "rows",
  .laysFinal "TwinTrees$Node" "TwinTrees$Node" "below" "[LTwinTrees$Node;",
  .soleField "TwinTrees$Node" "below",
  .laysFinal "TwinTrees$Node" "TwinTrees$Node" "rowCount" "I",
  .soleField "TwinTrees$Node" "rowCount",
  .laysFinal "TwinTrees$Node" "TwinTrees$Node" "size" "I",
  .soleField "TwinTrees$Node" "size",
  .laysFinal "TwinTrees$Node" "TwinTrees$Node" "lastKey" "I",
  .soleField "TwinTrees$Node" "lastKey",
  .laysFinal "TwinTrees$Node" "TwinTrees$Node" "lastLevel" "I",
  .soleField "TwinTrees$Node" "lastLevel",
  .laysFinal "TwinTrees$Node" "TwinTrees$Node" "print" "I",
  .soleField "TwinTrees$Node" "print",
  .lays "TwinTrees$Node" "TwinTrees$Node" "address" "J",
  .soleField "TwinTrees$Node" "address",
  .lays "TwinTrees$Node" "TwinTrees$Node" "hasAddress" "Z",
  .soleField "TwinTrees$Node" "hasAddress",
  .lays "TwinTrees$Node" "TwinTrees$Node" "stamp" "I",
  .soleField "TwinTrees$Node" "stamp",
  .lays "TwinTrees$Node" "TwinTrees$Node" "next" "LTwinTrees$Node;",
  .soleField "TwinTrees$Node" "next",
  .superclass "TwinTrees$Node" "java/lang/Object",
  .methodLink "TwinTrees$Store" 48 ⟨"TwinTrees$Store", "pend", "(LTwinTrees$Node;)LTwinTrees$Node;"⟩,
  .instanceMethod ⟨"TwinTrees$Store", "pend", "(LTwinTrees$Node;)LTwinTrees$Node;"⟩,
  .code ⟨"TwinTrees$Store", "pend", "(LTwinTrees$Node;)LTwinTrees$Node;"⟩ prog_6_method_6_code 2 (some (.object "TwinTrees$Node")),
  .methodLink "TwinTrees" 56 ⟨"TwinTrees$Store", "keepPending", "()I"⟩,
  .instanceMethod ⟨"TwinTrees$Store", "keepPending", "()I"⟩,
  .selects "TwinTrees$Store" ⟨"TwinTrees$Store", "keepPending", "()I"⟩ ⟨"TwinTrees$Store", "keepPending", "()I"⟩,
  .code ⟨"TwinTrees$Store", "keepPending", "()I"⟩ prog_6_method_4_code 5 (some .int),
  .constant "TwinTrees$Store" 60 60000,
  .methodLink "TwinTrees$Store" 61 ⟨"TwinTrees$Store", "link", "(LTwinTrees$Node;)V"⟩,
  .instanceMethod ⟨"TwinTrees$Store", "link", "(LTwinTrees$Node;)V"⟩,
  .code ⟨"TwinTrees$Store", "link", "(LTwinTrees$Node;)V"⟩ prog_6_method_7_code 3 none]
def aw3 : List Cond := [.fieldLink "TwinTrees" 9 "TwinTrees" "widths" "[I",
  .fieldLink "TwinTrees" 15 "TwinTrees" "roots" "[LTwinTrees$Node;",
  .fieldLink "TwinTrees" 22 "TwinTrees" "store" "LTwinTrees$Store;",
  .fieldLink "TwinTrees" 29 "TwinTrees" "differences" "LTwinTrees$Differences;",
  .fieldLink "TwinTrees" 36 "TwinTrees" "draft" "LTwinTrees$RowList;",
  .fieldLink "TwinTrees" 40 "TwinTrees" "beside" "LTwinTrees$RowList;",
  .fieldLink "TwinTrees" 43 "TwinTrees" "line" "[LTwinTrees$Node;",
  .fieldLink "TwinTrees" 46 "TwinTrees" "lastStamp" "I",
  .laysFinal "TwinTrees" "TwinTrees" "widths" "[I",
  .soleField "TwinTrees" "widths",
  .laysFinal "TwinTrees" "TwinTrees" "roots" "[LTwinTrees$Node;",
  .soleField "TwinTrees" "roots",
  .laysFinal "TwinTrees" "TwinTrees" "store" "LTwinTrees$Store;",
  .soleField "TwinTrees" "store",
  .laysFinal "TwinTrees" "TwinTrees" "differences" "LTwinTrees$Differences;",
  .soleField "TwinTrees" "differences",
  .laysFinal "TwinTrees" "TwinTrees" "draft" "LTwinTrees$RowList;",
  .soleField "TwinTrees" "draft",
  .laysFinal "TwinTrees" "TwinTrees" "beside" "LTwinTrees$RowList;",
  .soleField "TwinTrees" "beside",
  .laysFinal "TwinTrees" "TwinTrees" "line" "[LTwinTrees$Node;",
  .soleField "TwinTrees" "line",
  .lays "TwinTrees" "TwinTrees" "lastStamp" "I",
  .soleField "TwinTrees" "lastStamp",
  .superclass "TwinTrees" "java/lang/Object",
  .methodLink "TwinTreesLaw" 13 ⟨"TwinTrees", "make", "(II)I"⟩,
  .instanceMethod ⟨"TwinTrees", "make", "(II)I"⟩,
  .selects "TwinTrees" ⟨"TwinTrees", "make", "(II)I"⟩ ⟨"TwinTrees", "make", "(II)I"⟩,
  .code ⟨"TwinTrees", "make", "(II)I"⟩ prog_1_method_2_code 4 (some .int),
  .methodLink "TwinTrees" 60 ⟨"TwinTrees", "isTable", "(I)Z"⟩,
  .static ⟨"TwinTrees", "isTable", "(I)Z"⟩,
  .code ⟨"TwinTrees", "isTable", "(I)Z"⟩ prog_1_method_14_code 1 (some .boolean),
  .methodLink "TwinTrees" 67 ⟨"TwinTrees", "plantDraft", "(I)I"⟩,
  .instanceMethod ⟨"TwinTrees", "plantDraft", "(I)I"⟩,
  .code ⟨"TwinTrees", "plantDraft", "(I)I"⟩ prog_1_method_19_code 4 (some .int),
  .methodLink "TwinTrees" 171 ⟨"TwinTrees", "groupRows", "()I"⟩,
  .instanceMethod ⟨"TwinTrees", "groupRows", "()I"⟩,
  .code ⟨"TwinTrees", "groupRows", "()I"⟩ prog_1_method_20_code 4 (some .int),
  .methodLink "TwinTrees" 174 ⟨"TwinTrees", "groupNodes", "(II)I"⟩,
  .instanceMethod ⟨"TwinTrees", "groupNodes", "(II)I"⟩,
  .code ⟨"TwinTrees", "groupNodes", "(II)I"⟩ prog_1_method_21_code 6 (some .int),
  .methodLink "TwinTrees" 184 ⟨"TwinTrees$Store", "branchOf", "(I[LTwinTrees$Node;II)LTwinTrees$Node;"⟩,
  .instanceMethod ⟨"TwinTrees$Store", "branchOf", "(I[LTwinTrees$Node;II)LTwinTrees$Node;"⟩,
  .selects "TwinTrees$Store" ⟨"TwinTrees$Store", "branchOf", "(I[LTwinTrees$Node;II)LTwinTrees$Node;"⟩ ⟨"TwinTrees$Store", "branchOf", "(I[LTwinTrees$Node;II)LTwinTrees$Node;"⟩,
  .code ⟨"TwinTrees$Store", "branchOf", "(I[LTwinTrees$Node;II)LTwinTrees$Node;"⟩ prog_6_method_3_code 7 (some (.object "TwinTrees$Node")),
  .methodLink "TwinTrees$Store" 52 ⟨"TwinTrees$Node", "isLikeBranch", "([LTwinTrees$Node;II)Z"⟩,
  .instanceMethod ⟨"TwinTrees$Node", "isLikeBranch", "([LTwinTrees$Node;II)Z"⟩,
  .selects "TwinTrees$Node" ⟨"TwinTrees$Node", "isLikeBranch", "([LTwinTrees$Node;II)Z"⟩ ⟨"TwinTrees$Node", "isLikeBranch", "([LTwinTrees$Node;II)Z"⟩,
  .code ⟨"TwinTrees$Node", "isLikeBranch", "([LTwinTrees$Node;II)Z"⟩ prog_3_method_4_code 5 (some .boolean),
  .methodLink "TwinTrees$Store" 56 ⟨"TwinTrees$Node", "<init>", "(I[LTwinTrees$Node;III)V"⟩,
  .instanceMethod ⟨"TwinTrees$Node", "<init>", "(I[LTwinTrees$Node;III)V"⟩,
  .code ⟨"TwinTrees$Node", "<init>", "(I[LTwinTrees$Node;III)V"⟩ prog_3_method_2_code 8 none,
  .methodLink "TwinTreesLaw" 18 ⟨"TwinTrees", "put", "(IIIIZ)I"⟩,
  .instanceMethod ⟨"TwinTrees", "put", "(IIIIZ)I"⟩,
  .selects "TwinTrees" ⟨"TwinTrees", "put", "(IIIIZ)I"⟩ ⟨"TwinTrees", "put", "(IIIIZ)I"⟩,
  .code ⟨"TwinTrees", "put", "(IIIIZ)I"⟩ prog_1_method_3_code 7 (some .int),
  .methodLink "TwinTrees" 71 ⟨"TwinTrees", "isColumn", "(II)Z"⟩,
  .instanceMethod ⟨"TwinTrees", "isColumn", "(II)Z"⟩,
  .code ⟨"TwinTrees", "isColumn", "(II)Z"⟩ prog_1_method_15_code 3 (some .boolean),
  .methodLink "TwinTrees" 75 ⟨"TwinTrees", "draftRowsOf", "(I)V"⟩,
  .instanceMethod ⟨"TwinTrees", "draftRowsOf", "(I)V"⟩,
  .code ⟨"TwinTrees", "draftRowsOf", "(I)V"⟩ prog_1_method_17_code 2 none,
  .methodLink "TwinTrees" 126 ⟨"TwinTrees", "newStamp", "()I"⟩,
  .instanceMethod ⟨"TwinTrees", "newStamp", "()I"⟩]
def aw4 : List Cond := [.code ⟨"TwinTrees", "newStamp", "()I"⟩ prog_1_method_16_code 1 (some .int),
  .methodLink "TwinTrees" 167 ⟨"TwinTrees", "gather", "(LTwinTrees$Node;ILTwinTrees$RowList;I)V"⟩,
  .static ⟨"TwinTrees", "gather", "(LTwinTrees$Node;ILTwinTrees$RowList;I)V"⟩,
  .code ⟨"TwinTrees", "gather", "(LTwinTrees$Node;ILTwinTrees$RowList;I)V"⟩ prog_1_method_23_code 8 none,
  .methodLink "TwinTrees" 195 ⟨"TwinTrees$RowList", "append", "(LTwinTrees$Row;)V"⟩,
  .instanceMethod ⟨"TwinTrees$RowList", "append", "(LTwinTrees$Row;)V"⟩,
  .selects "TwinTrees$RowList" ⟨"TwinTrees$RowList", "append", "(LTwinTrees$Row;)V"⟩ ⟨"TwinTrees$RowList", "append", "(LTwinTrees$Row;)V"⟩,
  .code ⟨"TwinTrees$RowList", "append", "(LTwinTrees$Row;)V"⟩ prog_5_method_2_code 2 none,
  .methodLink "TwinTrees" 79 ⟨"TwinTrees$RowList", "placeOf", "(I)I"⟩,
  .instanceMethod ⟨"TwinTrees$RowList", "placeOf", "(I)I"⟩,
  .selects "TwinTrees$RowList" ⟨"TwinTrees$RowList", "placeOf", "(I)I"⟩ ⟨"TwinTrees$RowList", "placeOf", "(I)I"⟩,
  .code ⟨"TwinTrees$RowList", "placeOf", "(I)I"⟩ prog_5_method_3_code 3 (some .int),
  .methodLink "TwinTrees" 82 ⟨"TwinTrees$RowList", "hasKeyAt", "(II)Z"⟩,
  .instanceMethod ⟨"TwinTrees$RowList", "hasKeyAt", "(II)Z"⟩,
  .selects "TwinTrees$RowList" ⟨"TwinTrees$RowList", "hasKeyAt", "(II)Z"⟩ ⟨"TwinTrees$RowList", "hasKeyAt", "(II)Z"⟩,
  .code ⟨"TwinTrees$RowList", "hasKeyAt", "(II)Z"⟩ prog_5_method_4_code 3 (some .boolean),
  .methodLink "TwinTrees" 85 ⟨"TwinTrees", "blankRow", "(II)LTwinTrees$Row;"⟩,
  .static ⟨"TwinTrees", "blankRow", "(II)LTwinTrees$Row;"⟩,
  .code ⟨"TwinTrees", "blankRow", "(II)LTwinTrees$Row;"⟩ prog_1_method_29_code 2 (some (.object "TwinTrees$Row")),
  .instantiable "TwinTrees$Row" 5,
  .methodLink "TwinTrees" 225 ⟨"TwinTrees$Row", "<init>", "(I[II)V"⟩,
  .instanceMethod ⟨"TwinTrees$Row", "<init>", "(I[II)V"⟩,
  .code ⟨"TwinTrees$Row", "<init>", "(I[II)V"⟩ prog_4_method_1_code 9 none,
  .methodLink "TwinTrees$Row" 1 ⟨"java/lang/Object", "<init>", "()V"⟩,
  .static ⟨"TwinTrees", "levelOf", "(I)I"⟩,
  .code ⟨"TwinTrees", "levelOf", "(I)I"⟩ prog_1_method_30_code 3 (some .int),
  .constant "TwinTrees" 228 (-1640531535),
  .constant "TwinTrees" 229 (-2048144777),
  .fieldLink "TwinTrees$Row" 7 "TwinTrees$Row" "key" "I",
  .fieldLink "TwinTrees$Node" 48 "TwinTrees$Row" "key" "I",
  .fieldLink "TwinTrees$Differences" 32 "TwinTrees$Row" "key" "I",
  .fieldLink "TwinTrees$RowList" 21 "TwinTrees$Row" "key" "I",
  .fieldLink "TwinTrees" 202 "TwinTrees$Row" "key" "I",
  .fieldLink "TwinTrees$Row" 13 "TwinTrees$Row" "cells" "[I",
  .fieldLink "TwinTrees$Node" 38 "TwinTrees$Row" "cells" "[I",
  .fieldLink "TwinTrees" 117 "TwinTrees$Row" "cells" "[I",
  .fieldLink "TwinTrees$Row" 17 "TwinTrees$Row" "nulls" "I",
  .fieldLink "TwinTrees$Row" 26 "TwinTrees$Row" "level" "I",
  .fieldLink "TwinTrees$Node" 54 "TwinTrees$Row" "level" "I",
  .fieldLink "TwinTrees" 178 "TwinTrees$Row" "level" "I",
  .fieldLink "TwinTrees$Row" 29 "TwinTrees$Row" "print" "I",
  .fieldLink "TwinTrees$Store" 28 "TwinTrees$Row" "print" "I",
  .laysFinal "TwinTrees$Row" "TwinTrees$Row" "key" "I",
  .soleField "TwinTrees$Row" "key",
  .laysFinal "TwinTrees$Row" "TwinTrees$Row" "cells" "[I",
  .soleField "TwinTrees$Row" "cells",
  .laysFinal "TwinTrees$Row" "TwinTrees$Row" "nulls" "I",
  .soleField "TwinTrees$Row" "nulls",
  .laysFinal "TwinTrees$Row" "TwinTrees$Row" "level" "I",
  .soleField "TwinTrees$Row" "level",
  .laysFinal "TwinTrees$Row" "TwinTrees$Row" "print" "I",
  .soleField "TwinTrees$Row" "print",
  .superclass "TwinTrees$Row" "java/lang/Object",
  .methodLink "TwinTrees" 89 ⟨"TwinTrees$RowList", "insertAt", "(ILTwinTrees$Row;)V"⟩,
  .instanceMethod ⟨"TwinTrees$RowList", "insertAt", "(ILTwinTrees$Row;)V"⟩,
  .selects "TwinTrees$RowList" ⟨"TwinTrees$RowList", "insertAt", "(ILTwinTrees$Row;)V"⟩ ⟨"TwinTrees$RowList", "insertAt", "(ILTwinTrees$Row;)V"⟩,
  .code ⟨"TwinTrees$RowList", "insertAt", "(ILTwinTrees$Row;)V"⟩ prog_5_method_5_code 4 none,
  .methodLink "TwinTrees" 97 ⟨"TwinTrees$Row", "withCell", "(IIZ)LTwinTrees$Row;"⟩,
  .instanceMethod ⟨"TwinTrees$Row", "withCell", "(IIZ)LTwinTrees$Row;"⟩,
  .selects "TwinTrees$Row" ⟨"TwinTrees$Row", "withCell", "(IIZ)LTwinTrees$Row;"⟩ ⟨"TwinTrees$Row", "withCell", "(IIZ)LTwinTrees$Row;"⟩,
  .code ⟨"TwinTrees$Row", "withCell", "(IIZ)LTwinTrees$Row;"⟩ prog_4_method_2_code 6 (some (.object "TwinTrees$Row")),
  .methodLink "TwinTrees$Row" 32 ⟨"[I", "clone", "()Ljava/lang/Object;"⟩,
  .native ⟨"java/lang/Object", "clone", "()Ljava/lang/Object;"⟩,
  .instanceMethod ⟨"java/lang/Object", "clone", "()Ljava/lang/Object;"⟩]
def aw5 : List Cond := [.selects "[I" ⟨"[I", "clone", "()Ljava/lang/Object;"⟩ ⟨"java/lang/Object", "clone", "()Ljava/lang/Object;"⟩,
  .classLink "TwinTrees$Row" 33 "[I",
  .classLink "TwinTrees$Row" 8 "TwinTrees$Row",
  .methodLink "TwinTrees$Row" 37 ⟨"TwinTrees$Row", "<init>", "(I[II)V"⟩,
  .methodLink "TwinTreesLaw" 23 ⟨"TwinTrees", "remove", "(II)I"⟩,
  .instanceMethod ⟨"TwinTrees", "remove", "(II)I"⟩,
  .selects "TwinTrees" ⟨"TwinTrees", "remove", "(II)I"⟩ ⟨"TwinTrees", "remove", "(II)I"⟩,
  .code ⟨"TwinTrees", "remove", "(II)I"⟩ prog_1_method_4_code 4 (some .int),
  .methodLink "TwinTrees" 101 ⟨"TwinTrees$RowList", "takeAt", "(I)V"⟩,
  .instanceMethod ⟨"TwinTrees$RowList", "takeAt", "(I)V"⟩,
  .selects "TwinTrees$RowList" ⟨"TwinTrees$RowList", "takeAt", "(I)V"⟩ ⟨"TwinTrees$RowList", "takeAt", "(I)V"⟩,
  .code ⟨"TwinTrees$RowList", "takeAt", "(I)V"⟩ prog_5_method_6_code 3 none,
  .methodLink "TwinTreesLaw" 27 ⟨"TwinTrees", "copy", "(II)I"⟩,
  .instanceMethod ⟨"TwinTrees", "copy", "(II)I"⟩,
  .selects "TwinTrees" ⟨"TwinTrees", "copy", "(II)I"⟩ ⟨"TwinTrees", "copy", "(II)I"⟩,
  .code ⟨"TwinTrees", "copy", "(II)I"⟩ prog_1_method_5_code 3 (some .int),
  .methodLink "TwinTreesLaw" 31 ⟨"TwinTrees", "get", "(III)J"⟩,
  .instanceMethod ⟨"TwinTrees", "get", "(III)J"⟩,
  .selects "TwinTrees" ⟨"TwinTrees", "get", "(III)J"⟩ ⟨"TwinTrees", "get", "(III)J"⟩,
  .code ⟨"TwinTrees", "get", "(III)J"⟩ prog_1_method_6_code 5 (some .long),
  .constantLong "TwinTrees" 104 1099511627775,
  .methodLink "TwinTrees" 106 ⟨"TwinTrees", "rowWithKey", "(LTwinTrees$Node;I)LTwinTrees$Row;"⟩,
  .static ⟨"TwinTrees", "rowWithKey", "(LTwinTrees$Node;I)LTwinTrees$Row;"⟩,
  .code ⟨"TwinTrees", "rowWithKey", "(LTwinTrees$Node;I)LTwinTrees$Row;"⟩ prog_1_method_24_code 7 (some (.object "TwinTrees$Row")),
  .constantLong "TwinTrees" 110 1099511627774,
  .methodLink "TwinTrees" 112 ⟨"TwinTrees$Row", "isNull", "(I)Z"⟩,
  .instanceMethod ⟨"TwinTrees$Row", "isNull", "(I)Z"⟩,
  .selects "TwinTrees$Row" ⟨"TwinTrees$Row", "isNull", "(I)Z"⟩ ⟨"TwinTrees$Row", "isNull", "(I)Z"⟩,
  .code ⟨"TwinTrees$Row", "isNull", "(I)Z"⟩ prog_4_method_3_code 2 (some .boolean),
  .constantLong "TwinTrees" 115 1099511627776,
  .methodLink "TwinTreesLaw" 36 ⟨"TwinTrees", "measure", "(II)I"⟩,
  .instanceMethod ⟨"TwinTrees", "measure", "(II)I"⟩,
  .selects "TwinTrees" ⟨"TwinTrees", "measure", "(II)I"⟩ ⟨"TwinTrees", "measure", "(II)I"⟩,
  .code ⟨"TwinTrees", "measure", "(II)I"⟩ prog_1_method_7_code 4 (some .int),
  .methodLink "TwinTrees" 129 ⟨"TwinTrees", "stampTree", "(LTwinTrees$Node;II)I"⟩,
  .static ⟨"TwinTrees", "stampTree", "(LTwinTrees$Node;II)I"⟩,
  .code ⟨"TwinTrees", "stampTree", "(LTwinTrees$Node;II)I"⟩ prog_1_method_22_code 8 (some .int),
  .methodLink "TwinTreesLaw" 40 ⟨"TwinTrees", "address", "(I)J"⟩,
  .instanceMethod ⟨"TwinTrees", "address", "(I)J"⟩,
  .selects "TwinTrees" ⟨"TwinTrees", "address", "(I)J"⟩ ⟨"TwinTrees", "address", "(I)J"⟩,
  .code ⟨"TwinTrees", "address", "(I)J"⟩ prog_1_method_8_code 2 (some .long),
  .methodLink "TwinTrees" 133 ⟨"TwinTrees", "addressOf", "(LTwinTrees$Node;I)J"⟩,
  .static ⟨"TwinTrees", "addressOf", "(LTwinTrees$Node;I)J"⟩,
  .code ⟨"TwinTrees", "addressOf", "(LTwinTrees$Node;I)J"⟩ prog_1_method_26_code 8 (some .long),
  .constantLong "TwinTrees" 213 1469598103934665603,
  .methodLink "TwinTrees" 215 ⟨"TwinTrees", "mixed", "(JJ)J"⟩,
  .static ⟨"TwinTrees", "mixed", "(JJ)J"⟩,
  .code ⟨"TwinTrees", "mixed", "(JJ)J"⟩ prog_1_method_28_code 4 (some .long),
  .constantLong "TwinTrees" 223 1099511628211,
  .methodLink "TwinTrees" 219 ⟨"TwinTrees", "mixedRow", "(JLTwinTrees$Row;)J"⟩,
  .static ⟨"TwinTrees", "mixedRow", "(JLTwinTrees$Row;)J"⟩,
  .code ⟨"TwinTrees", "mixedRow", "(JLTwinTrees$Row;)J"⟩ prog_1_method_27_code 6 (some .long),
  .methodLink "TwinTreesLaw" 45 ⟨"TwinTrees", "row", "(II)J"⟩,
  .instanceMethod ⟨"TwinTrees", "row", "(II)J"⟩,
  .selects "TwinTrees" ⟨"TwinTrees", "row", "(II)J"⟩ ⟨"TwinTrees", "row", "(II)J"⟩,
  .code ⟨"TwinTrees", "row", "(II)J"⟩ prog_1_method_9_code 3 (some .long),
  .methodLink "TwinTrees" 137 ⟨"TwinTrees", "keyInOrder", "(LTwinTrees$Node;I)J"⟩,
  .static ⟨"TwinTrees", "keyInOrder", "(LTwinTrees$Node;I)J"⟩,
  .code ⟨"TwinTrees", "keyInOrder", "(LTwinTrees$Node;I)J"⟩ prog_1_method_25_code 6 (some .long),
  .methodLink "TwinTreesLaw" 50 ⟨"TwinTrees", "compare", "(II)I"⟩,
  .instanceMethod ⟨"TwinTrees", "compare", "(II)I"⟩,
  .selects "TwinTrees" ⟨"TwinTrees", "compare", "(II)I"⟩ ⟨"TwinTrees", "compare", "(II)I"⟩,
  .code ⟨"TwinTrees", "compare", "(II)I"⟩ prog_1_method_10_code 3 (some .int),
  .methodLink "TwinTrees" 140 ⟨"TwinTrees", "gatherUnshared", "(IILTwinTrees$RowList;)V"⟩]
def aw6 : List Cond := [.instanceMethod ⟨"TwinTrees", "gatherUnshared", "(IILTwinTrees$RowList;)V"⟩,
  .code ⟨"TwinTrees", "gatherUnshared", "(IILTwinTrees$RowList;)V"⟩ prog_1_method_18_code 5 none,
  .methodLink "TwinTrees" 144 ⟨"TwinTrees$Differences", "collect", "(LTwinTrees$RowList;LTwinTrees$RowList;)V"⟩,
  .instanceMethod ⟨"TwinTrees$Differences", "collect", "(LTwinTrees$RowList;LTwinTrees$RowList;)V"⟩,
  .selects "TwinTrees$Differences" ⟨"TwinTrees$Differences", "collect", "(LTwinTrees$RowList;LTwinTrees$RowList;)V"⟩ ⟨"TwinTrees$Differences", "collect", "(LTwinTrees$RowList;LTwinTrees$RowList;)V"⟩,
  .code ⟨"TwinTrees$Differences", "collect", "(LTwinTrees$RowList;LTwinTrees$RowList;)V"⟩ prog_2_method_2_code 6 none,
  .methodLink "TwinTrees$Differences" 37 ⟨"TwinTrees$Differences", "note", "(III)V"⟩,
  .instanceMethod ⟨"TwinTrees$Differences", "note", "(III)V"⟩,
  .code ⟨"TwinTrees$Differences", "note", "(III)V"⟩ prog_2_method_3_code 4 none,
  .methodLink "TwinTrees$Differences" 41 ⟨"TwinTrees$Row", "unlikeCells", "(LTwinTrees$Row;)I"⟩,
  .methodLink "TwinTreesLaw" 54 ⟨"TwinTrees", "difference", "(II)J"⟩,
  .instanceMethod ⟨"TwinTrees", "difference", "(II)J"⟩,
  .selects "TwinTrees" ⟨"TwinTrees", "difference", "(II)J"⟩ ⟨"TwinTrees", "difference", "(II)J"⟩,
  .code ⟨"TwinTrees", "difference", "(II)J"⟩ prog_1_method_11_code 3 (some .long),
  .methodLink "TwinTreesLaw" 58 ⟨"TwinTrees", "sweep", "()I"⟩,
  .instanceMethod ⟨"TwinTrees", "sweep", "()I"⟩,
  .selects "TwinTrees" ⟨"TwinTrees", "sweep", "()I"⟩ ⟨"TwinTrees", "sweep", "()I"⟩,
  .code ⟨"TwinTrees", "sweep", "()I"⟩ prog_1_method_12_code 6 (some .int),
  .methodLink "TwinTrees" 158 ⟨"TwinTrees$Store", "dropWithout", "(I)I"⟩,
  .instanceMethod ⟨"TwinTrees$Store", "dropWithout", "(I)I"⟩,
  .selects "TwinTrees$Store" ⟨"TwinTrees$Store", "dropWithout", "(I)I"⟩ ⟨"TwinTrees$Store", "dropWithout", "(I)I"⟩,
  .code ⟨"TwinTrees$Store", "dropWithout", "(I)I"⟩ prog_6_method_5_code 6 (some .int),
  .methodLink "TwinTreesLaw" 63 ⟨"TwinTrees", "count", "(I)I"⟩,
  .instanceMethod ⟨"TwinTrees", "count", "(I)I"⟩,
  .selects "TwinTrees" ⟨"TwinTrees", "count", "(I)I"⟩ ⟨"TwinTrees", "count", "(I)I"⟩,
  .code ⟨"TwinTrees", "count", "(I)I"⟩ prog_1_method_13_code 2 (some .int),
  .classLink "TwinTreesLaw" 10 "TwinTreesModel",
  .instantiable "TwinTreesModel" 29,
  .methodLink "TwinTreesLaw" 12 ⟨"TwinTreesModel", "<init>", "()V"⟩,
  .instanceMethod ⟨"TwinTreesModel", "<init>", "()V"⟩,
  .code ⟨"TwinTreesModel", "<init>", "()V"⟩ prog_8_method_1_code 2 none,
  .methodLink "TwinTreesModel" 3 ⟨"java/lang/Object", "<init>", "()V"⟩,
  .classLink "TwinTreesModel" 18 "[[I",
  .classLink "TwinTreesModel" 23 "[[J",
  .constant "TwinTreesModel" 44 60000,
  .methodLink "TwinTreesModel" 75 ⟨"TwinTreesModel", "lay", "(I)Z"⟩,
  .instanceMethod ⟨"TwinTreesModel", "lay", "(I)Z"⟩,
  .code ⟨"TwinTreesModel", "lay", "(I)Z"⟩ prog_8_method_8_code 7 (some .boolean),
  .methodLink "TwinTreesModel" 126 ⟨"TwinTreesModel", "levelOf", "(I)I"⟩,
  .static ⟨"TwinTreesModel", "levelOf", "(I)I"⟩,
  .code ⟨"TwinTreesModel", "levelOf", "(I)I"⟩ prog_8_method_3_code 3 (some .int),
  .constant "TwinTreesModel" 79 (-1640531535),
  .constant "TwinTreesModel" 80 (-2048144777),
  .methodLink "TwinTreesModel" 81 ⟨"java/lang/Math", "min", "(II)I"⟩,
  .static ⟨"java/lang/Math", "min", "(II)I"⟩,
  .code ⟨"java/lang/Math", "min", "(II)I"⟩ prog_10_method_69_code 2 (some .int),
  .methodLink "TwinTreesModel" 130 ⟨"TwinTreesModel", "keep", "(III)Z"⟩,
  .instanceMethod ⟨"TwinTreesModel", "keep", "(III)Z"⟩,
  .code ⟨"TwinTreesModel", "keep", "(III)Z"⟩ prog_8_method_9_code 5 (some .boolean),
  .methodLink "TwinTreesModel" 133 ⟨"TwinTreesModel", "node", "(II)I"⟩,
  .instanceMethod ⟨"TwinTreesModel", "node", "(II)I"⟩,
  .code ⟨"TwinTreesModel", "node", "(II)I"⟩ prog_8_method_6_code 5 (some .int),
  .methodLink "TwinTreesModel" 95 ⟨"TwinTreesModel", "hash", "(II)I"⟩,
  .instanceMethod ⟨"TwinTreesModel", "hash", "(II)I"⟩,
  .code ⟨"TwinTreesModel", "hash", "(II)I"⟩ prog_8_method_4_code 6 (some .int),
  .constantLong "TwinTreesModel" 87 31,
  .constantLong "TwinTreesModel" 93 1000003,
  .methodLink "TwinTreesModel" 98 ⟨"TwinTreesModel", "isMade", "(III)Z"⟩,
  .instanceMethod ⟨"TwinTreesModel", "isMade", "(III)Z"⟩,
  .code ⟨"TwinTreesModel", "isMade", "(III)Z"⟩ prog_8_method_5_code 5 (some .boolean),
  .methodLink "TwinTreesModel" 108 ⟨"java/lang/System", "arraycopy", "(Ljava/lang/Object;ILjava/lang/Object;II)V"⟩,
  .static ⟨"java/lang/System", "arraycopy", "(Ljava/lang/Object;ILjava/lang/Object;II)V"⟩,
  .native ⟨"java/lang/System", "arraycopy", "(Ljava/lang/Object;ILjava/lang/Object;II)V"⟩,
  .fieldLink "TwinTreesModel" 11 "TwinTreesModel" "columns" "[I"]
def aw7 : List Cond := [.fieldLink "TwinTreesModel" 15 "TwinTreesModel" "many" "[I",
  .fieldLink "TwinTreesModel" 20 "TwinTreesModel" "key" "[[I",
  .fieldLink "TwinTreesModel" 25 "TwinTreesModel" "cell" "[[J",
  .fieldLink "TwinTreesModel" 150 "TwinTreesModel" "oldColumns" "I",
  .fieldLink "TwinTreesModel" 153 "TwinTreesModel" "oldMany" "I",
  .fieldLink "TwinTreesModel" 28 "TwinTreesModel" "oldKey" "[I",
  .fieldLink "TwinTreesModel" 31 "TwinTreesModel" "oldCell" "[J",
  .fieldLink "TwinTreesModel" 35 "TwinTreesModel" "differKey" "[I",
  .fieldLink "TwinTreesModel" 38 "TwinTreesModel" "differKind" "[I",
  .fieldLink "TwinTreesModel" 41 "TwinTreesModel" "differBits" "[I",
  .fieldLink "TwinTreesModel" 185 "TwinTreesModel" "differences" "I",
  .fieldLink "TwinTreesModel" 45 "TwinTreesModel" "height" "[I",
  .fieldLink "TwinTreesModel" 48 "TwinTreesModel" "begins" "[I",
  .fieldLink "TwinTreesModel" 51 "TwinTreesModel" "long0" "[I",
  .fieldLink "TwinTreesModel" 54 "TwinTreesModel" "width" "[I",
  .fieldLink "TwinTreesModel" 57 "TwinTreesModel" "chain" "[I",
  .fieldLink "TwinTreesModel" 60 "TwinTreesModel" "pool" "[J",
  .fieldLink "TwinTreesModel" 63 "TwinTreesModel" "bucket" "[I",
  .fieldLink "TwinTreesModel" 105 "TwinTreesModel" "nodes" "I",
  .fieldLink "TwinTreesModel" 102 "TwinTreesModel" "used" "I",
  .fieldLink "TwinTreesModel" 66 "TwinTreesModel" "level" "[I",
  .fieldLink "TwinTreesModel" 69 "TwinTreesModel" "last" "[I",
  .fieldLink "TwinTreesModel" 114 "TwinTreesModel" "levelMany" "I",
  .fieldLink "TwinTreesModel" 72 "TwinTreesModel" "made" "[J",
  .fieldLink "TwinTreesModel" 89 "TwinTreesModel" "madeMany" "I",
  .fieldLink "TwinTreesModel" 117 "TwinTreesModel" "tall" "I",
  .fieldLink "TwinTreesModel" 120 "TwinTreesModel" "counted" "I",
  .fieldLink "TwinTreesModel" 123 "TwinTreesModel" "sized" "I",
  .laysFinal "TwinTreesModel" "TwinTreesModel" "columns" "[I",
  .soleField "TwinTreesModel" "columns",
  .laysFinal "TwinTreesModel" "TwinTreesModel" "many" "[I",
  .soleField "TwinTreesModel" "many",
  .laysFinal "TwinTreesModel" "TwinTreesModel" "key" "[[I",
  .soleField "TwinTreesModel" "key",
  .laysFinal "TwinTreesModel" "TwinTreesModel" "cell" "[[J",
  .soleField "TwinTreesModel" "cell",
  .lays "TwinTreesModel" "TwinTreesModel" "oldColumns" "I",
  .soleField "TwinTreesModel" "oldColumns",
  .lays "TwinTreesModel" "TwinTreesModel" "oldMany" "I",
  .soleField "TwinTreesModel" "oldMany",
  .laysFinal "TwinTreesModel" "TwinTreesModel" "oldKey" "[I",
  .soleField "TwinTreesModel" "oldKey",
  .laysFinal "TwinTreesModel" "TwinTreesModel" "oldCell" "[J",
  .soleField "TwinTreesModel" "oldCell",
  .laysFinal "TwinTreesModel" "TwinTreesModel" "differKey" "[I",
  .soleField "TwinTreesModel" "differKey",
  .laysFinal "TwinTreesModel" "TwinTreesModel" "differKind" "[I",
  .soleField "TwinTreesModel" "differKind",
  .laysFinal "TwinTreesModel" "TwinTreesModel" "differBits" "[I",
  .soleField "TwinTreesModel" "differBits",
  .lays "TwinTreesModel" "TwinTreesModel" "differences" "I",
  .soleField "TwinTreesModel" "differences",
  .laysFinal "TwinTreesModel" "TwinTreesModel" "height" "[I",
  .soleField "TwinTreesModel" "height",
  .laysFinal "TwinTreesModel" "TwinTreesModel" "begins" "[I",
  .soleField "TwinTreesModel" "begins",
  .laysFinal "TwinTreesModel" "TwinTreesModel" "long0" "[I",
  .soleField "TwinTreesModel" "long0",
  .laysFinal "TwinTreesModel" "TwinTreesModel" "width" "[I",
  .soleField "TwinTreesModel" "width",
  .laysFinal "TwinTreesModel" "TwinTreesModel" "chain" "[I",
  .soleField "TwinTreesModel" "chain",
  .laysFinal "TwinTreesModel" "TwinTreesModel" "pool" "[J",
  .soleField "TwinTreesModel" "pool"]
def aw8 : List Cond := [.laysFinal "TwinTreesModel" "TwinTreesModel" "bucket" "[I",
  .soleField "TwinTreesModel" "bucket",
  .lays "TwinTreesModel" "TwinTreesModel" "nodes" "I",
  .soleField "TwinTreesModel" "nodes",
  .lays "TwinTreesModel" "TwinTreesModel" "used" "I",
  .soleField "TwinTreesModel" "used",
  .lays "TwinTreesModel" "TwinTreesModel" "level" "[I",
  .soleField "TwinTreesModel" "level",
  .lays "TwinTreesModel" "TwinTreesModel" "last" "[I",
  .soleField "TwinTreesModel" "last",
  .lays "TwinTreesModel" "TwinTreesModel" "levelMany" "I",
  .soleField "TwinTreesModel" "levelMany",
  .laysFinal "TwinTreesModel" "TwinTreesModel" "made" "[J",
  .soleField "TwinTreesModel" "made",
  .lays "TwinTreesModel" "TwinTreesModel" "madeMany" "I",
  .soleField "TwinTreesModel" "madeMany",
  .lays "TwinTreesModel" "TwinTreesModel" "tall" "I",
  .soleField "TwinTreesModel" "tall",
  .lays "TwinTreesModel" "TwinTreesModel" "counted" "I",
  .soleField "TwinTreesModel" "counted",
  .lays "TwinTreesModel" "TwinTreesModel" "sized" "I",
  .soleField "TwinTreesModel" "sized",
  .superclass "TwinTreesModel" "java/lang/Object",
  .arrayClass .long,
  .methodLink "TwinTreesLaw" 17 ⟨"TwinTreesModel", "make", "(II)I"⟩,
  .instanceMethod ⟨"TwinTreesModel", "make", "(II)I"⟩,
  .selects "TwinTreesModel" ⟨"TwinTreesModel", "make", "(II)I"⟩ ⟨"TwinTreesModel", "make", "(II)I"⟩,
  .code ⟨"TwinTreesModel", "make", "(II)I"⟩ prog_8_method_17_code 3 (some .int),
  .methodLink "TwinTreesModel" 163 ⟨"TwinTreesModel", "in", "(III)Z"⟩,
  .static ⟨"TwinTreesModel", "in", "(III)Z"⟩,
  .code ⟨"TwinTreesModel", "in", "(III)Z"⟩ prog_8_method_2_code 3 (some .boolean),
  .methodLink "TwinTreesModel" 166 ⟨"TwinTreesModel", "remember", "(I)V"⟩,
  .instanceMethod ⟨"TwinTreesModel", "remember", "(I)V"⟩,
  .code ⟨"TwinTreesModel", "remember", "(I)V"⟩ prog_8_method_12_code 2 none,
  .methodLink "TwinTreesModel" 169 ⟨"TwinTreesModel", "write", "(I)I"⟩,
  .instanceMethod ⟨"TwinTreesModel", "write", "(I)I"⟩,
  .code ⟨"TwinTreesModel", "write", "(I)I"⟩ prog_8_method_13_code 3 (some .int),
  .methodLink "TwinTreesModel" 156 ⟨"TwinTreesModel", "back", "(I)V"⟩,
  .instanceMethod ⟨"TwinTreesModel", "back", "(I)V"⟩,
  .code ⟨"TwinTreesModel", "back", "(I)V"⟩ prog_8_method_7_code 2 none,
  .methodLink "TwinTreesLaw" 22 ⟨"TwinTreesModel", "put", "(IIIIZ)I"⟩,
  .instanceMethod ⟨"TwinTreesModel", "put", "(IIIIZ)I"⟩,
  .selects "TwinTreesModel" ⟨"TwinTreesModel", "put", "(IIIIZ)I"⟩ ⟨"TwinTreesModel", "put", "(IIIIZ)I"⟩,
  .code ⟨"TwinTreesModel", "put", "(IIIIZ)I"⟩ prog_8_method_18_code 8 (some .int),
  .methodLink "TwinTreesModel" 172 ⟨"TwinTreesModel", "find", "(II)I"⟩,
  .instanceMethod ⟨"TwinTreesModel", "find", "(II)I"⟩,
  .code ⟨"TwinTreesModel", "find", "(II)I"⟩ prog_8_method_15_code 4 (some .int),
  .methodLink "TwinTreesModel" 160 ⟨"TwinTreesModel", "placeOf", "(II)I"⟩,
  .instanceMethod ⟨"TwinTreesModel", "placeOf", "(II)I"⟩,
  .code ⟨"TwinTreesModel", "placeOf", "(II)I"⟩ prog_8_method_14_code 4 (some .int),
  .methodLink "TwinTreesModel" 175 ⟨"TwinTreesModel", "move", "(III)V"⟩,
  .instanceMethod ⟨"TwinTreesModel", "move", "(III)V"⟩,
  .code ⟨"TwinTreesModel", "move", "(III)V"⟩ prog_8_method_16_code 5 none,
  .constantLong "TwinTreesModel" 146 (-9223372036854775808),
  .methodLink "TwinTreesLaw" 26 ⟨"TwinTreesModel", "remove", "(II)I"⟩,
  .instanceMethod ⟨"TwinTreesModel", "remove", "(II)I"⟩,
  .selects "TwinTreesModel" ⟨"TwinTreesModel", "remove", "(II)I"⟩ ⟨"TwinTreesModel", "remove", "(II)I"⟩,
  .code ⟨"TwinTreesModel", "remove", "(II)I"⟩ prog_8_method_19_code 5 (some .int),
  .methodLink "TwinTreesLaw" 30 ⟨"TwinTreesModel", "copy", "(II)I"⟩,
  .instanceMethod ⟨"TwinTreesModel", "copy", "(II)I"⟩,
  .selects "TwinTreesModel" ⟨"TwinTreesModel", "copy", "(II)I"⟩ ⟨"TwinTreesModel", "copy", "(II)I"⟩,
  .code ⟨"TwinTreesModel", "copy", "(II)I"⟩ prog_8_method_20_code 3 (some .int),
  .methodLink "TwinTreesLaw" 35 ⟨"TwinTreesModel", "get", "(III)J"⟩,
  .instanceMethod ⟨"TwinTreesModel", "get", "(III)J"⟩]
def aw9 : List Cond := [.selects "TwinTreesModel" ⟨"TwinTreesModel", "get", "(III)J"⟩ ⟨"TwinTreesModel", "get", "(III)J"⟩,
  .code ⟨"TwinTreesModel", "get", "(III)J"⟩ prog_8_method_21_code 7 (some .long),
  .constantLong "TwinTreesModel" 179 1099511627775,
  .constantLong "TwinTreesModel" 181 1099511627774,
  .constantLong "TwinTreesModel" 183 1099511627776,
  .methodLink "TwinTreesLaw" 39 ⟨"TwinTreesModel", "measure", "(II)I"⟩,
  .instanceMethod ⟨"TwinTreesModel", "measure", "(II)I"⟩,
  .selects "TwinTreesModel" ⟨"TwinTreesModel", "measure", "(II)I"⟩ ⟨"TwinTreesModel", "measure", "(II)I"⟩,
  .code ⟨"TwinTreesModel", "measure", "(II)I"⟩ prog_8_method_22_code 3 (some .int),
  .methodLink "TwinTreesLaw" 44 ⟨"TwinTreesModel", "address", "(I)J"⟩,
  .instanceMethod ⟨"TwinTreesModel", "address", "(I)J"⟩,
  .selects "TwinTreesModel" ⟨"TwinTreesModel", "address", "(I)J"⟩ ⟨"TwinTreesModel", "address", "(I)J"⟩,
  .code ⟨"TwinTreesModel", "address", "(I)J"⟩ prog_8_method_23_code 2 (some .long),
  .methodLink "TwinTreesModel" 142 ⟨"TwinTreesModel", "addressOf", "(I)J"⟩,
  .instanceMethod ⟨"TwinTreesModel", "addressOf", "(I)J"⟩,
  .code ⟨"TwinTreesModel", "addressOf", "(I)J"⟩ prog_8_method_10_code 8 (some .long),
  .constantLong "TwinTreesModel" 136 1469598103934665603,
  .methodLink "TwinTreesModel" 138 ⟨"TwinTreesModel", "step", "(JJ)J"⟩,
  .static ⟨"TwinTreesModel", "step", "(JJ)J"⟩,
  .code ⟨"TwinTreesModel", "step", "(JJ)J"⟩ prog_8_method_11_code 4 (some .long),
  .constantLong "TwinTreesModel" 148 1099511628211,
  .methodLink "TwinTreesLaw" 49 ⟨"TwinTreesModel", "row", "(II)J"⟩,
  .instanceMethod ⟨"TwinTreesModel", "row", "(II)J"⟩,
  .selects "TwinTreesModel" ⟨"TwinTreesModel", "row", "(II)J"⟩ ⟨"TwinTreesModel", "row", "(II)J"⟩,
  .code ⟨"TwinTreesModel", "row", "(II)J"⟩ prog_8_method_24_code 3 (some .long),
  .methodLink "TwinTreesLaw" 53 ⟨"TwinTreesModel", "compare", "(II)I"⟩,
  .instanceMethod ⟨"TwinTreesModel", "compare", "(II)I"⟩,
  .selects "TwinTreesModel" ⟨"TwinTreesModel", "compare", "(II)I"⟩ ⟨"TwinTreesModel", "compare", "(II)I"⟩,
  .code ⟨"TwinTreesModel", "compare", "(II)I"⟩ prog_8_method_25_code 10 (some .int),
  .methodLink "TwinTreesLaw" 57 ⟨"TwinTreesModel", "difference", "(II)J"⟩,
  .instanceMethod ⟨"TwinTreesModel", "difference", "(II)J"⟩,
  .selects "TwinTreesModel" ⟨"TwinTreesModel", "difference", "(II)J"⟩ ⟨"TwinTreesModel", "difference", "(II)J"⟩,
  .code ⟨"TwinTreesModel", "difference", "(II)J"⟩ prog_8_method_26_code 3 (some .long),
  .methodLink "TwinTreesLaw" 62 ⟨"TwinTreesModel", "sweep", "()I"⟩,
  .instanceMethod ⟨"TwinTreesModel", "sweep", "()I"⟩,
  .selects "TwinTreesModel" ⟨"TwinTreesModel", "sweep", "()I"⟩ ⟨"TwinTreesModel", "sweep", "()I"⟩,
  .code ⟨"TwinTreesModel", "sweep", "()I"⟩ prog_8_method_27_code 3 (some .int),
  .methodLink "TwinTreesModel" 188 ⟨"java/util/Arrays", "fill", "([II)V"⟩,
  .static ⟨"java/util/Arrays", "fill", "([II)V"⟩,
  .code ⟨"java/util/Arrays", "fill", "([II)V"⟩ prog_12_method_103_code 4 none,
  .methodLink "TwinTreesLaw" 67 ⟨"TwinTreesModel", "count", "(I)I"⟩,
  .instanceMethod ⟨"TwinTreesModel", "count", "(I)I"⟩,
  .selects "TwinTreesModel" ⟨"TwinTreesModel", "count", "(I)I"⟩ ⟨"TwinTreesModel", "count", "(I)I"⟩,
  .code ⟨"TwinTreesModel", "count", "(I)I"⟩ prog_8_method_28_code 2 (some .int)]
def aw : List Cond := aw0 ++ (aw1 ++ (aw2 ++ (aw3 ++ (aw4 ++ (aw5 ++ (aw6 ++ (aw7 ++ (aw8 ++ (aw9)))))))))
theorem aw0_in : ∀ w ∈ aw0, w ∈ aw := fun w h => List.mem_append_left _ h
theorem aw0_good : aw0.all goodWord = true := by decide +kernel
theorem aw1_in : ∀ w ∈ aw1, w ∈ aw := fun w h => List.mem_append_right _ (List.mem_append_left _ h)
theorem aw1_good : aw1.all goodWord = true := by decide +kernel
theorem aw2_in : ∀ w ∈ aw2, w ∈ aw := fun w h => List.mem_append_right _ (List.mem_append_right _ (List.mem_append_left _ h))
theorem aw2_good : aw2.all goodWord = true := by decide +kernel
theorem aw3_in : ∀ w ∈ aw3, w ∈ aw := fun w h => List.mem_append_right _ (List.mem_append_right _ (List.mem_append_right _ (List.mem_append_left _ h)))
theorem aw3_good : aw3.all goodWord = true := by decide +kernel
theorem aw4_in : ∀ w ∈ aw4, w ∈ aw := fun w h => List.mem_append_right _ (List.mem_append_right _ (List.mem_append_right _ (List.mem_append_right _ (List.mem_append_left _ h))))
theorem aw4_good : aw4.all goodWord = true := by decide +kernel
theorem aw5_in : ∀ w ∈ aw5, w ∈ aw := fun w h => List.mem_append_right _ (List.mem_append_right _ (List.mem_append_right _ (List.mem_append_right _ (List.mem_append_right _ (List.mem_append_left _ h)))))
theorem aw5_good : aw5.all goodWord = true := by decide +kernel
theorem aw6_in : ∀ w ∈ aw6, w ∈ aw := fun w h => List.mem_append_right _ (List.mem_append_right _ (List.mem_append_right _ (List.mem_append_right _ (List.mem_append_right _ (List.mem_append_right _ (List.mem_append_left _ h))))))
theorem aw6_good : aw6.all goodWord = true := by decide +kernel
theorem aw7_in : ∀ w ∈ aw7, w ∈ aw := fun w h => List.mem_append_right _ (List.mem_append_right _ (List.mem_append_right _ (List.mem_append_right _ (List.mem_append_right _ (List.mem_append_right _ (List.mem_append_right _ (List.mem_append_left _ h)))))))
theorem aw7_good : aw7.all goodWord = true := by decide +kernel
theorem aw8_in : ∀ w ∈ aw8, w ∈ aw := fun w h => List.mem_append_right _ (List.mem_append_right _ (List.mem_append_right _ (List.mem_append_right _ (List.mem_append_right _ (List.mem_append_right _ (List.mem_append_right _ (List.mem_append_right _ (List.mem_append_left _ h))))))))
theorem aw8_good : aw8.all goodWord = true := by decide +kernel
theorem aw9_in : ∀ w ∈ aw9, w ∈ aw := fun w h => List.mem_append_right _ (List.mem_append_right _ (List.mem_append_right _ (List.mem_append_right _ (List.mem_append_right _ (List.mem_append_right _ (List.mem_append_right _ (List.mem_append_right _ (List.mem_append_right _ (h)))))))))
theorem aw9_good : aw9.all goodWord = true := by decide +kernel
theorem w0 : Cond.selects "TwinTrees$Store" ⟨"TwinTrees$Store", "pend", "(LTwinTrees$Node;)LTwinTrees$Node;"⟩ ⟨"TwinTrees$Store", "pend", "(LTwinTrees$Node;)LTwinTrees$Node;"⟩ ∈ aw := aw0_in _ (List.mem_of_getElem? (i := 0) rfl)
theorem w1 : Cond.selects "TwinTrees$Store" ⟨"TwinTrees$Store", "link", "(LTwinTrees$Node;)V"⟩ ⟨"TwinTrees$Store", "link", "(LTwinTrees$Node;)V"⟩ ∈ aw := aw0_in _ (List.mem_of_getElem? (i := 1) rfl)
theorem w2 : Cond.selects "TwinTrees" ⟨"TwinTrees", "plantDraft", "(I)I"⟩ ⟨"TwinTrees", "plantDraft", "(I)I"⟩ ∈ aw := aw0_in _ (List.mem_of_getElem? (i := 2) rfl)
theorem w3 : Cond.selects "TwinTrees" ⟨"TwinTrees", "groupRows", "()I"⟩ ⟨"TwinTrees", "groupRows", "()I"⟩ ∈ aw := aw0_in _ (List.mem_of_getElem? (i := 3) rfl)
theorem w4 : Cond.selects "TwinTrees" ⟨"TwinTrees", "groupNodes", "(II)I"⟩ ⟨"TwinTrees", "groupNodes", "(II)I"⟩ ∈ aw := aw0_in _ (List.mem_of_getElem? (i := 4) rfl)
theorem w5 : Cond.selects "TwinTrees" ⟨"TwinTrees", "isColumn", "(II)Z"⟩ ⟨"TwinTrees", "isColumn", "(II)Z"⟩ ∈ aw := aw0_in _ (List.mem_of_getElem? (i := 5) rfl)
theorem w6 : Cond.selects "TwinTrees" ⟨"TwinTrees", "draftRowsOf", "(I)V"⟩ ⟨"TwinTrees", "draftRowsOf", "(I)V"⟩ ∈ aw := aw0_in _ (List.mem_of_getElem? (i := 6) rfl)
theorem w7 : Cond.selects "TwinTrees" ⟨"TwinTrees", "newStamp", "()I"⟩ ⟨"TwinTrees", "newStamp", "()I"⟩ ∈ aw := aw0_in _ (List.mem_of_getElem? (i := 7) rfl)
theorem w8 : Cond.selects "TwinTrees" ⟨"TwinTrees", "gatherUnshared", "(IILTwinTrees$RowList;)V"⟩ ⟨"TwinTrees", "gatherUnshared", "(IILTwinTrees$RowList;)V"⟩ ∈ aw := aw0_in _ (List.mem_of_getElem? (i := 8) rfl)
theorem w9 : Cond.selects "TwinTrees$Differences" ⟨"TwinTrees$Differences", "note", "(III)V"⟩ ⟨"TwinTrees$Differences", "note", "(III)V"⟩ ∈ aw := aw0_in _ (List.mem_of_getElem? (i := 9) rfl)
theorem w10 : Cond.selects "TwinTreesModel" ⟨"TwinTreesModel", "lay", "(I)Z"⟩ ⟨"TwinTreesModel", "lay", "(I)Z"⟩ ∈ aw := aw0_in _ (List.mem_of_getElem? (i := 10) rfl)
theorem w11 : Cond.selects "TwinTreesModel" ⟨"TwinTreesModel", "keep", "(III)Z"⟩ ⟨"TwinTreesModel", "keep", "(III)Z"⟩ ∈ aw := aw0_in _ (List.mem_of_getElem? (i := 11) rfl)
theorem w12 : Cond.selects "TwinTreesModel" ⟨"TwinTreesModel", "node", "(II)I"⟩ ⟨"TwinTreesModel", "node", "(II)I"⟩ ∈ aw := aw0_in _ (List.mem_of_getElem? (i := 12) rfl)
theorem w13 : Cond.selects "TwinTreesModel" ⟨"TwinTreesModel", "hash", "(II)I"⟩ ⟨"TwinTreesModel", "hash", "(II)I"⟩ ∈ aw := aw0_in _ (List.mem_of_getElem? (i := 13) rfl)
theorem w14 : Cond.selects "TwinTreesModel" ⟨"TwinTreesModel", "isMade", "(III)Z"⟩ ⟨"TwinTreesModel", "isMade", "(III)Z"⟩ ∈ aw := aw0_in _ (List.mem_of_getElem? (i := 14) rfl)
theorem w15 : Cond.selects "TwinTreesModel" ⟨"TwinTreesModel", "remember", "(I)V"⟩ ⟨"TwinTreesModel", "remember", "(I)V"⟩ ∈ aw := aw0_in _ (List.mem_of_getElem? (i := 15) rfl)
theorem w16 : Cond.selects "TwinTreesModel" ⟨"TwinTreesModel", "write", "(I)I"⟩ ⟨"TwinTreesModel", "write", "(I)I"⟩ ∈ aw := aw0_in _ (List.mem_of_getElem? (i := 16) rfl)
theorem w17 : Cond.selects "TwinTreesModel" ⟨"TwinTreesModel", "back", "(I)V"⟩ ⟨"TwinTreesModel", "back", "(I)V"⟩ ∈ aw := aw0_in _ (List.mem_of_getElem? (i := 17) rfl)
theorem w18 : Cond.selects "TwinTreesModel" ⟨"TwinTreesModel", "find", "(II)I"⟩ ⟨"TwinTreesModel", "find", "(II)I"⟩ ∈ aw := aw0_in _ (List.mem_of_getElem? (i := 18) rfl)
theorem w19 : Cond.selects "TwinTreesModel" ⟨"TwinTreesModel", "placeOf", "(II)I"⟩ ⟨"TwinTreesModel", "placeOf", "(II)I"⟩ ∈ aw := aw0_in _ (List.mem_of_getElem? (i := 19) rfl)
theorem w20 : Cond.selects "TwinTreesModel" ⟨"TwinTreesModel", "move", "(III)V"⟩ ⟨"TwinTreesModel", "move", "(III)V"⟩ ∈ aw := aw0_in _ (List.mem_of_getElem? (i := 20) rfl)
theorem w21 : Cond.selects "TwinTreesModel" ⟨"TwinTreesModel", "addressOf", "(I)J"⟩ ⟨"TwinTreesModel", "addressOf", "(I)J"⟩ ∈ aw := aw0_in _ (List.mem_of_getElem? (i := 21) rfl)
theorem w22 : Cond.initialized "TwinTreesLaw" ∈ aw := aw0_in _ (List.mem_of_getElem? (i := 22) rfl)
theorem w23 : Cond.initialized "TwinTrees" ∈ aw := aw0_in _ (List.mem_of_getElem? (i := 23) rfl)
theorem w24 : Cond.initialized "TwinTrees$Store" ∈ aw := aw0_in _ (List.mem_of_getElem? (i := 24) rfl)
theorem w25 : Cond.initialized "TwinTrees$Differences" ∈ aw := aw0_in _ (List.mem_of_getElem? (i := 25) rfl)
theorem w26 : Cond.initialized "TwinTrees$RowList" ∈ aw := aw0_in _ (List.mem_of_getElem? (i := 26) rfl)
theorem w27 : Cond.initialized "TwinTrees$Node" ∈ aw := aw0_in _ (List.mem_of_getElem? (i := 27) rfl)
theorem w28 : Cond.initialized "TwinTreesModel" ∈ aw := aw0_in _ (List.mem_of_getElem? (i := 28) rfl)
theorem w29 : Cond.initialized "java/lang/Math" ∈ aw := aw0_in _ (List.mem_of_getElem? (i := 29) rfl)
theorem w30 : Cond.initialized "java/lang/System" ∈ aw := aw0_in _ (List.mem_of_getElem? (i := 30) rfl)
theorem w31 : Cond.initialized "TwinTrees$Row" ∈ aw := aw0_in _ (List.mem_of_getElem? (i := 31) rfl)
theorem w32 : Cond.initialized "java/util/Arrays" ∈ aw := aw0_in _ (List.mem_of_getElem? (i := 32) rfl)
theorem w33 : Cond.classLink "TwinTreesLaw" 7 "TwinTrees" ∈ aw := aw0_in _ (List.mem_of_getElem? (i := 33) rfl)
theorem w34 : Cond.instantiable "TwinTrees" 8 ∈ aw := aw0_in _ (List.mem_of_getElem? (i := 34) rfl)
theorem w35 : Cond.methodLink "TwinTreesLaw" 9 ⟨"TwinTrees", "<init>", "()V"⟩ ∈ aw := aw0_in _ (List.mem_of_getElem? (i := 35) rfl)
theorem w36 : Cond.instanceMethod ⟨"TwinTrees", "<init>", "()V"⟩ ∈ aw := aw0_in _ (List.mem_of_getElem? (i := 36) rfl)
theorem w37 : Cond.code ⟨"TwinTrees", "<init>", "()V"⟩ prog_1_method_1_code 3 none ∈ aw := aw0_in _ (List.mem_of_getElem? (i := 37) rfl)
theorem w38 : Cond.methodLink "TwinTrees" 1 ⟨"java/lang/Object", "<init>", "()V"⟩ ∈ aw := aw0_in _ (List.mem_of_getElem? (i := 38) rfl)
theorem w39 : Cond.instanceMethod ⟨"java/lang/Object", "<init>", "()V"⟩ ∈ aw := aw0_in _ (List.mem_of_getElem? (i := 39) rfl)
theorem w40 : Cond.code ⟨"java/lang/Object", "<init>", "()V"⟩ object_method_1_code 1 none ∈ aw := aw0_in _ (List.mem_of_getElem? (i := 40) rfl)
theorem w41 : Cond.classLink "TwinTrees" 13 "TwinTrees$Node" ∈ aw := aw0_in _ (List.mem_of_getElem? (i := 41) rfl)
theorem w42 : Cond.classLink "TwinTrees" 19 "TwinTrees$Store" ∈ aw := aw0_in _ (List.mem_of_getElem? (i := 42) rfl)
theorem w43 : Cond.instantiable "TwinTrees$Store" 4 ∈ aw := aw0_in _ (List.mem_of_getElem? (i := 43) rfl)
theorem w44 : Cond.instanceMethod ⟨"TwinTrees$Store", "<init>", "()V"⟩ ∈ aw := aw0_in _ (List.mem_of_getElem? (i := 44) rfl)
theorem w45 : Cond.code ⟨"TwinTrees$Store", "<init>", "()V"⟩ prog_6_method_1_code 1 none ∈ aw := aw0_in _ (List.mem_of_getElem? (i := 45) rfl)
theorem w46 : Cond.methodLink "TwinTrees$Store" 3 ⟨"java/lang/Object", "<init>", "()V"⟩ ∈ aw := aw0_in _ (List.mem_of_getElem? (i := 46) rfl)
theorem w47 : Cond.classLink "TwinTrees$Store" 9 "TwinTrees$Node" ∈ aw := aw0_in _ (List.mem_of_getElem? (i := 47) rfl)
theorem w48 : Cond.fieldLink "TwinTrees$Store" 11 "TwinTrees$Store" "buckets" "[LTwinTrees$Node;" ∈ aw := aw0_in _ (List.mem_of_getElem? (i := 48) rfl)
theorem w49 : Cond.fieldLink "TwinTrees$Store" 17 "TwinTrees$Store" "pending" "LTwinTrees$Node;" ∈ aw := aw0_in _ (List.mem_of_getElem? (i := 49) rfl)
theorem w50 : Cond.fieldLink "TwinTrees$Store" 21 "TwinTrees$Store" "nodes" "I" ∈ aw := aw0_in _ (List.mem_of_getElem? (i := 50) rfl)
theorem w51 : Cond.fieldLink "TwinTrees" 161 "TwinTrees$Store" "nodes" "I" ∈ aw := aw0_in _ (List.mem_of_getElem? (i := 51) rfl)
theorem w52 : Cond.fieldLink "TwinTrees$Store" 25 "TwinTrees$Store" "size" "I" ∈ aw := aw0_in _ (List.mem_of_getElem? (i := 52) rfl)
theorem w53 : Cond.fieldLink "TwinTrees" 164 "TwinTrees$Store" "size" "I" ∈ aw := aw0_in _ (List.mem_of_getElem? (i := 53) rfl)
theorem w54 : Cond.laysFinal "TwinTrees$Store" "TwinTrees$Store" "buckets" "[LTwinTrees$Node;" ∈ aw := aw0_in _ (List.mem_of_getElem? (i := 54) rfl)
theorem w55 : Cond.soleField "TwinTrees$Store" "buckets" ∈ aw := aw0_in _ (List.mem_of_getElem? (i := 55) rfl)
theorem w56 : Cond.lays "TwinTrees$Store" "TwinTrees$Store" "pending" "LTwinTrees$Node;" ∈ aw := aw0_in _ (List.mem_of_getElem? (i := 56) rfl)
theorem w57 : Cond.soleField "TwinTrees$Store" "pending" ∈ aw := aw0_in _ (List.mem_of_getElem? (i := 57) rfl)
theorem w58 : Cond.lays "TwinTrees$Store" "TwinTrees$Store" "nodes" "I" ∈ aw := aw0_in _ (List.mem_of_getElem? (i := 58) rfl)
theorem w59 : Cond.soleField "TwinTrees$Store" "nodes" ∈ aw := aw0_in _ (List.mem_of_getElem? (i := 59) rfl)
theorem w60 : Cond.lays "TwinTrees$Store" "TwinTrees$Store" "size" "I" ∈ aw := aw0_in _ (List.mem_of_getElem? (i := 60) rfl)
theorem w61 : Cond.soleField "TwinTrees$Store" "size" ∈ aw := aw0_in _ (List.mem_of_getElem? (i := 61) rfl)
theorem w62 : Cond.superclass "TwinTrees$Store" "java/lang/Object" ∈ aw := aw0_in _ (List.mem_of_getElem? (i := 62) rfl)
theorem w63 : Cond.arrayClass .int ∈ aw := aw0_in _ (List.mem_of_getElem? (i := 63) rfl)
theorem w64 : Cond.classLink "TwinTrees" 26 "TwinTrees$Differences" ∈ aw := aw1_in _ (List.mem_of_getElem? (i := 0) rfl)
theorem w65 : Cond.instantiable "TwinTrees$Differences" 4 ∈ aw := aw1_in _ (List.mem_of_getElem? (i := 1) rfl)
theorem w66 : Cond.instanceMethod ⟨"TwinTrees$Differences", "<init>", "()V"⟩ ∈ aw := aw1_in _ (List.mem_of_getElem? (i := 2) rfl)
theorem w67 : Cond.code ⟨"TwinTrees$Differences", "<init>", "()V"⟩ prog_2_method_1_code 1 none ∈ aw := aw1_in _ (List.mem_of_getElem? (i := 3) rfl)
theorem w68 : Cond.methodLink "TwinTrees$Differences" 3 ⟨"java/lang/Object", "<init>", "()V"⟩ ∈ aw := aw1_in _ (List.mem_of_getElem? (i := 4) rfl)
theorem w69 : Cond.fieldLink "TwinTrees$Differences" 9 "TwinTrees$Differences" "keys" "[I" ∈ aw := aw1_in _ (List.mem_of_getElem? (i := 5) rfl)
theorem w70 : Cond.fieldLink "TwinTrees" 149 "TwinTrees$Differences" "keys" "[I" ∈ aw := aw1_in _ (List.mem_of_getElem? (i := 6) rfl)
theorem w71 : Cond.fieldLink "TwinTrees$Differences" 15 "TwinTrees$Differences" "sides" "[I" ∈ aw := aw1_in _ (List.mem_of_getElem? (i := 7) rfl)
theorem w72 : Cond.fieldLink "TwinTrees" 152 "TwinTrees$Differences" "sides" "[I" ∈ aw := aw1_in _ (List.mem_of_getElem? (i := 8) rfl)
theorem w73 : Cond.fieldLink "TwinTrees$Differences" 18 "TwinTrees$Differences" "unlikes" "[I" ∈ aw := aw1_in _ (List.mem_of_getElem? (i := 9) rfl)
theorem w74 : Cond.fieldLink "TwinTrees" 155 "TwinTrees$Differences" "unlikes" "[I" ∈ aw := aw1_in _ (List.mem_of_getElem? (i := 10) rfl)
theorem w75 : Cond.fieldLink "TwinTrees$Differences" 21 "TwinTrees$Differences" "length" "I" ∈ aw := aw1_in _ (List.mem_of_getElem? (i := 11) rfl)
theorem w76 : Cond.fieldLink "TwinTrees" 148 "TwinTrees$Differences" "length" "I" ∈ aw := aw1_in _ (List.mem_of_getElem? (i := 12) rfl)
theorem w77 : Cond.laysFinal "TwinTrees$Differences" "TwinTrees$Differences" "keys" "[I" ∈ aw := aw1_in _ (List.mem_of_getElem? (i := 13) rfl)
theorem w78 : Cond.soleField "TwinTrees$Differences" "keys" ∈ aw := aw1_in _ (List.mem_of_getElem? (i := 14) rfl)
theorem w79 : Cond.laysFinal "TwinTrees$Differences" "TwinTrees$Differences" "sides" "[I" ∈ aw := aw1_in _ (List.mem_of_getElem? (i := 15) rfl)
theorem w80 : Cond.soleField "TwinTrees$Differences" "sides" ∈ aw := aw1_in _ (List.mem_of_getElem? (i := 16) rfl)
theorem w81 : Cond.laysFinal "TwinTrees$Differences" "TwinTrees$Differences" "unlikes" "[I" ∈ aw := aw1_in _ (List.mem_of_getElem? (i := 17) rfl)
theorem w82 : Cond.soleField "TwinTrees$Differences" "unlikes" ∈ aw := aw1_in _ (List.mem_of_getElem? (i := 18) rfl)
theorem w83 : Cond.lays "TwinTrees$Differences" "TwinTrees$Differences" "length" "I" ∈ aw := aw1_in _ (List.mem_of_getElem? (i := 19) rfl)
theorem w84 : Cond.soleField "TwinTrees$Differences" "length" ∈ aw := aw1_in _ (List.mem_of_getElem? (i := 20) rfl)
theorem w85 : Cond.superclass "TwinTrees$Differences" "java/lang/Object" ∈ aw := aw1_in _ (List.mem_of_getElem? (i := 21) rfl)
theorem w86 : Cond.classLink "TwinTrees" 33 "TwinTrees$RowList" ∈ aw := aw1_in _ (List.mem_of_getElem? (i := 22) rfl)
theorem w87 : Cond.instantiable "TwinTrees$RowList" 2 ∈ aw := aw1_in _ (List.mem_of_getElem? (i := 23) rfl)
theorem w88 : Cond.instanceMethod ⟨"TwinTrees$RowList", "<init>", "()V"⟩ ∈ aw := aw1_in _ (List.mem_of_getElem? (i := 24) rfl)
theorem w89 : Cond.code ⟨"TwinTrees$RowList", "<init>", "()V"⟩ prog_5_method_1_code 1 none ∈ aw := aw1_in _ (List.mem_of_getElem? (i := 25) rfl)
theorem w90 : Cond.methodLink "TwinTrees$RowList" 3 ⟨"java/lang/Object", "<init>", "()V"⟩ ∈ aw := aw1_in _ (List.mem_of_getElem? (i := 26) rfl)
theorem w91 : Cond.classLink "TwinTrees$RowList" 9 "TwinTrees$Row" ∈ aw := aw1_in _ (List.mem_of_getElem? (i := 27) rfl)
theorem w92 : Cond.fieldLink "TwinTrees$RowList" 11 "TwinTrees$RowList" "rows" "[LTwinTrees$Row;" ∈ aw := aw1_in _ (List.mem_of_getElem? (i := 28) rfl)
theorem w93 : Cond.fieldLink "TwinTrees$Differences" 28 "TwinTrees$RowList" "rows" "[LTwinTrees$Row;" ∈ aw := aw1_in _ (List.mem_of_getElem? (i := 29) rfl)
theorem w94 : Cond.fieldLink "TwinTrees" 93 "TwinTrees$RowList" "rows" "[LTwinTrees$Row;" ∈ aw := aw1_in _ (List.mem_of_getElem? (i := 30) rfl)
theorem w95 : Cond.fieldLink "TwinTrees$RowList" 17 "TwinTrees$RowList" "length" "I" ∈ aw := aw1_in _ (List.mem_of_getElem? (i := 31) rfl)
theorem w96 : Cond.fieldLink "TwinTrees$Differences" 25 "TwinTrees$RowList" "length" "I" ∈ aw := aw1_in _ (List.mem_of_getElem? (i := 32) rfl)
theorem w97 : Cond.fieldLink "TwinTrees" 64 "TwinTrees$RowList" "length" "I" ∈ aw := aw1_in _ (List.mem_of_getElem? (i := 33) rfl)
theorem w98 : Cond.laysFinal "TwinTrees$RowList" "TwinTrees$RowList" "rows" "[LTwinTrees$Row;" ∈ aw := aw1_in _ (List.mem_of_getElem? (i := 34) rfl)
theorem w99 : Cond.soleField "TwinTrees$RowList" "rows" ∈ aw := aw1_in _ (List.mem_of_getElem? (i := 35) rfl)
theorem w100 : Cond.lays "TwinTrees$RowList" "TwinTrees$RowList" "length" "I" ∈ aw := aw1_in _ (List.mem_of_getElem? (i := 36) rfl)
theorem w101 : Cond.soleField "TwinTrees$RowList" "length" ∈ aw := aw1_in _ (List.mem_of_getElem? (i := 37) rfl)
theorem w102 : Cond.superclass "TwinTrees$RowList" "java/lang/Object" ∈ aw := aw1_in _ (List.mem_of_getElem? (i := 38) rfl)
theorem w103 : Cond.classLink "TwinTrees" 50 "TwinTrees$Row" ∈ aw := aw1_in _ (List.mem_of_getElem? (i := 39) rfl)
theorem w104 : Cond.methodLink "TwinTrees" 52 ⟨"TwinTrees$Store", "leafOf", "([LTwinTrees$Row;II)LTwinTrees$Node;"⟩ ∈ aw := aw1_in _ (List.mem_of_getElem? (i := 40) rfl)
theorem w105 : Cond.instanceMethod ⟨"TwinTrees$Store", "leafOf", "([LTwinTrees$Row;II)LTwinTrees$Node;"⟩ ∈ aw := aw1_in _ (List.mem_of_getElem? (i := 41) rfl)
theorem w106 : Cond.selects "TwinTrees$Store" ⟨"TwinTrees$Store", "leafOf", "([LTwinTrees$Row;II)LTwinTrees$Node;"⟩ ⟨"TwinTrees$Store", "leafOf", "([LTwinTrees$Row;II)LTwinTrees$Node;"⟩ ∈ aw := aw1_in _ (List.mem_of_getElem? (i := 42) rfl)
theorem w107 : Cond.code ⟨"TwinTrees$Store", "leafOf", "([LTwinTrees$Row;II)LTwinTrees$Node;"⟩ prog_6_method_2_code 6 (some (.object "TwinTrees$Node")) ∈ aw := aw1_in _ (List.mem_of_getElem? (i := 43) rfl)
theorem w108 : Cond.methodLink "TwinTrees$Store" 33 ⟨"TwinTrees$Store", "bucketOf", "(I)I"⟩ ∈ aw := aw1_in _ (List.mem_of_getElem? (i := 44) rfl)
theorem w109 : Cond.static ⟨"TwinTrees$Store", "bucketOf", "(I)I"⟩ ∈ aw := aw1_in _ (List.mem_of_getElem? (i := 45) rfl)
theorem w110 : Cond.code ⟨"TwinTrees$Store", "bucketOf", "(I)I"⟩ prog_6_method_8_code 1 (some .int) ∈ aw := aw1_in _ (List.mem_of_getElem? (i := 46) rfl)
theorem w111 : Cond.constant "TwinTrees$Store" 68 (-1640531535) ∈ aw := aw1_in _ (List.mem_of_getElem? (i := 47) rfl)
theorem w112 : Cond.methodLink "TwinTrees$Store" 38 ⟨"TwinTrees$Node", "isLikeLeaf", "([LTwinTrees$Row;II)Z"⟩ ∈ aw := aw1_in _ (List.mem_of_getElem? (i := 48) rfl)
theorem w113 : Cond.instanceMethod ⟨"TwinTrees$Node", "isLikeLeaf", "([LTwinTrees$Row;II)Z"⟩ ∈ aw := aw1_in _ (List.mem_of_getElem? (i := 49) rfl)
theorem w114 : Cond.selects "TwinTrees$Node" ⟨"TwinTrees$Node", "isLikeLeaf", "([LTwinTrees$Row;II)Z"⟩ ⟨"TwinTrees$Node", "isLikeLeaf", "([LTwinTrees$Row;II)Z"⟩ ∈ aw := aw1_in _ (List.mem_of_getElem? (i := 50) rfl)
theorem w115 : Cond.code ⟨"TwinTrees$Node", "isLikeLeaf", "([LTwinTrees$Row;II)Z"⟩ prog_3_method_3_code 5 (some .boolean) ∈ aw := aw1_in _ (List.mem_of_getElem? (i := 51) rfl)
theorem w116 : Cond.methodLink "TwinTrees$Node" 63 ⟨"TwinTrees$Row", "isLike", "(LTwinTrees$Row;)Z"⟩ ∈ aw := aw1_in _ (List.mem_of_getElem? (i := 52) rfl)
theorem w117 : Cond.instanceMethod ⟨"TwinTrees$Row", "isLike", "(LTwinTrees$Row;)Z"⟩ ∈ aw := aw1_in _ (List.mem_of_getElem? (i := 53) rfl)
theorem w118 : Cond.selects "TwinTrees$Row" ⟨"TwinTrees$Row", "isLike", "(LTwinTrees$Row;)Z"⟩ ⟨"TwinTrees$Row", "isLike", "(LTwinTrees$Row;)Z"⟩ ∈ aw := aw1_in _ (List.mem_of_getElem? (i := 54) rfl)
theorem w119 : Cond.code ⟨"TwinTrees$Row", "isLike", "(LTwinTrees$Row;)Z"⟩ prog_4_method_4_code 2 (some .boolean) ∈ aw := aw1_in _ (List.mem_of_getElem? (i := 55) rfl)
theorem w120 : Cond.methodLink "TwinTrees$Row" 40 ⟨"TwinTrees$Row", "unlikeCells", "(LTwinTrees$Row;)I"⟩ ∈ aw := aw1_in _ (List.mem_of_getElem? (i := 56) rfl)
theorem w121 : Cond.instanceMethod ⟨"TwinTrees$Row", "unlikeCells", "(LTwinTrees$Row;)I"⟩ ∈ aw := aw1_in _ (List.mem_of_getElem? (i := 57) rfl)
theorem w122 : Cond.selects "TwinTrees$Row" ⟨"TwinTrees$Row", "unlikeCells", "(LTwinTrees$Row;)I"⟩ ⟨"TwinTrees$Row", "unlikeCells", "(LTwinTrees$Row;)I"⟩ ∈ aw := aw1_in _ (List.mem_of_getElem? (i := 58) rfl)
theorem w123 : Cond.code ⟨"TwinTrees$Row", "unlikeCells", "(LTwinTrees$Row;)I"⟩ prog_4_method_5_code 4 (some .int) ∈ aw := aw1_in _ (List.mem_of_getElem? (i := 59) rfl)
theorem w124 : Cond.instantiable "TwinTrees$Node" 12 ∈ aw := aw1_in _ (List.mem_of_getElem? (i := 60) rfl)
theorem w125 : Cond.methodLink "TwinTrees$Store" 45 ⟨"TwinTrees$Node", "<init>", "([LTwinTrees$Row;III)V"⟩ ∈ aw := aw1_in _ (List.mem_of_getElem? (i := 61) rfl)
theorem w126 : Cond.instanceMethod ⟨"TwinTrees$Node", "<init>", "([LTwinTrees$Row;III)V"⟩ ∈ aw := aw1_in _ (List.mem_of_getElem? (i := 62) rfl)
theorem w127 : Cond.code ⟨"TwinTrees$Node", "<init>", "([LTwinTrees$Row;III)V"⟩ prog_3_method_1_code 7 none ∈ aw := aw1_in _ (List.mem_of_getElem? (i := 63) rfl)
theorem w128 : Cond.methodLink "TwinTrees$Node" 1 ⟨"java/lang/Object", "<init>", "()V"⟩ ∈ aw := aw2_in _ (List.mem_of_getElem? (i := 0) rfl)
theorem w129 : Cond.classLink "TwinTrees$Node" 28 "TwinTrees$Row" ∈ aw := aw2_in _ (List.mem_of_getElem? (i := 1) rfl)
theorem w130 : Cond.classLink "TwinTrees$Node" 8 "TwinTrees$Node" ∈ aw := aw2_in _ (List.mem_of_getElem? (i := 2) rfl)
theorem w131 : Cond.fieldLink "TwinTrees$Node" 25 "TwinTrees$Node" "height" "I" ∈ aw := aw2_in _ (List.mem_of_getElem? (i := 3) rfl)
theorem w132 : Cond.fieldLink "TwinTrees" 123 "TwinTrees$Node" "height" "I" ∈ aw := aw2_in _ (List.mem_of_getElem? (i := 4) rfl)
theorem w133 : Cond.fieldLink "TwinTrees$Node" 30 "TwinTrees$Node" "rows" "[LTwinTrees$Row;" ∈ aw := aw2_in _ (List.mem_of_getElem? (i := 5) rfl)
theorem w134 : Cond.fieldLink "TwinTrees" 194 "TwinTrees$Node" "rows" "[LTwinTrees$Row;" ∈ aw := aw2_in _ (List.mem_of_getElem? (i := 6) rfl)
theorem w135 : Cond.fieldLink "TwinTrees$Node" 34 "TwinTrees$Node" "below" "[LTwinTrees$Node;" ∈ aw := aw2_in _ (List.mem_of_getElem? (i := 7) rfl)
theorem w136 : Cond.fieldLink "TwinTrees" 191 "TwinTrees$Node" "below" "[LTwinTrees$Node;" ∈ aw := aw2_in _ (List.mem_of_getElem? (i := 8) rfl)
theorem w137 : Cond.fieldLink "TwinTrees$Node" 42 "TwinTrees$Node" "rowCount" "I" ∈ aw := aw2_in _ (List.mem_of_getElem? (i := 9) rfl)
theorem w138 : Cond.fieldLink "TwinTrees" 120 "TwinTrees$Node" "rowCount" "I" ∈ aw := aw2_in _ (List.mem_of_getElem? (i := 10) rfl)
theorem w139 : Cond.fieldLink "TwinTrees$Node" 45 "TwinTrees$Node" "size" "I" ∈ aw := aw2_in _ (List.mem_of_getElem? (i := 11) rfl)
theorem w140 : Cond.fieldLink "TwinTrees$Store" 59 "TwinTrees$Node" "size" "I" ∈ aw := aw2_in _ (List.mem_of_getElem? (i := 12) rfl)
theorem w141 : Cond.fieldLink "TwinTrees$Node" 51 "TwinTrees$Node" "lastKey" "I" ∈ aw := aw2_in _ (List.mem_of_getElem? (i := 13) rfl)
theorem w142 : Cond.fieldLink "TwinTrees" 199 "TwinTrees$Node" "lastKey" "I" ∈ aw := aw2_in _ (List.mem_of_getElem? (i := 14) rfl)
theorem w143 : Cond.fieldLink "TwinTrees$Node" 57 "TwinTrees$Node" "lastLevel" "I" ∈ aw := aw2_in _ (List.mem_of_getElem? (i := 15) rfl)
theorem w144 : Cond.fieldLink "TwinTrees" 181 "TwinTrees$Node" "lastLevel" "I" ∈ aw := aw2_in _ (List.mem_of_getElem? (i := 16) rfl)
theorem w145 : Cond.fieldLink "TwinTrees$Node" 60 "TwinTrees$Node" "print" "I" ∈ aw := aw2_in _ (List.mem_of_getElem? (i := 17) rfl)
theorem w146 : Cond.fieldLink "TwinTrees$Store" 37 "TwinTrees$Node" "print" "I" ∈ aw := aw2_in _ (List.mem_of_getElem? (i := 18) rfl)
theorem w147 : Cond.fieldLink "TwinTrees$Node" 7 "TwinTrees$Node" "address" "J" ∈ aw := aw2_in _ (List.mem_of_getElem? (i := 19) rfl)
theorem w148 : Cond.fieldLink "TwinTrees" 209 "TwinTrees$Node" "address" "J" ∈ aw := aw2_in _ (List.mem_of_getElem? (i := 20) rfl)
theorem w149 : Cond.fieldLink "TwinTrees$Node" 13 "TwinTrees$Node" "hasAddress" "Z" ∈ aw := aw2_in _ (List.mem_of_getElem? (i := 21) rfl)
theorem w150 : Cond.fieldLink "TwinTrees" 205 "TwinTrees$Node" "hasAddress" "Z" ∈ aw := aw2_in _ (List.mem_of_getElem? (i := 22) rfl)
theorem w151 : Cond.fieldLink "TwinTrees$Node" 17 "TwinTrees$Node" "stamp" "I" ∈ aw := aw2_in _ (List.mem_of_getElem? (i := 23) rfl)
theorem w152 : Cond.fieldLink "TwinTrees$Store" 65 "TwinTrees$Node" "stamp" "I" ∈ aw := aw2_in _ (List.mem_of_getElem? (i := 24) rfl)
theorem w153 : Cond.fieldLink "TwinTrees" 188 "TwinTrees$Node" "stamp" "I" ∈ aw := aw2_in _ (List.mem_of_getElem? (i := 25) rfl)
theorem w154 : Cond.fieldLink "TwinTrees$Node" 21 "TwinTrees$Node" "next" "LTwinTrees$Node;" ∈ aw := aw2_in _ (List.mem_of_getElem? (i := 26) rfl)
theorem w155 : Cond.fieldLink "TwinTrees$Store" 42 "TwinTrees$Node" "next" "LTwinTrees$Node;" ∈ aw := aw2_in _ (List.mem_of_getElem? (i := 27) rfl)
theorem w156 : Cond.laysFinal "TwinTrees$Node" "TwinTrees$Node" "height" "I" ∈ aw := aw2_in _ (List.mem_of_getElem? (i := 28) rfl)
theorem w157 : Cond.soleField "TwinTrees$Node" "height" ∈ aw := aw2_in _ (List.mem_of_getElem? (i := 29) rfl)
theorem w158 : Cond.laysFinal "TwinTrees$Node" "TwinTrees$Node" "rows" "[LTwinTrees$Row;" ∈ aw := aw2_in _ (List.mem_of_getElem? (i := 30) rfl)
theorem w159 : Cond.soleField "TwinTrees$Node" "rows" ∈ aw := aw2_in _ (List.mem_of_getElem? (i := 31) rfl)
theorem w160 : Cond.laysFinal "TwinTrees$Node" "TwinTrees$Node" "below" "[LTwinTrees$Node;" ∈ aw := aw2_in _ (List.mem_of_getElem? (i := 32) rfl)
theorem w161 : Cond.soleField "TwinTrees$Node" "below" ∈ aw := aw2_in _ (List.mem_of_getElem? (i := 33) rfl)
theorem w162 : Cond.laysFinal "TwinTrees$Node" "TwinTrees$Node" "rowCount" "I" ∈ aw := aw2_in _ (List.mem_of_getElem? (i := 34) rfl)
theorem w163 : Cond.soleField "TwinTrees$Node" "rowCount" ∈ aw := aw2_in _ (List.mem_of_getElem? (i := 35) rfl)
theorem w164 : Cond.laysFinal "TwinTrees$Node" "TwinTrees$Node" "size" "I" ∈ aw := aw2_in _ (List.mem_of_getElem? (i := 36) rfl)
theorem w165 : Cond.soleField "TwinTrees$Node" "size" ∈ aw := aw2_in _ (List.mem_of_getElem? (i := 37) rfl)
theorem w166 : Cond.laysFinal "TwinTrees$Node" "TwinTrees$Node" "lastKey" "I" ∈ aw := aw2_in _ (List.mem_of_getElem? (i := 38) rfl)
theorem w167 : Cond.soleField "TwinTrees$Node" "lastKey" ∈ aw := aw2_in _ (List.mem_of_getElem? (i := 39) rfl)
theorem w168 : Cond.laysFinal "TwinTrees$Node" "TwinTrees$Node" "lastLevel" "I" ∈ aw := aw2_in _ (List.mem_of_getElem? (i := 40) rfl)
theorem w169 : Cond.soleField "TwinTrees$Node" "lastLevel" ∈ aw := aw2_in _ (List.mem_of_getElem? (i := 41) rfl)
theorem w170 : Cond.laysFinal "TwinTrees$Node" "TwinTrees$Node" "print" "I" ∈ aw := aw2_in _ (List.mem_of_getElem? (i := 42) rfl)
theorem w171 : Cond.soleField "TwinTrees$Node" "print" ∈ aw := aw2_in _ (List.mem_of_getElem? (i := 43) rfl)
theorem w172 : Cond.lays "TwinTrees$Node" "TwinTrees$Node" "address" "J" ∈ aw := aw2_in _ (List.mem_of_getElem? (i := 44) rfl)
theorem w173 : Cond.soleField "TwinTrees$Node" "address" ∈ aw := aw2_in _ (List.mem_of_getElem? (i := 45) rfl)
theorem w174 : Cond.lays "TwinTrees$Node" "TwinTrees$Node" "hasAddress" "Z" ∈ aw := aw2_in _ (List.mem_of_getElem? (i := 46) rfl)
theorem w175 : Cond.soleField "TwinTrees$Node" "hasAddress" ∈ aw := aw2_in _ (List.mem_of_getElem? (i := 47) rfl)
theorem w176 : Cond.lays "TwinTrees$Node" "TwinTrees$Node" "stamp" "I" ∈ aw := aw2_in _ (List.mem_of_getElem? (i := 48) rfl)
theorem w177 : Cond.soleField "TwinTrees$Node" "stamp" ∈ aw := aw2_in _ (List.mem_of_getElem? (i := 49) rfl)
theorem w178 : Cond.lays "TwinTrees$Node" "TwinTrees$Node" "next" "LTwinTrees$Node;" ∈ aw := aw2_in _ (List.mem_of_getElem? (i := 50) rfl)
theorem w179 : Cond.soleField "TwinTrees$Node" "next" ∈ aw := aw2_in _ (List.mem_of_getElem? (i := 51) rfl)
theorem w180 : Cond.superclass "TwinTrees$Node" "java/lang/Object" ∈ aw := aw2_in _ (List.mem_of_getElem? (i := 52) rfl)
theorem w181 : Cond.methodLink "TwinTrees$Store" 48 ⟨"TwinTrees$Store", "pend", "(LTwinTrees$Node;)LTwinTrees$Node;"⟩ ∈ aw := aw2_in _ (List.mem_of_getElem? (i := 53) rfl)
theorem w182 : Cond.instanceMethod ⟨"TwinTrees$Store", "pend", "(LTwinTrees$Node;)LTwinTrees$Node;"⟩ ∈ aw := aw2_in _ (List.mem_of_getElem? (i := 54) rfl)
theorem w183 : Cond.code ⟨"TwinTrees$Store", "pend", "(LTwinTrees$Node;)LTwinTrees$Node;"⟩ prog_6_method_6_code 2 (some (.object "TwinTrees$Node")) ∈ aw := aw2_in _ (List.mem_of_getElem? (i := 55) rfl)
theorem w184 : Cond.methodLink "TwinTrees" 56 ⟨"TwinTrees$Store", "keepPending", "()I"⟩ ∈ aw := aw2_in _ (List.mem_of_getElem? (i := 56) rfl)
theorem w185 : Cond.instanceMethod ⟨"TwinTrees$Store", "keepPending", "()I"⟩ ∈ aw := aw2_in _ (List.mem_of_getElem? (i := 57) rfl)
theorem w186 : Cond.selects "TwinTrees$Store" ⟨"TwinTrees$Store", "keepPending", "()I"⟩ ⟨"TwinTrees$Store", "keepPending", "()I"⟩ ∈ aw := aw2_in _ (List.mem_of_getElem? (i := 58) rfl)
theorem w187 : Cond.code ⟨"TwinTrees$Store", "keepPending", "()I"⟩ prog_6_method_4_code 5 (some .int) ∈ aw := aw2_in _ (List.mem_of_getElem? (i := 59) rfl)
theorem w188 : Cond.constant "TwinTrees$Store" 60 60000 ∈ aw := aw2_in _ (List.mem_of_getElem? (i := 60) rfl)
theorem w189 : Cond.methodLink "TwinTrees$Store" 61 ⟨"TwinTrees$Store", "link", "(LTwinTrees$Node;)V"⟩ ∈ aw := aw2_in _ (List.mem_of_getElem? (i := 61) rfl)
theorem w190 : Cond.instanceMethod ⟨"TwinTrees$Store", "link", "(LTwinTrees$Node;)V"⟩ ∈ aw := aw2_in _ (List.mem_of_getElem? (i := 62) rfl)
theorem w191 : Cond.code ⟨"TwinTrees$Store", "link", "(LTwinTrees$Node;)V"⟩ prog_6_method_7_code 3 none ∈ aw := aw2_in _ (List.mem_of_getElem? (i := 63) rfl)
theorem w192 : Cond.fieldLink "TwinTrees" 9 "TwinTrees" "widths" "[I" ∈ aw := aw3_in _ (List.mem_of_getElem? (i := 0) rfl)
theorem w193 : Cond.fieldLink "TwinTrees" 15 "TwinTrees" "roots" "[LTwinTrees$Node;" ∈ aw := aw3_in _ (List.mem_of_getElem? (i := 1) rfl)
theorem w194 : Cond.fieldLink "TwinTrees" 22 "TwinTrees" "store" "LTwinTrees$Store;" ∈ aw := aw3_in _ (List.mem_of_getElem? (i := 2) rfl)
theorem w195 : Cond.fieldLink "TwinTrees" 29 "TwinTrees" "differences" "LTwinTrees$Differences;" ∈ aw := aw3_in _ (List.mem_of_getElem? (i := 3) rfl)
theorem w196 : Cond.fieldLink "TwinTrees" 36 "TwinTrees" "draft" "LTwinTrees$RowList;" ∈ aw := aw3_in _ (List.mem_of_getElem? (i := 4) rfl)
theorem w197 : Cond.fieldLink "TwinTrees" 40 "TwinTrees" "beside" "LTwinTrees$RowList;" ∈ aw := aw3_in _ (List.mem_of_getElem? (i := 5) rfl)
theorem w198 : Cond.fieldLink "TwinTrees" 43 "TwinTrees" "line" "[LTwinTrees$Node;" ∈ aw := aw3_in _ (List.mem_of_getElem? (i := 6) rfl)
theorem w199 : Cond.fieldLink "TwinTrees" 46 "TwinTrees" "lastStamp" "I" ∈ aw := aw3_in _ (List.mem_of_getElem? (i := 7) rfl)
theorem w200 : Cond.laysFinal "TwinTrees" "TwinTrees" "widths" "[I" ∈ aw := aw3_in _ (List.mem_of_getElem? (i := 8) rfl)
theorem w201 : Cond.soleField "TwinTrees" "widths" ∈ aw := aw3_in _ (List.mem_of_getElem? (i := 9) rfl)
theorem w202 : Cond.laysFinal "TwinTrees" "TwinTrees" "roots" "[LTwinTrees$Node;" ∈ aw := aw3_in _ (List.mem_of_getElem? (i := 10) rfl)
theorem w203 : Cond.soleField "TwinTrees" "roots" ∈ aw := aw3_in _ (List.mem_of_getElem? (i := 11) rfl)
theorem w204 : Cond.laysFinal "TwinTrees" "TwinTrees" "store" "LTwinTrees$Store;" ∈ aw := aw3_in _ (List.mem_of_getElem? (i := 12) rfl)
theorem w205 : Cond.soleField "TwinTrees" "store" ∈ aw := aw3_in _ (List.mem_of_getElem? (i := 13) rfl)
theorem w206 : Cond.laysFinal "TwinTrees" "TwinTrees" "differences" "LTwinTrees$Differences;" ∈ aw := aw3_in _ (List.mem_of_getElem? (i := 14) rfl)
theorem w207 : Cond.soleField "TwinTrees" "differences" ∈ aw := aw3_in _ (List.mem_of_getElem? (i := 15) rfl)
theorem w208 : Cond.laysFinal "TwinTrees" "TwinTrees" "draft" "LTwinTrees$RowList;" ∈ aw := aw3_in _ (List.mem_of_getElem? (i := 16) rfl)
theorem w209 : Cond.soleField "TwinTrees" "draft" ∈ aw := aw3_in _ (List.mem_of_getElem? (i := 17) rfl)
theorem w210 : Cond.laysFinal "TwinTrees" "TwinTrees" "beside" "LTwinTrees$RowList;" ∈ aw := aw3_in _ (List.mem_of_getElem? (i := 18) rfl)
theorem w211 : Cond.soleField "TwinTrees" "beside" ∈ aw := aw3_in _ (List.mem_of_getElem? (i := 19) rfl)
theorem w212 : Cond.laysFinal "TwinTrees" "TwinTrees" "line" "[LTwinTrees$Node;" ∈ aw := aw3_in _ (List.mem_of_getElem? (i := 20) rfl)
theorem w213 : Cond.soleField "TwinTrees" "line" ∈ aw := aw3_in _ (List.mem_of_getElem? (i := 21) rfl)
theorem w214 : Cond.lays "TwinTrees" "TwinTrees" "lastStamp" "I" ∈ aw := aw3_in _ (List.mem_of_getElem? (i := 22) rfl)
theorem w215 : Cond.soleField "TwinTrees" "lastStamp" ∈ aw := aw3_in _ (List.mem_of_getElem? (i := 23) rfl)
theorem w216 : Cond.superclass "TwinTrees" "java/lang/Object" ∈ aw := aw3_in _ (List.mem_of_getElem? (i := 24) rfl)
theorem w217 : Cond.methodLink "TwinTreesLaw" 13 ⟨"TwinTrees", "make", "(II)I"⟩ ∈ aw := aw3_in _ (List.mem_of_getElem? (i := 25) rfl)
theorem w218 : Cond.instanceMethod ⟨"TwinTrees", "make", "(II)I"⟩ ∈ aw := aw3_in _ (List.mem_of_getElem? (i := 26) rfl)
theorem w219 : Cond.selects "TwinTrees" ⟨"TwinTrees", "make", "(II)I"⟩ ⟨"TwinTrees", "make", "(II)I"⟩ ∈ aw := aw3_in _ (List.mem_of_getElem? (i := 27) rfl)
theorem w220 : Cond.code ⟨"TwinTrees", "make", "(II)I"⟩ prog_1_method_2_code 4 (some .int) ∈ aw := aw3_in _ (List.mem_of_getElem? (i := 28) rfl)
theorem w221 : Cond.methodLink "TwinTrees" 60 ⟨"TwinTrees", "isTable", "(I)Z"⟩ ∈ aw := aw3_in _ (List.mem_of_getElem? (i := 29) rfl)
theorem w222 : Cond.static ⟨"TwinTrees", "isTable", "(I)Z"⟩ ∈ aw := aw3_in _ (List.mem_of_getElem? (i := 30) rfl)
theorem w223 : Cond.code ⟨"TwinTrees", "isTable", "(I)Z"⟩ prog_1_method_14_code 1 (some .boolean) ∈ aw := aw3_in _ (List.mem_of_getElem? (i := 31) rfl)
theorem w224 : Cond.methodLink "TwinTrees" 67 ⟨"TwinTrees", "plantDraft", "(I)I"⟩ ∈ aw := aw3_in _ (List.mem_of_getElem? (i := 32) rfl)
theorem w225 : Cond.instanceMethod ⟨"TwinTrees", "plantDraft", "(I)I"⟩ ∈ aw := aw3_in _ (List.mem_of_getElem? (i := 33) rfl)
theorem w226 : Cond.code ⟨"TwinTrees", "plantDraft", "(I)I"⟩ prog_1_method_19_code 4 (some .int) ∈ aw := aw3_in _ (List.mem_of_getElem? (i := 34) rfl)
theorem w227 : Cond.methodLink "TwinTrees" 171 ⟨"TwinTrees", "groupRows", "()I"⟩ ∈ aw := aw3_in _ (List.mem_of_getElem? (i := 35) rfl)
theorem w228 : Cond.instanceMethod ⟨"TwinTrees", "groupRows", "()I"⟩ ∈ aw := aw3_in _ (List.mem_of_getElem? (i := 36) rfl)
theorem w229 : Cond.code ⟨"TwinTrees", "groupRows", "()I"⟩ prog_1_method_20_code 4 (some .int) ∈ aw := aw3_in _ (List.mem_of_getElem? (i := 37) rfl)
theorem w230 : Cond.methodLink "TwinTrees" 174 ⟨"TwinTrees", "groupNodes", "(II)I"⟩ ∈ aw := aw3_in _ (List.mem_of_getElem? (i := 38) rfl)
theorem w231 : Cond.instanceMethod ⟨"TwinTrees", "groupNodes", "(II)I"⟩ ∈ aw := aw3_in _ (List.mem_of_getElem? (i := 39) rfl)
theorem w232 : Cond.code ⟨"TwinTrees", "groupNodes", "(II)I"⟩ prog_1_method_21_code 6 (some .int) ∈ aw := aw3_in _ (List.mem_of_getElem? (i := 40) rfl)
theorem w233 : Cond.methodLink "TwinTrees" 184 ⟨"TwinTrees$Store", "branchOf", "(I[LTwinTrees$Node;II)LTwinTrees$Node;"⟩ ∈ aw := aw3_in _ (List.mem_of_getElem? (i := 41) rfl)
theorem w234 : Cond.instanceMethod ⟨"TwinTrees$Store", "branchOf", "(I[LTwinTrees$Node;II)LTwinTrees$Node;"⟩ ∈ aw := aw3_in _ (List.mem_of_getElem? (i := 42) rfl)
theorem w235 : Cond.selects "TwinTrees$Store" ⟨"TwinTrees$Store", "branchOf", "(I[LTwinTrees$Node;II)LTwinTrees$Node;"⟩ ⟨"TwinTrees$Store", "branchOf", "(I[LTwinTrees$Node;II)LTwinTrees$Node;"⟩ ∈ aw := aw3_in _ (List.mem_of_getElem? (i := 43) rfl)
theorem w236 : Cond.code ⟨"TwinTrees$Store", "branchOf", "(I[LTwinTrees$Node;II)LTwinTrees$Node;"⟩ prog_6_method_3_code 7 (some (.object "TwinTrees$Node")) ∈ aw := aw3_in _ (List.mem_of_getElem? (i := 44) rfl)
theorem w237 : Cond.methodLink "TwinTrees$Store" 52 ⟨"TwinTrees$Node", "isLikeBranch", "([LTwinTrees$Node;II)Z"⟩ ∈ aw := aw3_in _ (List.mem_of_getElem? (i := 45) rfl)
theorem w238 : Cond.instanceMethod ⟨"TwinTrees$Node", "isLikeBranch", "([LTwinTrees$Node;II)Z"⟩ ∈ aw := aw3_in _ (List.mem_of_getElem? (i := 46) rfl)
theorem w239 : Cond.selects "TwinTrees$Node" ⟨"TwinTrees$Node", "isLikeBranch", "([LTwinTrees$Node;II)Z"⟩ ⟨"TwinTrees$Node", "isLikeBranch", "([LTwinTrees$Node;II)Z"⟩ ∈ aw := aw3_in _ (List.mem_of_getElem? (i := 47) rfl)
theorem w240 : Cond.code ⟨"TwinTrees$Node", "isLikeBranch", "([LTwinTrees$Node;II)Z"⟩ prog_3_method_4_code 5 (some .boolean) ∈ aw := aw3_in _ (List.mem_of_getElem? (i := 48) rfl)
theorem w241 : Cond.methodLink "TwinTrees$Store" 56 ⟨"TwinTrees$Node", "<init>", "(I[LTwinTrees$Node;III)V"⟩ ∈ aw := aw3_in _ (List.mem_of_getElem? (i := 49) rfl)
theorem w242 : Cond.instanceMethod ⟨"TwinTrees$Node", "<init>", "(I[LTwinTrees$Node;III)V"⟩ ∈ aw := aw3_in _ (List.mem_of_getElem? (i := 50) rfl)
theorem w243 : Cond.code ⟨"TwinTrees$Node", "<init>", "(I[LTwinTrees$Node;III)V"⟩ prog_3_method_2_code 8 none ∈ aw := aw3_in _ (List.mem_of_getElem? (i := 51) rfl)
theorem w244 : Cond.methodLink "TwinTreesLaw" 18 ⟨"TwinTrees", "put", "(IIIIZ)I"⟩ ∈ aw := aw3_in _ (List.mem_of_getElem? (i := 52) rfl)
theorem w245 : Cond.instanceMethod ⟨"TwinTrees", "put", "(IIIIZ)I"⟩ ∈ aw := aw3_in _ (List.mem_of_getElem? (i := 53) rfl)
theorem w246 : Cond.selects "TwinTrees" ⟨"TwinTrees", "put", "(IIIIZ)I"⟩ ⟨"TwinTrees", "put", "(IIIIZ)I"⟩ ∈ aw := aw3_in _ (List.mem_of_getElem? (i := 54) rfl)
theorem w247 : Cond.code ⟨"TwinTrees", "put", "(IIIIZ)I"⟩ prog_1_method_3_code 7 (some .int) ∈ aw := aw3_in _ (List.mem_of_getElem? (i := 55) rfl)
theorem w248 : Cond.methodLink "TwinTrees" 71 ⟨"TwinTrees", "isColumn", "(II)Z"⟩ ∈ aw := aw3_in _ (List.mem_of_getElem? (i := 56) rfl)
theorem w249 : Cond.instanceMethod ⟨"TwinTrees", "isColumn", "(II)Z"⟩ ∈ aw := aw3_in _ (List.mem_of_getElem? (i := 57) rfl)
theorem w250 : Cond.code ⟨"TwinTrees", "isColumn", "(II)Z"⟩ prog_1_method_15_code 3 (some .boolean) ∈ aw := aw3_in _ (List.mem_of_getElem? (i := 58) rfl)
theorem w251 : Cond.methodLink "TwinTrees" 75 ⟨"TwinTrees", "draftRowsOf", "(I)V"⟩ ∈ aw := aw3_in _ (List.mem_of_getElem? (i := 59) rfl)
theorem w252 : Cond.instanceMethod ⟨"TwinTrees", "draftRowsOf", "(I)V"⟩ ∈ aw := aw3_in _ (List.mem_of_getElem? (i := 60) rfl)
theorem w253 : Cond.code ⟨"TwinTrees", "draftRowsOf", "(I)V"⟩ prog_1_method_17_code 2 none ∈ aw := aw3_in _ (List.mem_of_getElem? (i := 61) rfl)
theorem w254 : Cond.methodLink "TwinTrees" 126 ⟨"TwinTrees", "newStamp", "()I"⟩ ∈ aw := aw3_in _ (List.mem_of_getElem? (i := 62) rfl)
theorem w255 : Cond.instanceMethod ⟨"TwinTrees", "newStamp", "()I"⟩ ∈ aw := aw3_in _ (List.mem_of_getElem? (i := 63) rfl)
theorem w256 : Cond.code ⟨"TwinTrees", "newStamp", "()I"⟩ prog_1_method_16_code 1 (some .int) ∈ aw := aw4_in _ (List.mem_of_getElem? (i := 0) rfl)
theorem w257 : Cond.methodLink "TwinTrees" 167 ⟨"TwinTrees", "gather", "(LTwinTrees$Node;ILTwinTrees$RowList;I)V"⟩ ∈ aw := aw4_in _ (List.mem_of_getElem? (i := 1) rfl)
theorem w258 : Cond.static ⟨"TwinTrees", "gather", "(LTwinTrees$Node;ILTwinTrees$RowList;I)V"⟩ ∈ aw := aw4_in _ (List.mem_of_getElem? (i := 2) rfl)
theorem w259 : Cond.code ⟨"TwinTrees", "gather", "(LTwinTrees$Node;ILTwinTrees$RowList;I)V"⟩ prog_1_method_23_code 8 none ∈ aw := aw4_in _ (List.mem_of_getElem? (i := 3) rfl)
theorem w260 : Cond.methodLink "TwinTrees" 195 ⟨"TwinTrees$RowList", "append", "(LTwinTrees$Row;)V"⟩ ∈ aw := aw4_in _ (List.mem_of_getElem? (i := 4) rfl)
theorem w261 : Cond.instanceMethod ⟨"TwinTrees$RowList", "append", "(LTwinTrees$Row;)V"⟩ ∈ aw := aw4_in _ (List.mem_of_getElem? (i := 5) rfl)
theorem w262 : Cond.selects "TwinTrees$RowList" ⟨"TwinTrees$RowList", "append", "(LTwinTrees$Row;)V"⟩ ⟨"TwinTrees$RowList", "append", "(LTwinTrees$Row;)V"⟩ ∈ aw := aw4_in _ (List.mem_of_getElem? (i := 6) rfl)
theorem w263 : Cond.code ⟨"TwinTrees$RowList", "append", "(LTwinTrees$Row;)V"⟩ prog_5_method_2_code 2 none ∈ aw := aw4_in _ (List.mem_of_getElem? (i := 7) rfl)
theorem w264 : Cond.methodLink "TwinTrees" 79 ⟨"TwinTrees$RowList", "placeOf", "(I)I"⟩ ∈ aw := aw4_in _ (List.mem_of_getElem? (i := 8) rfl)
theorem w265 : Cond.instanceMethod ⟨"TwinTrees$RowList", "placeOf", "(I)I"⟩ ∈ aw := aw4_in _ (List.mem_of_getElem? (i := 9) rfl)
theorem w266 : Cond.selects "TwinTrees$RowList" ⟨"TwinTrees$RowList", "placeOf", "(I)I"⟩ ⟨"TwinTrees$RowList", "placeOf", "(I)I"⟩ ∈ aw := aw4_in _ (List.mem_of_getElem? (i := 10) rfl)
theorem w267 : Cond.code ⟨"TwinTrees$RowList", "placeOf", "(I)I"⟩ prog_5_method_3_code 3 (some .int) ∈ aw := aw4_in _ (List.mem_of_getElem? (i := 11) rfl)
theorem w268 : Cond.methodLink "TwinTrees" 82 ⟨"TwinTrees$RowList", "hasKeyAt", "(II)Z"⟩ ∈ aw := aw4_in _ (List.mem_of_getElem? (i := 12) rfl)
theorem w269 : Cond.instanceMethod ⟨"TwinTrees$RowList", "hasKeyAt", "(II)Z"⟩ ∈ aw := aw4_in _ (List.mem_of_getElem? (i := 13) rfl)
theorem w270 : Cond.selects "TwinTrees$RowList" ⟨"TwinTrees$RowList", "hasKeyAt", "(II)Z"⟩ ⟨"TwinTrees$RowList", "hasKeyAt", "(II)Z"⟩ ∈ aw := aw4_in _ (List.mem_of_getElem? (i := 14) rfl)
theorem w271 : Cond.code ⟨"TwinTrees$RowList", "hasKeyAt", "(II)Z"⟩ prog_5_method_4_code 3 (some .boolean) ∈ aw := aw4_in _ (List.mem_of_getElem? (i := 15) rfl)
theorem w272 : Cond.methodLink "TwinTrees" 85 ⟨"TwinTrees", "blankRow", "(II)LTwinTrees$Row;"⟩ ∈ aw := aw4_in _ (List.mem_of_getElem? (i := 16) rfl)
theorem w273 : Cond.static ⟨"TwinTrees", "blankRow", "(II)LTwinTrees$Row;"⟩ ∈ aw := aw4_in _ (List.mem_of_getElem? (i := 17) rfl)
theorem w274 : Cond.code ⟨"TwinTrees", "blankRow", "(II)LTwinTrees$Row;"⟩ prog_1_method_29_code 2 (some (.object "TwinTrees$Row")) ∈ aw := aw4_in _ (List.mem_of_getElem? (i := 18) rfl)
theorem w275 : Cond.instantiable "TwinTrees$Row" 5 ∈ aw := aw4_in _ (List.mem_of_getElem? (i := 19) rfl)
theorem w276 : Cond.methodLink "TwinTrees" 225 ⟨"TwinTrees$Row", "<init>", "(I[II)V"⟩ ∈ aw := aw4_in _ (List.mem_of_getElem? (i := 20) rfl)
theorem w277 : Cond.instanceMethod ⟨"TwinTrees$Row", "<init>", "(I[II)V"⟩ ∈ aw := aw4_in _ (List.mem_of_getElem? (i := 21) rfl)
theorem w278 : Cond.code ⟨"TwinTrees$Row", "<init>", "(I[II)V"⟩ prog_4_method_1_code 9 none ∈ aw := aw4_in _ (List.mem_of_getElem? (i := 22) rfl)
theorem w279 : Cond.methodLink "TwinTrees$Row" 1 ⟨"java/lang/Object", "<init>", "()V"⟩ ∈ aw := aw4_in _ (List.mem_of_getElem? (i := 23) rfl)
theorem w280 : Cond.static ⟨"TwinTrees", "levelOf", "(I)I"⟩ ∈ aw := aw4_in _ (List.mem_of_getElem? (i := 24) rfl)
theorem w281 : Cond.code ⟨"TwinTrees", "levelOf", "(I)I"⟩ prog_1_method_30_code 3 (some .int) ∈ aw := aw4_in _ (List.mem_of_getElem? (i := 25) rfl)
theorem w282 : Cond.constant "TwinTrees" 228 (-1640531535) ∈ aw := aw4_in _ (List.mem_of_getElem? (i := 26) rfl)
theorem w283 : Cond.constant "TwinTrees" 229 (-2048144777) ∈ aw := aw4_in _ (List.mem_of_getElem? (i := 27) rfl)
theorem w284 : Cond.fieldLink "TwinTrees$Row" 7 "TwinTrees$Row" "key" "I" ∈ aw := aw4_in _ (List.mem_of_getElem? (i := 28) rfl)
theorem w285 : Cond.fieldLink "TwinTrees$Node" 48 "TwinTrees$Row" "key" "I" ∈ aw := aw4_in _ (List.mem_of_getElem? (i := 29) rfl)
theorem w286 : Cond.fieldLink "TwinTrees$Differences" 32 "TwinTrees$Row" "key" "I" ∈ aw := aw4_in _ (List.mem_of_getElem? (i := 30) rfl)
theorem w287 : Cond.fieldLink "TwinTrees$RowList" 21 "TwinTrees$Row" "key" "I" ∈ aw := aw4_in _ (List.mem_of_getElem? (i := 31) rfl)
theorem w288 : Cond.fieldLink "TwinTrees" 202 "TwinTrees$Row" "key" "I" ∈ aw := aw4_in _ (List.mem_of_getElem? (i := 32) rfl)
theorem w289 : Cond.fieldLink "TwinTrees$Row" 13 "TwinTrees$Row" "cells" "[I" ∈ aw := aw4_in _ (List.mem_of_getElem? (i := 33) rfl)
theorem w290 : Cond.fieldLink "TwinTrees$Node" 38 "TwinTrees$Row" "cells" "[I" ∈ aw := aw4_in _ (List.mem_of_getElem? (i := 34) rfl)
theorem w291 : Cond.fieldLink "TwinTrees" 117 "TwinTrees$Row" "cells" "[I" ∈ aw := aw4_in _ (List.mem_of_getElem? (i := 35) rfl)
theorem w292 : Cond.fieldLink "TwinTrees$Row" 17 "TwinTrees$Row" "nulls" "I" ∈ aw := aw4_in _ (List.mem_of_getElem? (i := 36) rfl)
theorem w293 : Cond.fieldLink "TwinTrees$Row" 26 "TwinTrees$Row" "level" "I" ∈ aw := aw4_in _ (List.mem_of_getElem? (i := 37) rfl)
theorem w294 : Cond.fieldLink "TwinTrees$Node" 54 "TwinTrees$Row" "level" "I" ∈ aw := aw4_in _ (List.mem_of_getElem? (i := 38) rfl)
theorem w295 : Cond.fieldLink "TwinTrees" 178 "TwinTrees$Row" "level" "I" ∈ aw := aw4_in _ (List.mem_of_getElem? (i := 39) rfl)
theorem w296 : Cond.fieldLink "TwinTrees$Row" 29 "TwinTrees$Row" "print" "I" ∈ aw := aw4_in _ (List.mem_of_getElem? (i := 40) rfl)
theorem w297 : Cond.fieldLink "TwinTrees$Store" 28 "TwinTrees$Row" "print" "I" ∈ aw := aw4_in _ (List.mem_of_getElem? (i := 41) rfl)
theorem w298 : Cond.laysFinal "TwinTrees$Row" "TwinTrees$Row" "key" "I" ∈ aw := aw4_in _ (List.mem_of_getElem? (i := 42) rfl)
theorem w299 : Cond.soleField "TwinTrees$Row" "key" ∈ aw := aw4_in _ (List.mem_of_getElem? (i := 43) rfl)
theorem w300 : Cond.laysFinal "TwinTrees$Row" "TwinTrees$Row" "cells" "[I" ∈ aw := aw4_in _ (List.mem_of_getElem? (i := 44) rfl)
theorem w301 : Cond.soleField "TwinTrees$Row" "cells" ∈ aw := aw4_in _ (List.mem_of_getElem? (i := 45) rfl)
theorem w302 : Cond.laysFinal "TwinTrees$Row" "TwinTrees$Row" "nulls" "I" ∈ aw := aw4_in _ (List.mem_of_getElem? (i := 46) rfl)
theorem w303 : Cond.soleField "TwinTrees$Row" "nulls" ∈ aw := aw4_in _ (List.mem_of_getElem? (i := 47) rfl)
theorem w304 : Cond.laysFinal "TwinTrees$Row" "TwinTrees$Row" "level" "I" ∈ aw := aw4_in _ (List.mem_of_getElem? (i := 48) rfl)
theorem w305 : Cond.soleField "TwinTrees$Row" "level" ∈ aw := aw4_in _ (List.mem_of_getElem? (i := 49) rfl)
theorem w306 : Cond.laysFinal "TwinTrees$Row" "TwinTrees$Row" "print" "I" ∈ aw := aw4_in _ (List.mem_of_getElem? (i := 50) rfl)
theorem w307 : Cond.soleField "TwinTrees$Row" "print" ∈ aw := aw4_in _ (List.mem_of_getElem? (i := 51) rfl)
theorem w308 : Cond.superclass "TwinTrees$Row" "java/lang/Object" ∈ aw := aw4_in _ (List.mem_of_getElem? (i := 52) rfl)
theorem w309 : Cond.methodLink "TwinTrees" 89 ⟨"TwinTrees$RowList", "insertAt", "(ILTwinTrees$Row;)V"⟩ ∈ aw := aw4_in _ (List.mem_of_getElem? (i := 53) rfl)
theorem w310 : Cond.instanceMethod ⟨"TwinTrees$RowList", "insertAt", "(ILTwinTrees$Row;)V"⟩ ∈ aw := aw4_in _ (List.mem_of_getElem? (i := 54) rfl)
theorem w311 : Cond.selects "TwinTrees$RowList" ⟨"TwinTrees$RowList", "insertAt", "(ILTwinTrees$Row;)V"⟩ ⟨"TwinTrees$RowList", "insertAt", "(ILTwinTrees$Row;)V"⟩ ∈ aw := aw4_in _ (List.mem_of_getElem? (i := 55) rfl)
theorem w312 : Cond.code ⟨"TwinTrees$RowList", "insertAt", "(ILTwinTrees$Row;)V"⟩ prog_5_method_5_code 4 none ∈ aw := aw4_in _ (List.mem_of_getElem? (i := 56) rfl)
theorem w313 : Cond.methodLink "TwinTrees" 97 ⟨"TwinTrees$Row", "withCell", "(IIZ)LTwinTrees$Row;"⟩ ∈ aw := aw4_in _ (List.mem_of_getElem? (i := 57) rfl)
theorem w314 : Cond.instanceMethod ⟨"TwinTrees$Row", "withCell", "(IIZ)LTwinTrees$Row;"⟩ ∈ aw := aw4_in _ (List.mem_of_getElem? (i := 58) rfl)
theorem w315 : Cond.selects "TwinTrees$Row" ⟨"TwinTrees$Row", "withCell", "(IIZ)LTwinTrees$Row;"⟩ ⟨"TwinTrees$Row", "withCell", "(IIZ)LTwinTrees$Row;"⟩ ∈ aw := aw4_in _ (List.mem_of_getElem? (i := 59) rfl)
theorem w316 : Cond.code ⟨"TwinTrees$Row", "withCell", "(IIZ)LTwinTrees$Row;"⟩ prog_4_method_2_code 6 (some (.object "TwinTrees$Row")) ∈ aw := aw4_in _ (List.mem_of_getElem? (i := 60) rfl)
theorem w317 : Cond.methodLink "TwinTrees$Row" 32 ⟨"[I", "clone", "()Ljava/lang/Object;"⟩ ∈ aw := aw4_in _ (List.mem_of_getElem? (i := 61) rfl)
theorem w318 : Cond.native ⟨"java/lang/Object", "clone", "()Ljava/lang/Object;"⟩ ∈ aw := aw4_in _ (List.mem_of_getElem? (i := 62) rfl)
theorem w319 : Cond.instanceMethod ⟨"java/lang/Object", "clone", "()Ljava/lang/Object;"⟩ ∈ aw := aw4_in _ (List.mem_of_getElem? (i := 63) rfl)
theorem w320 : Cond.selects "[I" ⟨"[I", "clone", "()Ljava/lang/Object;"⟩ ⟨"java/lang/Object", "clone", "()Ljava/lang/Object;"⟩ ∈ aw := aw5_in _ (List.mem_of_getElem? (i := 0) rfl)
theorem w321 : Cond.classLink "TwinTrees$Row" 33 "[I" ∈ aw := aw5_in _ (List.mem_of_getElem? (i := 1) rfl)
theorem w322 : Cond.classLink "TwinTrees$Row" 8 "TwinTrees$Row" ∈ aw := aw5_in _ (List.mem_of_getElem? (i := 2) rfl)
theorem w323 : Cond.methodLink "TwinTrees$Row" 37 ⟨"TwinTrees$Row", "<init>", "(I[II)V"⟩ ∈ aw := aw5_in _ (List.mem_of_getElem? (i := 3) rfl)
theorem w324 : Cond.methodLink "TwinTreesLaw" 23 ⟨"TwinTrees", "remove", "(II)I"⟩ ∈ aw := aw5_in _ (List.mem_of_getElem? (i := 4) rfl)
theorem w325 : Cond.instanceMethod ⟨"TwinTrees", "remove", "(II)I"⟩ ∈ aw := aw5_in _ (List.mem_of_getElem? (i := 5) rfl)
theorem w326 : Cond.selects "TwinTrees" ⟨"TwinTrees", "remove", "(II)I"⟩ ⟨"TwinTrees", "remove", "(II)I"⟩ ∈ aw := aw5_in _ (List.mem_of_getElem? (i := 6) rfl)
theorem w327 : Cond.code ⟨"TwinTrees", "remove", "(II)I"⟩ prog_1_method_4_code 4 (some .int) ∈ aw := aw5_in _ (List.mem_of_getElem? (i := 7) rfl)
theorem w328 : Cond.methodLink "TwinTrees" 101 ⟨"TwinTrees$RowList", "takeAt", "(I)V"⟩ ∈ aw := aw5_in _ (List.mem_of_getElem? (i := 8) rfl)
theorem w329 : Cond.instanceMethod ⟨"TwinTrees$RowList", "takeAt", "(I)V"⟩ ∈ aw := aw5_in _ (List.mem_of_getElem? (i := 9) rfl)
theorem w330 : Cond.selects "TwinTrees$RowList" ⟨"TwinTrees$RowList", "takeAt", "(I)V"⟩ ⟨"TwinTrees$RowList", "takeAt", "(I)V"⟩ ∈ aw := aw5_in _ (List.mem_of_getElem? (i := 10) rfl)
theorem w331 : Cond.code ⟨"TwinTrees$RowList", "takeAt", "(I)V"⟩ prog_5_method_6_code 3 none ∈ aw := aw5_in _ (List.mem_of_getElem? (i := 11) rfl)
theorem w332 : Cond.methodLink "TwinTreesLaw" 27 ⟨"TwinTrees", "copy", "(II)I"⟩ ∈ aw := aw5_in _ (List.mem_of_getElem? (i := 12) rfl)
theorem w333 : Cond.instanceMethod ⟨"TwinTrees", "copy", "(II)I"⟩ ∈ aw := aw5_in _ (List.mem_of_getElem? (i := 13) rfl)
theorem w334 : Cond.selects "TwinTrees" ⟨"TwinTrees", "copy", "(II)I"⟩ ⟨"TwinTrees", "copy", "(II)I"⟩ ∈ aw := aw5_in _ (List.mem_of_getElem? (i := 14) rfl)
theorem w335 : Cond.code ⟨"TwinTrees", "copy", "(II)I"⟩ prog_1_method_5_code 3 (some .int) ∈ aw := aw5_in _ (List.mem_of_getElem? (i := 15) rfl)
theorem w336 : Cond.methodLink "TwinTreesLaw" 31 ⟨"TwinTrees", "get", "(III)J"⟩ ∈ aw := aw5_in _ (List.mem_of_getElem? (i := 16) rfl)
theorem w337 : Cond.instanceMethod ⟨"TwinTrees", "get", "(III)J"⟩ ∈ aw := aw5_in _ (List.mem_of_getElem? (i := 17) rfl)
theorem w338 : Cond.selects "TwinTrees" ⟨"TwinTrees", "get", "(III)J"⟩ ⟨"TwinTrees", "get", "(III)J"⟩ ∈ aw := aw5_in _ (List.mem_of_getElem? (i := 18) rfl)
theorem w339 : Cond.code ⟨"TwinTrees", "get", "(III)J"⟩ prog_1_method_6_code 5 (some .long) ∈ aw := aw5_in _ (List.mem_of_getElem? (i := 19) rfl)
theorem w340 : Cond.constantLong "TwinTrees" 104 1099511627775 ∈ aw := aw5_in _ (List.mem_of_getElem? (i := 20) rfl)
theorem w341 : Cond.methodLink "TwinTrees" 106 ⟨"TwinTrees", "rowWithKey", "(LTwinTrees$Node;I)LTwinTrees$Row;"⟩ ∈ aw := aw5_in _ (List.mem_of_getElem? (i := 21) rfl)
theorem w342 : Cond.static ⟨"TwinTrees", "rowWithKey", "(LTwinTrees$Node;I)LTwinTrees$Row;"⟩ ∈ aw := aw5_in _ (List.mem_of_getElem? (i := 22) rfl)
theorem w343 : Cond.code ⟨"TwinTrees", "rowWithKey", "(LTwinTrees$Node;I)LTwinTrees$Row;"⟩ prog_1_method_24_code 7 (some (.object "TwinTrees$Row")) ∈ aw := aw5_in _ (List.mem_of_getElem? (i := 23) rfl)
theorem w344 : Cond.constantLong "TwinTrees" 110 1099511627774 ∈ aw := aw5_in _ (List.mem_of_getElem? (i := 24) rfl)
theorem w345 : Cond.methodLink "TwinTrees" 112 ⟨"TwinTrees$Row", "isNull", "(I)Z"⟩ ∈ aw := aw5_in _ (List.mem_of_getElem? (i := 25) rfl)
theorem w346 : Cond.instanceMethod ⟨"TwinTrees$Row", "isNull", "(I)Z"⟩ ∈ aw := aw5_in _ (List.mem_of_getElem? (i := 26) rfl)
theorem w347 : Cond.selects "TwinTrees$Row" ⟨"TwinTrees$Row", "isNull", "(I)Z"⟩ ⟨"TwinTrees$Row", "isNull", "(I)Z"⟩ ∈ aw := aw5_in _ (List.mem_of_getElem? (i := 27) rfl)
theorem w348 : Cond.code ⟨"TwinTrees$Row", "isNull", "(I)Z"⟩ prog_4_method_3_code 2 (some .boolean) ∈ aw := aw5_in _ (List.mem_of_getElem? (i := 28) rfl)
theorem w349 : Cond.constantLong "TwinTrees" 115 1099511627776 ∈ aw := aw5_in _ (List.mem_of_getElem? (i := 29) rfl)
theorem w350 : Cond.methodLink "TwinTreesLaw" 36 ⟨"TwinTrees", "measure", "(II)I"⟩ ∈ aw := aw5_in _ (List.mem_of_getElem? (i := 30) rfl)
theorem w351 : Cond.instanceMethod ⟨"TwinTrees", "measure", "(II)I"⟩ ∈ aw := aw5_in _ (List.mem_of_getElem? (i := 31) rfl)
theorem w352 : Cond.selects "TwinTrees" ⟨"TwinTrees", "measure", "(II)I"⟩ ⟨"TwinTrees", "measure", "(II)I"⟩ ∈ aw := aw5_in _ (List.mem_of_getElem? (i := 32) rfl)
theorem w353 : Cond.code ⟨"TwinTrees", "measure", "(II)I"⟩ prog_1_method_7_code 4 (some .int) ∈ aw := aw5_in _ (List.mem_of_getElem? (i := 33) rfl)
theorem w354 : Cond.methodLink "TwinTrees" 129 ⟨"TwinTrees", "stampTree", "(LTwinTrees$Node;II)I"⟩ ∈ aw := aw5_in _ (List.mem_of_getElem? (i := 34) rfl)
theorem w355 : Cond.static ⟨"TwinTrees", "stampTree", "(LTwinTrees$Node;II)I"⟩ ∈ aw := aw5_in _ (List.mem_of_getElem? (i := 35) rfl)
theorem w356 : Cond.code ⟨"TwinTrees", "stampTree", "(LTwinTrees$Node;II)I"⟩ prog_1_method_22_code 8 (some .int) ∈ aw := aw5_in _ (List.mem_of_getElem? (i := 36) rfl)
theorem w357 : Cond.methodLink "TwinTreesLaw" 40 ⟨"TwinTrees", "address", "(I)J"⟩ ∈ aw := aw5_in _ (List.mem_of_getElem? (i := 37) rfl)
theorem w358 : Cond.instanceMethod ⟨"TwinTrees", "address", "(I)J"⟩ ∈ aw := aw5_in _ (List.mem_of_getElem? (i := 38) rfl)
theorem w359 : Cond.selects "TwinTrees" ⟨"TwinTrees", "address", "(I)J"⟩ ⟨"TwinTrees", "address", "(I)J"⟩ ∈ aw := aw5_in _ (List.mem_of_getElem? (i := 39) rfl)
theorem w360 : Cond.code ⟨"TwinTrees", "address", "(I)J"⟩ prog_1_method_8_code 2 (some .long) ∈ aw := aw5_in _ (List.mem_of_getElem? (i := 40) rfl)
theorem w361 : Cond.methodLink "TwinTrees" 133 ⟨"TwinTrees", "addressOf", "(LTwinTrees$Node;I)J"⟩ ∈ aw := aw5_in _ (List.mem_of_getElem? (i := 41) rfl)
theorem w362 : Cond.static ⟨"TwinTrees", "addressOf", "(LTwinTrees$Node;I)J"⟩ ∈ aw := aw5_in _ (List.mem_of_getElem? (i := 42) rfl)
theorem w363 : Cond.code ⟨"TwinTrees", "addressOf", "(LTwinTrees$Node;I)J"⟩ prog_1_method_26_code 8 (some .long) ∈ aw := aw5_in _ (List.mem_of_getElem? (i := 43) rfl)
theorem w364 : Cond.constantLong "TwinTrees" 213 1469598103934665603 ∈ aw := aw5_in _ (List.mem_of_getElem? (i := 44) rfl)
theorem w365 : Cond.methodLink "TwinTrees" 215 ⟨"TwinTrees", "mixed", "(JJ)J"⟩ ∈ aw := aw5_in _ (List.mem_of_getElem? (i := 45) rfl)
theorem w366 : Cond.static ⟨"TwinTrees", "mixed", "(JJ)J"⟩ ∈ aw := aw5_in _ (List.mem_of_getElem? (i := 46) rfl)
theorem w367 : Cond.code ⟨"TwinTrees", "mixed", "(JJ)J"⟩ prog_1_method_28_code 4 (some .long) ∈ aw := aw5_in _ (List.mem_of_getElem? (i := 47) rfl)
theorem w368 : Cond.constantLong "TwinTrees" 223 1099511628211 ∈ aw := aw5_in _ (List.mem_of_getElem? (i := 48) rfl)
theorem w369 : Cond.methodLink "TwinTrees" 219 ⟨"TwinTrees", "mixedRow", "(JLTwinTrees$Row;)J"⟩ ∈ aw := aw5_in _ (List.mem_of_getElem? (i := 49) rfl)
theorem w370 : Cond.static ⟨"TwinTrees", "mixedRow", "(JLTwinTrees$Row;)J"⟩ ∈ aw := aw5_in _ (List.mem_of_getElem? (i := 50) rfl)
theorem w371 : Cond.code ⟨"TwinTrees", "mixedRow", "(JLTwinTrees$Row;)J"⟩ prog_1_method_27_code 6 (some .long) ∈ aw := aw5_in _ (List.mem_of_getElem? (i := 51) rfl)
theorem w372 : Cond.methodLink "TwinTreesLaw" 45 ⟨"TwinTrees", "row", "(II)J"⟩ ∈ aw := aw5_in _ (List.mem_of_getElem? (i := 52) rfl)
theorem w373 : Cond.instanceMethod ⟨"TwinTrees", "row", "(II)J"⟩ ∈ aw := aw5_in _ (List.mem_of_getElem? (i := 53) rfl)
theorem w374 : Cond.selects "TwinTrees" ⟨"TwinTrees", "row", "(II)J"⟩ ⟨"TwinTrees", "row", "(II)J"⟩ ∈ aw := aw5_in _ (List.mem_of_getElem? (i := 54) rfl)
theorem w375 : Cond.code ⟨"TwinTrees", "row", "(II)J"⟩ prog_1_method_9_code 3 (some .long) ∈ aw := aw5_in _ (List.mem_of_getElem? (i := 55) rfl)
theorem w376 : Cond.methodLink "TwinTrees" 137 ⟨"TwinTrees", "keyInOrder", "(LTwinTrees$Node;I)J"⟩ ∈ aw := aw5_in _ (List.mem_of_getElem? (i := 56) rfl)
theorem w377 : Cond.static ⟨"TwinTrees", "keyInOrder", "(LTwinTrees$Node;I)J"⟩ ∈ aw := aw5_in _ (List.mem_of_getElem? (i := 57) rfl)
theorem w378 : Cond.code ⟨"TwinTrees", "keyInOrder", "(LTwinTrees$Node;I)J"⟩ prog_1_method_25_code 6 (some .long) ∈ aw := aw5_in _ (List.mem_of_getElem? (i := 58) rfl)
theorem w379 : Cond.methodLink "TwinTreesLaw" 50 ⟨"TwinTrees", "compare", "(II)I"⟩ ∈ aw := aw5_in _ (List.mem_of_getElem? (i := 59) rfl)
theorem w380 : Cond.instanceMethod ⟨"TwinTrees", "compare", "(II)I"⟩ ∈ aw := aw5_in _ (List.mem_of_getElem? (i := 60) rfl)
theorem w381 : Cond.selects "TwinTrees" ⟨"TwinTrees", "compare", "(II)I"⟩ ⟨"TwinTrees", "compare", "(II)I"⟩ ∈ aw := aw5_in _ (List.mem_of_getElem? (i := 61) rfl)
theorem w382 : Cond.code ⟨"TwinTrees", "compare", "(II)I"⟩ prog_1_method_10_code 3 (some .int) ∈ aw := aw5_in _ (List.mem_of_getElem? (i := 62) rfl)
theorem w383 : Cond.methodLink "TwinTrees" 140 ⟨"TwinTrees", "gatherUnshared", "(IILTwinTrees$RowList;)V"⟩ ∈ aw := aw5_in _ (List.mem_of_getElem? (i := 63) rfl)
theorem w384 : Cond.instanceMethod ⟨"TwinTrees", "gatherUnshared", "(IILTwinTrees$RowList;)V"⟩ ∈ aw := aw6_in _ (List.mem_of_getElem? (i := 0) rfl)
theorem w385 : Cond.code ⟨"TwinTrees", "gatherUnshared", "(IILTwinTrees$RowList;)V"⟩ prog_1_method_18_code 5 none ∈ aw := aw6_in _ (List.mem_of_getElem? (i := 1) rfl)
theorem w386 : Cond.methodLink "TwinTrees" 144 ⟨"TwinTrees$Differences", "collect", "(LTwinTrees$RowList;LTwinTrees$RowList;)V"⟩ ∈ aw := aw6_in _ (List.mem_of_getElem? (i := 2) rfl)
theorem w387 : Cond.instanceMethod ⟨"TwinTrees$Differences", "collect", "(LTwinTrees$RowList;LTwinTrees$RowList;)V"⟩ ∈ aw := aw6_in _ (List.mem_of_getElem? (i := 3) rfl)
theorem w388 : Cond.selects "TwinTrees$Differences" ⟨"TwinTrees$Differences", "collect", "(LTwinTrees$RowList;LTwinTrees$RowList;)V"⟩ ⟨"TwinTrees$Differences", "collect", "(LTwinTrees$RowList;LTwinTrees$RowList;)V"⟩ ∈ aw := aw6_in _ (List.mem_of_getElem? (i := 4) rfl)
theorem w389 : Cond.code ⟨"TwinTrees$Differences", "collect", "(LTwinTrees$RowList;LTwinTrees$RowList;)V"⟩ prog_2_method_2_code 6 none ∈ aw := aw6_in _ (List.mem_of_getElem? (i := 5) rfl)
theorem w390 : Cond.methodLink "TwinTrees$Differences" 37 ⟨"TwinTrees$Differences", "note", "(III)V"⟩ ∈ aw := aw6_in _ (List.mem_of_getElem? (i := 6) rfl)
theorem w391 : Cond.instanceMethod ⟨"TwinTrees$Differences", "note", "(III)V"⟩ ∈ aw := aw6_in _ (List.mem_of_getElem? (i := 7) rfl)
theorem w392 : Cond.code ⟨"TwinTrees$Differences", "note", "(III)V"⟩ prog_2_method_3_code 4 none ∈ aw := aw6_in _ (List.mem_of_getElem? (i := 8) rfl)
theorem w393 : Cond.methodLink "TwinTrees$Differences" 41 ⟨"TwinTrees$Row", "unlikeCells", "(LTwinTrees$Row;)I"⟩ ∈ aw := aw6_in _ (List.mem_of_getElem? (i := 9) rfl)
theorem w394 : Cond.methodLink "TwinTreesLaw" 54 ⟨"TwinTrees", "difference", "(II)J"⟩ ∈ aw := aw6_in _ (List.mem_of_getElem? (i := 10) rfl)
theorem w395 : Cond.instanceMethod ⟨"TwinTrees", "difference", "(II)J"⟩ ∈ aw := aw6_in _ (List.mem_of_getElem? (i := 11) rfl)
theorem w396 : Cond.selects "TwinTrees" ⟨"TwinTrees", "difference", "(II)J"⟩ ⟨"TwinTrees", "difference", "(II)J"⟩ ∈ aw := aw6_in _ (List.mem_of_getElem? (i := 12) rfl)
theorem w397 : Cond.code ⟨"TwinTrees", "difference", "(II)J"⟩ prog_1_method_11_code 3 (some .long) ∈ aw := aw6_in _ (List.mem_of_getElem? (i := 13) rfl)
theorem w398 : Cond.methodLink "TwinTreesLaw" 58 ⟨"TwinTrees", "sweep", "()I"⟩ ∈ aw := aw6_in _ (List.mem_of_getElem? (i := 14) rfl)
theorem w399 : Cond.instanceMethod ⟨"TwinTrees", "sweep", "()I"⟩ ∈ aw := aw6_in _ (List.mem_of_getElem? (i := 15) rfl)
theorem w400 : Cond.selects "TwinTrees" ⟨"TwinTrees", "sweep", "()I"⟩ ⟨"TwinTrees", "sweep", "()I"⟩ ∈ aw := aw6_in _ (List.mem_of_getElem? (i := 16) rfl)
theorem w401 : Cond.code ⟨"TwinTrees", "sweep", "()I"⟩ prog_1_method_12_code 6 (some .int) ∈ aw := aw6_in _ (List.mem_of_getElem? (i := 17) rfl)
theorem w402 : Cond.methodLink "TwinTrees" 158 ⟨"TwinTrees$Store", "dropWithout", "(I)I"⟩ ∈ aw := aw6_in _ (List.mem_of_getElem? (i := 18) rfl)
theorem w403 : Cond.instanceMethod ⟨"TwinTrees$Store", "dropWithout", "(I)I"⟩ ∈ aw := aw6_in _ (List.mem_of_getElem? (i := 19) rfl)
theorem w404 : Cond.selects "TwinTrees$Store" ⟨"TwinTrees$Store", "dropWithout", "(I)I"⟩ ⟨"TwinTrees$Store", "dropWithout", "(I)I"⟩ ∈ aw := aw6_in _ (List.mem_of_getElem? (i := 20) rfl)
theorem w405 : Cond.code ⟨"TwinTrees$Store", "dropWithout", "(I)I"⟩ prog_6_method_5_code 6 (some .int) ∈ aw := aw6_in _ (List.mem_of_getElem? (i := 21) rfl)
theorem w406 : Cond.methodLink "TwinTreesLaw" 63 ⟨"TwinTrees", "count", "(I)I"⟩ ∈ aw := aw6_in _ (List.mem_of_getElem? (i := 22) rfl)
theorem w407 : Cond.instanceMethod ⟨"TwinTrees", "count", "(I)I"⟩ ∈ aw := aw6_in _ (List.mem_of_getElem? (i := 23) rfl)
theorem w408 : Cond.selects "TwinTrees" ⟨"TwinTrees", "count", "(I)I"⟩ ⟨"TwinTrees", "count", "(I)I"⟩ ∈ aw := aw6_in _ (List.mem_of_getElem? (i := 24) rfl)
theorem w409 : Cond.code ⟨"TwinTrees", "count", "(I)I"⟩ prog_1_method_13_code 2 (some .int) ∈ aw := aw6_in _ (List.mem_of_getElem? (i := 25) rfl)
theorem w410 : Cond.classLink "TwinTreesLaw" 10 "TwinTreesModel" ∈ aw := aw6_in _ (List.mem_of_getElem? (i := 26) rfl)
theorem w411 : Cond.instantiable "TwinTreesModel" 29 ∈ aw := aw6_in _ (List.mem_of_getElem? (i := 27) rfl)
theorem w412 : Cond.methodLink "TwinTreesLaw" 12 ⟨"TwinTreesModel", "<init>", "()V"⟩ ∈ aw := aw6_in _ (List.mem_of_getElem? (i := 28) rfl)
theorem w413 : Cond.instanceMethod ⟨"TwinTreesModel", "<init>", "()V"⟩ ∈ aw := aw6_in _ (List.mem_of_getElem? (i := 29) rfl)
theorem w414 : Cond.code ⟨"TwinTreesModel", "<init>", "()V"⟩ prog_8_method_1_code 2 none ∈ aw := aw6_in _ (List.mem_of_getElem? (i := 30) rfl)
theorem w415 : Cond.methodLink "TwinTreesModel" 3 ⟨"java/lang/Object", "<init>", "()V"⟩ ∈ aw := aw6_in _ (List.mem_of_getElem? (i := 31) rfl)
theorem w416 : Cond.classLink "TwinTreesModel" 18 "[[I" ∈ aw := aw6_in _ (List.mem_of_getElem? (i := 32) rfl)
theorem w417 : Cond.classLink "TwinTreesModel" 23 "[[J" ∈ aw := aw6_in _ (List.mem_of_getElem? (i := 33) rfl)
theorem w418 : Cond.constant "TwinTreesModel" 44 60000 ∈ aw := aw6_in _ (List.mem_of_getElem? (i := 34) rfl)
theorem w419 : Cond.methodLink "TwinTreesModel" 75 ⟨"TwinTreesModel", "lay", "(I)Z"⟩ ∈ aw := aw6_in _ (List.mem_of_getElem? (i := 35) rfl)
theorem w420 : Cond.instanceMethod ⟨"TwinTreesModel", "lay", "(I)Z"⟩ ∈ aw := aw6_in _ (List.mem_of_getElem? (i := 36) rfl)
theorem w421 : Cond.code ⟨"TwinTreesModel", "lay", "(I)Z"⟩ prog_8_method_8_code 7 (some .boolean) ∈ aw := aw6_in _ (List.mem_of_getElem? (i := 37) rfl)
theorem w422 : Cond.methodLink "TwinTreesModel" 126 ⟨"TwinTreesModel", "levelOf", "(I)I"⟩ ∈ aw := aw6_in _ (List.mem_of_getElem? (i := 38) rfl)
theorem w423 : Cond.static ⟨"TwinTreesModel", "levelOf", "(I)I"⟩ ∈ aw := aw6_in _ (List.mem_of_getElem? (i := 39) rfl)
theorem w424 : Cond.code ⟨"TwinTreesModel", "levelOf", "(I)I"⟩ prog_8_method_3_code 3 (some .int) ∈ aw := aw6_in _ (List.mem_of_getElem? (i := 40) rfl)
theorem w425 : Cond.constant "TwinTreesModel" 79 (-1640531535) ∈ aw := aw6_in _ (List.mem_of_getElem? (i := 41) rfl)
theorem w426 : Cond.constant "TwinTreesModel" 80 (-2048144777) ∈ aw := aw6_in _ (List.mem_of_getElem? (i := 42) rfl)
theorem w427 : Cond.methodLink "TwinTreesModel" 81 ⟨"java/lang/Math", "min", "(II)I"⟩ ∈ aw := aw6_in _ (List.mem_of_getElem? (i := 43) rfl)
theorem w428 : Cond.static ⟨"java/lang/Math", "min", "(II)I"⟩ ∈ aw := aw6_in _ (List.mem_of_getElem? (i := 44) rfl)
theorem w429 : Cond.code ⟨"java/lang/Math", "min", "(II)I"⟩ prog_10_method_69_code 2 (some .int) ∈ aw := aw6_in _ (List.mem_of_getElem? (i := 45) rfl)
theorem w430 : Cond.methodLink "TwinTreesModel" 130 ⟨"TwinTreesModel", "keep", "(III)Z"⟩ ∈ aw := aw6_in _ (List.mem_of_getElem? (i := 46) rfl)
theorem w431 : Cond.instanceMethod ⟨"TwinTreesModel", "keep", "(III)Z"⟩ ∈ aw := aw6_in _ (List.mem_of_getElem? (i := 47) rfl)
theorem w432 : Cond.code ⟨"TwinTreesModel", "keep", "(III)Z"⟩ prog_8_method_9_code 5 (some .boolean) ∈ aw := aw6_in _ (List.mem_of_getElem? (i := 48) rfl)
theorem w433 : Cond.methodLink "TwinTreesModel" 133 ⟨"TwinTreesModel", "node", "(II)I"⟩ ∈ aw := aw6_in _ (List.mem_of_getElem? (i := 49) rfl)
theorem w434 : Cond.instanceMethod ⟨"TwinTreesModel", "node", "(II)I"⟩ ∈ aw := aw6_in _ (List.mem_of_getElem? (i := 50) rfl)
theorem w435 : Cond.code ⟨"TwinTreesModel", "node", "(II)I"⟩ prog_8_method_6_code 5 (some .int) ∈ aw := aw6_in _ (List.mem_of_getElem? (i := 51) rfl)
theorem w436 : Cond.methodLink "TwinTreesModel" 95 ⟨"TwinTreesModel", "hash", "(II)I"⟩ ∈ aw := aw6_in _ (List.mem_of_getElem? (i := 52) rfl)
theorem w437 : Cond.instanceMethod ⟨"TwinTreesModel", "hash", "(II)I"⟩ ∈ aw := aw6_in _ (List.mem_of_getElem? (i := 53) rfl)
theorem w438 : Cond.code ⟨"TwinTreesModel", "hash", "(II)I"⟩ prog_8_method_4_code 6 (some .int) ∈ aw := aw6_in _ (List.mem_of_getElem? (i := 54) rfl)
theorem w439 : Cond.constantLong "TwinTreesModel" 87 31 ∈ aw := aw6_in _ (List.mem_of_getElem? (i := 55) rfl)
theorem w440 : Cond.constantLong "TwinTreesModel" 93 1000003 ∈ aw := aw6_in _ (List.mem_of_getElem? (i := 56) rfl)
theorem w441 : Cond.methodLink "TwinTreesModel" 98 ⟨"TwinTreesModel", "isMade", "(III)Z"⟩ ∈ aw := aw6_in _ (List.mem_of_getElem? (i := 57) rfl)
theorem w442 : Cond.instanceMethod ⟨"TwinTreesModel", "isMade", "(III)Z"⟩ ∈ aw := aw6_in _ (List.mem_of_getElem? (i := 58) rfl)
theorem w443 : Cond.code ⟨"TwinTreesModel", "isMade", "(III)Z"⟩ prog_8_method_5_code 5 (some .boolean) ∈ aw := aw6_in _ (List.mem_of_getElem? (i := 59) rfl)
theorem w444 : Cond.methodLink "TwinTreesModel" 108 ⟨"java/lang/System", "arraycopy", "(Ljava/lang/Object;ILjava/lang/Object;II)V"⟩ ∈ aw := aw6_in _ (List.mem_of_getElem? (i := 60) rfl)
theorem w445 : Cond.static ⟨"java/lang/System", "arraycopy", "(Ljava/lang/Object;ILjava/lang/Object;II)V"⟩ ∈ aw := aw6_in _ (List.mem_of_getElem? (i := 61) rfl)
theorem w446 : Cond.native ⟨"java/lang/System", "arraycopy", "(Ljava/lang/Object;ILjava/lang/Object;II)V"⟩ ∈ aw := aw6_in _ (List.mem_of_getElem? (i := 62) rfl)
theorem w447 : Cond.fieldLink "TwinTreesModel" 11 "TwinTreesModel" "columns" "[I" ∈ aw := aw6_in _ (List.mem_of_getElem? (i := 63) rfl)
theorem w448 : Cond.fieldLink "TwinTreesModel" 15 "TwinTreesModel" "many" "[I" ∈ aw := aw7_in _ (List.mem_of_getElem? (i := 0) rfl)
theorem w449 : Cond.fieldLink "TwinTreesModel" 20 "TwinTreesModel" "key" "[[I" ∈ aw := aw7_in _ (List.mem_of_getElem? (i := 1) rfl)
theorem w450 : Cond.fieldLink "TwinTreesModel" 25 "TwinTreesModel" "cell" "[[J" ∈ aw := aw7_in _ (List.mem_of_getElem? (i := 2) rfl)
theorem w451 : Cond.fieldLink "TwinTreesModel" 150 "TwinTreesModel" "oldColumns" "I" ∈ aw := aw7_in _ (List.mem_of_getElem? (i := 3) rfl)
theorem w452 : Cond.fieldLink "TwinTreesModel" 153 "TwinTreesModel" "oldMany" "I" ∈ aw := aw7_in _ (List.mem_of_getElem? (i := 4) rfl)
theorem w453 : Cond.fieldLink "TwinTreesModel" 28 "TwinTreesModel" "oldKey" "[I" ∈ aw := aw7_in _ (List.mem_of_getElem? (i := 5) rfl)
theorem w454 : Cond.fieldLink "TwinTreesModel" 31 "TwinTreesModel" "oldCell" "[J" ∈ aw := aw7_in _ (List.mem_of_getElem? (i := 6) rfl)
theorem w455 : Cond.fieldLink "TwinTreesModel" 35 "TwinTreesModel" "differKey" "[I" ∈ aw := aw7_in _ (List.mem_of_getElem? (i := 7) rfl)
theorem w456 : Cond.fieldLink "TwinTreesModel" 38 "TwinTreesModel" "differKind" "[I" ∈ aw := aw7_in _ (List.mem_of_getElem? (i := 8) rfl)
theorem w457 : Cond.fieldLink "TwinTreesModel" 41 "TwinTreesModel" "differBits" "[I" ∈ aw := aw7_in _ (List.mem_of_getElem? (i := 9) rfl)
theorem w458 : Cond.fieldLink "TwinTreesModel" 185 "TwinTreesModel" "differences" "I" ∈ aw := aw7_in _ (List.mem_of_getElem? (i := 10) rfl)
theorem w459 : Cond.fieldLink "TwinTreesModel" 45 "TwinTreesModel" "height" "[I" ∈ aw := aw7_in _ (List.mem_of_getElem? (i := 11) rfl)
theorem w460 : Cond.fieldLink "TwinTreesModel" 48 "TwinTreesModel" "begins" "[I" ∈ aw := aw7_in _ (List.mem_of_getElem? (i := 12) rfl)
theorem w461 : Cond.fieldLink "TwinTreesModel" 51 "TwinTreesModel" "long0" "[I" ∈ aw := aw7_in _ (List.mem_of_getElem? (i := 13) rfl)
theorem w462 : Cond.fieldLink "TwinTreesModel" 54 "TwinTreesModel" "width" "[I" ∈ aw := aw7_in _ (List.mem_of_getElem? (i := 14) rfl)
theorem w463 : Cond.fieldLink "TwinTreesModel" 57 "TwinTreesModel" "chain" "[I" ∈ aw := aw7_in _ (List.mem_of_getElem? (i := 15) rfl)
theorem w464 : Cond.fieldLink "TwinTreesModel" 60 "TwinTreesModel" "pool" "[J" ∈ aw := aw7_in _ (List.mem_of_getElem? (i := 16) rfl)
theorem w465 : Cond.fieldLink "TwinTreesModel" 63 "TwinTreesModel" "bucket" "[I" ∈ aw := aw7_in _ (List.mem_of_getElem? (i := 17) rfl)
theorem w466 : Cond.fieldLink "TwinTreesModel" 105 "TwinTreesModel" "nodes" "I" ∈ aw := aw7_in _ (List.mem_of_getElem? (i := 18) rfl)
theorem w467 : Cond.fieldLink "TwinTreesModel" 102 "TwinTreesModel" "used" "I" ∈ aw := aw7_in _ (List.mem_of_getElem? (i := 19) rfl)
theorem w468 : Cond.fieldLink "TwinTreesModel" 66 "TwinTreesModel" "level" "[I" ∈ aw := aw7_in _ (List.mem_of_getElem? (i := 20) rfl)
theorem w469 : Cond.fieldLink "TwinTreesModel" 69 "TwinTreesModel" "last" "[I" ∈ aw := aw7_in _ (List.mem_of_getElem? (i := 21) rfl)
theorem w470 : Cond.fieldLink "TwinTreesModel" 114 "TwinTreesModel" "levelMany" "I" ∈ aw := aw7_in _ (List.mem_of_getElem? (i := 22) rfl)
theorem w471 : Cond.fieldLink "TwinTreesModel" 72 "TwinTreesModel" "made" "[J" ∈ aw := aw7_in _ (List.mem_of_getElem? (i := 23) rfl)
theorem w472 : Cond.fieldLink "TwinTreesModel" 89 "TwinTreesModel" "madeMany" "I" ∈ aw := aw7_in _ (List.mem_of_getElem? (i := 24) rfl)
theorem w473 : Cond.fieldLink "TwinTreesModel" 117 "TwinTreesModel" "tall" "I" ∈ aw := aw7_in _ (List.mem_of_getElem? (i := 25) rfl)
theorem w474 : Cond.fieldLink "TwinTreesModel" 120 "TwinTreesModel" "counted" "I" ∈ aw := aw7_in _ (List.mem_of_getElem? (i := 26) rfl)
theorem w475 : Cond.fieldLink "TwinTreesModel" 123 "TwinTreesModel" "sized" "I" ∈ aw := aw7_in _ (List.mem_of_getElem? (i := 27) rfl)
theorem w476 : Cond.laysFinal "TwinTreesModel" "TwinTreesModel" "columns" "[I" ∈ aw := aw7_in _ (List.mem_of_getElem? (i := 28) rfl)
theorem w477 : Cond.soleField "TwinTreesModel" "columns" ∈ aw := aw7_in _ (List.mem_of_getElem? (i := 29) rfl)
theorem w478 : Cond.laysFinal "TwinTreesModel" "TwinTreesModel" "many" "[I" ∈ aw := aw7_in _ (List.mem_of_getElem? (i := 30) rfl)
theorem w479 : Cond.soleField "TwinTreesModel" "many" ∈ aw := aw7_in _ (List.mem_of_getElem? (i := 31) rfl)
theorem w480 : Cond.laysFinal "TwinTreesModel" "TwinTreesModel" "key" "[[I" ∈ aw := aw7_in _ (List.mem_of_getElem? (i := 32) rfl)
theorem w481 : Cond.soleField "TwinTreesModel" "key" ∈ aw := aw7_in _ (List.mem_of_getElem? (i := 33) rfl)
theorem w482 : Cond.laysFinal "TwinTreesModel" "TwinTreesModel" "cell" "[[J" ∈ aw := aw7_in _ (List.mem_of_getElem? (i := 34) rfl)
theorem w483 : Cond.soleField "TwinTreesModel" "cell" ∈ aw := aw7_in _ (List.mem_of_getElem? (i := 35) rfl)
theorem w484 : Cond.lays "TwinTreesModel" "TwinTreesModel" "oldColumns" "I" ∈ aw := aw7_in _ (List.mem_of_getElem? (i := 36) rfl)
theorem w485 : Cond.soleField "TwinTreesModel" "oldColumns" ∈ aw := aw7_in _ (List.mem_of_getElem? (i := 37) rfl)
theorem w486 : Cond.lays "TwinTreesModel" "TwinTreesModel" "oldMany" "I" ∈ aw := aw7_in _ (List.mem_of_getElem? (i := 38) rfl)
theorem w487 : Cond.soleField "TwinTreesModel" "oldMany" ∈ aw := aw7_in _ (List.mem_of_getElem? (i := 39) rfl)
theorem w488 : Cond.laysFinal "TwinTreesModel" "TwinTreesModel" "oldKey" "[I" ∈ aw := aw7_in _ (List.mem_of_getElem? (i := 40) rfl)
theorem w489 : Cond.soleField "TwinTreesModel" "oldKey" ∈ aw := aw7_in _ (List.mem_of_getElem? (i := 41) rfl)
theorem w490 : Cond.laysFinal "TwinTreesModel" "TwinTreesModel" "oldCell" "[J" ∈ aw := aw7_in _ (List.mem_of_getElem? (i := 42) rfl)
theorem w491 : Cond.soleField "TwinTreesModel" "oldCell" ∈ aw := aw7_in _ (List.mem_of_getElem? (i := 43) rfl)
theorem w492 : Cond.laysFinal "TwinTreesModel" "TwinTreesModel" "differKey" "[I" ∈ aw := aw7_in _ (List.mem_of_getElem? (i := 44) rfl)
theorem w493 : Cond.soleField "TwinTreesModel" "differKey" ∈ aw := aw7_in _ (List.mem_of_getElem? (i := 45) rfl)
theorem w494 : Cond.laysFinal "TwinTreesModel" "TwinTreesModel" "differKind" "[I" ∈ aw := aw7_in _ (List.mem_of_getElem? (i := 46) rfl)
theorem w495 : Cond.soleField "TwinTreesModel" "differKind" ∈ aw := aw7_in _ (List.mem_of_getElem? (i := 47) rfl)
theorem w496 : Cond.laysFinal "TwinTreesModel" "TwinTreesModel" "differBits" "[I" ∈ aw := aw7_in _ (List.mem_of_getElem? (i := 48) rfl)
theorem w497 : Cond.soleField "TwinTreesModel" "differBits" ∈ aw := aw7_in _ (List.mem_of_getElem? (i := 49) rfl)
theorem w498 : Cond.lays "TwinTreesModel" "TwinTreesModel" "differences" "I" ∈ aw := aw7_in _ (List.mem_of_getElem? (i := 50) rfl)
theorem w499 : Cond.soleField "TwinTreesModel" "differences" ∈ aw := aw7_in _ (List.mem_of_getElem? (i := 51) rfl)
theorem w500 : Cond.laysFinal "TwinTreesModel" "TwinTreesModel" "height" "[I" ∈ aw := aw7_in _ (List.mem_of_getElem? (i := 52) rfl)
theorem w501 : Cond.soleField "TwinTreesModel" "height" ∈ aw := aw7_in _ (List.mem_of_getElem? (i := 53) rfl)
theorem w502 : Cond.laysFinal "TwinTreesModel" "TwinTreesModel" "begins" "[I" ∈ aw := aw7_in _ (List.mem_of_getElem? (i := 54) rfl)
theorem w503 : Cond.soleField "TwinTreesModel" "begins" ∈ aw := aw7_in _ (List.mem_of_getElem? (i := 55) rfl)
theorem w504 : Cond.laysFinal "TwinTreesModel" "TwinTreesModel" "long0" "[I" ∈ aw := aw7_in _ (List.mem_of_getElem? (i := 56) rfl)
theorem w505 : Cond.soleField "TwinTreesModel" "long0" ∈ aw := aw7_in _ (List.mem_of_getElem? (i := 57) rfl)
theorem w506 : Cond.laysFinal "TwinTreesModel" "TwinTreesModel" "width" "[I" ∈ aw := aw7_in _ (List.mem_of_getElem? (i := 58) rfl)
theorem w507 : Cond.soleField "TwinTreesModel" "width" ∈ aw := aw7_in _ (List.mem_of_getElem? (i := 59) rfl)
theorem w508 : Cond.laysFinal "TwinTreesModel" "TwinTreesModel" "chain" "[I" ∈ aw := aw7_in _ (List.mem_of_getElem? (i := 60) rfl)
theorem w509 : Cond.soleField "TwinTreesModel" "chain" ∈ aw := aw7_in _ (List.mem_of_getElem? (i := 61) rfl)
theorem w510 : Cond.laysFinal "TwinTreesModel" "TwinTreesModel" "pool" "[J" ∈ aw := aw7_in _ (List.mem_of_getElem? (i := 62) rfl)
theorem w511 : Cond.soleField "TwinTreesModel" "pool" ∈ aw := aw7_in _ (List.mem_of_getElem? (i := 63) rfl)
theorem w512 : Cond.laysFinal "TwinTreesModel" "TwinTreesModel" "bucket" "[I" ∈ aw := aw8_in _ (List.mem_of_getElem? (i := 0) rfl)
theorem w513 : Cond.soleField "TwinTreesModel" "bucket" ∈ aw := aw8_in _ (List.mem_of_getElem? (i := 1) rfl)
theorem w514 : Cond.lays "TwinTreesModel" "TwinTreesModel" "nodes" "I" ∈ aw := aw8_in _ (List.mem_of_getElem? (i := 2) rfl)
theorem w515 : Cond.soleField "TwinTreesModel" "nodes" ∈ aw := aw8_in _ (List.mem_of_getElem? (i := 3) rfl)
theorem w516 : Cond.lays "TwinTreesModel" "TwinTreesModel" "used" "I" ∈ aw := aw8_in _ (List.mem_of_getElem? (i := 4) rfl)
theorem w517 : Cond.soleField "TwinTreesModel" "used" ∈ aw := aw8_in _ (List.mem_of_getElem? (i := 5) rfl)
theorem w518 : Cond.lays "TwinTreesModel" "TwinTreesModel" "level" "[I" ∈ aw := aw8_in _ (List.mem_of_getElem? (i := 6) rfl)
theorem w519 : Cond.soleField "TwinTreesModel" "level" ∈ aw := aw8_in _ (List.mem_of_getElem? (i := 7) rfl)
theorem w520 : Cond.lays "TwinTreesModel" "TwinTreesModel" "last" "[I" ∈ aw := aw8_in _ (List.mem_of_getElem? (i := 8) rfl)
theorem w521 : Cond.soleField "TwinTreesModel" "last" ∈ aw := aw8_in _ (List.mem_of_getElem? (i := 9) rfl)
theorem w522 : Cond.lays "TwinTreesModel" "TwinTreesModel" "levelMany" "I" ∈ aw := aw8_in _ (List.mem_of_getElem? (i := 10) rfl)
theorem w523 : Cond.soleField "TwinTreesModel" "levelMany" ∈ aw := aw8_in _ (List.mem_of_getElem? (i := 11) rfl)
theorem w524 : Cond.laysFinal "TwinTreesModel" "TwinTreesModel" "made" "[J" ∈ aw := aw8_in _ (List.mem_of_getElem? (i := 12) rfl)
theorem w525 : Cond.soleField "TwinTreesModel" "made" ∈ aw := aw8_in _ (List.mem_of_getElem? (i := 13) rfl)
theorem w526 : Cond.lays "TwinTreesModel" "TwinTreesModel" "madeMany" "I" ∈ aw := aw8_in _ (List.mem_of_getElem? (i := 14) rfl)
theorem w527 : Cond.soleField "TwinTreesModel" "madeMany" ∈ aw := aw8_in _ (List.mem_of_getElem? (i := 15) rfl)
theorem w528 : Cond.lays "TwinTreesModel" "TwinTreesModel" "tall" "I" ∈ aw := aw8_in _ (List.mem_of_getElem? (i := 16) rfl)
theorem w529 : Cond.soleField "TwinTreesModel" "tall" ∈ aw := aw8_in _ (List.mem_of_getElem? (i := 17) rfl)
theorem w530 : Cond.lays "TwinTreesModel" "TwinTreesModel" "counted" "I" ∈ aw := aw8_in _ (List.mem_of_getElem? (i := 18) rfl)
theorem w531 : Cond.soleField "TwinTreesModel" "counted" ∈ aw := aw8_in _ (List.mem_of_getElem? (i := 19) rfl)
theorem w532 : Cond.lays "TwinTreesModel" "TwinTreesModel" "sized" "I" ∈ aw := aw8_in _ (List.mem_of_getElem? (i := 20) rfl)
theorem w533 : Cond.soleField "TwinTreesModel" "sized" ∈ aw := aw8_in _ (List.mem_of_getElem? (i := 21) rfl)
theorem w534 : Cond.superclass "TwinTreesModel" "java/lang/Object" ∈ aw := aw8_in _ (List.mem_of_getElem? (i := 22) rfl)
theorem w535 : Cond.arrayClass .long ∈ aw := aw8_in _ (List.mem_of_getElem? (i := 23) rfl)
theorem w536 : Cond.methodLink "TwinTreesLaw" 17 ⟨"TwinTreesModel", "make", "(II)I"⟩ ∈ aw := aw8_in _ (List.mem_of_getElem? (i := 24) rfl)
theorem w537 : Cond.instanceMethod ⟨"TwinTreesModel", "make", "(II)I"⟩ ∈ aw := aw8_in _ (List.mem_of_getElem? (i := 25) rfl)
theorem w538 : Cond.selects "TwinTreesModel" ⟨"TwinTreesModel", "make", "(II)I"⟩ ⟨"TwinTreesModel", "make", "(II)I"⟩ ∈ aw := aw8_in _ (List.mem_of_getElem? (i := 26) rfl)
theorem w539 : Cond.code ⟨"TwinTreesModel", "make", "(II)I"⟩ prog_8_method_17_code 3 (some .int) ∈ aw := aw8_in _ (List.mem_of_getElem? (i := 27) rfl)
theorem w540 : Cond.methodLink "TwinTreesModel" 163 ⟨"TwinTreesModel", "in", "(III)Z"⟩ ∈ aw := aw8_in _ (List.mem_of_getElem? (i := 28) rfl)
theorem w541 : Cond.static ⟨"TwinTreesModel", "in", "(III)Z"⟩ ∈ aw := aw8_in _ (List.mem_of_getElem? (i := 29) rfl)
theorem w542 : Cond.code ⟨"TwinTreesModel", "in", "(III)Z"⟩ prog_8_method_2_code 3 (some .boolean) ∈ aw := aw8_in _ (List.mem_of_getElem? (i := 30) rfl)
theorem w543 : Cond.methodLink "TwinTreesModel" 166 ⟨"TwinTreesModel", "remember", "(I)V"⟩ ∈ aw := aw8_in _ (List.mem_of_getElem? (i := 31) rfl)
theorem w544 : Cond.instanceMethod ⟨"TwinTreesModel", "remember", "(I)V"⟩ ∈ aw := aw8_in _ (List.mem_of_getElem? (i := 32) rfl)
theorem w545 : Cond.code ⟨"TwinTreesModel", "remember", "(I)V"⟩ prog_8_method_12_code 2 none ∈ aw := aw8_in _ (List.mem_of_getElem? (i := 33) rfl)
theorem w546 : Cond.methodLink "TwinTreesModel" 169 ⟨"TwinTreesModel", "write", "(I)I"⟩ ∈ aw := aw8_in _ (List.mem_of_getElem? (i := 34) rfl)
theorem w547 : Cond.instanceMethod ⟨"TwinTreesModel", "write", "(I)I"⟩ ∈ aw := aw8_in _ (List.mem_of_getElem? (i := 35) rfl)
theorem w548 : Cond.code ⟨"TwinTreesModel", "write", "(I)I"⟩ prog_8_method_13_code 3 (some .int) ∈ aw := aw8_in _ (List.mem_of_getElem? (i := 36) rfl)
theorem w549 : Cond.methodLink "TwinTreesModel" 156 ⟨"TwinTreesModel", "back", "(I)V"⟩ ∈ aw := aw8_in _ (List.mem_of_getElem? (i := 37) rfl)
theorem w550 : Cond.instanceMethod ⟨"TwinTreesModel", "back", "(I)V"⟩ ∈ aw := aw8_in _ (List.mem_of_getElem? (i := 38) rfl)
theorem w551 : Cond.code ⟨"TwinTreesModel", "back", "(I)V"⟩ prog_8_method_7_code 2 none ∈ aw := aw8_in _ (List.mem_of_getElem? (i := 39) rfl)
theorem w552 : Cond.methodLink "TwinTreesLaw" 22 ⟨"TwinTreesModel", "put", "(IIIIZ)I"⟩ ∈ aw := aw8_in _ (List.mem_of_getElem? (i := 40) rfl)
theorem w553 : Cond.instanceMethod ⟨"TwinTreesModel", "put", "(IIIIZ)I"⟩ ∈ aw := aw8_in _ (List.mem_of_getElem? (i := 41) rfl)
theorem w554 : Cond.selects "TwinTreesModel" ⟨"TwinTreesModel", "put", "(IIIIZ)I"⟩ ⟨"TwinTreesModel", "put", "(IIIIZ)I"⟩ ∈ aw := aw8_in _ (List.mem_of_getElem? (i := 42) rfl)
theorem w555 : Cond.code ⟨"TwinTreesModel", "put", "(IIIIZ)I"⟩ prog_8_method_18_code 8 (some .int) ∈ aw := aw8_in _ (List.mem_of_getElem? (i := 43) rfl)
theorem w556 : Cond.methodLink "TwinTreesModel" 172 ⟨"TwinTreesModel", "find", "(II)I"⟩ ∈ aw := aw8_in _ (List.mem_of_getElem? (i := 44) rfl)
theorem w557 : Cond.instanceMethod ⟨"TwinTreesModel", "find", "(II)I"⟩ ∈ aw := aw8_in _ (List.mem_of_getElem? (i := 45) rfl)
theorem w558 : Cond.code ⟨"TwinTreesModel", "find", "(II)I"⟩ prog_8_method_15_code 4 (some .int) ∈ aw := aw8_in _ (List.mem_of_getElem? (i := 46) rfl)
theorem w559 : Cond.methodLink "TwinTreesModel" 160 ⟨"TwinTreesModel", "placeOf", "(II)I"⟩ ∈ aw := aw8_in _ (List.mem_of_getElem? (i := 47) rfl)
theorem w560 : Cond.instanceMethod ⟨"TwinTreesModel", "placeOf", "(II)I"⟩ ∈ aw := aw8_in _ (List.mem_of_getElem? (i := 48) rfl)
theorem w561 : Cond.code ⟨"TwinTreesModel", "placeOf", "(II)I"⟩ prog_8_method_14_code 4 (some .int) ∈ aw := aw8_in _ (List.mem_of_getElem? (i := 49) rfl)
theorem w562 : Cond.methodLink "TwinTreesModel" 175 ⟨"TwinTreesModel", "move", "(III)V"⟩ ∈ aw := aw8_in _ (List.mem_of_getElem? (i := 50) rfl)
theorem w563 : Cond.instanceMethod ⟨"TwinTreesModel", "move", "(III)V"⟩ ∈ aw := aw8_in _ (List.mem_of_getElem? (i := 51) rfl)
theorem w564 : Cond.code ⟨"TwinTreesModel", "move", "(III)V"⟩ prog_8_method_16_code 5 none ∈ aw := aw8_in _ (List.mem_of_getElem? (i := 52) rfl)
theorem w565 : Cond.constantLong "TwinTreesModel" 146 (-9223372036854775808) ∈ aw := aw8_in _ (List.mem_of_getElem? (i := 53) rfl)
theorem w566 : Cond.methodLink "TwinTreesLaw" 26 ⟨"TwinTreesModel", "remove", "(II)I"⟩ ∈ aw := aw8_in _ (List.mem_of_getElem? (i := 54) rfl)
theorem w567 : Cond.instanceMethod ⟨"TwinTreesModel", "remove", "(II)I"⟩ ∈ aw := aw8_in _ (List.mem_of_getElem? (i := 55) rfl)
theorem w568 : Cond.selects "TwinTreesModel" ⟨"TwinTreesModel", "remove", "(II)I"⟩ ⟨"TwinTreesModel", "remove", "(II)I"⟩ ∈ aw := aw8_in _ (List.mem_of_getElem? (i := 56) rfl)
theorem w569 : Cond.code ⟨"TwinTreesModel", "remove", "(II)I"⟩ prog_8_method_19_code 5 (some .int) ∈ aw := aw8_in _ (List.mem_of_getElem? (i := 57) rfl)
theorem w570 : Cond.methodLink "TwinTreesLaw" 30 ⟨"TwinTreesModel", "copy", "(II)I"⟩ ∈ aw := aw8_in _ (List.mem_of_getElem? (i := 58) rfl)
theorem w571 : Cond.instanceMethod ⟨"TwinTreesModel", "copy", "(II)I"⟩ ∈ aw := aw8_in _ (List.mem_of_getElem? (i := 59) rfl)
theorem w572 : Cond.selects "TwinTreesModel" ⟨"TwinTreesModel", "copy", "(II)I"⟩ ⟨"TwinTreesModel", "copy", "(II)I"⟩ ∈ aw := aw8_in _ (List.mem_of_getElem? (i := 60) rfl)
theorem w573 : Cond.code ⟨"TwinTreesModel", "copy", "(II)I"⟩ prog_8_method_20_code 3 (some .int) ∈ aw := aw8_in _ (List.mem_of_getElem? (i := 61) rfl)
theorem w574 : Cond.methodLink "TwinTreesLaw" 35 ⟨"TwinTreesModel", "get", "(III)J"⟩ ∈ aw := aw8_in _ (List.mem_of_getElem? (i := 62) rfl)
theorem w575 : Cond.instanceMethod ⟨"TwinTreesModel", "get", "(III)J"⟩ ∈ aw := aw8_in _ (List.mem_of_getElem? (i := 63) rfl)
theorem w576 : Cond.selects "TwinTreesModel" ⟨"TwinTreesModel", "get", "(III)J"⟩ ⟨"TwinTreesModel", "get", "(III)J"⟩ ∈ aw := aw9_in _ (List.mem_of_getElem? (i := 0) rfl)
theorem w577 : Cond.code ⟨"TwinTreesModel", "get", "(III)J"⟩ prog_8_method_21_code 7 (some .long) ∈ aw := aw9_in _ (List.mem_of_getElem? (i := 1) rfl)
theorem w578 : Cond.constantLong "TwinTreesModel" 179 1099511627775 ∈ aw := aw9_in _ (List.mem_of_getElem? (i := 2) rfl)
theorem w579 : Cond.constantLong "TwinTreesModel" 181 1099511627774 ∈ aw := aw9_in _ (List.mem_of_getElem? (i := 3) rfl)
theorem w580 : Cond.constantLong "TwinTreesModel" 183 1099511627776 ∈ aw := aw9_in _ (List.mem_of_getElem? (i := 4) rfl)
theorem w581 : Cond.methodLink "TwinTreesLaw" 39 ⟨"TwinTreesModel", "measure", "(II)I"⟩ ∈ aw := aw9_in _ (List.mem_of_getElem? (i := 5) rfl)
theorem w582 : Cond.instanceMethod ⟨"TwinTreesModel", "measure", "(II)I"⟩ ∈ aw := aw9_in _ (List.mem_of_getElem? (i := 6) rfl)
theorem w583 : Cond.selects "TwinTreesModel" ⟨"TwinTreesModel", "measure", "(II)I"⟩ ⟨"TwinTreesModel", "measure", "(II)I"⟩ ∈ aw := aw9_in _ (List.mem_of_getElem? (i := 7) rfl)
theorem w584 : Cond.code ⟨"TwinTreesModel", "measure", "(II)I"⟩ prog_8_method_22_code 3 (some .int) ∈ aw := aw9_in _ (List.mem_of_getElem? (i := 8) rfl)
theorem w585 : Cond.methodLink "TwinTreesLaw" 44 ⟨"TwinTreesModel", "address", "(I)J"⟩ ∈ aw := aw9_in _ (List.mem_of_getElem? (i := 9) rfl)
theorem w586 : Cond.instanceMethod ⟨"TwinTreesModel", "address", "(I)J"⟩ ∈ aw := aw9_in _ (List.mem_of_getElem? (i := 10) rfl)
theorem w587 : Cond.selects "TwinTreesModel" ⟨"TwinTreesModel", "address", "(I)J"⟩ ⟨"TwinTreesModel", "address", "(I)J"⟩ ∈ aw := aw9_in _ (List.mem_of_getElem? (i := 11) rfl)
theorem w588 : Cond.code ⟨"TwinTreesModel", "address", "(I)J"⟩ prog_8_method_23_code 2 (some .long) ∈ aw := aw9_in _ (List.mem_of_getElem? (i := 12) rfl)
theorem w589 : Cond.methodLink "TwinTreesModel" 142 ⟨"TwinTreesModel", "addressOf", "(I)J"⟩ ∈ aw := aw9_in _ (List.mem_of_getElem? (i := 13) rfl)
theorem w590 : Cond.instanceMethod ⟨"TwinTreesModel", "addressOf", "(I)J"⟩ ∈ aw := aw9_in _ (List.mem_of_getElem? (i := 14) rfl)
theorem w591 : Cond.code ⟨"TwinTreesModel", "addressOf", "(I)J"⟩ prog_8_method_10_code 8 (some .long) ∈ aw := aw9_in _ (List.mem_of_getElem? (i := 15) rfl)
theorem w592 : Cond.constantLong "TwinTreesModel" 136 1469598103934665603 ∈ aw := aw9_in _ (List.mem_of_getElem? (i := 16) rfl)
theorem w593 : Cond.methodLink "TwinTreesModel" 138 ⟨"TwinTreesModel", "step", "(JJ)J"⟩ ∈ aw := aw9_in _ (List.mem_of_getElem? (i := 17) rfl)
theorem w594 : Cond.static ⟨"TwinTreesModel", "step", "(JJ)J"⟩ ∈ aw := aw9_in _ (List.mem_of_getElem? (i := 18) rfl)
theorem w595 : Cond.code ⟨"TwinTreesModel", "step", "(JJ)J"⟩ prog_8_method_11_code 4 (some .long) ∈ aw := aw9_in _ (List.mem_of_getElem? (i := 19) rfl)
theorem w596 : Cond.constantLong "TwinTreesModel" 148 1099511628211 ∈ aw := aw9_in _ (List.mem_of_getElem? (i := 20) rfl)
theorem w597 : Cond.methodLink "TwinTreesLaw" 49 ⟨"TwinTreesModel", "row", "(II)J"⟩ ∈ aw := aw9_in _ (List.mem_of_getElem? (i := 21) rfl)
theorem w598 : Cond.instanceMethod ⟨"TwinTreesModel", "row", "(II)J"⟩ ∈ aw := aw9_in _ (List.mem_of_getElem? (i := 22) rfl)
theorem w599 : Cond.selects "TwinTreesModel" ⟨"TwinTreesModel", "row", "(II)J"⟩ ⟨"TwinTreesModel", "row", "(II)J"⟩ ∈ aw := aw9_in _ (List.mem_of_getElem? (i := 23) rfl)
theorem w600 : Cond.code ⟨"TwinTreesModel", "row", "(II)J"⟩ prog_8_method_24_code 3 (some .long) ∈ aw := aw9_in _ (List.mem_of_getElem? (i := 24) rfl)
theorem w601 : Cond.methodLink "TwinTreesLaw" 53 ⟨"TwinTreesModel", "compare", "(II)I"⟩ ∈ aw := aw9_in _ (List.mem_of_getElem? (i := 25) rfl)
theorem w602 : Cond.instanceMethod ⟨"TwinTreesModel", "compare", "(II)I"⟩ ∈ aw := aw9_in _ (List.mem_of_getElem? (i := 26) rfl)
theorem w603 : Cond.selects "TwinTreesModel" ⟨"TwinTreesModel", "compare", "(II)I"⟩ ⟨"TwinTreesModel", "compare", "(II)I"⟩ ∈ aw := aw9_in _ (List.mem_of_getElem? (i := 27) rfl)
theorem w604 : Cond.code ⟨"TwinTreesModel", "compare", "(II)I"⟩ prog_8_method_25_code 10 (some .int) ∈ aw := aw9_in _ (List.mem_of_getElem? (i := 28) rfl)
theorem w605 : Cond.methodLink "TwinTreesLaw" 57 ⟨"TwinTreesModel", "difference", "(II)J"⟩ ∈ aw := aw9_in _ (List.mem_of_getElem? (i := 29) rfl)
theorem w606 : Cond.instanceMethod ⟨"TwinTreesModel", "difference", "(II)J"⟩ ∈ aw := aw9_in _ (List.mem_of_getElem? (i := 30) rfl)
theorem w607 : Cond.selects "TwinTreesModel" ⟨"TwinTreesModel", "difference", "(II)J"⟩ ⟨"TwinTreesModel", "difference", "(II)J"⟩ ∈ aw := aw9_in _ (List.mem_of_getElem? (i := 31) rfl)
theorem w608 : Cond.code ⟨"TwinTreesModel", "difference", "(II)J"⟩ prog_8_method_26_code 3 (some .long) ∈ aw := aw9_in _ (List.mem_of_getElem? (i := 32) rfl)
theorem w609 : Cond.methodLink "TwinTreesLaw" 62 ⟨"TwinTreesModel", "sweep", "()I"⟩ ∈ aw := aw9_in _ (List.mem_of_getElem? (i := 33) rfl)
theorem w610 : Cond.instanceMethod ⟨"TwinTreesModel", "sweep", "()I"⟩ ∈ aw := aw9_in _ (List.mem_of_getElem? (i := 34) rfl)
theorem w611 : Cond.selects "TwinTreesModel" ⟨"TwinTreesModel", "sweep", "()I"⟩ ⟨"TwinTreesModel", "sweep", "()I"⟩ ∈ aw := aw9_in _ (List.mem_of_getElem? (i := 35) rfl)
theorem w612 : Cond.code ⟨"TwinTreesModel", "sweep", "()I"⟩ prog_8_method_27_code 3 (some .int) ∈ aw := aw9_in _ (List.mem_of_getElem? (i := 36) rfl)
theorem w613 : Cond.methodLink "TwinTreesModel" 188 ⟨"java/util/Arrays", "fill", "([II)V"⟩ ∈ aw := aw9_in _ (List.mem_of_getElem? (i := 37) rfl)
theorem w614 : Cond.static ⟨"java/util/Arrays", "fill", "([II)V"⟩ ∈ aw := aw9_in _ (List.mem_of_getElem? (i := 38) rfl)
theorem w615 : Cond.code ⟨"java/util/Arrays", "fill", "([II)V"⟩ prog_12_method_103_code 4 none ∈ aw := aw9_in _ (List.mem_of_getElem? (i := 39) rfl)
theorem w616 : Cond.methodLink "TwinTreesLaw" 67 ⟨"TwinTreesModel", "count", "(I)I"⟩ ∈ aw := aw9_in _ (List.mem_of_getElem? (i := 40) rfl)
theorem w617 : Cond.instanceMethod ⟨"TwinTreesModel", "count", "(I)I"⟩ ∈ aw := aw9_in _ (List.mem_of_getElem? (i := 41) rfl)
theorem w618 : Cond.selects "TwinTreesModel" ⟨"TwinTreesModel", "count", "(I)I"⟩ ⟨"TwinTreesModel", "count", "(I)I"⟩ ∈ aw := aw9_in _ (List.mem_of_getElem? (i := 42) rfl)
theorem w619 : Cond.code ⟨"TwinTreesModel", "count", "(I)I"⟩ prog_8_method_28_code 2 (some .int) ∈ aw := aw9_in _ (List.mem_of_getElem? (i := 43) rfl)
theorem aw_good : ∀ w ∈ aw, goodWord w = true := by
  intro w h
  rcases List.mem_append.mp h with h | h
  · exact List.all_eq_true.mp aw0_good w h
  rcases List.mem_append.mp h with h | h
  · exact List.all_eq_true.mp aw1_good w h
  rcases List.mem_append.mp h with h | h
  · exact List.all_eq_true.mp aw2_good w h
  rcases List.mem_append.mp h with h | h
  · exact List.all_eq_true.mp aw3_good w h
  rcases List.mem_append.mp h with h | h
  · exact List.all_eq_true.mp aw4_good w h
  rcases List.mem_append.mp h with h | h
  · exact List.all_eq_true.mp aw5_good w h
  rcases List.mem_append.mp h with h | h
  · exact List.all_eq_true.mp aw6_good w h
  rcases List.mem_append.mp h with h | h
  · exact List.all_eq_true.mp aw7_good w h
  rcases List.mem_append.mp h with h | h
  · exact List.all_eq_true.mp aw8_good w h
  exact List.all_eq_true.mp aw9_good w h
theorem aw_all : GoodIn aw aw := fun w h => ⟨h, good_of_word (aw_good w h)⟩
theorem uwT : ∀ w ∈ u_ws kT fT 8, w ∈ aw := by
  intro w h
  obtain ⟨k, hk, rfl⟩ := List.mem_map.mp h
  have hk := List.mem_range.mp hk
  by_cases h0 : k = 0
  · subst h0; exact w200
  by_cases h1 : k = 1
  · subst h1; exact w202
  by_cases h2 : k = 2
  · subst h2; exact w204
  by_cases h3 : k = 3
  · subst h3; exact w206
  by_cases h4 : k = 4
  · subst h4; exact w208
  by_cases h5 : k = 5
  · subst h5; exact w210
  by_cases h6 : k = 6
  · subst h6; exact w212
  by_cases h7 : k = 7
  · subst h7; exact w214
  omega
theorem uwD : ∀ w ∈ u_ws kD fD 4, w ∈ aw := by
  intro w h
  obtain ⟨k, hk, rfl⟩ := List.mem_map.mp h
  have hk := List.mem_range.mp hk
  by_cases h0 : k = 0
  · subst h0; exact w77
  by_cases h1 : k = 1
  · subst h1; exact w79
  by_cases h2 : k = 2
  · subst h2; exact w81
  by_cases h3 : k = 3
  · subst h3; exact w83
  omega
theorem uwN : ∀ w ∈ u_ws kN fN 12, w ∈ aw := by
  intro w h
  obtain ⟨k, hk, rfl⟩ := List.mem_map.mp h
  have hk := List.mem_range.mp hk
  by_cases h0 : k = 0
  · subst h0; exact w156
  by_cases h1 : k = 1
  · subst h1; exact w158
  by_cases h2 : k = 2
  · subst h2; exact w160
  by_cases h3 : k = 3
  · subst h3; exact w162
  by_cases h4 : k = 4
  · subst h4; exact w164
  by_cases h5 : k = 5
  · subst h5; exact w166
  by_cases h6 : k = 6
  · subst h6; exact w168
  by_cases h7 : k = 7
  · subst h7; exact w170
  by_cases h8 : k = 8
  · subst h8; exact w172
  by_cases h9 : k = 9
  · subst h9; exact w174
  by_cases h10 : k = 10
  · subst h10; exact w176
  by_cases h11 : k = 11
  · subst h11; exact w178
  omega
theorem uwR : ∀ w ∈ u_ws kR fR 5, w ∈ aw := by
  intro w h
  obtain ⟨k, hk, rfl⟩ := List.mem_map.mp h
  have hk := List.mem_range.mp hk
  by_cases h0 : k = 0
  · subst h0; exact w298
  by_cases h1 : k = 1
  · subst h1; exact w300
  by_cases h2 : k = 2
  · subst h2; exact w302
  by_cases h3 : k = 3
  · subst h3; exact w304
  by_cases h4 : k = 4
  · subst h4; exact w306
  omega
theorem uwQ : ∀ w ∈ u_ws kQ fQ 2, w ∈ aw := by
  intro w h
  obtain ⟨k, hk, rfl⟩ := List.mem_map.mp h
  have hk := List.mem_range.mp hk
  by_cases h0 : k = 0
  · subst h0; exact w98
  by_cases h1 : k = 1
  · subst h1; exact w100
  omega
theorem uwS : ∀ w ∈ u_ws kS fS 4, w ∈ aw := by
  intro w h
  obtain ⟨k, hk, rfl⟩ := List.mem_map.mp h
  have hk := List.mem_range.mp hk
  by_cases h0 : k = 0
  · subst h0; exact w54
  by_cases h1 : k = 1
  · subst h1; exact w56
  by_cases h2 : k = 2
  · subst h2; exact w58
  by_cases h3 : k = 3
  · subst h3; exact w60
  omega
theorem uwM : ∀ w ∈ u_ws kM fM 29, w ∈ aw := by
  intro w h
  obtain ⟨k, hk, rfl⟩ := List.mem_map.mp h
  have hk := List.mem_range.mp hk
  by_cases h0 : k = 0
  · subst h0; exact w476
  by_cases h1 : k = 1
  · subst h1; exact w478
  by_cases h2 : k = 2
  · subst h2; exact w480
  by_cases h3 : k = 3
  · subst h3; exact w482
  by_cases h4 : k = 4
  · subst h4; exact w484
  by_cases h5 : k = 5
  · subst h5; exact w486
  by_cases h6 : k = 6
  · subst h6; exact w488
  by_cases h7 : k = 7
  · subst h7; exact w490
  by_cases h8 : k = 8
  · subst h8; exact w492
  by_cases h9 : k = 9
  · subst h9; exact w494
  by_cases h10 : k = 10
  · subst h10; exact w496
  by_cases h11 : k = 11
  · subst h11; exact w498
  by_cases h12 : k = 12
  · subst h12; exact w500
  by_cases h13 : k = 13
  · subst h13; exact w502
  by_cases h14 : k = 14
  · subst h14; exact w504
  by_cases h15 : k = 15
  · subst h15; exact w506
  by_cases h16 : k = 16
  · subst h16; exact w508
  by_cases h17 : k = 17
  · subst h17; exact w510
  by_cases h18 : k = 18
  · subst h18; exact w512
  by_cases h19 : k = 19
  · subst h19; exact w514
  by_cases h20 : k = 20
  · subst h20; exact w516
  by_cases h21 : k = 21
  · subst h21; exact w518
  by_cases h22 : k = 22
  · subst h22; exact w520
  by_cases h23 : k = 23
  · subst h23; exact w522
  by_cases h24 : k = 24
  · subst h24; exact w524
  by_cases h25 : k = 25
  · subst h25; exact w526
  by_cases h26 : k = 26
  · subst h26; exact w528
  by_cases h27 : k = 27
  · subst h27; exact w530
  by_cases h28 : k = 28
  · subst h28; exact w532
  omega
abbrev bT_init : ByteArray := prog_1_method_1_code
abbrev yT_init : MethodName := ⟨"TwinTrees", "<init>", "()V"⟩
abbrev sT_init : List Cond := .code yT_init bT_init 3 none :: aw
abbrev bJO_init : ByteArray := object_method_1_code
abbrev yJO_init : MethodName := ⟨"java/lang/Object", "<init>", "()V"⟩
abbrev sJO_init : List Cond := .code yJO_init bJO_init 1 none :: aw
abbrev bS_init : ByteArray := prog_6_method_1_code
abbrev yS_init : MethodName := ⟨"TwinTrees$Store", "<init>", "()V"⟩
abbrev sS_init : List Cond := .code yS_init bS_init 1 none :: aw
abbrev bD_init : ByteArray := prog_2_method_1_code
abbrev yD_init : MethodName := ⟨"TwinTrees$Differences", "<init>", "()V"⟩
abbrev sD_init : List Cond := .code yD_init bD_init 1 none :: aw
abbrev bQ_init : ByteArray := prog_5_method_1_code
abbrev yQ_init : MethodName := ⟨"TwinTrees$RowList", "<init>", "()V"⟩
abbrev sQ_init : List Cond := .code yQ_init bQ_init 1 none :: aw
abbrev bS_leafOf : ByteArray := prog_6_method_2_code
abbrev yS_leafOf : MethodName := ⟨"TwinTrees$Store", "leafOf", "([LTwinTrees$Row;II)LTwinTrees$Node;"⟩
abbrev sS_leafOf : List Cond := .code yS_leafOf bS_leafOf 6 (some (.object "TwinTrees$Node")) :: aw
abbrev bS_bucketOf : ByteArray := prog_6_method_8_code
abbrev yS_bucketOf : MethodName := ⟨"TwinTrees$Store", "bucketOf", "(I)I"⟩
abbrev sS_bucketOf : List Cond := .code yS_bucketOf bS_bucketOf 1 (some .int) :: aw
abbrev bN_isLikeLeaf : ByteArray := prog_3_method_3_code
abbrev yN_isLikeLeaf : MethodName := ⟨"TwinTrees$Node", "isLikeLeaf", "([LTwinTrees$Row;II)Z"⟩
abbrev sN_isLikeLeaf : List Cond := .code yN_isLikeLeaf bN_isLikeLeaf 5 (some .boolean) :: aw
abbrev bR_isLike : ByteArray := prog_4_method_4_code
abbrev yR_isLike : MethodName := ⟨"TwinTrees$Row", "isLike", "(LTwinTrees$Row;)Z"⟩
abbrev sR_isLike : List Cond := .code yR_isLike bR_isLike 2 (some .boolean) :: aw
abbrev bR_unlikeCells : ByteArray := prog_4_method_5_code
abbrev yR_unlikeCells : MethodName := ⟨"TwinTrees$Row", "unlikeCells", "(LTwinTrees$Row;)I"⟩
abbrev sR_unlikeCells : List Cond := .code yR_unlikeCells bR_unlikeCells 4 (some .int) :: aw
abbrev bN_init : ByteArray := prog_3_method_1_code
abbrev yN_init : MethodName := ⟨"TwinTrees$Node", "<init>", "([LTwinTrees$Row;III)V"⟩
abbrev sN_init : List Cond := .code yN_init bN_init 7 none :: aw
abbrev bS_pend : ByteArray := prog_6_method_6_code
abbrev yS_pend : MethodName := ⟨"TwinTrees$Store", "pend", "(LTwinTrees$Node;)LTwinTrees$Node;"⟩
abbrev sS_pend : List Cond := .code yS_pend bS_pend 2 (some (.object "TwinTrees$Node")) :: aw
abbrev bS_keepPending : ByteArray := prog_6_method_4_code
abbrev yS_keepPending : MethodName := ⟨"TwinTrees$Store", "keepPending", "()I"⟩
abbrev sS_keepPending : List Cond := .code yS_keepPending bS_keepPending 5 (some .int) :: aw
abbrev bS_link : ByteArray := prog_6_method_7_code
abbrev yS_link : MethodName := ⟨"TwinTrees$Store", "link", "(LTwinTrees$Node;)V"⟩
abbrev sS_link : List Cond := .code yS_link bS_link 3 none :: aw
abbrev bT_make : ByteArray := prog_1_method_2_code
abbrev yT_make : MethodName := ⟨"TwinTrees", "make", "(II)I"⟩
abbrev sT_make : List Cond := .code yT_make bT_make 4 (some .int) :: aw
abbrev bT_isTable : ByteArray := prog_1_method_14_code
abbrev yT_isTable : MethodName := ⟨"TwinTrees", "isTable", "(I)Z"⟩
abbrev sT_isTable : List Cond := .code yT_isTable bT_isTable 1 (some .boolean) :: aw
abbrev bT_plantDraft : ByteArray := prog_1_method_19_code
abbrev yT_plantDraft : MethodName := ⟨"TwinTrees", "plantDraft", "(I)I"⟩
abbrev sT_plantDraft : List Cond := .code yT_plantDraft bT_plantDraft 4 (some .int) :: aw
abbrev bT_groupRows : ByteArray := prog_1_method_20_code
abbrev yT_groupRows : MethodName := ⟨"TwinTrees", "groupRows", "()I"⟩
abbrev sT_groupRows : List Cond := .code yT_groupRows bT_groupRows 4 (some .int) :: aw
abbrev bT_groupNodes : ByteArray := prog_1_method_21_code
abbrev yT_groupNodes : MethodName := ⟨"TwinTrees", "groupNodes", "(II)I"⟩
abbrev sT_groupNodes : List Cond := .code yT_groupNodes bT_groupNodes 6 (some .int) :: aw
abbrev bS_branchOf : ByteArray := prog_6_method_3_code
abbrev yS_branchOf : MethodName := ⟨"TwinTrees$Store", "branchOf", "(I[LTwinTrees$Node;II)LTwinTrees$Node;"⟩
abbrev sS_branchOf : List Cond := .code yS_branchOf bS_branchOf 7 (some (.object "TwinTrees$Node")) :: aw
abbrev bN_isLikeBranch : ByteArray := prog_3_method_4_code
abbrev yN_isLikeBranch : MethodName := ⟨"TwinTrees$Node", "isLikeBranch", "([LTwinTrees$Node;II)Z"⟩
abbrev sN_isLikeBranch : List Cond := .code yN_isLikeBranch bN_isLikeBranch 5 (some .boolean) :: aw
abbrev bN_init2 : ByteArray := prog_3_method_2_code
abbrev yN_init2 : MethodName := ⟨"TwinTrees$Node", "<init>", "(I[LTwinTrees$Node;III)V"⟩
abbrev sN_init2 : List Cond := .code yN_init2 bN_init2 8 none :: aw
abbrev bT_put : ByteArray := prog_1_method_3_code
abbrev yT_put : MethodName := ⟨"TwinTrees", "put", "(IIIIZ)I"⟩
abbrev sT_put : List Cond := .code yT_put bT_put 7 (some .int) :: aw
abbrev bT_isColumn : ByteArray := prog_1_method_15_code
abbrev yT_isColumn : MethodName := ⟨"TwinTrees", "isColumn", "(II)Z"⟩
abbrev sT_isColumn : List Cond := .code yT_isColumn bT_isColumn 3 (some .boolean) :: aw
abbrev bT_draftRowsOf : ByteArray := prog_1_method_17_code
abbrev yT_draftRowsOf : MethodName := ⟨"TwinTrees", "draftRowsOf", "(I)V"⟩
abbrev sT_draftRowsOf : List Cond := .code yT_draftRowsOf bT_draftRowsOf 2 none :: aw
abbrev bT_newStamp : ByteArray := prog_1_method_16_code
abbrev yT_newStamp : MethodName := ⟨"TwinTrees", "newStamp", "()I"⟩
abbrev sT_newStamp : List Cond := .code yT_newStamp bT_newStamp 1 (some .int) :: aw
abbrev bT_gather : ByteArray := prog_1_method_23_code
abbrev yT_gather : MethodName := ⟨"TwinTrees", "gather", "(LTwinTrees$Node;ILTwinTrees$RowList;I)V"⟩
abbrev sT_gather : List Cond := .code yT_gather bT_gather 8 none :: aw
abbrev bQ_append : ByteArray := prog_5_method_2_code
abbrev yQ_append : MethodName := ⟨"TwinTrees$RowList", "append", "(LTwinTrees$Row;)V"⟩
abbrev sQ_append : List Cond := .code yQ_append bQ_append 2 none :: aw
abbrev bQ_placeOf : ByteArray := prog_5_method_3_code
abbrev yQ_placeOf : MethodName := ⟨"TwinTrees$RowList", "placeOf", "(I)I"⟩
abbrev sQ_placeOf : List Cond := .code yQ_placeOf bQ_placeOf 3 (some .int) :: aw
abbrev bQ_hasKeyAt : ByteArray := prog_5_method_4_code
abbrev yQ_hasKeyAt : MethodName := ⟨"TwinTrees$RowList", "hasKeyAt", "(II)Z"⟩
abbrev sQ_hasKeyAt : List Cond := .code yQ_hasKeyAt bQ_hasKeyAt 3 (some .boolean) :: aw
abbrev bT_blankRow : ByteArray := prog_1_method_29_code
abbrev yT_blankRow : MethodName := ⟨"TwinTrees", "blankRow", "(II)LTwinTrees$Row;"⟩
abbrev sT_blankRow : List Cond := .code yT_blankRow bT_blankRow 2 (some (.object "TwinTrees$Row")) :: aw
abbrev bR_init : ByteArray := prog_4_method_1_code
abbrev yR_init : MethodName := ⟨"TwinTrees$Row", "<init>", "(I[II)V"⟩
abbrev sR_init : List Cond := .code yR_init bR_init 9 none :: aw
abbrev bT_levelOf : ByteArray := prog_1_method_30_code
abbrev yT_levelOf : MethodName := ⟨"TwinTrees", "levelOf", "(I)I"⟩
abbrev sT_levelOf : List Cond := .code yT_levelOf bT_levelOf 3 (some .int) :: aw
abbrev bQ_insertAt : ByteArray := prog_5_method_5_code
abbrev yQ_insertAt : MethodName := ⟨"TwinTrees$RowList", "insertAt", "(ILTwinTrees$Row;)V"⟩
abbrev sQ_insertAt : List Cond := .code yQ_insertAt bQ_insertAt 4 none :: aw
abbrev bR_withCell : ByteArray := prog_4_method_2_code
abbrev yR_withCell : MethodName := ⟨"TwinTrees$Row", "withCell", "(IIZ)LTwinTrees$Row;"⟩
abbrev sR_withCell : List Cond := .code yR_withCell bR_withCell 6 (some (.object "TwinTrees$Row")) :: aw
abbrev bT_remove : ByteArray := prog_1_method_4_code
abbrev yT_remove : MethodName := ⟨"TwinTrees", "remove", "(II)I"⟩
abbrev sT_remove : List Cond := .code yT_remove bT_remove 4 (some .int) :: aw
abbrev bQ_takeAt : ByteArray := prog_5_method_6_code
abbrev yQ_takeAt : MethodName := ⟨"TwinTrees$RowList", "takeAt", "(I)V"⟩
abbrev sQ_takeAt : List Cond := .code yQ_takeAt bQ_takeAt 3 none :: aw
abbrev bT_copy : ByteArray := prog_1_method_5_code
abbrev yT_copy : MethodName := ⟨"TwinTrees", "copy", "(II)I"⟩
abbrev sT_copy : List Cond := .code yT_copy bT_copy 3 (some .int) :: aw
abbrev bT_get : ByteArray := prog_1_method_6_code
abbrev yT_get : MethodName := ⟨"TwinTrees", "get", "(III)J"⟩
abbrev sT_get : List Cond := .code yT_get bT_get 5 (some .long) :: aw
abbrev bT_rowWithKey : ByteArray := prog_1_method_24_code
abbrev yT_rowWithKey : MethodName := ⟨"TwinTrees", "rowWithKey", "(LTwinTrees$Node;I)LTwinTrees$Row;"⟩
abbrev sT_rowWithKey : List Cond := .code yT_rowWithKey bT_rowWithKey 7 (some (.object "TwinTrees$Row")) :: aw
abbrev bR_isNull : ByteArray := prog_4_method_3_code
abbrev yR_isNull : MethodName := ⟨"TwinTrees$Row", "isNull", "(I)Z"⟩
abbrev sR_isNull : List Cond := .code yR_isNull bR_isNull 2 (some .boolean) :: aw
abbrev bT_measure : ByteArray := prog_1_method_7_code
abbrev yT_measure : MethodName := ⟨"TwinTrees", "measure", "(II)I"⟩
abbrev sT_measure : List Cond := .code yT_measure bT_measure 4 (some .int) :: aw
abbrev bT_stampTree : ByteArray := prog_1_method_22_code
abbrev yT_stampTree : MethodName := ⟨"TwinTrees", "stampTree", "(LTwinTrees$Node;II)I"⟩
abbrev sT_stampTree : List Cond := .code yT_stampTree bT_stampTree 8 (some .int) :: aw
abbrev bT_address : ByteArray := prog_1_method_8_code
abbrev yT_address : MethodName := ⟨"TwinTrees", "address", "(I)J"⟩
abbrev sT_address : List Cond := .code yT_address bT_address 2 (some .long) :: aw
abbrev bT_addressOf : ByteArray := prog_1_method_26_code
abbrev yT_addressOf : MethodName := ⟨"TwinTrees", "addressOf", "(LTwinTrees$Node;I)J"⟩
abbrev sT_addressOf : List Cond := .code yT_addressOf bT_addressOf 8 (some .long) :: aw
abbrev bT_mixed : ByteArray := prog_1_method_28_code
abbrev yT_mixed : MethodName := ⟨"TwinTrees", "mixed", "(JJ)J"⟩
abbrev sT_mixed : List Cond := .code yT_mixed bT_mixed 4 (some .long) :: aw
abbrev bT_mixedRow : ByteArray := prog_1_method_27_code
abbrev yT_mixedRow : MethodName := ⟨"TwinTrees", "mixedRow", "(JLTwinTrees$Row;)J"⟩
abbrev sT_mixedRow : List Cond := .code yT_mixedRow bT_mixedRow 6 (some .long) :: aw
abbrev bT_row : ByteArray := prog_1_method_9_code
abbrev yT_row : MethodName := ⟨"TwinTrees", "row", "(II)J"⟩
abbrev sT_row : List Cond := .code yT_row bT_row 3 (some .long) :: aw
abbrev bT_keyInOrder : ByteArray := prog_1_method_25_code
abbrev yT_keyInOrder : MethodName := ⟨"TwinTrees", "keyInOrder", "(LTwinTrees$Node;I)J"⟩
abbrev sT_keyInOrder : List Cond := .code yT_keyInOrder bT_keyInOrder 6 (some .long) :: aw
abbrev bT_compare : ByteArray := prog_1_method_10_code
abbrev yT_compare : MethodName := ⟨"TwinTrees", "compare", "(II)I"⟩
abbrev sT_compare : List Cond := .code yT_compare bT_compare 3 (some .int) :: aw
abbrev bT_gatherUnshared : ByteArray := prog_1_method_18_code
abbrev yT_gatherUnshared : MethodName := ⟨"TwinTrees", "gatherUnshared", "(IILTwinTrees$RowList;)V"⟩
abbrev sT_gatherUnshared : List Cond := .code yT_gatherUnshared bT_gatherUnshared 5 none :: aw
abbrev bD_collect : ByteArray := prog_2_method_2_code
abbrev yD_collect : MethodName := ⟨"TwinTrees$Differences", "collect", "(LTwinTrees$RowList;LTwinTrees$RowList;)V"⟩
abbrev sD_collect : List Cond := .code yD_collect bD_collect 6 none :: aw
abbrev bD_note : ByteArray := prog_2_method_3_code
abbrev yD_note : MethodName := ⟨"TwinTrees$Differences", "note", "(III)V"⟩
abbrev sD_note : List Cond := .code yD_note bD_note 4 none :: aw
abbrev bT_difference : ByteArray := prog_1_method_11_code
abbrev yT_difference : MethodName := ⟨"TwinTrees", "difference", "(II)J"⟩
abbrev sT_difference : List Cond := .code yT_difference bT_difference 3 (some .long) :: aw
abbrev bT_sweep : ByteArray := prog_1_method_12_code
abbrev yT_sweep : MethodName := ⟨"TwinTrees", "sweep", "()I"⟩
abbrev sT_sweep : List Cond := .code yT_sweep bT_sweep 6 (some .int) :: aw
abbrev bS_dropWithout : ByteArray := prog_6_method_5_code
abbrev yS_dropWithout : MethodName := ⟨"TwinTrees$Store", "dropWithout", "(I)I"⟩
abbrev sS_dropWithout : List Cond := .code yS_dropWithout bS_dropWithout 6 (some .int) :: aw
abbrev bT_count : ByteArray := prog_1_method_13_code
abbrev yT_count : MethodName := ⟨"TwinTrees", "count", "(I)I"⟩
abbrev sT_count : List Cond := .code yT_count bT_count 2 (some .int) :: aw
abbrev bM_init : ByteArray := prog_8_method_1_code
abbrev yM_init : MethodName := ⟨"TwinTreesModel", "<init>", "()V"⟩
abbrev sM_init : List Cond := .code yM_init bM_init 2 none :: aw
abbrev bM_lay : ByteArray := prog_8_method_8_code
abbrev yM_lay : MethodName := ⟨"TwinTreesModel", "lay", "(I)Z"⟩
abbrev sM_lay : List Cond := .code yM_lay bM_lay 7 (some .boolean) :: aw
abbrev bM_levelOf : ByteArray := prog_8_method_3_code
abbrev yM_levelOf : MethodName := ⟨"TwinTreesModel", "levelOf", "(I)I"⟩
abbrev sM_levelOf : List Cond := .code yM_levelOf bM_levelOf 3 (some .int) :: aw
abbrev bJM_min : ByteArray := prog_10_method_69_code
abbrev yJM_min : MethodName := ⟨"java/lang/Math", "min", "(II)I"⟩
abbrev sJM_min : List Cond := .code yJM_min bJM_min 2 (some .int) :: aw
abbrev bM_keep : ByteArray := prog_8_method_9_code
abbrev yM_keep : MethodName := ⟨"TwinTreesModel", "keep", "(III)Z"⟩
abbrev sM_keep : List Cond := .code yM_keep bM_keep 5 (some .boolean) :: aw
abbrev bM_node : ByteArray := prog_8_method_6_code
abbrev yM_node : MethodName := ⟨"TwinTreesModel", "node", "(II)I"⟩
abbrev sM_node : List Cond := .code yM_node bM_node 5 (some .int) :: aw
abbrev bM_hash : ByteArray := prog_8_method_4_code
abbrev yM_hash : MethodName := ⟨"TwinTreesModel", "hash", "(II)I"⟩
abbrev sM_hash : List Cond := .code yM_hash bM_hash 6 (some .int) :: aw
abbrev bM_isMade : ByteArray := prog_8_method_5_code
abbrev yM_isMade : MethodName := ⟨"TwinTreesModel", "isMade", "(III)Z"⟩
abbrev sM_isMade : List Cond := .code yM_isMade bM_isMade 5 (some .boolean) :: aw
abbrev bM_make : ByteArray := prog_8_method_17_code
abbrev yM_make : MethodName := ⟨"TwinTreesModel", "make", "(II)I"⟩
abbrev sM_make : List Cond := .code yM_make bM_make 3 (some .int) :: aw
abbrev bM_in : ByteArray := prog_8_method_2_code
abbrev yM_in : MethodName := ⟨"TwinTreesModel", "in", "(III)Z"⟩
abbrev sM_in : List Cond := .code yM_in bM_in 3 (some .boolean) :: aw
abbrev bM_remember : ByteArray := prog_8_method_12_code
abbrev yM_remember : MethodName := ⟨"TwinTreesModel", "remember", "(I)V"⟩
abbrev sM_remember : List Cond := .code yM_remember bM_remember 2 none :: aw
abbrev bM_write : ByteArray := prog_8_method_13_code
abbrev yM_write : MethodName := ⟨"TwinTreesModel", "write", "(I)I"⟩
abbrev sM_write : List Cond := .code yM_write bM_write 3 (some .int) :: aw
abbrev bM_back : ByteArray := prog_8_method_7_code
abbrev yM_back : MethodName := ⟨"TwinTreesModel", "back", "(I)V"⟩
abbrev sM_back : List Cond := .code yM_back bM_back 2 none :: aw
abbrev bM_put : ByteArray := prog_8_method_18_code
abbrev yM_put : MethodName := ⟨"TwinTreesModel", "put", "(IIIIZ)I"⟩
abbrev sM_put : List Cond := .code yM_put bM_put 8 (some .int) :: aw
abbrev bM_find : ByteArray := prog_8_method_15_code
abbrev yM_find : MethodName := ⟨"TwinTreesModel", "find", "(II)I"⟩
abbrev sM_find : List Cond := .code yM_find bM_find 4 (some .int) :: aw
abbrev bM_placeOf : ByteArray := prog_8_method_14_code
abbrev yM_placeOf : MethodName := ⟨"TwinTreesModel", "placeOf", "(II)I"⟩
abbrev sM_placeOf : List Cond := .code yM_placeOf bM_placeOf 4 (some .int) :: aw
abbrev bM_move : ByteArray := prog_8_method_16_code
abbrev yM_move : MethodName := ⟨"TwinTreesModel", "move", "(III)V"⟩
abbrev sM_move : List Cond := .code yM_move bM_move 5 none :: aw
abbrev bM_remove : ByteArray := prog_8_method_19_code
abbrev yM_remove : MethodName := ⟨"TwinTreesModel", "remove", "(II)I"⟩
abbrev sM_remove : List Cond := .code yM_remove bM_remove 5 (some .int) :: aw
abbrev bM_copy : ByteArray := prog_8_method_20_code
abbrev yM_copy : MethodName := ⟨"TwinTreesModel", "copy", "(II)I"⟩
abbrev sM_copy : List Cond := .code yM_copy bM_copy 3 (some .int) :: aw
abbrev bM_get : ByteArray := prog_8_method_21_code
abbrev yM_get : MethodName := ⟨"TwinTreesModel", "get", "(III)J"⟩
abbrev sM_get : List Cond := .code yM_get bM_get 7 (some .long) :: aw
abbrev bM_measure : ByteArray := prog_8_method_22_code
abbrev yM_measure : MethodName := ⟨"TwinTreesModel", "measure", "(II)I"⟩
abbrev sM_measure : List Cond := .code yM_measure bM_measure 3 (some .int) :: aw
abbrev bM_address : ByteArray := prog_8_method_23_code
abbrev yM_address : MethodName := ⟨"TwinTreesModel", "address", "(I)J"⟩
abbrev sM_address : List Cond := .code yM_address bM_address 2 (some .long) :: aw
abbrev bM_addressOf : ByteArray := prog_8_method_10_code
abbrev yM_addressOf : MethodName := ⟨"TwinTreesModel", "addressOf", "(I)J"⟩
abbrev sM_addressOf : List Cond := .code yM_addressOf bM_addressOf 8 (some .long) :: aw
abbrev bM_step : ByteArray := prog_8_method_11_code
abbrev yM_step : MethodName := ⟨"TwinTreesModel", "step", "(JJ)J"⟩
abbrev sM_step : List Cond := .code yM_step bM_step 4 (some .long) :: aw
abbrev bM_row : ByteArray := prog_8_method_24_code
abbrev yM_row : MethodName := ⟨"TwinTreesModel", "row", "(II)J"⟩
abbrev sM_row : List Cond := .code yM_row bM_row 3 (some .long) :: aw
abbrev bM_compare : ByteArray := prog_8_method_25_code
abbrev yM_compare : MethodName := ⟨"TwinTreesModel", "compare", "(II)I"⟩
abbrev sM_compare : List Cond := .code yM_compare bM_compare 10 (some .int) :: aw
abbrev bM_difference : ByteArray := prog_8_method_26_code
abbrev yM_difference : MethodName := ⟨"TwinTreesModel", "difference", "(II)J"⟩
abbrev sM_difference : List Cond := .code yM_difference bM_difference 3 (some .long) :: aw
abbrev bM_sweep : ByteArray := prog_8_method_27_code
abbrev yM_sweep : MethodName := ⟨"TwinTreesModel", "sweep", "()I"⟩
abbrev sM_sweep : List Cond := .code yM_sweep bM_sweep 3 (some .int) :: aw
abbrev bJA_fill : ByteArray := prog_12_method_103_code
abbrev yJA_fill : MethodName := ⟨"java/util/Arrays", "fill", "([II)V"⟩
abbrev sJA_fill : List Cond := .code yJA_fill bJA_fill 4 none :: aw
abbrev bM_count : ByteArray := prog_8_method_28_code
abbrev yM_count : MethodName := ⟨"TwinTreesModel", "count", "(I)I"⟩
abbrev sM_count : List Cond := .code yM_count bM_count 2 (some .int) :: aw
end
section
theorem dR_isLike_0 : decode bR_isLike 0 = .ok (.aload_n 0, 1) := by decide +kernel
theorem dR_isLike_1 : decode bR_isLike 1 = .ok (.aload_n 1, 1) := by decide +kernel
theorem dR_isLike_2 : decode bR_isLike 2 = .ok (.if_acmp .eq 35, 3) := by decide +kernel
theorem dR_isLike_5 : decode bR_isLike 5 = .ok (.aload_n 0, 1) := by decide +kernel
theorem dR_isLike_6 : decode bR_isLike 6 = .ok (.getfield 7, 3) := by decide +kernel
theorem dR_isLike_9 : decode bR_isLike 9 = .ok (.aload_n 1, 1) := by decide +kernel
theorem dR_isLike_10 : decode bR_isLike 10 = .ok (.getfield 7, 3) := by decide +kernel
theorem dR_isLike_13 : decode bR_isLike 13 = .ok (.if_icmp .ne 28, 3) := by decide +kernel
theorem dR_isLike_16 : decode bR_isLike 16 = .ok (.aload_n 0, 1) := by decide +kernel
theorem dR_isLike_17 : decode bR_isLike 17 = .ok (.getfield 13, 3) := by decide +kernel
theorem dR_isLike_20 : decode bR_isLike 20 = .ok (.arraylength, 1) := by decide +kernel
theorem dR_isLike_21 : decode bR_isLike 21 = .ok (.aload_n 1, 1) := by decide +kernel
theorem dR_isLike_22 : decode bR_isLike 22 = .ok (.getfield 13, 3) := by decide +kernel
theorem dR_isLike_25 : decode bR_isLike 25 = .ok (.arraylength, 1) := by decide +kernel
theorem dR_isLike_26 : decode bR_isLike 26 = .ok (.if_icmp .ne 15, 3) := by decide +kernel
theorem dR_isLike_29 : decode bR_isLike 29 = .ok (.aload_n 0, 1) := by decide +kernel
theorem dR_isLike_30 : decode bR_isLike 30 = .ok (.aload_n 1, 1) := by decide +kernel
theorem dR_isLike_31 : decode bR_isLike 31 = .ok (.invokevirtual 40, 3) := by decide +kernel
theorem dR_isLike_34 : decode bR_isLike 34 = .ok (.ifCond .ne 7, 3) := by decide +kernel
theorem dR_isLike_37 : decode bR_isLike 37 = .ok (.iconst 1, 1) := by decide +kernel
theorem dR_isLike_38 : decode bR_isLike 38 = .ok (.goto 4, 3) := by decide +kernel
theorem dR_isLike_41 : decode bR_isLike 41 = .ok (.iconst 0, 1) := by decide +kernel
theorem dR_isLike_42 : decode bR_isLike 42 = .ok (.ireturn, 1) := by decide +kernel
theorem dR_unlikeCells_0 : decode bR_unlikeCells 0 = .ok (.aload_n 0, 1) := by decide +kernel
theorem dR_unlikeCells_1 : decode bR_unlikeCells 1 = .ok (.getfield 17, 3) := by decide +kernel
theorem dR_unlikeCells_4 : decode bR_unlikeCells 4 = .ok (.aload_n 1, 1) := by decide +kernel
theorem dR_unlikeCells_5 : decode bR_unlikeCells 5 = .ok (.getfield 17, 3) := by decide +kernel
theorem dR_unlikeCells_8 : decode bR_unlikeCells 8 = .ok (.ixor, 1) := by decide +kernel
theorem dR_unlikeCells_9 : decode bR_unlikeCells 9 = .ok (.istore_n 2, 1) := by decide +kernel
theorem dR_unlikeCells_10 : decode bR_unlikeCells 10 = .ok (.iconst 0, 1) := by decide +kernel
theorem dR_unlikeCells_11 : decode bR_unlikeCells 11 = .ok (.istore_n 3, 1) := by decide +kernel
theorem dR_unlikeCells_12 : decode bR_unlikeCells 12 = .ok (.iload_n 3, 1) := by decide +kernel
theorem dR_unlikeCells_13 : decode bR_unlikeCells 13 = .ok (.aload_n 0, 1) := by decide +kernel
theorem dR_unlikeCells_14 : decode bR_unlikeCells 14 = .ok (.getfield 13, 3) := by decide +kernel
theorem dR_unlikeCells_17 : decode bR_unlikeCells 17 = .ok (.arraylength, 1) := by decide +kernel
theorem dR_unlikeCells_18 : decode bR_unlikeCells 18 = .ok (.if_icmp .ge 39, 3) := by decide +kernel
theorem dR_unlikeCells_21 : decode bR_unlikeCells 21 = .ok (.iload_n 3, 1) := by decide +kernel
theorem dR_unlikeCells_22 : decode bR_unlikeCells 22 = .ok (.aload_n 1, 1) := by decide +kernel
theorem dR_unlikeCells_23 : decode bR_unlikeCells 23 = .ok (.getfield 13, 3) := by decide +kernel
theorem dR_unlikeCells_26 : decode bR_unlikeCells 26 = .ok (.arraylength, 1) := by decide +kernel
theorem dR_unlikeCells_27 : decode bR_unlikeCells 27 = .ok (.if_icmp .ge 30, 3) := by decide +kernel
theorem dR_unlikeCells_30 : decode bR_unlikeCells 30 = .ok (.aload_n 0, 1) := by decide +kernel
theorem dR_unlikeCells_31 : decode bR_unlikeCells 31 = .ok (.getfield 13, 3) := by decide +kernel
theorem dR_unlikeCells_34 : decode bR_unlikeCells 34 = .ok (.iload_n 3, 1) := by decide +kernel
theorem dR_unlikeCells_35 : decode bR_unlikeCells 35 = .ok (.iaload, 1) := by decide +kernel
theorem dR_unlikeCells_36 : decode bR_unlikeCells 36 = .ok (.aload_n 1, 1) := by decide +kernel
theorem dR_unlikeCells_37 : decode bR_unlikeCells 37 = .ok (.getfield 13, 3) := by decide +kernel
theorem dR_unlikeCells_40 : decode bR_unlikeCells 40 = .ok (.iload_n 3, 1) := by decide +kernel
theorem dR_unlikeCells_41 : decode bR_unlikeCells 41 = .ok (.iaload, 1) := by decide +kernel
theorem dR_unlikeCells_42 : decode bR_unlikeCells 42 = .ok (.if_icmp .eq 9, 3) := by decide +kernel
theorem dR_unlikeCells_45 : decode bR_unlikeCells 45 = .ok (.iload_n 2, 1) := by decide +kernel
theorem dR_unlikeCells_46 : decode bR_unlikeCells 46 = .ok (.iconst 1, 1) := by decide +kernel
theorem dR_unlikeCells_47 : decode bR_unlikeCells 47 = .ok (.iload_n 3, 1) := by decide +kernel
theorem dR_unlikeCells_48 : decode bR_unlikeCells 48 = .ok (.ishl, 1) := by decide +kernel
theorem dR_unlikeCells_49 : decode bR_unlikeCells 49 = .ok (.ior, 1) := by decide +kernel
theorem dR_unlikeCells_50 : decode bR_unlikeCells 50 = .ok (.istore_n 2, 1) := by decide +kernel
theorem dR_unlikeCells_51 : decode bR_unlikeCells 51 = .ok (.iinc 3 1, 3) := by decide +kernel
theorem dR_unlikeCells_54 : decode bR_unlikeCells 54 = .ok (.goto (-42), 3) := by decide +kernel
theorem dR_unlikeCells_57 : decode bR_unlikeCells 57 = .ok (.iload_n 2, 1) := by decide +kernel
theorem dR_unlikeCells_58 : decode bR_unlikeCells 58 = .ok (.ireturn, 1) := by decide +kernel
theorem dR_init_0 : decode bR_init 0 = .ok (.aload_n 0, 1) := by decide +kernel
theorem dR_init_1 : decode bR_init 1 = .ok (.invokespecial 1, 3) := by decide +kernel
theorem dR_init_4 : decode bR_init 4 = .ok (.aload_n 0, 1) := by decide +kernel
theorem dR_init_5 : decode bR_init 5 = .ok (.iload_n 1, 1) := by decide +kernel
theorem dR_init_6 : decode bR_init 6 = .ok (.putfield 7, 3) := by decide +kernel
theorem dR_init_9 : decode bR_init 9 = .ok (.aload_n 0, 1) := by decide +kernel
theorem dR_init_10 : decode bR_init 10 = .ok (.aload_n 2, 1) := by decide +kernel
theorem dR_init_11 : decode bR_init 11 = .ok (.putfield 13, 3) := by decide +kernel
theorem dR_init_14 : decode bR_init 14 = .ok (.aload_n 0, 1) := by decide +kernel
theorem dR_init_15 : decode bR_init 15 = .ok (.iload_n 3, 1) := by decide +kernel
theorem dR_init_16 : decode bR_init 16 = .ok (.putfield 17, 3) := by decide +kernel
theorem dR_init_19 : decode bR_init 19 = .ok (.aload_n 0, 1) := by decide +kernel
theorem dR_init_20 : decode bR_init 20 = .ok (.iload_n 1, 1) := by decide +kernel
theorem dR_init_21 : decode bR_init 21 = .ok (.invokestatic 20, 3) := by decide +kernel
theorem dR_init_24 : decode bR_init 24 = .ok (.putfield 26, 3) := by decide +kernel
theorem dR_init_27 : decode bR_init 27 = .ok (.iload_n 1, 1) := by decide +kernel
theorem dR_init_28 : decode bR_init 28 = .ok (.bipush 31, 2) := by decide +kernel
theorem dR_init_30 : decode bR_init 30 = .ok (.imul, 1) := by decide +kernel
theorem dR_init_31 : decode bR_init 31 = .ok (.iload_n 3, 1) := by decide +kernel
theorem dR_init_32 : decode bR_init 32 = .ok (.iadd, 1) := by decide +kernel
theorem dR_init_33 : decode bR_init 33 = .ok (.istore 4, 2) := by decide +kernel
theorem dR_init_35 : decode bR_init 35 = .ok (.aload_n 2, 1) := by decide +kernel
theorem dR_init_36 : decode bR_init 36 = .ok (.astore 5, 2) := by decide +kernel
theorem dR_init_38 : decode bR_init 38 = .ok (.aload 5, 2) := by decide +kernel
theorem dR_init_40 : decode bR_init 40 = .ok (.arraylength, 1) := by decide +kernel
theorem dR_init_41 : decode bR_init 41 = .ok (.istore 6, 2) := by decide +kernel
theorem dR_init_43 : decode bR_init 43 = .ok (.iconst 0, 1) := by decide +kernel
theorem dR_init_44 : decode bR_init 44 = .ok (.istore 7, 2) := by decide +kernel
theorem dR_init_46 : decode bR_init 46 = .ok (.iload 7, 2) := by decide +kernel
theorem dR_init_48 : decode bR_init 48 = .ok (.iload 6, 2) := by decide +kernel
theorem dR_init_50 : decode bR_init 50 = .ok (.if_icmp .ge 26, 3) := by decide +kernel
theorem dR_init_53 : decode bR_init 53 = .ok (.aload 5, 2) := by decide +kernel
theorem dR_init_55 : decode bR_init 55 = .ok (.iload 7, 2) := by decide +kernel
theorem dR_init_57 : decode bR_init 57 = .ok (.iaload, 1) := by decide +kernel
theorem dR_init_58 : decode bR_init 58 = .ok (.istore 8, 2) := by decide +kernel
theorem dR_init_60 : decode bR_init 60 = .ok (.iload 4, 2) := by decide +kernel
theorem dR_init_62 : decode bR_init 62 = .ok (.bipush 31, 2) := by decide +kernel
theorem dR_init_64 : decode bR_init 64 = .ok (.imul, 1) := by decide +kernel
theorem dR_init_65 : decode bR_init 65 = .ok (.iload 8, 2) := by decide +kernel
theorem dR_init_67 : decode bR_init 67 = .ok (.iadd, 1) := by decide +kernel
theorem dR_init_68 : decode bR_init 68 = .ok (.istore 4, 2) := by decide +kernel
theorem dR_init_70 : decode bR_init 70 = .ok (.iinc 7 1, 3) := by decide +kernel
theorem dR_init_73 : decode bR_init 73 = .ok (.goto (-27), 3) := by decide +kernel
theorem dR_init_76 : decode bR_init 76 = .ok (.aload_n 0, 1) := by decide +kernel
theorem dR_init_77 : decode bR_init 77 = .ok (.iload 4, 2) := by decide +kernel
theorem dR_init_79 : decode bR_init 79 = .ok (.putfield 29, 3) := by decide +kernel
theorem dR_init_82 : decode bR_init 82 = .ok (.return_, 1) := by decide +kernel
theorem dR_withCell_0 : decode bR_withCell 0 = .ok (.aload_n 0, 1) := by decide +kernel
theorem dR_withCell_1 : decode bR_withCell 1 = .ok (.getfield 13, 3) := by decide +kernel
theorem dR_withCell_4 : decode bR_withCell 4 = .ok (.invokevirtual 32, 3) := by decide +kernel
theorem dR_withCell_7 : decode bR_withCell 7 = .ok (.checkcast 33, 3) := by decide +kernel
theorem dR_withCell_10 : decode bR_withCell 10 = .ok (.astore 4, 2) := by decide +kernel
theorem dR_withCell_12 : decode bR_withCell 12 = .ok (.aload 4, 2) := by decide +kernel
theorem dR_withCell_14 : decode bR_withCell 14 = .ok (.iload_n 1, 1) := by decide +kernel
theorem dR_withCell_15 : decode bR_withCell 15 = .ok (.iload_n 3, 1) := by decide +kernel
theorem dR_withCell_16 : decode bR_withCell 16 = .ok (.ifCond .eq 7, 3) := by decide +kernel
theorem dR_withCell_19 : decode bR_withCell 19 = .ok (.iconst 0, 1) := by decide +kernel
theorem dR_withCell_20 : decode bR_withCell 20 = .ok (.goto 4, 3) := by decide +kernel
theorem dR_withCell_23 : decode bR_withCell 23 = .ok (.iload_n 2, 1) := by decide +kernel
theorem dR_withCell_24 : decode bR_withCell 24 = .ok (.iastore, 1) := by decide +kernel
theorem dR_withCell_25 : decode bR_withCell 25 = .ok (.iconst 1, 1) := by decide +kernel
theorem dR_withCell_26 : decode bR_withCell 26 = .ok (.iload_n 1, 1) := by decide +kernel
theorem dR_withCell_27 : decode bR_withCell 27 = .ok (.ishl, 1) := by decide +kernel
theorem dR_withCell_28 : decode bR_withCell 28 = .ok (.istore 5, 2) := by decide +kernel
theorem dR_withCell_30 : decode bR_withCell 30 = .ok (.new 8, 3) := by decide +kernel
theorem dR_withCell_33 : decode bR_withCell 33 = .ok (.dup, 1) := by decide +kernel
theorem dR_withCell_34 : decode bR_withCell 34 = .ok (.aload_n 0, 1) := by decide +kernel
theorem dR_withCell_35 : decode bR_withCell 35 = .ok (.getfield 7, 3) := by decide +kernel
theorem dR_withCell_38 : decode bR_withCell 38 = .ok (.aload 4, 2) := by decide +kernel
theorem dR_withCell_40 : decode bR_withCell 40 = .ok (.iload_n 3, 1) := by decide +kernel
theorem dR_withCell_41 : decode bR_withCell 41 = .ok (.ifCond .eq 13, 3) := by decide +kernel
theorem dR_withCell_44 : decode bR_withCell 44 = .ok (.aload_n 0, 1) := by decide +kernel
theorem dR_withCell_45 : decode bR_withCell 45 = .ok (.getfield 17, 3) := by decide +kernel
theorem dR_withCell_48 : decode bR_withCell 48 = .ok (.iload 5, 2) := by decide +kernel
theorem dR_withCell_50 : decode bR_withCell 50 = .ok (.ior, 1) := by decide +kernel
theorem dR_withCell_51 : decode bR_withCell 51 = .ok (.goto 12, 3) := by decide +kernel
theorem dR_withCell_54 : decode bR_withCell 54 = .ok (.aload_n 0, 1) := by decide +kernel
theorem dR_withCell_55 : decode bR_withCell 55 = .ok (.getfield 17, 3) := by decide +kernel
theorem dR_withCell_58 : decode bR_withCell 58 = .ok (.iload 5, 2) := by decide +kernel
theorem dR_withCell_60 : decode bR_withCell 60 = .ok (.iconst (-1), 1) := by decide +kernel
theorem dR_withCell_61 : decode bR_withCell 61 = .ok (.ixor, 1) := by decide +kernel
theorem dR_withCell_62 : decode bR_withCell 62 = .ok (.iand, 1) := by decide +kernel
theorem dR_withCell_63 : decode bR_withCell 63 = .ok (.invokespecial 37, 3) := by decide +kernel
theorem dR_withCell_66 : decode bR_withCell 66 = .ok (.areturn, 1) := by decide +kernel
theorem dR_isNull_0 : decode bR_isNull 0 = .ok (.aload_n 0, 1) := by decide +kernel
theorem dR_isNull_1 : decode bR_isNull 1 = .ok (.getfield 17, 3) := by decide +kernel
theorem dR_isNull_4 : decode bR_isNull 4 = .ok (.iload_n 1, 1) := by decide +kernel
theorem dR_isNull_5 : decode bR_isNull 5 = .ok (.iushr, 1) := by decide +kernel
theorem dR_isNull_6 : decode bR_isNull 6 = .ok (.iconst 1, 1) := by decide +kernel
theorem dR_isNull_7 : decode bR_isNull 7 = .ok (.iand, 1) := by decide +kernel
theorem dR_isNull_8 : decode bR_isNull 8 = .ok (.ifCond .eq 7, 3) := by decide +kernel
theorem dR_isNull_11 : decode bR_isNull 11 = .ok (.iconst 1, 1) := by decide +kernel
theorem dR_isNull_12 : decode bR_isNull 12 = .ok (.goto 4, 3) := by decide +kernel
theorem dR_isNull_15 : decode bR_isNull 15 = .ok (.iconst 0, 1) := by decide +kernel
theorem dR_isNull_16 : decode bR_isNull 16 = .ok (.ireturn, 1) := by decide +kernel
theorem dQ_init_0 : decode bQ_init 0 = .ok (.aload_n 0, 1) := by decide +kernel
theorem dQ_init_1 : decode bQ_init 1 = .ok (.invokespecial 3, 3) := by decide +kernel
theorem dQ_init_4 : decode bQ_init 4 = .ok (.aload_n 0, 1) := by decide +kernel
theorem dQ_init_5 : decode bQ_init 5 = .ok (.sipush 300, 3) := by decide +kernel
theorem dQ_init_8 : decode bQ_init 8 = .ok (.anewarray 9, 3) := by decide +kernel
theorem dQ_init_11 : decode bQ_init 11 = .ok (.putfield 11, 3) := by decide +kernel
theorem dQ_init_14 : decode bQ_init 14 = .ok (.aload_n 0, 1) := by decide +kernel
theorem dQ_init_15 : decode bQ_init 15 = .ok (.iconst 0, 1) := by decide +kernel
theorem dQ_init_16 : decode bQ_init 16 = .ok (.putfield 17, 3) := by decide +kernel
theorem dQ_init_19 : decode bQ_init 19 = .ok (.return_, 1) := by decide +kernel
theorem dQ_append_0 : decode bQ_append 0 = .ok (.aload_n 0, 1) := by decide +kernel
theorem dQ_append_1 : decode bQ_append 1 = .ok (.getfield 17, 3) := by decide +kernel
theorem dQ_append_4 : decode bQ_append 4 = .ok (.sipush 300, 3) := by decide +kernel
theorem dQ_append_7 : decode bQ_append 7 = .ok (.if_icmp .ge 23, 3) := by decide +kernel
theorem dQ_append_10 : decode bQ_append 10 = .ok (.aload_n 0, 1) := by decide +kernel
theorem dQ_append_11 : decode bQ_append 11 = .ok (.getfield 11, 3) := by decide +kernel
theorem dQ_append_14 : decode bQ_append 14 = .ok (.aload_n 0, 1) := by decide +kernel
theorem dQ_append_15 : decode bQ_append 15 = .ok (.getfield 17, 3) := by decide +kernel
theorem dQ_append_18 : decode bQ_append 18 = .ok (.aload_n 1, 1) := by decide +kernel
theorem dQ_append_19 : decode bQ_append 19 = .ok (.aastore, 1) := by decide +kernel
theorem dQ_append_20 : decode bQ_append 20 = .ok (.aload_n 0, 1) := by decide +kernel
theorem dQ_append_21 : decode bQ_append 21 = .ok (.dup, 1) := by decide +kernel
theorem dQ_append_22 : decode bQ_append 22 = .ok (.getfield 17, 3) := by decide +kernel
theorem dQ_append_25 : decode bQ_append 25 = .ok (.iconst 1, 1) := by decide +kernel
theorem dQ_append_26 : decode bQ_append 26 = .ok (.iadd, 1) := by decide +kernel
theorem dQ_append_27 : decode bQ_append 27 = .ok (.putfield 17, 3) := by decide +kernel
theorem dQ_append_30 : decode bQ_append 30 = .ok (.return_, 1) := by decide +kernel
theorem dQ_placeOf_0 : decode bQ_placeOf 0 = .ok (.iconst 0, 1) := by decide +kernel
theorem dQ_placeOf_1 : decode bQ_placeOf 1 = .ok (.istore_n 2, 1) := by decide +kernel
theorem dQ_placeOf_2 : decode bQ_placeOf 2 = .ok (.iload_n 2, 1) := by decide +kernel
theorem dQ_placeOf_3 : decode bQ_placeOf 3 = .ok (.aload_n 0, 1) := by decide +kernel
theorem dQ_placeOf_4 : decode bQ_placeOf 4 = .ok (.getfield 17, 3) := by decide +kernel
theorem dQ_placeOf_7 : decode bQ_placeOf 7 = .ok (.if_icmp .ge 22, 3) := by decide +kernel
theorem dQ_placeOf_10 : decode bQ_placeOf 10 = .ok (.aload_n 0, 1) := by decide +kernel
theorem dQ_placeOf_11 : decode bQ_placeOf 11 = .ok (.getfield 11, 3) := by decide +kernel
theorem dQ_placeOf_14 : decode bQ_placeOf 14 = .ok (.iload_n 2, 1) := by decide +kernel
theorem dQ_placeOf_15 : decode bQ_placeOf 15 = .ok (.aaload, 1) := by decide +kernel
theorem dQ_placeOf_16 : decode bQ_placeOf 16 = .ok (.getfield 21, 3) := by decide +kernel
theorem dQ_placeOf_19 : decode bQ_placeOf 19 = .ok (.iload_n 1, 1) := by decide +kernel
theorem dQ_placeOf_20 : decode bQ_placeOf 20 = .ok (.if_icmp .ge 9, 3) := by decide +kernel
theorem dQ_placeOf_23 : decode bQ_placeOf 23 = .ok (.iinc 2 1, 3) := by decide +kernel
theorem dQ_placeOf_26 : decode bQ_placeOf 26 = .ok (.goto (-24), 3) := by decide +kernel
theorem dQ_placeOf_29 : decode bQ_placeOf 29 = .ok (.iload_n 2, 1) := by decide +kernel
theorem dQ_placeOf_30 : decode bQ_placeOf 30 = .ok (.ireturn, 1) := by decide +kernel
theorem dQ_hasKeyAt_0 : decode bQ_hasKeyAt 0 = .ok (.iload_n 1, 1) := by decide +kernel
theorem dQ_hasKeyAt_1 : decode bQ_hasKeyAt 1 = .ok (.aload_n 0, 1) := by decide +kernel
theorem dQ_hasKeyAt_2 : decode bQ_hasKeyAt 2 = .ok (.getfield 17, 3) := by decide +kernel
theorem dQ_hasKeyAt_5 : decode bQ_hasKeyAt 5 = .ok (.if_icmp .ge 20, 3) := by decide +kernel
theorem dQ_hasKeyAt_8 : decode bQ_hasKeyAt 8 = .ok (.aload_n 0, 1) := by decide +kernel
theorem dQ_hasKeyAt_9 : decode bQ_hasKeyAt 9 = .ok (.getfield 11, 3) := by decide +kernel
theorem dQ_hasKeyAt_12 : decode bQ_hasKeyAt 12 = .ok (.iload_n 1, 1) := by decide +kernel
theorem dQ_hasKeyAt_13 : decode bQ_hasKeyAt 13 = .ok (.aaload, 1) := by decide +kernel
theorem dQ_hasKeyAt_14 : decode bQ_hasKeyAt 14 = .ok (.getfield 21, 3) := by decide +kernel
theorem dQ_hasKeyAt_17 : decode bQ_hasKeyAt 17 = .ok (.iload_n 2, 1) := by decide +kernel
theorem dQ_hasKeyAt_18 : decode bQ_hasKeyAt 18 = .ok (.if_icmp .ne 7, 3) := by decide +kernel
theorem dQ_hasKeyAt_21 : decode bQ_hasKeyAt 21 = .ok (.iconst 1, 1) := by decide +kernel
theorem dQ_hasKeyAt_22 : decode bQ_hasKeyAt 22 = .ok (.goto 4, 3) := by decide +kernel
theorem dQ_hasKeyAt_25 : decode bQ_hasKeyAt 25 = .ok (.iconst 0, 1) := by decide +kernel
theorem dQ_hasKeyAt_26 : decode bQ_hasKeyAt 26 = .ok (.ireturn, 1) := by decide +kernel
theorem dQ_insertAt_0 : decode bQ_insertAt 0 = .ok (.aload_n 0, 1) := by decide +kernel
theorem dQ_insertAt_1 : decode bQ_insertAt 1 = .ok (.getfield 17, 3) := by decide +kernel
theorem dQ_insertAt_4 : decode bQ_insertAt 4 = .ok (.istore_n 3, 1) := by decide +kernel
theorem dQ_insertAt_5 : decode bQ_insertAt 5 = .ok (.iload_n 3, 1) := by decide +kernel
theorem dQ_insertAt_6 : decode bQ_insertAt 6 = .ok (.iload_n 1, 1) := by decide +kernel
theorem dQ_insertAt_7 : decode bQ_insertAt 7 = .ok (.if_icmp .le 23, 3) := by decide +kernel
theorem dQ_insertAt_10 : decode bQ_insertAt 10 = .ok (.aload_n 0, 1) := by decide +kernel
theorem dQ_insertAt_11 : decode bQ_insertAt 11 = .ok (.getfield 11, 3) := by decide +kernel
theorem dQ_insertAt_14 : decode bQ_insertAt 14 = .ok (.iload_n 3, 1) := by decide +kernel
theorem dQ_insertAt_15 : decode bQ_insertAt 15 = .ok (.aload_n 0, 1) := by decide +kernel
theorem dQ_insertAt_16 : decode bQ_insertAt 16 = .ok (.getfield 11, 3) := by decide +kernel
theorem dQ_insertAt_19 : decode bQ_insertAt 19 = .ok (.iload_n 3, 1) := by decide +kernel
theorem dQ_insertAt_20 : decode bQ_insertAt 20 = .ok (.iconst 1, 1) := by decide +kernel
theorem dQ_insertAt_21 : decode bQ_insertAt 21 = .ok (.isub, 1) := by decide +kernel
theorem dQ_insertAt_22 : decode bQ_insertAt 22 = .ok (.aaload, 1) := by decide +kernel
theorem dQ_insertAt_23 : decode bQ_insertAt 23 = .ok (.aastore, 1) := by decide +kernel
theorem dQ_insertAt_24 : decode bQ_insertAt 24 = .ok (.iinc 3 (-1), 3) := by decide +kernel
theorem dQ_insertAt_27 : decode bQ_insertAt 27 = .ok (.goto (-22), 3) := by decide +kernel
theorem dQ_insertAt_30 : decode bQ_insertAt 30 = .ok (.aload_n 0, 1) := by decide +kernel
theorem dQ_insertAt_31 : decode bQ_insertAt 31 = .ok (.getfield 11, 3) := by decide +kernel
theorem dQ_insertAt_34 : decode bQ_insertAt 34 = .ok (.iload_n 1, 1) := by decide +kernel
theorem dQ_insertAt_35 : decode bQ_insertAt 35 = .ok (.aload_n 2, 1) := by decide +kernel
theorem dQ_insertAt_36 : decode bQ_insertAt 36 = .ok (.aastore, 1) := by decide +kernel
theorem dQ_insertAt_37 : decode bQ_insertAt 37 = .ok (.aload_n 0, 1) := by decide +kernel
theorem dQ_insertAt_38 : decode bQ_insertAt 38 = .ok (.dup, 1) := by decide +kernel
theorem dQ_insertAt_39 : decode bQ_insertAt 39 = .ok (.getfield 17, 3) := by decide +kernel
theorem dQ_insertAt_42 : decode bQ_insertAt 42 = .ok (.iconst 1, 1) := by decide +kernel
theorem dQ_insertAt_43 : decode bQ_insertAt 43 = .ok (.iadd, 1) := by decide +kernel
theorem dQ_insertAt_44 : decode bQ_insertAt 44 = .ok (.putfield 17, 3) := by decide +kernel
theorem dQ_insertAt_47 : decode bQ_insertAt 47 = .ok (.return_, 1) := by decide +kernel
theorem dQ_takeAt_0 : decode bQ_takeAt 0 = .ok (.aload_n 0, 1) := by decide +kernel
theorem dQ_takeAt_1 : decode bQ_takeAt 1 = .ok (.dup, 1) := by decide +kernel
theorem dQ_takeAt_2 : decode bQ_takeAt 2 = .ok (.getfield 17, 3) := by decide +kernel
theorem dQ_takeAt_5 : decode bQ_takeAt 5 = .ok (.iconst 1, 1) := by decide +kernel
theorem dQ_takeAt_6 : decode bQ_takeAt 6 = .ok (.isub, 1) := by decide +kernel
theorem dQ_takeAt_7 : decode bQ_takeAt 7 = .ok (.putfield 17, 3) := by decide +kernel
theorem dQ_takeAt_10 : decode bQ_takeAt 10 = .ok (.iload_n 1, 1) := by decide +kernel
theorem dQ_takeAt_11 : decode bQ_takeAt 11 = .ok (.istore_n 2, 1) := by decide +kernel
theorem dQ_takeAt_12 : decode bQ_takeAt 12 = .ok (.iload_n 2, 1) := by decide +kernel
theorem dQ_takeAt_13 : decode bQ_takeAt 13 = .ok (.aload_n 0, 1) := by decide +kernel
theorem dQ_takeAt_14 : decode bQ_takeAt 14 = .ok (.getfield 17, 3) := by decide +kernel
theorem dQ_takeAt_17 : decode bQ_takeAt 17 = .ok (.if_icmp .ge 23, 3) := by decide +kernel
theorem dQ_takeAt_20 : decode bQ_takeAt 20 = .ok (.aload_n 0, 1) := by decide +kernel
theorem dQ_takeAt_21 : decode bQ_takeAt 21 = .ok (.getfield 11, 3) := by decide +kernel
theorem dQ_takeAt_24 : decode bQ_takeAt 24 = .ok (.iload_n 2, 1) := by decide +kernel
theorem dQ_takeAt_25 : decode bQ_takeAt 25 = .ok (.aload_n 0, 1) := by decide +kernel
theorem dQ_takeAt_26 : decode bQ_takeAt 26 = .ok (.getfield 11, 3) := by decide +kernel
theorem dQ_takeAt_29 : decode bQ_takeAt 29 = .ok (.iload_n 2, 1) := by decide +kernel
theorem dQ_takeAt_30 : decode bQ_takeAt 30 = .ok (.iconst 1, 1) := by decide +kernel
theorem dQ_takeAt_31 : decode bQ_takeAt 31 = .ok (.iadd, 1) := by decide +kernel
theorem dQ_takeAt_32 : decode bQ_takeAt 32 = .ok (.aaload, 1) := by decide +kernel
theorem dQ_takeAt_33 : decode bQ_takeAt 33 = .ok (.aastore, 1) := by decide +kernel
theorem dQ_takeAt_34 : decode bQ_takeAt 34 = .ok (.iinc 2 1, 3) := by decide +kernel
theorem dQ_takeAt_37 : decode bQ_takeAt 37 = .ok (.goto (-25), 3) := by decide +kernel
theorem dQ_takeAt_40 : decode bQ_takeAt 40 = .ok (.return_, 1) := by decide +kernel
theorem dD_init_0 : decode bD_init 0 = .ok (.aload_n 0, 1) := by decide +kernel
theorem dD_init_1 : decode bD_init 1 = .ok (.invokespecial 3, 3) := by decide +kernel
theorem dD_init_4 : decode bD_init 4 = .ok (.aload_n 0, 1) := by decide +kernel
theorem dD_init_5 : decode bD_init 5 = .ok (.sipush 600, 3) := by decide +kernel
theorem dD_init_8 : decode bD_init 8 = .ok (.newarray .int, 2) := by decide +kernel
theorem dD_init_10 : decode bD_init 10 = .ok (.putfield 9, 3) := by decide +kernel
theorem dD_init_13 : decode bD_init 13 = .ok (.aload_n 0, 1) := by decide +kernel
theorem dD_init_14 : decode bD_init 14 = .ok (.sipush 600, 3) := by decide +kernel
theorem dD_init_17 : decode bD_init 17 = .ok (.newarray .int, 2) := by decide +kernel
theorem dD_init_19 : decode bD_init 19 = .ok (.putfield 15, 3) := by decide +kernel
theorem dD_init_22 : decode bD_init 22 = .ok (.aload_n 0, 1) := by decide +kernel
theorem dD_init_23 : decode bD_init 23 = .ok (.sipush 600, 3) := by decide +kernel
theorem dD_init_26 : decode bD_init 26 = .ok (.newarray .int, 2) := by decide +kernel
theorem dD_init_28 : decode bD_init 28 = .ok (.putfield 18, 3) := by decide +kernel
theorem dD_init_31 : decode bD_init 31 = .ok (.aload_n 0, 1) := by decide +kernel
theorem dD_init_32 : decode bD_init 32 = .ok (.iconst 0, 1) := by decide +kernel
theorem dD_init_33 : decode bD_init 33 = .ok (.putfield 21, 3) := by decide +kernel
theorem dD_init_36 : decode bD_init 36 = .ok (.return_, 1) := by decide +kernel
theorem dD_collect_0 : decode bD_collect 0 = .ok (.aload_n 0, 1) := by decide +kernel
theorem dD_collect_1 : decode bD_collect 1 = .ok (.iconst 0, 1) := by decide +kernel
theorem dD_collect_2 : decode bD_collect 2 = .ok (.putfield 21, 3) := by decide +kernel
theorem dD_collect_5 : decode bD_collect 5 = .ok (.iconst 0, 1) := by decide +kernel
theorem dD_collect_6 : decode bD_collect 6 = .ok (.istore_n 3, 1) := by decide +kernel
theorem dD_collect_7 : decode bD_collect 7 = .ok (.iconst 0, 1) := by decide +kernel
theorem dD_collect_8 : decode bD_collect 8 = .ok (.istore 4, 2) := by decide +kernel
theorem dD_collect_10 : decode bD_collect 10 = .ok (.iload_n 3, 1) := by decide +kernel
theorem dD_collect_11 : decode bD_collect 11 = .ok (.aload_n 1, 1) := by decide +kernel
theorem dD_collect_12 : decode bD_collect 12 = .ok (.getfield 25, 3) := by decide +kernel
theorem dD_collect_15 : decode bD_collect 15 = .ok (.if_icmp .lt 12, 3) := by decide +kernel
theorem dD_collect_18 : decode bD_collect 18 = .ok (.iload 4, 2) := by decide +kernel
theorem dD_collect_20 : decode bD_collect 20 = .ok (.aload_n 2, 1) := by decide +kernel
theorem dD_collect_21 : decode bD_collect 21 = .ok (.getfield 25, 3) := by decide +kernel
theorem dD_collect_24 : decode bD_collect 24 = .ok (.if_icmp .ge 163, 3) := by decide +kernel
theorem dD_collect_27 : decode bD_collect 27 = .ok (.iload 4, 2) := by decide +kernel
theorem dD_collect_29 : decode bD_collect 29 = .ok (.aload_n 2, 1) := by decide +kernel
theorem dD_collect_30 : decode bD_collect 30 = .ok (.getfield 25, 3) := by decide +kernel
theorem dD_collect_33 : decode bD_collect 33 = .ok (.if_icmp .ge 33, 3) := by decide +kernel
theorem dD_collect_36 : decode bD_collect 36 = .ok (.iload_n 3, 1) := by decide +kernel
theorem dD_collect_37 : decode bD_collect 37 = .ok (.aload_n 1, 1) := by decide +kernel
theorem dD_collect_38 : decode bD_collect 38 = .ok (.getfield 25, 3) := by decide +kernel
theorem dD_collect_41 : decode bD_collect 41 = .ok (.if_icmp .ge 46, 3) := by decide +kernel
theorem dD_collect_44 : decode bD_collect 44 = .ok (.aload_n 1, 1) := by decide +kernel
theorem dD_collect_45 : decode bD_collect 45 = .ok (.getfield 28, 3) := by decide +kernel
theorem dD_collect_48 : decode bD_collect 48 = .ok (.iload_n 3, 1) := by decide +kernel
theorem dD_collect_49 : decode bD_collect 49 = .ok (.aaload, 1) := by decide +kernel
theorem dD_collect_50 : decode bD_collect 50 = .ok (.getfield 32, 3) := by decide +kernel
theorem dD_collect_53 : decode bD_collect 53 = .ok (.aload_n 2, 1) := by decide +kernel
theorem dD_collect_54 : decode bD_collect 54 = .ok (.getfield 28, 3) := by decide +kernel
theorem dD_collect_57 : decode bD_collect 57 = .ok (.iload 4, 2) := by decide +kernel
theorem dD_collect_59 : decode bD_collect 59 = .ok (.aaload, 1) := by decide +kernel
theorem dD_collect_60 : decode bD_collect 60 = .ok (.getfield 32, 3) := by decide +kernel
theorem dD_collect_63 : decode bD_collect 63 = .ok (.if_icmp .ge 24, 3) := by decide +kernel
theorem dD_collect_66 : decode bD_collect 66 = .ok (.aload_n 0, 1) := by decide +kernel
theorem dD_collect_67 : decode bD_collect 67 = .ok (.aload_n 1, 1) := by decide +kernel
theorem dD_collect_68 : decode bD_collect 68 = .ok (.getfield 28, 3) := by decide +kernel
theorem dD_collect_71 : decode bD_collect 71 = .ok (.iload_n 3, 1) := by decide +kernel
theorem dD_collect_72 : decode bD_collect 72 = .ok (.aaload, 1) := by decide +kernel
theorem dD_collect_73 : decode bD_collect 73 = .ok (.getfield 32, 3) := by decide +kernel
theorem dD_collect_76 : decode bD_collect 76 = .ok (.iconst 1, 1) := by decide +kernel
theorem dD_collect_77 : decode bD_collect 77 = .ok (.iconst 0, 1) := by decide +kernel
theorem dD_collect_78 : decode bD_collect 78 = .ok (.invokevirtual 37, 3) := by decide +kernel
theorem dD_collect_81 : decode bD_collect 81 = .ok (.iinc 3 1, 3) := by decide +kernel
theorem dD_collect_84 : decode bD_collect 84 = .ok (.goto (-74), 3) := by decide +kernel
theorem dD_collect_87 : decode bD_collect 87 = .ok (.iload_n 3, 1) := by decide +kernel
theorem dD_collect_88 : decode bD_collect 88 = .ok (.aload_n 1, 1) := by decide +kernel
theorem dD_collect_89 : decode bD_collect 89 = .ok (.getfield 25, 3) := by decide +kernel
theorem dD_collect_92 : decode bD_collect 92 = .ok (.if_icmp .ge 25, 3) := by decide +kernel
theorem dD_collect_95 : decode bD_collect 95 = .ok (.aload_n 2, 1) := by decide +kernel
theorem dD_collect_96 : decode bD_collect 96 = .ok (.getfield 28, 3) := by decide +kernel
theorem dD_collect_99 : decode bD_collect 99 = .ok (.iload 4, 2) := by decide +kernel
theorem dD_collect_101 : decode bD_collect 101 = .ok (.aaload, 1) := by decide +kernel
theorem dD_collect_102 : decode bD_collect 102 = .ok (.getfield 32, 3) := by decide +kernel
theorem dD_collect_105 : decode bD_collect 105 = .ok (.aload_n 1, 1) := by decide +kernel
theorem dD_collect_106 : decode bD_collect 106 = .ok (.getfield 28, 3) := by decide +kernel
theorem dD_collect_109 : decode bD_collect 109 = .ok (.iload_n 3, 1) := by decide +kernel
theorem dD_collect_110 : decode bD_collect 110 = .ok (.aaload, 1) := by decide +kernel
theorem dD_collect_111 : decode bD_collect 111 = .ok (.getfield 32, 3) := by decide +kernel
theorem dD_collect_114 : decode bD_collect 114 = .ok (.if_icmp .ge 25, 3) := by decide +kernel
theorem dD_collect_117 : decode bD_collect 117 = .ok (.aload_n 0, 1) := by decide +kernel
theorem dD_collect_118 : decode bD_collect 118 = .ok (.aload_n 2, 1) := by decide +kernel
theorem dD_collect_119 : decode bD_collect 119 = .ok (.getfield 28, 3) := by decide +kernel
theorem dD_collect_122 : decode bD_collect 122 = .ok (.iload 4, 2) := by decide +kernel
theorem dD_collect_124 : decode bD_collect 124 = .ok (.aaload, 1) := by decide +kernel
theorem dD_collect_125 : decode bD_collect 125 = .ok (.getfield 32, 3) := by decide +kernel
theorem dD_collect_128 : decode bD_collect 128 = .ok (.iconst 0, 1) := by decide +kernel
theorem dD_collect_129 : decode bD_collect 129 = .ok (.iconst 0, 1) := by decide +kernel
theorem dD_collect_130 : decode bD_collect 130 = .ok (.invokevirtual 37, 3) := by decide +kernel
theorem dD_collect_133 : decode bD_collect 133 = .ok (.iinc 4 1, 3) := by decide +kernel
theorem dD_collect_136 : decode bD_collect 136 = .ok (.goto (-126), 3) := by decide +kernel
theorem dD_collect_139 : decode bD_collect 139 = .ok (.aload_n 1, 1) := by decide +kernel
theorem dD_collect_140 : decode bD_collect 140 = .ok (.getfield 28, 3) := by decide +kernel
theorem dD_collect_143 : decode bD_collect 143 = .ok (.iload_n 3, 1) := by decide +kernel
theorem dD_collect_144 : decode bD_collect 144 = .ok (.aaload, 1) := by decide +kernel
theorem dD_collect_145 : decode bD_collect 145 = .ok (.aload_n 2, 1) := by decide +kernel
theorem dD_collect_146 : decode bD_collect 146 = .ok (.getfield 28, 3) := by decide +kernel
theorem dD_collect_149 : decode bD_collect 149 = .ok (.iload 4, 2) := by decide +kernel
theorem dD_collect_151 : decode bD_collect 151 = .ok (.aaload, 1) := by decide +kernel
theorem dD_collect_152 : decode bD_collect 152 = .ok (.invokevirtual 41, 3) := by decide +kernel
theorem dD_collect_155 : decode bD_collect 155 = .ok (.istore 5, 2) := by decide +kernel
theorem dD_collect_157 : decode bD_collect 157 = .ok (.iload 5, 2) := by decide +kernel
theorem dD_collect_159 : decode bD_collect 159 = .ok (.ifCond .eq 19, 3) := by decide +kernel
theorem dD_collect_162 : decode bD_collect 162 = .ok (.aload_n 0, 1) := by decide +kernel
theorem dD_collect_163 : decode bD_collect 163 = .ok (.aload_n 1, 1) := by decide +kernel
theorem dD_collect_164 : decode bD_collect 164 = .ok (.getfield 28, 3) := by decide +kernel
theorem dD_collect_167 : decode bD_collect 167 = .ok (.iload_n 3, 1) := by decide +kernel
theorem dD_collect_168 : decode bD_collect 168 = .ok (.aaload, 1) := by decide +kernel
theorem dD_collect_169 : decode bD_collect 169 = .ok (.getfield 32, 3) := by decide +kernel
theorem dD_collect_172 : decode bD_collect 172 = .ok (.iconst 2, 1) := by decide +kernel
theorem dD_collect_173 : decode bD_collect 173 = .ok (.iload 5, 2) := by decide +kernel
theorem dD_collect_175 : decode bD_collect 175 = .ok (.invokevirtual 37, 3) := by decide +kernel
theorem dD_collect_178 : decode bD_collect 178 = .ok (.iinc 3 1, 3) := by decide +kernel
theorem dD_collect_181 : decode bD_collect 181 = .ok (.iinc 4 1, 3) := by decide +kernel
theorem dD_collect_184 : decode bD_collect 184 = .ok (.goto (-174), 3) := by decide +kernel
theorem dD_collect_187 : decode bD_collect 187 = .ok (.return_, 1) := by decide +kernel
theorem dD_note_0 : decode bD_note 0 = .ok (.aload_n 0, 1) := by decide +kernel
theorem dD_note_1 : decode bD_note 1 = .ok (.getfield 21, 3) := by decide +kernel
theorem dD_note_4 : decode bD_note 4 = .ok (.aload_n 0, 1) := by decide +kernel
theorem dD_note_5 : decode bD_note 5 = .ok (.getfield 9, 3) := by decide +kernel
theorem dD_note_8 : decode bD_note 8 = .ok (.arraylength, 1) := by decide +kernel
theorem dD_note_9 : decode bD_note 9 = .ok (.if_icmp .ge 43, 3) := by decide +kernel
theorem dD_note_12 : decode bD_note 12 = .ok (.aload_n 0, 1) := by decide +kernel
theorem dD_note_13 : decode bD_note 13 = .ok (.getfield 9, 3) := by decide +kernel
theorem dD_note_16 : decode bD_note 16 = .ok (.aload_n 0, 1) := by decide +kernel
theorem dD_note_17 : decode bD_note 17 = .ok (.getfield 21, 3) := by decide +kernel
theorem dD_note_20 : decode bD_note 20 = .ok (.iload_n 1, 1) := by decide +kernel
theorem dD_note_21 : decode bD_note 21 = .ok (.iastore, 1) := by decide +kernel
theorem dD_note_22 : decode bD_note 22 = .ok (.aload_n 0, 1) := by decide +kernel
theorem dD_note_23 : decode bD_note 23 = .ok (.getfield 15, 3) := by decide +kernel
theorem dD_note_26 : decode bD_note 26 = .ok (.aload_n 0, 1) := by decide +kernel
theorem dD_note_27 : decode bD_note 27 = .ok (.getfield 21, 3) := by decide +kernel
theorem dD_note_30 : decode bD_note 30 = .ok (.iload_n 2, 1) := by decide +kernel
theorem dD_note_31 : decode bD_note 31 = .ok (.iastore, 1) := by decide +kernel
theorem dD_note_32 : decode bD_note 32 = .ok (.aload_n 0, 1) := by decide +kernel
theorem dD_note_33 : decode bD_note 33 = .ok (.getfield 18, 3) := by decide +kernel
theorem dD_note_36 : decode bD_note 36 = .ok (.aload_n 0, 1) := by decide +kernel
theorem dD_note_37 : decode bD_note 37 = .ok (.getfield 21, 3) := by decide +kernel
theorem dD_note_40 : decode bD_note 40 = .ok (.iload_n 3, 1) := by decide +kernel
theorem dD_note_41 : decode bD_note 41 = .ok (.iastore, 1) := by decide +kernel
theorem dD_note_42 : decode bD_note 42 = .ok (.aload_n 0, 1) := by decide +kernel
theorem dD_note_43 : decode bD_note 43 = .ok (.dup, 1) := by decide +kernel
theorem dD_note_44 : decode bD_note 44 = .ok (.getfield 21, 3) := by decide +kernel
theorem dD_note_47 : decode bD_note 47 = .ok (.iconst 1, 1) := by decide +kernel
theorem dD_note_48 : decode bD_note 48 = .ok (.iadd, 1) := by decide +kernel
theorem dD_note_49 : decode bD_note 49 = .ok (.putfield 21, 3) := by decide +kernel
theorem dD_note_52 : decode bD_note 52 = .ok (.return_, 1) := by decide +kernel
theorem dN_isLikeLeaf_0 : decode bN_isLikeLeaf 0 = .ok (.aload_n 0, 1) := by decide +kernel
theorem dN_isLikeLeaf_1 : decode bN_isLikeLeaf 1 = .ok (.getfield 25, 3) := by decide +kernel
theorem dN_isLikeLeaf_4 : decode bN_isLikeLeaf 4 = .ok (.ifCond .ne 14, 3) := by decide +kernel
theorem dN_isLikeLeaf_7 : decode bN_isLikeLeaf 7 = .ok (.aload_n 0, 1) := by decide +kernel
theorem dN_isLikeLeaf_8 : decode bN_isLikeLeaf 8 = .ok (.getfield 30, 3) := by decide +kernel
theorem dN_isLikeLeaf_11 : decode bN_isLikeLeaf 11 = .ok (.arraylength, 1) := by decide +kernel
theorem dN_isLikeLeaf_12 : decode bN_isLikeLeaf 12 = .ok (.iload_n 3, 1) := by decide +kernel
theorem dN_isLikeLeaf_13 : decode bN_isLikeLeaf 13 = .ok (.iload_n 2, 1) := by decide +kernel
theorem dN_isLikeLeaf_14 : decode bN_isLikeLeaf 14 = .ok (.isub, 1) := by decide +kernel
theorem dN_isLikeLeaf_15 : decode bN_isLikeLeaf 15 = .ok (.if_icmp .eq 5, 3) := by decide +kernel
theorem dN_isLikeLeaf_18 : decode bN_isLikeLeaf 18 = .ok (.iconst 0, 1) := by decide +kernel
theorem dN_isLikeLeaf_19 : decode bN_isLikeLeaf 19 = .ok (.ireturn, 1) := by decide +kernel
theorem dN_isLikeLeaf_20 : decode bN_isLikeLeaf 20 = .ok (.iload_n 2, 1) := by decide +kernel
theorem dN_isLikeLeaf_21 : decode bN_isLikeLeaf 21 = .ok (.istore 4, 2) := by decide +kernel
theorem dN_isLikeLeaf_23 : decode bN_isLikeLeaf 23 = .ok (.iload 4, 2) := by decide +kernel
theorem dN_isLikeLeaf_25 : decode bN_isLikeLeaf 25 = .ok (.iload_n 3, 1) := by decide +kernel
theorem dN_isLikeLeaf_26 : decode bN_isLikeLeaf 26 = .ok (.if_icmp .ge 30, 3) := by decide +kernel
theorem dN_isLikeLeaf_29 : decode bN_isLikeLeaf 29 = .ok (.aload_n 0, 1) := by decide +kernel
theorem dN_isLikeLeaf_30 : decode bN_isLikeLeaf 30 = .ok (.getfield 30, 3) := by decide +kernel
theorem dN_isLikeLeaf_33 : decode bN_isLikeLeaf 33 = .ok (.iload 4, 2) := by decide +kernel
theorem dN_isLikeLeaf_35 : decode bN_isLikeLeaf 35 = .ok (.iload_n 2, 1) := by decide +kernel
theorem dN_isLikeLeaf_36 : decode bN_isLikeLeaf 36 = .ok (.isub, 1) := by decide +kernel
theorem dN_isLikeLeaf_37 : decode bN_isLikeLeaf 37 = .ok (.aaload, 1) := by decide +kernel
theorem dN_isLikeLeaf_38 : decode bN_isLikeLeaf 38 = .ok (.aload_n 1, 1) := by decide +kernel
theorem dN_isLikeLeaf_39 : decode bN_isLikeLeaf 39 = .ok (.iload 4, 2) := by decide +kernel
theorem dN_isLikeLeaf_41 : decode bN_isLikeLeaf 41 = .ok (.aaload, 1) := by decide +kernel
theorem dN_isLikeLeaf_42 : decode bN_isLikeLeaf 42 = .ok (.invokevirtual 63, 3) := by decide +kernel
theorem dN_isLikeLeaf_45 : decode bN_isLikeLeaf 45 = .ok (.ifCond .ne 5, 3) := by decide +kernel
theorem dN_isLikeLeaf_48 : decode bN_isLikeLeaf 48 = .ok (.iconst 0, 1) := by decide +kernel
theorem dN_isLikeLeaf_49 : decode bN_isLikeLeaf 49 = .ok (.ireturn, 1) := by decide +kernel
theorem dN_isLikeLeaf_50 : decode bN_isLikeLeaf 50 = .ok (.iinc 4 1, 3) := by decide +kernel
theorem dN_isLikeLeaf_53 : decode bN_isLikeLeaf 53 = .ok (.goto (-30), 3) := by decide +kernel
theorem dN_isLikeLeaf_56 : decode bN_isLikeLeaf 56 = .ok (.iconst 1, 1) := by decide +kernel
theorem dN_isLikeLeaf_57 : decode bN_isLikeLeaf 57 = .ok (.ireturn, 1) := by decide +kernel
theorem dN_init_0 : decode bN_init 0 = .ok (.aload_n 0, 1) := by decide +kernel
theorem dN_init_1 : decode bN_init 1 = .ok (.invokespecial 1, 3) := by decide +kernel
theorem dN_init_4 : decode bN_init 4 = .ok (.aload_n 0, 1) := by decide +kernel
theorem dN_init_5 : decode bN_init 5 = .ok (.lconst 0, 1) := by decide +kernel
theorem dN_init_6 : decode bN_init 6 = .ok (.putfield 7, 3) := by decide +kernel
theorem dN_init_9 : decode bN_init 9 = .ok (.aload_n 0, 1) := by decide +kernel
theorem dN_init_10 : decode bN_init 10 = .ok (.iconst 0, 1) := by decide +kernel
theorem dN_init_11 : decode bN_init 11 = .ok (.putfield 13, 3) := by decide +kernel
theorem dN_init_14 : decode bN_init 14 = .ok (.aload_n 0, 1) := by decide +kernel
theorem dN_init_15 : decode bN_init 15 = .ok (.iconst 0, 1) := by decide +kernel
theorem dN_init_16 : decode bN_init 16 = .ok (.putfield 17, 3) := by decide +kernel
theorem dN_init_19 : decode bN_init 19 = .ok (.aload_n 0, 1) := by decide +kernel
theorem dN_init_20 : decode bN_init 20 = .ok (.aconst_null, 1) := by decide +kernel
theorem dN_init_21 : decode bN_init 21 = .ok (.putfield 21, 3) := by decide +kernel
theorem dN_init_24 : decode bN_init 24 = .ok (.aload_n 0, 1) := by decide +kernel
theorem dN_init_25 : decode bN_init 25 = .ok (.iconst 0, 1) := by decide +kernel
theorem dN_init_26 : decode bN_init 26 = .ok (.putfield 25, 3) := by decide +kernel
theorem dN_init_29 : decode bN_init 29 = .ok (.aload_n 0, 1) := by decide +kernel
theorem dN_init_30 : decode bN_init 30 = .ok (.iload_n 3, 1) := by decide +kernel
theorem dN_init_31 : decode bN_init 31 = .ok (.iload_n 2, 1) := by decide +kernel
theorem dN_init_32 : decode bN_init 32 = .ok (.isub, 1) := by decide +kernel
theorem dN_init_33 : decode bN_init 33 = .ok (.anewarray 28, 3) := by decide +kernel
theorem dN_init_36 : decode bN_init 36 = .ok (.putfield 30, 3) := by decide +kernel
theorem dN_init_39 : decode bN_init 39 = .ok (.aload_n 0, 1) := by decide +kernel
theorem dN_init_40 : decode bN_init 40 = .ok (.iconst 0, 1) := by decide +kernel
theorem dN_init_41 : decode bN_init 41 = .ok (.anewarray 8, 3) := by decide +kernel
theorem dN_init_44 : decode bN_init 44 = .ok (.putfield 34, 3) := by decide +kernel
theorem dN_init_47 : decode bN_init 47 = .ok (.iconst 0, 1) := by decide +kernel
theorem dN_init_48 : decode bN_init 48 = .ok (.istore 5, 2) := by decide +kernel
theorem dN_init_50 : decode bN_init 50 = .ok (.iload_n 2, 1) := by decide +kernel
theorem dN_init_51 : decode bN_init 51 = .ok (.istore 6, 2) := by decide +kernel
theorem dN_init_53 : decode bN_init 53 = .ok (.iload 6, 2) := by decide +kernel
theorem dN_init_55 : decode bN_init 55 = .ok (.iload_n 3, 1) := by decide +kernel
theorem dN_init_56 : decode bN_init 56 = .ok (.if_icmp .ge 37, 3) := by decide +kernel
theorem dN_init_59 : decode bN_init 59 = .ok (.aload_n 0, 1) := by decide +kernel
theorem dN_init_60 : decode bN_init 60 = .ok (.getfield 30, 3) := by decide +kernel
theorem dN_init_63 : decode bN_init 63 = .ok (.iload 6, 2) := by decide +kernel
theorem dN_init_65 : decode bN_init 65 = .ok (.iload_n 2, 1) := by decide +kernel
theorem dN_init_66 : decode bN_init 66 = .ok (.isub, 1) := by decide +kernel
theorem dN_init_67 : decode bN_init 67 = .ok (.aload_n 1, 1) := by decide +kernel
theorem dN_init_68 : decode bN_init 68 = .ok (.iload 6, 2) := by decide +kernel
theorem dN_init_70 : decode bN_init 70 = .ok (.aaload, 1) := by decide +kernel
theorem dN_init_71 : decode bN_init 71 = .ok (.aastore, 1) := by decide +kernel
theorem dN_init_72 : decode bN_init 72 = .ok (.iload 5, 2) := by decide +kernel
theorem dN_init_74 : decode bN_init 74 = .ok (.iconst 1, 1) := by decide +kernel
theorem dN_init_75 : decode bN_init 75 = .ok (.aload_n 1, 1) := by decide +kernel
theorem dN_init_76 : decode bN_init 76 = .ok (.iload 6, 2) := by decide +kernel
theorem dN_init_78 : decode bN_init 78 = .ok (.aaload, 1) := by decide +kernel
theorem dN_init_79 : decode bN_init 79 = .ok (.getfield 38, 3) := by decide +kernel
theorem dN_init_82 : decode bN_init 82 = .ok (.arraylength, 1) := by decide +kernel
theorem dN_init_83 : decode bN_init 83 = .ok (.iadd, 1) := by decide +kernel
theorem dN_init_84 : decode bN_init 84 = .ok (.iadd, 1) := by decide +kernel
theorem dN_init_85 : decode bN_init 85 = .ok (.istore 5, 2) := by decide +kernel
theorem dN_init_87 : decode bN_init 87 = .ok (.iinc 6 1, 3) := by decide +kernel
theorem dN_init_90 : decode bN_init 90 = .ok (.goto (-37), 3) := by decide +kernel
theorem dN_init_93 : decode bN_init 93 = .ok (.aload_n 0, 1) := by decide +kernel
theorem dN_init_94 : decode bN_init 94 = .ok (.iload_n 3, 1) := by decide +kernel
theorem dN_init_95 : decode bN_init 95 = .ok (.iload_n 2, 1) := by decide +kernel
theorem dN_init_96 : decode bN_init 96 = .ok (.isub, 1) := by decide +kernel
theorem dN_init_97 : decode bN_init 97 = .ok (.putfield 42, 3) := by decide +kernel
theorem dN_init_100 : decode bN_init 100 = .ok (.aload_n 0, 1) := by decide +kernel
theorem dN_init_101 : decode bN_init 101 = .ok (.iload 5, 2) := by decide +kernel
theorem dN_init_103 : decode bN_init 103 = .ok (.putfield 45, 3) := by decide +kernel
theorem dN_init_106 : decode bN_init 106 = .ok (.aload_n 0, 1) := by decide +kernel
theorem dN_init_107 : decode bN_init 107 = .ok (.iload_n 2, 1) := by decide +kernel
theorem dN_init_108 : decode bN_init 108 = .ok (.iload_n 3, 1) := by decide +kernel
theorem dN_init_109 : decode bN_init 109 = .ok (.if_icmp .ge 14, 3) := by decide +kernel
theorem dN_init_112 : decode bN_init 112 = .ok (.aload_n 1, 1) := by decide +kernel
theorem dN_init_113 : decode bN_init 113 = .ok (.iload_n 3, 1) := by decide +kernel
theorem dN_init_114 : decode bN_init 114 = .ok (.iconst 1, 1) := by decide +kernel
theorem dN_init_115 : decode bN_init 115 = .ok (.isub, 1) := by decide +kernel
theorem dN_init_116 : decode bN_init 116 = .ok (.aaload, 1) := by decide +kernel
theorem dN_init_117 : decode bN_init 117 = .ok (.getfield 48, 3) := by decide +kernel
theorem dN_init_120 : decode bN_init 120 = .ok (.goto 4, 3) := by decide +kernel
theorem dN_init_123 : decode bN_init 123 = .ok (.iconst 0, 1) := by decide +kernel
theorem dN_init_124 : decode bN_init 124 = .ok (.putfield 51, 3) := by decide +kernel
theorem dN_init_127 : decode bN_init 127 = .ok (.aload_n 0, 1) := by decide +kernel
theorem dN_init_128 : decode bN_init 128 = .ok (.iload_n 2, 1) := by decide +kernel
theorem dN_init_129 : decode bN_init 129 = .ok (.iload_n 3, 1) := by decide +kernel
theorem dN_init_130 : decode bN_init 130 = .ok (.if_icmp .ge 14, 3) := by decide +kernel
theorem dN_init_133 : decode bN_init 133 = .ok (.aload_n 1, 1) := by decide +kernel
theorem dN_init_134 : decode bN_init 134 = .ok (.iload_n 3, 1) := by decide +kernel
theorem dN_init_135 : decode bN_init 135 = .ok (.iconst 1, 1) := by decide +kernel
theorem dN_init_136 : decode bN_init 136 = .ok (.isub, 1) := by decide +kernel
theorem dN_init_137 : decode bN_init 137 = .ok (.aaload, 1) := by decide +kernel
theorem dN_init_138 : decode bN_init 138 = .ok (.getfield 54, 3) := by decide +kernel
theorem dN_init_141 : decode bN_init 141 = .ok (.goto 4, 3) := by decide +kernel
theorem dN_init_144 : decode bN_init 144 = .ok (.iconst 0, 1) := by decide +kernel
theorem dN_init_145 : decode bN_init 145 = .ok (.putfield 57, 3) := by decide +kernel
theorem dN_init_148 : decode bN_init 148 = .ok (.aload_n 0, 1) := by decide +kernel
theorem dN_init_149 : decode bN_init 149 = .ok (.iload 4, 2) := by decide +kernel
theorem dN_init_151 : decode bN_init 151 = .ok (.putfield 60, 3) := by decide +kernel
theorem dN_init_154 : decode bN_init 154 = .ok (.return_, 1) := by decide +kernel
theorem dN_isLikeBranch_0 : decode bN_isLikeBranch 0 = .ok (.aload_n 0, 1) := by decide +kernel
theorem dN_isLikeBranch_1 : decode bN_isLikeBranch 1 = .ok (.getfield 34, 3) := by decide +kernel
theorem dN_isLikeBranch_4 : decode bN_isLikeBranch 4 = .ok (.arraylength, 1) := by decide +kernel
theorem dN_isLikeBranch_5 : decode bN_isLikeBranch 5 = .ok (.iload_n 3, 1) := by decide +kernel
theorem dN_isLikeBranch_6 : decode bN_isLikeBranch 6 = .ok (.iload_n 2, 1) := by decide +kernel
theorem dN_isLikeBranch_7 : decode bN_isLikeBranch 7 = .ok (.isub, 1) := by decide +kernel
theorem dN_isLikeBranch_8 : decode bN_isLikeBranch 8 = .ok (.if_icmp .eq 5, 3) := by decide +kernel
theorem dN_isLikeBranch_11 : decode bN_isLikeBranch 11 = .ok (.iconst 0, 1) := by decide +kernel
theorem dN_isLikeBranch_12 : decode bN_isLikeBranch 12 = .ok (.ireturn, 1) := by decide +kernel
theorem dN_isLikeBranch_13 : decode bN_isLikeBranch 13 = .ok (.iload_n 2, 1) := by decide +kernel
theorem dN_isLikeBranch_14 : decode bN_isLikeBranch 14 = .ok (.istore 4, 2) := by decide +kernel
theorem dN_isLikeBranch_16 : decode bN_isLikeBranch 16 = .ok (.iload 4, 2) := by decide +kernel
theorem dN_isLikeBranch_18 : decode bN_isLikeBranch 18 = .ok (.iload_n 3, 1) := by decide +kernel
theorem dN_isLikeBranch_19 : decode bN_isLikeBranch 19 = .ok (.if_icmp .ge 27, 3) := by decide +kernel
theorem dN_isLikeBranch_22 : decode bN_isLikeBranch 22 = .ok (.aload_n 0, 1) := by decide +kernel
theorem dN_isLikeBranch_23 : decode bN_isLikeBranch 23 = .ok (.getfield 34, 3) := by decide +kernel
theorem dN_isLikeBranch_26 : decode bN_isLikeBranch 26 = .ok (.iload 4, 2) := by decide +kernel
theorem dN_isLikeBranch_28 : decode bN_isLikeBranch 28 = .ok (.iload_n 2, 1) := by decide +kernel
theorem dN_isLikeBranch_29 : decode bN_isLikeBranch 29 = .ok (.isub, 1) := by decide +kernel
theorem dN_isLikeBranch_30 : decode bN_isLikeBranch 30 = .ok (.aaload, 1) := by decide +kernel
theorem dN_isLikeBranch_31 : decode bN_isLikeBranch 31 = .ok (.aload_n 1, 1) := by decide +kernel
theorem dN_isLikeBranch_32 : decode bN_isLikeBranch 32 = .ok (.iload 4, 2) := by decide +kernel
theorem dN_isLikeBranch_34 : decode bN_isLikeBranch 34 = .ok (.aaload, 1) := by decide +kernel
theorem dN_isLikeBranch_35 : decode bN_isLikeBranch 35 = .ok (.if_acmp .eq 5, 3) := by decide +kernel
theorem dN_isLikeBranch_38 : decode bN_isLikeBranch 38 = .ok (.iconst 0, 1) := by decide +kernel
theorem dN_isLikeBranch_39 : decode bN_isLikeBranch 39 = .ok (.ireturn, 1) := by decide +kernel
theorem dN_isLikeBranch_40 : decode bN_isLikeBranch 40 = .ok (.iinc 4 1, 3) := by decide +kernel
theorem dN_isLikeBranch_43 : decode bN_isLikeBranch 43 = .ok (.goto (-27), 3) := by decide +kernel
theorem dN_isLikeBranch_46 : decode bN_isLikeBranch 46 = .ok (.iconst 1, 1) := by decide +kernel
theorem dN_isLikeBranch_47 : decode bN_isLikeBranch 47 = .ok (.ireturn, 1) := by decide +kernel
theorem dN_init2_0 : decode bN_init2 0 = .ok (.aload_n 0, 1) := by decide +kernel
theorem dN_init2_1 : decode bN_init2 1 = .ok (.invokespecial 1, 3) := by decide +kernel
theorem dN_init2_4 : decode bN_init2 4 = .ok (.aload_n 0, 1) := by decide +kernel
theorem dN_init2_5 : decode bN_init2 5 = .ok (.lconst 0, 1) := by decide +kernel
theorem dN_init2_6 : decode bN_init2 6 = .ok (.putfield 7, 3) := by decide +kernel
theorem dN_init2_9 : decode bN_init2 9 = .ok (.aload_n 0, 1) := by decide +kernel
theorem dN_init2_10 : decode bN_init2 10 = .ok (.iconst 0, 1) := by decide +kernel
theorem dN_init2_11 : decode bN_init2 11 = .ok (.putfield 13, 3) := by decide +kernel
theorem dN_init2_14 : decode bN_init2 14 = .ok (.aload_n 0, 1) := by decide +kernel
theorem dN_init2_15 : decode bN_init2 15 = .ok (.iconst 0, 1) := by decide +kernel
theorem dN_init2_16 : decode bN_init2 16 = .ok (.putfield 17, 3) := by decide +kernel
theorem dN_init2_19 : decode bN_init2 19 = .ok (.aload_n 0, 1) := by decide +kernel
theorem dN_init2_20 : decode bN_init2 20 = .ok (.aconst_null, 1) := by decide +kernel
theorem dN_init2_21 : decode bN_init2 21 = .ok (.putfield 21, 3) := by decide +kernel
theorem dN_init2_24 : decode bN_init2 24 = .ok (.aload_n 0, 1) := by decide +kernel
theorem dN_init2_25 : decode bN_init2 25 = .ok (.iload_n 1, 1) := by decide +kernel
theorem dN_init2_26 : decode bN_init2 26 = .ok (.putfield 25, 3) := by decide +kernel
theorem dN_init2_29 : decode bN_init2 29 = .ok (.aload_n 0, 1) := by decide +kernel
theorem dN_init2_30 : decode bN_init2 30 = .ok (.iconst 0, 1) := by decide +kernel
theorem dN_init2_31 : decode bN_init2 31 = .ok (.anewarray 28, 3) := by decide +kernel
theorem dN_init2_34 : decode bN_init2 34 = .ok (.putfield 30, 3) := by decide +kernel
theorem dN_init2_37 : decode bN_init2 37 = .ok (.aload_n 0, 1) := by decide +kernel
theorem dN_init2_38 : decode bN_init2 38 = .ok (.iload 4, 2) := by decide +kernel
theorem dN_init2_40 : decode bN_init2 40 = .ok (.iload_n 3, 1) := by decide +kernel
theorem dN_init2_41 : decode bN_init2 41 = .ok (.isub, 1) := by decide +kernel
theorem dN_init2_42 : decode bN_init2 42 = .ok (.anewarray 8, 3) := by decide +kernel
theorem dN_init2_45 : decode bN_init2 45 = .ok (.putfield 34, 3) := by decide +kernel
theorem dN_init2_48 : decode bN_init2 48 = .ok (.iconst 0, 1) := by decide +kernel
theorem dN_init2_49 : decode bN_init2 49 = .ok (.istore 6, 2) := by decide +kernel
theorem dN_init2_51 : decode bN_init2 51 = .ok (.iload_n 3, 1) := by decide +kernel
theorem dN_init2_52 : decode bN_init2 52 = .ok (.istore 7, 2) := by decide +kernel
theorem dN_init2_54 : decode bN_init2 54 = .ok (.iload 7, 2) := by decide +kernel
theorem dN_init2_56 : decode bN_init2 56 = .ok (.iload 4, 2) := by decide +kernel
theorem dN_init2_58 : decode bN_init2 58 = .ok (.if_icmp .ge 34, 3) := by decide +kernel
theorem dN_init2_61 : decode bN_init2 61 = .ok (.aload_n 0, 1) := by decide +kernel
theorem dN_init2_62 : decode bN_init2 62 = .ok (.getfield 34, 3) := by decide +kernel
theorem dN_init2_65 : decode bN_init2 65 = .ok (.iload 7, 2) := by decide +kernel
theorem dN_init2_67 : decode bN_init2 67 = .ok (.iload_n 3, 1) := by decide +kernel
theorem dN_init2_68 : decode bN_init2 68 = .ok (.isub, 1) := by decide +kernel
theorem dN_init2_69 : decode bN_init2 69 = .ok (.aload_n 2, 1) := by decide +kernel
theorem dN_init2_70 : decode bN_init2 70 = .ok (.iload 7, 2) := by decide +kernel
theorem dN_init2_72 : decode bN_init2 72 = .ok (.aaload, 1) := by decide +kernel
theorem dN_init2_73 : decode bN_init2 73 = .ok (.aastore, 1) := by decide +kernel
theorem dN_init2_74 : decode bN_init2 74 = .ok (.iload 6, 2) := by decide +kernel
theorem dN_init2_76 : decode bN_init2 76 = .ok (.aload_n 2, 1) := by decide +kernel
theorem dN_init2_77 : decode bN_init2 77 = .ok (.iload 7, 2) := by decide +kernel
theorem dN_init2_79 : decode bN_init2 79 = .ok (.aaload, 1) := by decide +kernel
theorem dN_init2_80 : decode bN_init2 80 = .ok (.getfield 42, 3) := by decide +kernel
theorem dN_init2_83 : decode bN_init2 83 = .ok (.iadd, 1) := by decide +kernel
theorem dN_init2_84 : decode bN_init2 84 = .ok (.istore 6, 2) := by decide +kernel
theorem dN_init2_86 : decode bN_init2 86 = .ok (.iinc 7 1, 3) := by decide +kernel
theorem dN_init2_89 : decode bN_init2 89 = .ok (.goto (-35), 3) := by decide +kernel
theorem dN_init2_92 : decode bN_init2 92 = .ok (.aload_n 0, 1) := by decide +kernel
theorem dN_init2_93 : decode bN_init2 93 = .ok (.iload 6, 2) := by decide +kernel
theorem dN_init2_95 : decode bN_init2 95 = .ok (.putfield 42, 3) := by decide +kernel
theorem dN_init2_98 : decode bN_init2 98 = .ok (.aload_n 0, 1) := by decide +kernel
theorem dN_init2_99 : decode bN_init2 99 = .ok (.iload 4, 2) := by decide +kernel
theorem dN_init2_101 : decode bN_init2 101 = .ok (.iload_n 3, 1) := by decide +kernel
theorem dN_init2_102 : decode bN_init2 102 = .ok (.isub, 1) := by decide +kernel
theorem dN_init2_103 : decode bN_init2 103 = .ok (.putfield 45, 3) := by decide +kernel
theorem dN_init2_106 : decode bN_init2 106 = .ok (.aload_n 0, 1) := by decide +kernel
theorem dN_init2_107 : decode bN_init2 107 = .ok (.iload_n 3, 1) := by decide +kernel
theorem dN_init2_108 : decode bN_init2 108 = .ok (.iload 4, 2) := by decide +kernel
theorem dN_init2_110 : decode bN_init2 110 = .ok (.if_icmp .ge 15, 3) := by decide +kernel
theorem dN_init2_113 : decode bN_init2 113 = .ok (.aload_n 2, 1) := by decide +kernel
theorem dN_init2_114 : decode bN_init2 114 = .ok (.iload 4, 2) := by decide +kernel
theorem dN_init2_116 : decode bN_init2 116 = .ok (.iconst 1, 1) := by decide +kernel
theorem dN_init2_117 : decode bN_init2 117 = .ok (.isub, 1) := by decide +kernel
theorem dN_init2_118 : decode bN_init2 118 = .ok (.aaload, 1) := by decide +kernel
theorem dN_init2_119 : decode bN_init2 119 = .ok (.getfield 51, 3) := by decide +kernel
theorem dN_init2_122 : decode bN_init2 122 = .ok (.goto 4, 3) := by decide +kernel
theorem dN_init2_125 : decode bN_init2 125 = .ok (.iconst 0, 1) := by decide +kernel
theorem dN_init2_126 : decode bN_init2 126 = .ok (.putfield 51, 3) := by decide +kernel
theorem dN_init2_129 : decode bN_init2 129 = .ok (.aload_n 0, 1) := by decide +kernel
theorem dN_init2_130 : decode bN_init2 130 = .ok (.iload_n 3, 1) := by decide +kernel
theorem dN_init2_131 : decode bN_init2 131 = .ok (.iload 4, 2) := by decide +kernel
theorem dN_init2_133 : decode bN_init2 133 = .ok (.if_icmp .ge 15, 3) := by decide +kernel
theorem dN_init2_136 : decode bN_init2 136 = .ok (.aload_n 2, 1) := by decide +kernel
theorem dN_init2_137 : decode bN_init2 137 = .ok (.iload 4, 2) := by decide +kernel
theorem dN_init2_139 : decode bN_init2 139 = .ok (.iconst 1, 1) := by decide +kernel
theorem dN_init2_140 : decode bN_init2 140 = .ok (.isub, 1) := by decide +kernel
theorem dN_init2_141 : decode bN_init2 141 = .ok (.aaload, 1) := by decide +kernel
theorem dN_init2_142 : decode bN_init2 142 = .ok (.getfield 57, 3) := by decide +kernel
theorem dN_init2_145 : decode bN_init2 145 = .ok (.goto 4, 3) := by decide +kernel
theorem dN_init2_148 : decode bN_init2 148 = .ok (.iconst 0, 1) := by decide +kernel
theorem dN_init2_149 : decode bN_init2 149 = .ok (.putfield 57, 3) := by decide +kernel
theorem dN_init2_152 : decode bN_init2 152 = .ok (.aload_n 0, 1) := by decide +kernel
theorem dN_init2_153 : decode bN_init2 153 = .ok (.iload 5, 2) := by decide +kernel
theorem dN_init2_155 : decode bN_init2 155 = .ok (.putfield 60, 3) := by decide +kernel
theorem dN_init2_158 : decode bN_init2 158 = .ok (.return_, 1) := by decide +kernel
theorem dS_init_0 : decode bS_init 0 = .ok (.aload_n 0, 1) := by decide +kernel
theorem dS_init_1 : decode bS_init 1 = .ok (.invokespecial 3, 3) := by decide +kernel
theorem dS_init_4 : decode bS_init 4 = .ok (.aload_n 0, 1) := by decide +kernel
theorem dS_init_5 : decode bS_init 5 = .ok (.sipush 1024, 3) := by decide +kernel
theorem dS_init_8 : decode bS_init 8 = .ok (.anewarray 9, 3) := by decide +kernel
theorem dS_init_11 : decode bS_init 11 = .ok (.putfield 11, 3) := by decide +kernel
theorem dS_init_14 : decode bS_init 14 = .ok (.aload_n 0, 1) := by decide +kernel
theorem dS_init_15 : decode bS_init 15 = .ok (.aconst_null, 1) := by decide +kernel
theorem dS_init_16 : decode bS_init 16 = .ok (.putfield 17, 3) := by decide +kernel
theorem dS_init_19 : decode bS_init 19 = .ok (.aload_n 0, 1) := by decide +kernel
theorem dS_init_20 : decode bS_init 20 = .ok (.iconst 0, 1) := by decide +kernel
theorem dS_init_21 : decode bS_init 21 = .ok (.putfield 21, 3) := by decide +kernel
theorem dS_init_24 : decode bS_init 24 = .ok (.aload_n 0, 1) := by decide +kernel
theorem dS_init_25 : decode bS_init 25 = .ok (.iconst 0, 1) := by decide +kernel
theorem dS_init_26 : decode bS_init 26 = .ok (.putfield 25, 3) := by decide +kernel
theorem dS_init_29 : decode bS_init 29 = .ok (.return_, 1) := by decide +kernel
theorem dS_leafOf_0 : decode bS_leafOf 0 = .ok (.iconst 0, 1) := by decide +kernel
theorem dS_leafOf_1 : decode bS_leafOf 1 = .ok (.istore 4, 2) := by decide +kernel
theorem dS_leafOf_3 : decode bS_leafOf 3 = .ok (.iload_n 2, 1) := by decide +kernel
theorem dS_leafOf_4 : decode bS_leafOf 4 = .ok (.istore 5, 2) := by decide +kernel
theorem dS_leafOf_6 : decode bS_leafOf 6 = .ok (.iload 5, 2) := by decide +kernel
theorem dS_leafOf_8 : decode bS_leafOf 8 = .ok (.iload_n 3, 1) := by decide +kernel
theorem dS_leafOf_9 : decode bS_leafOf 9 = .ok (.if_icmp .ge 24, 3) := by decide +kernel
theorem dS_leafOf_12 : decode bS_leafOf 12 = .ok (.iload 4, 2) := by decide +kernel
theorem dS_leafOf_14 : decode bS_leafOf 14 = .ok (.bipush 31, 2) := by decide +kernel
theorem dS_leafOf_16 : decode bS_leafOf 16 = .ok (.imul, 1) := by decide +kernel
theorem dS_leafOf_17 : decode bS_leafOf 17 = .ok (.aload_n 1, 1) := by decide +kernel
theorem dS_leafOf_18 : decode bS_leafOf 18 = .ok (.iload 5, 2) := by decide +kernel
theorem dS_leafOf_20 : decode bS_leafOf 20 = .ok (.aaload, 1) := by decide +kernel
theorem dS_leafOf_21 : decode bS_leafOf 21 = .ok (.getfield 28, 3) := by decide +kernel
theorem dS_leafOf_24 : decode bS_leafOf 24 = .ok (.iadd, 1) := by decide +kernel
theorem dS_leafOf_25 : decode bS_leafOf 25 = .ok (.istore 4, 2) := by decide +kernel
theorem dS_leafOf_27 : decode bS_leafOf 27 = .ok (.iinc 5 1, 3) := by decide +kernel
theorem dS_leafOf_30 : decode bS_leafOf 30 = .ok (.goto (-24), 3) := by decide +kernel
theorem dS_leafOf_33 : decode bS_leafOf 33 = .ok (.aload_n 0, 1) := by decide +kernel
theorem dS_leafOf_34 : decode bS_leafOf 34 = .ok (.getfield 11, 3) := by decide +kernel
theorem dS_leafOf_37 : decode bS_leafOf 37 = .ok (.iload 4, 2) := by decide +kernel
theorem dS_leafOf_39 : decode bS_leafOf 39 = .ok (.invokestatic 33, 3) := by decide +kernel
theorem dS_leafOf_42 : decode bS_leafOf 42 = .ok (.aaload, 1) := by decide +kernel
theorem dS_leafOf_43 : decode bS_leafOf 43 = .ok (.astore 5, 2) := by decide +kernel
theorem dS_leafOf_45 : decode bS_leafOf 45 = .ok (.aload 5, 2) := by decide +kernel
theorem dS_leafOf_47 : decode bS_leafOf 47 = .ok (.ifnull 37, 3) := by decide +kernel
theorem dS_leafOf_50 : decode bS_leafOf 50 = .ok (.aload 5, 2) := by decide +kernel
theorem dS_leafOf_52 : decode bS_leafOf 52 = .ok (.getfield 37, 3) := by decide +kernel
theorem dS_leafOf_55 : decode bS_leafOf 55 = .ok (.iload 4, 2) := by decide +kernel
theorem dS_leafOf_57 : decode bS_leafOf 57 = .ok (.if_icmp .ne 17, 3) := by decide +kernel
theorem dS_leafOf_60 : decode bS_leafOf 60 = .ok (.aload 5, 2) := by decide +kernel
theorem dS_leafOf_62 : decode bS_leafOf 62 = .ok (.aload_n 1, 1) := by decide +kernel
theorem dS_leafOf_63 : decode bS_leafOf 63 = .ok (.iload_n 2, 1) := by decide +kernel
theorem dS_leafOf_64 : decode bS_leafOf 64 = .ok (.iload_n 3, 1) := by decide +kernel
theorem dS_leafOf_65 : decode bS_leafOf 65 = .ok (.invokevirtual 38, 3) := by decide +kernel
theorem dS_leafOf_68 : decode bS_leafOf 68 = .ok (.ifCond .eq 6, 3) := by decide +kernel
theorem dS_leafOf_71 : decode bS_leafOf 71 = .ok (.aload 5, 2) := by decide +kernel
theorem dS_leafOf_73 : decode bS_leafOf 73 = .ok (.areturn, 1) := by decide +kernel
theorem dS_leafOf_74 : decode bS_leafOf 74 = .ok (.aload 5, 2) := by decide +kernel
theorem dS_leafOf_76 : decode bS_leafOf 76 = .ok (.getfield 42, 3) := by decide +kernel
theorem dS_leafOf_79 : decode bS_leafOf 79 = .ok (.astore 5, 2) := by decide +kernel
theorem dS_leafOf_81 : decode bS_leafOf 81 = .ok (.goto (-36), 3) := by decide +kernel
theorem dS_leafOf_84 : decode bS_leafOf 84 = .ok (.aload_n 0, 1) := by decide +kernel
theorem dS_leafOf_85 : decode bS_leafOf 85 = .ok (.new 9, 3) := by decide +kernel
theorem dS_leafOf_88 : decode bS_leafOf 88 = .ok (.dup, 1) := by decide +kernel
theorem dS_leafOf_89 : decode bS_leafOf 89 = .ok (.aload_n 1, 1) := by decide +kernel
theorem dS_leafOf_90 : decode bS_leafOf 90 = .ok (.iload_n 2, 1) := by decide +kernel
theorem dS_leafOf_91 : decode bS_leafOf 91 = .ok (.iload_n 3, 1) := by decide +kernel
theorem dS_leafOf_92 : decode bS_leafOf 92 = .ok (.iload 4, 2) := by decide +kernel
theorem dS_leafOf_94 : decode bS_leafOf 94 = .ok (.invokespecial 45, 3) := by decide +kernel
theorem dS_leafOf_97 : decode bS_leafOf 97 = .ok (.invokevirtual 48, 3) := by decide +kernel
theorem dS_leafOf_100 : decode bS_leafOf 100 = .ok (.areturn, 1) := by decide +kernel
theorem dS_bucketOf_0 : decode bS_bucketOf 0 = .ok (.iload_n 0, 1) := by decide +kernel
theorem dS_bucketOf_1 : decode bS_bucketOf 1 = .ok (.ldc 68, 2) := by decide +kernel
theorem dS_bucketOf_3 : decode bS_bucketOf 3 = .ok (.imul, 1) := by decide +kernel
theorem dS_bucketOf_4 : decode bS_bucketOf 4 = .ok (.bipush 22, 2) := by decide +kernel
theorem dS_bucketOf_6 : decode bS_bucketOf 6 = .ok (.iushr, 1) := by decide +kernel
theorem dS_bucketOf_7 : decode bS_bucketOf 7 = .ok (.ireturn, 1) := by decide +kernel
theorem dS_pend_0 : decode bS_pend 0 = .ok (.aload_n 1, 1) := by decide +kernel
theorem dS_pend_1 : decode bS_pend 1 = .ok (.aload_n 0, 1) := by decide +kernel
theorem dS_pend_2 : decode bS_pend 2 = .ok (.getfield 17, 3) := by decide +kernel
theorem dS_pend_5 : decode bS_pend 5 = .ok (.putfield 42, 3) := by decide +kernel
theorem dS_pend_8 : decode bS_pend 8 = .ok (.aload_n 0, 1) := by decide +kernel
theorem dS_pend_9 : decode bS_pend 9 = .ok (.aload_n 1, 1) := by decide +kernel
theorem dS_pend_10 : decode bS_pend 10 = .ok (.putfield 17, 3) := by decide +kernel
theorem dS_pend_13 : decode bS_pend 13 = .ok (.aload_n 1, 1) := by decide +kernel
theorem dS_pend_14 : decode bS_pend 14 = .ok (.areturn, 1) := by decide +kernel
theorem dS_keepPending_0 : decode bS_keepPending 0 = .ok (.iconst 0, 1) := by decide +kernel
theorem dS_keepPending_1 : decode bS_keepPending 1 = .ok (.istore_n 1, 1) := by decide +kernel
theorem dS_keepPending_2 : decode bS_keepPending 2 = .ok (.iconst 0, 1) := by decide +kernel
theorem dS_keepPending_3 : decode bS_keepPending 3 = .ok (.istore_n 2, 1) := by decide +kernel
theorem dS_keepPending_4 : decode bS_keepPending 4 = .ok (.aload_n 0, 1) := by decide +kernel
theorem dS_keepPending_5 : decode bS_keepPending 5 = .ok (.getfield 17, 3) := by decide +kernel
theorem dS_keepPending_8 : decode bS_keepPending 8 = .ok (.astore_n 3, 1) := by decide +kernel
theorem dS_keepPending_9 : decode bS_keepPending 9 = .ok (.aload_n 3, 1) := by decide +kernel
theorem dS_keepPending_10 : decode bS_keepPending 10 = .ok (.ifnull 21, 3) := by decide +kernel
theorem dS_keepPending_13 : decode bS_keepPending 13 = .ok (.iinc 1 1, 3) := by decide +kernel
theorem dS_keepPending_16 : decode bS_keepPending 16 = .ok (.iload_n 2, 1) := by decide +kernel
theorem dS_keepPending_17 : decode bS_keepPending 17 = .ok (.aload_n 3, 1) := by decide +kernel
theorem dS_keepPending_18 : decode bS_keepPending 18 = .ok (.getfield 59, 3) := by decide +kernel
theorem dS_keepPending_21 : decode bS_keepPending 21 = .ok (.iadd, 1) := by decide +kernel
theorem dS_keepPending_22 : decode bS_keepPending 22 = .ok (.istore_n 2, 1) := by decide +kernel
theorem dS_keepPending_23 : decode bS_keepPending 23 = .ok (.aload_n 3, 1) := by decide +kernel
theorem dS_keepPending_24 : decode bS_keepPending 24 = .ok (.getfield 42, 3) := by decide +kernel
theorem dS_keepPending_27 : decode bS_keepPending 27 = .ok (.astore_n 3, 1) := by decide +kernel
theorem dS_keepPending_28 : decode bS_keepPending 28 = .ok (.goto (-19), 3) := by decide +kernel
theorem dS_keepPending_31 : decode bS_keepPending 31 = .ok (.aload_n 0, 1) := by decide +kernel
theorem dS_keepPending_32 : decode bS_keepPending 32 = .ok (.getfield 17, 3) := by decide +kernel
theorem dS_keepPending_35 : decode bS_keepPending 35 = .ok (.astore_n 3, 1) := by decide +kernel
theorem dS_keepPending_36 : decode bS_keepPending 36 = .ok (.aload_n 0, 1) := by decide +kernel
theorem dS_keepPending_37 : decode bS_keepPending 37 = .ok (.aconst_null, 1) := by decide +kernel
theorem dS_keepPending_38 : decode bS_keepPending 38 = .ok (.putfield 17, 3) := by decide +kernel
theorem dS_keepPending_41 : decode bS_keepPending 41 = .ok (.aload_n 0, 1) := by decide +kernel
theorem dS_keepPending_42 : decode bS_keepPending 42 = .ok (.getfield 25, 3) := by decide +kernel
theorem dS_keepPending_45 : decode bS_keepPending 45 = .ok (.iload_n 2, 1) := by decide +kernel
theorem dS_keepPending_46 : decode bS_keepPending 46 = .ok (.iadd, 1) := by decide +kernel
theorem dS_keepPending_47 : decode bS_keepPending 47 = .ok (.ldc 60, 2) := by decide +kernel
theorem dS_keepPending_49 : decode bS_keepPending 49 = .ok (.if_icmp .le 6, 3) := by decide +kernel
theorem dS_keepPending_52 : decode bS_keepPending 52 = .ok (.bipush (-3), 2) := by decide +kernel
theorem dS_keepPending_54 : decode bS_keepPending 54 = .ok (.ireturn, 1) := by decide +kernel
theorem dS_keepPending_55 : decode bS_keepPending 55 = .ok (.aload_n 3, 1) := by decide +kernel
theorem dS_keepPending_56 : decode bS_keepPending 56 = .ok (.ifnull 20, 3) := by decide +kernel
theorem dS_keepPending_59 : decode bS_keepPending 59 = .ok (.aload_n 3, 1) := by decide +kernel
theorem dS_keepPending_60 : decode bS_keepPending 60 = .ok (.getfield 42, 3) := by decide +kernel
theorem dS_keepPending_63 : decode bS_keepPending 63 = .ok (.astore 4, 2) := by decide +kernel
theorem dS_keepPending_65 : decode bS_keepPending 65 = .ok (.aload_n 0, 1) := by decide +kernel
theorem dS_keepPending_66 : decode bS_keepPending 66 = .ok (.aload_n 3, 1) := by decide +kernel
theorem dS_keepPending_67 : decode bS_keepPending 67 = .ok (.invokevirtual 61, 3) := by decide +kernel
theorem dS_keepPending_70 : decode bS_keepPending 70 = .ok (.aload 4, 2) := by decide +kernel
theorem dS_keepPending_72 : decode bS_keepPending 72 = .ok (.astore_n 3, 1) := by decide +kernel
theorem dS_keepPending_73 : decode bS_keepPending 73 = .ok (.goto (-18), 3) := by decide +kernel
theorem dS_keepPending_76 : decode bS_keepPending 76 = .ok (.aload_n 0, 1) := by decide +kernel
theorem dS_keepPending_77 : decode bS_keepPending 77 = .ok (.dup, 1) := by decide +kernel
theorem dS_keepPending_78 : decode bS_keepPending 78 = .ok (.getfield 21, 3) := by decide +kernel
theorem dS_keepPending_81 : decode bS_keepPending 81 = .ok (.iload_n 1, 1) := by decide +kernel
theorem dS_keepPending_82 : decode bS_keepPending 82 = .ok (.iadd, 1) := by decide +kernel
theorem dS_keepPending_83 : decode bS_keepPending 83 = .ok (.putfield 21, 3) := by decide +kernel
theorem dS_keepPending_86 : decode bS_keepPending 86 = .ok (.aload_n 0, 1) := by decide +kernel
theorem dS_keepPending_87 : decode bS_keepPending 87 = .ok (.dup, 1) := by decide +kernel
theorem dS_keepPending_88 : decode bS_keepPending 88 = .ok (.getfield 25, 3) := by decide +kernel
theorem dS_keepPending_91 : decode bS_keepPending 91 = .ok (.iload_n 2, 1) := by decide +kernel
theorem dS_keepPending_92 : decode bS_keepPending 92 = .ok (.iadd, 1) := by decide +kernel
theorem dS_keepPending_93 : decode bS_keepPending 93 = .ok (.putfield 25, 3) := by decide +kernel
theorem dS_keepPending_96 : decode bS_keepPending 96 = .ok (.iload_n 1, 1) := by decide +kernel
theorem dS_keepPending_97 : decode bS_keepPending 97 = .ok (.ireturn, 1) := by decide +kernel
theorem dS_link_0 : decode bS_link 0 = .ok (.aload_n 1, 1) := by decide +kernel
theorem dS_link_1 : decode bS_link 1 = .ok (.getfield 37, 3) := by decide +kernel
theorem dS_link_4 : decode bS_link 4 = .ok (.invokestatic 33, 3) := by decide +kernel
theorem dS_link_7 : decode bS_link 7 = .ok (.istore_n 2, 1) := by decide +kernel
theorem dS_link_8 : decode bS_link 8 = .ok (.aload_n 1, 1) := by decide +kernel
theorem dS_link_9 : decode bS_link 9 = .ok (.aload_n 0, 1) := by decide +kernel
theorem dS_link_10 : decode bS_link 10 = .ok (.getfield 11, 3) := by decide +kernel
theorem dS_link_13 : decode bS_link 13 = .ok (.iload_n 2, 1) := by decide +kernel
theorem dS_link_14 : decode bS_link 14 = .ok (.aaload, 1) := by decide +kernel
theorem dS_link_15 : decode bS_link 15 = .ok (.putfield 42, 3) := by decide +kernel
theorem dS_link_18 : decode bS_link 18 = .ok (.aload_n 0, 1) := by decide +kernel
theorem dS_link_19 : decode bS_link 19 = .ok (.getfield 11, 3) := by decide +kernel
theorem dS_link_22 : decode bS_link 22 = .ok (.iload_n 2, 1) := by decide +kernel
theorem dS_link_23 : decode bS_link 23 = .ok (.aload_n 1, 1) := by decide +kernel
theorem dS_link_24 : decode bS_link 24 = .ok (.aastore, 1) := by decide +kernel
theorem dS_link_25 : decode bS_link 25 = .ok (.return_, 1) := by decide +kernel
theorem dS_branchOf_0 : decode bS_branchOf 0 = .ok (.iload_n 1, 1) := by decide +kernel
theorem dS_branchOf_1 : decode bS_branchOf 1 = .ok (.istore 5, 2) := by decide +kernel
theorem dS_branchOf_3 : decode bS_branchOf 3 = .ok (.iload_n 3, 1) := by decide +kernel
theorem dS_branchOf_4 : decode bS_branchOf 4 = .ok (.istore 6, 2) := by decide +kernel
theorem dS_branchOf_6 : decode bS_branchOf 6 = .ok (.iload 6, 2) := by decide +kernel
theorem dS_branchOf_8 : decode bS_branchOf 8 = .ok (.iload 4, 2) := by decide +kernel
theorem dS_branchOf_10 : decode bS_branchOf 10 = .ok (.if_icmp .ge 24, 3) := by decide +kernel
theorem dS_branchOf_13 : decode bS_branchOf 13 = .ok (.iload 5, 2) := by decide +kernel
theorem dS_branchOf_15 : decode bS_branchOf 15 = .ok (.bipush 31, 2) := by decide +kernel
theorem dS_branchOf_17 : decode bS_branchOf 17 = .ok (.imul, 1) := by decide +kernel
theorem dS_branchOf_18 : decode bS_branchOf 18 = .ok (.aload_n 2, 1) := by decide +kernel
theorem dS_branchOf_19 : decode bS_branchOf 19 = .ok (.iload 6, 2) := by decide +kernel
theorem dS_branchOf_21 : decode bS_branchOf 21 = .ok (.aaload, 1) := by decide +kernel
theorem dS_branchOf_22 : decode bS_branchOf 22 = .ok (.getfield 37, 3) := by decide +kernel
theorem dS_branchOf_25 : decode bS_branchOf 25 = .ok (.iadd, 1) := by decide +kernel
theorem dS_branchOf_26 : decode bS_branchOf 26 = .ok (.istore 5, 2) := by decide +kernel
theorem dS_branchOf_28 : decode bS_branchOf 28 = .ok (.iinc 6 1, 3) := by decide +kernel
theorem dS_branchOf_31 : decode bS_branchOf 31 = .ok (.goto (-25), 3) := by decide +kernel
theorem dS_branchOf_34 : decode bS_branchOf 34 = .ok (.aload_n 0, 1) := by decide +kernel
theorem dS_branchOf_35 : decode bS_branchOf 35 = .ok (.getfield 11, 3) := by decide +kernel
theorem dS_branchOf_38 : decode bS_branchOf 38 = .ok (.iload 5, 2) := by decide +kernel
theorem dS_branchOf_40 : decode bS_branchOf 40 = .ok (.invokestatic 33, 3) := by decide +kernel
theorem dS_branchOf_43 : decode bS_branchOf 43 = .ok (.aaload, 1) := by decide +kernel
theorem dS_branchOf_44 : decode bS_branchOf 44 = .ok (.astore 6, 2) := by decide +kernel
theorem dS_branchOf_46 : decode bS_branchOf 46 = .ok (.aload 6, 2) := by decide +kernel
theorem dS_branchOf_48 : decode bS_branchOf 48 = .ok (.ifnull 38, 3) := by decide +kernel
theorem dS_branchOf_51 : decode bS_branchOf 51 = .ok (.aload 6, 2) := by decide +kernel
theorem dS_branchOf_53 : decode bS_branchOf 53 = .ok (.getfield 37, 3) := by decide +kernel
theorem dS_branchOf_56 : decode bS_branchOf 56 = .ok (.iload 5, 2) := by decide +kernel
theorem dS_branchOf_58 : decode bS_branchOf 58 = .ok (.if_icmp .ne 18, 3) := by decide +kernel
theorem dS_branchOf_61 : decode bS_branchOf 61 = .ok (.aload 6, 2) := by decide +kernel
theorem dS_branchOf_63 : decode bS_branchOf 63 = .ok (.aload_n 2, 1) := by decide +kernel
theorem dS_branchOf_64 : decode bS_branchOf 64 = .ok (.iload_n 3, 1) := by decide +kernel
theorem dS_branchOf_65 : decode bS_branchOf 65 = .ok (.iload 4, 2) := by decide +kernel
theorem dS_branchOf_67 : decode bS_branchOf 67 = .ok (.invokevirtual 52, 3) := by decide +kernel
theorem dS_branchOf_70 : decode bS_branchOf 70 = .ok (.ifCond .eq 6, 3) := by decide +kernel
theorem dS_branchOf_73 : decode bS_branchOf 73 = .ok (.aload 6, 2) := by decide +kernel
theorem dS_branchOf_75 : decode bS_branchOf 75 = .ok (.areturn, 1) := by decide +kernel
theorem dS_branchOf_76 : decode bS_branchOf 76 = .ok (.aload 6, 2) := by decide +kernel
theorem dS_branchOf_78 : decode bS_branchOf 78 = .ok (.getfield 42, 3) := by decide +kernel
theorem dS_branchOf_81 : decode bS_branchOf 81 = .ok (.astore 6, 2) := by decide +kernel
theorem dS_branchOf_83 : decode bS_branchOf 83 = .ok (.goto (-37), 3) := by decide +kernel
theorem dS_branchOf_86 : decode bS_branchOf 86 = .ok (.aload_n 0, 1) := by decide +kernel
theorem dS_branchOf_87 : decode bS_branchOf 87 = .ok (.new 9, 3) := by decide +kernel
theorem dS_branchOf_90 : decode bS_branchOf 90 = .ok (.dup, 1) := by decide +kernel
theorem dS_branchOf_91 : decode bS_branchOf 91 = .ok (.iload_n 1, 1) := by decide +kernel
theorem dS_branchOf_92 : decode bS_branchOf 92 = .ok (.aload_n 2, 1) := by decide +kernel
theorem dS_branchOf_93 : decode bS_branchOf 93 = .ok (.iload_n 3, 1) := by decide +kernel
theorem dS_branchOf_94 : decode bS_branchOf 94 = .ok (.iload 4, 2) := by decide +kernel
theorem dS_branchOf_96 : decode bS_branchOf 96 = .ok (.iload 5, 2) := by decide +kernel
theorem dS_branchOf_98 : decode bS_branchOf 98 = .ok (.invokespecial 56, 3) := by decide +kernel
theorem dS_branchOf_101 : decode bS_branchOf 101 = .ok (.invokevirtual 48, 3) := by decide +kernel
theorem dS_branchOf_104 : decode bS_branchOf 104 = .ok (.areturn, 1) := by decide +kernel
theorem dS_dropWithout_0 : decode bS_dropWithout 0 = .ok (.iconst 0, 1) := by decide +kernel
theorem dS_dropWithout_1 : decode bS_dropWithout 1 = .ok (.istore_n 2, 1) := by decide +kernel
theorem dS_dropWithout_2 : decode bS_dropWithout 2 = .ok (.iconst 0, 1) := by decide +kernel
theorem dS_dropWithout_3 : decode bS_dropWithout 3 = .ok (.istore_n 3, 1) := by decide +kernel
theorem dS_dropWithout_4 : decode bS_dropWithout 4 = .ok (.iload_n 3, 1) := by decide +kernel
theorem dS_dropWithout_5 : decode bS_dropWithout 5 = .ok (.sipush 1024, 3) := by decide +kernel
theorem dS_dropWithout_8 : decode bS_dropWithout 8 = .ok (.if_icmp .ge 78, 3) := by decide +kernel
theorem dS_dropWithout_11 : decode bS_dropWithout 11 = .ok (.aload_n 0, 1) := by decide +kernel
theorem dS_dropWithout_12 : decode bS_dropWithout 12 = .ok (.getfield 11, 3) := by decide +kernel
theorem dS_dropWithout_15 : decode bS_dropWithout 15 = .ok (.iload_n 3, 1) := by decide +kernel
theorem dS_dropWithout_16 : decode bS_dropWithout 16 = .ok (.aaload, 1) := by decide +kernel
theorem dS_dropWithout_17 : decode bS_dropWithout 17 = .ok (.astore 4, 2) := by decide +kernel
theorem dS_dropWithout_19 : decode bS_dropWithout 19 = .ok (.aload_n 0, 1) := by decide +kernel
theorem dS_dropWithout_20 : decode bS_dropWithout 20 = .ok (.getfield 11, 3) := by decide +kernel
theorem dS_dropWithout_23 : decode bS_dropWithout 23 = .ok (.iload_n 3, 1) := by decide +kernel
theorem dS_dropWithout_24 : decode bS_dropWithout 24 = .ok (.aconst_null, 1) := by decide +kernel
theorem dS_dropWithout_25 : decode bS_dropWithout 25 = .ok (.aastore, 1) := by decide +kernel
theorem dS_dropWithout_26 : decode bS_dropWithout 26 = .ok (.aload 4, 2) := by decide +kernel
theorem dS_dropWithout_28 : decode bS_dropWithout 28 = .ok (.ifnull 52, 3) := by decide +kernel
theorem dS_dropWithout_31 : decode bS_dropWithout 31 = .ok (.aload 4, 2) := by decide +kernel
theorem dS_dropWithout_33 : decode bS_dropWithout 33 = .ok (.getfield 42, 3) := by decide +kernel
theorem dS_dropWithout_36 : decode bS_dropWithout 36 = .ok (.astore 5, 2) := by decide +kernel
theorem dS_dropWithout_38 : decode bS_dropWithout 38 = .ok (.aload 4, 2) := by decide +kernel
theorem dS_dropWithout_40 : decode bS_dropWithout 40 = .ok (.getfield 65, 3) := by decide +kernel
theorem dS_dropWithout_43 : decode bS_dropWithout 43 = .ok (.iload_n 1, 1) := by decide +kernel
theorem dS_dropWithout_44 : decode bS_dropWithout 44 = .ok (.if_icmp .ne 12, 3) := by decide +kernel
theorem dS_dropWithout_47 : decode bS_dropWithout 47 = .ok (.aload_n 0, 1) := by decide +kernel
theorem dS_dropWithout_48 : decode bS_dropWithout 48 = .ok (.aload 4, 2) := by decide +kernel
theorem dS_dropWithout_50 : decode bS_dropWithout 50 = .ok (.invokevirtual 61, 3) := by decide +kernel
theorem dS_dropWithout_53 : decode bS_dropWithout 53 = .ok (.goto 20, 3) := by decide +kernel
theorem dS_dropWithout_56 : decode bS_dropWithout 56 = .ok (.iinc 2 1, 3) := by decide +kernel
theorem dS_dropWithout_59 : decode bS_dropWithout 59 = .ok (.aload_n 0, 1) := by decide +kernel
theorem dS_dropWithout_60 : decode bS_dropWithout 60 = .ok (.dup, 1) := by decide +kernel
theorem dS_dropWithout_61 : decode bS_dropWithout 61 = .ok (.getfield 25, 3) := by decide +kernel
theorem dS_dropWithout_64 : decode bS_dropWithout 64 = .ok (.aload 4, 2) := by decide +kernel
theorem dS_dropWithout_66 : decode bS_dropWithout 66 = .ok (.getfield 59, 3) := by decide +kernel
theorem dS_dropWithout_69 : decode bS_dropWithout 69 = .ok (.isub, 1) := by decide +kernel
theorem dS_dropWithout_70 : decode bS_dropWithout 70 = .ok (.putfield 25, 3) := by decide +kernel
theorem dS_dropWithout_73 : decode bS_dropWithout 73 = .ok (.aload 5, 2) := by decide +kernel
theorem dS_dropWithout_75 : decode bS_dropWithout 75 = .ok (.astore 4, 2) := by decide +kernel
theorem dS_dropWithout_77 : decode bS_dropWithout 77 = .ok (.goto (-51), 3) := by decide +kernel
theorem dS_dropWithout_80 : decode bS_dropWithout 80 = .ok (.iinc 3 1, 3) := by decide +kernel
theorem dS_dropWithout_83 : decode bS_dropWithout 83 = .ok (.goto (-79), 3) := by decide +kernel
theorem dS_dropWithout_86 : decode bS_dropWithout 86 = .ok (.aload_n 0, 1) := by decide +kernel
theorem dS_dropWithout_87 : decode bS_dropWithout 87 = .ok (.dup, 1) := by decide +kernel
theorem dS_dropWithout_88 : decode bS_dropWithout 88 = .ok (.getfield 21, 3) := by decide +kernel
theorem dS_dropWithout_91 : decode bS_dropWithout 91 = .ok (.iload_n 2, 1) := by decide +kernel
theorem dS_dropWithout_92 : decode bS_dropWithout 92 = .ok (.isub, 1) := by decide +kernel
theorem dS_dropWithout_93 : decode bS_dropWithout 93 = .ok (.putfield 21, 3) := by decide +kernel
theorem dS_dropWithout_96 : decode bS_dropWithout 96 = .ok (.iload_n 2, 1) := by decide +kernel
theorem dS_dropWithout_97 : decode bS_dropWithout 97 = .ok (.ireturn, 1) := by decide +kernel
end
section
theorem dT_init_0 : decode bT_init 0 = .ok (.aload_n 0, 1) := by decide +kernel
theorem dT_init_1 : decode bT_init 1 = .ok (.invokespecial 1, 3) := by decide +kernel
theorem dT_init_4 : decode bT_init 4 = .ok (.aload_n 0, 1) := by decide +kernel
theorem dT_init_5 : decode bT_init 5 = .ok (.bipush 6, 2) := by decide +kernel
theorem dT_init_7 : decode bT_init 7 = .ok (.newarray .int, 2) := by decide +kernel
theorem dT_init_9 : decode bT_init 9 = .ok (.putfield 9, 3) := by decide +kernel
theorem dT_init_12 : decode bT_init 12 = .ok (.aload_n 0, 1) := by decide +kernel
theorem dT_init_13 : decode bT_init 13 = .ok (.bipush 6, 2) := by decide +kernel
theorem dT_init_15 : decode bT_init 15 = .ok (.anewarray 13, 3) := by decide +kernel
theorem dT_init_18 : decode bT_init 18 = .ok (.putfield 15, 3) := by decide +kernel
theorem dT_init_21 : decode bT_init 21 = .ok (.aload_n 0, 1) := by decide +kernel
theorem dT_init_22 : decode bT_init 22 = .ok (.new 19, 3) := by decide +kernel
theorem dT_init_25 : decode bT_init 25 = .ok (.dup, 1) := by decide +kernel
theorem dT_init_26 : decode bT_init 26 = .ok (.invokespecial 21, 3) := by decide +kernel
theorem dT_init_29 : decode bT_init 29 = .ok (.putfield 22, 3) := by decide +kernel
theorem dT_init_32 : decode bT_init 32 = .ok (.aload_n 0, 1) := by decide +kernel
theorem dT_init_33 : decode bT_init 33 = .ok (.new 26, 3) := by decide +kernel
theorem dT_init_36 : decode bT_init 36 = .ok (.dup, 1) := by decide +kernel
theorem dT_init_37 : decode bT_init 37 = .ok (.invokespecial 28, 3) := by decide +kernel
theorem dT_init_40 : decode bT_init 40 = .ok (.putfield 29, 3) := by decide +kernel
theorem dT_init_43 : decode bT_init 43 = .ok (.aload_n 0, 1) := by decide +kernel
theorem dT_init_44 : decode bT_init 44 = .ok (.new 33, 3) := by decide +kernel
theorem dT_init_47 : decode bT_init 47 = .ok (.dup, 1) := by decide +kernel
theorem dT_init_48 : decode bT_init 48 = .ok (.invokespecial 35, 3) := by decide +kernel
theorem dT_init_51 : decode bT_init 51 = .ok (.putfield 36, 3) := by decide +kernel
theorem dT_init_54 : decode bT_init 54 = .ok (.aload_n 0, 1) := by decide +kernel
theorem dT_init_55 : decode bT_init 55 = .ok (.new 33, 3) := by decide +kernel
theorem dT_init_58 : decode bT_init 58 = .ok (.dup, 1) := by decide +kernel
theorem dT_init_59 : decode bT_init 59 = .ok (.invokespecial 35, 3) := by decide +kernel
theorem dT_init_62 : decode bT_init 62 = .ok (.putfield 40, 3) := by decide +kernel
theorem dT_init_65 : decode bT_init 65 = .ok (.aload_n 0, 1) := by decide +kernel
theorem dT_init_66 : decode bT_init 66 = .ok (.sipush 300, 3) := by decide +kernel
theorem dT_init_69 : decode bT_init 69 = .ok (.anewarray 13, 3) := by decide +kernel
theorem dT_init_72 : decode bT_init 72 = .ok (.putfield 43, 3) := by decide +kernel
theorem dT_init_75 : decode bT_init 75 = .ok (.aload_n 0, 1) := by decide +kernel
theorem dT_init_76 : decode bT_init 76 = .ok (.iconst 0, 1) := by decide +kernel
theorem dT_init_77 : decode bT_init 77 = .ok (.putfield 46, 3) := by decide +kernel
theorem dT_init_80 : decode bT_init 80 = .ok (.aload_n 0, 1) := by decide +kernel
theorem dT_init_81 : decode bT_init 81 = .ok (.getfield 22, 3) := by decide +kernel
theorem dT_init_84 : decode bT_init 84 = .ok (.iconst 0, 1) := by decide +kernel
theorem dT_init_85 : decode bT_init 85 = .ok (.anewarray 50, 3) := by decide +kernel
theorem dT_init_88 : decode bT_init 88 = .ok (.iconst 0, 1) := by decide +kernel
theorem dT_init_89 : decode bT_init 89 = .ok (.iconst 0, 1) := by decide +kernel
theorem dT_init_90 : decode bT_init 90 = .ok (.invokevirtual 52, 3) := by decide +kernel
theorem dT_init_93 : decode bT_init 93 = .ok (.astore_n 1, 1) := by decide +kernel
theorem dT_init_94 : decode bT_init 94 = .ok (.aload_n 0, 1) := by decide +kernel
theorem dT_init_95 : decode bT_init 95 = .ok (.getfield 22, 3) := by decide +kernel
theorem dT_init_98 : decode bT_init 98 = .ok (.invokevirtual 56, 3) := by decide +kernel
theorem dT_init_101 : decode bT_init 101 = .ok (.pop, 1) := by decide +kernel
theorem dT_init_102 : decode bT_init 102 = .ok (.iconst 0, 1) := by decide +kernel
theorem dT_init_103 : decode bT_init 103 = .ok (.istore_n 2, 1) := by decide +kernel
theorem dT_init_104 : decode bT_init 104 = .ok (.iload_n 2, 1) := by decide +kernel
theorem dT_init_105 : decode bT_init 105 = .ok (.bipush 6, 2) := by decide +kernel
theorem dT_init_107 : decode bT_init 107 = .ok (.if_icmp .ge 23, 3) := by decide +kernel
theorem dT_init_110 : decode bT_init 110 = .ok (.aload_n 0, 1) := by decide +kernel
theorem dT_init_111 : decode bT_init 111 = .ok (.getfield 9, 3) := by decide +kernel
theorem dT_init_114 : decode bT_init 114 = .ok (.iload_n 2, 1) := by decide +kernel
theorem dT_init_115 : decode bT_init 115 = .ok (.iconst 1, 1) := by decide +kernel
theorem dT_init_116 : decode bT_init 116 = .ok (.iastore, 1) := by decide +kernel
theorem dT_init_117 : decode bT_init 117 = .ok (.aload_n 0, 1) := by decide +kernel
theorem dT_init_118 : decode bT_init 118 = .ok (.getfield 15, 3) := by decide +kernel
theorem dT_init_121 : decode bT_init 121 = .ok (.iload_n 2, 1) := by decide +kernel
theorem dT_init_122 : decode bT_init 122 = .ok (.aload_n 1, 1) := by decide +kernel
theorem dT_init_123 : decode bT_init 123 = .ok (.aastore, 1) := by decide +kernel
theorem dT_init_124 : decode bT_init 124 = .ok (.iinc 2 1, 3) := by decide +kernel
theorem dT_init_127 : decode bT_init 127 = .ok (.goto (-23), 3) := by decide +kernel
theorem dT_init_130 : decode bT_init 130 = .ok (.return_, 1) := by decide +kernel
theorem dT_make_0 : decode bT_make 0 = .ok (.iload_n 1, 1) := by decide +kernel
theorem dT_make_1 : decode bT_make 1 = .ok (.invokestatic 60, 3) := by decide +kernel
theorem dT_make_4 : decode bT_make 4 = .ok (.ifCond .eq 14, 3) := by decide +kernel
theorem dT_make_7 : decode bT_make 7 = .ok (.iload_n 2, 1) := by decide +kernel
theorem dT_make_8 : decode bT_make 8 = .ok (.iconst 1, 1) := by decide +kernel
theorem dT_make_9 : decode bT_make 9 = .ok (.if_icmp .lt 9, 3) := by decide +kernel
theorem dT_make_12 : decode bT_make 12 = .ok (.iload_n 2, 1) := by decide +kernel
theorem dT_make_13 : decode bT_make 13 = .ok (.bipush 6, 2) := by decide +kernel
theorem dT_make_15 : decode bT_make 15 = .ok (.if_icmp .le 5, 3) := by decide +kernel
theorem dT_make_18 : decode bT_make 18 = .ok (.iconst (-1), 1) := by decide +kernel
theorem dT_make_19 : decode bT_make 19 = .ok (.ireturn, 1) := by decide +kernel
theorem dT_make_20 : decode bT_make 20 = .ok (.aload_n 0, 1) := by decide +kernel
theorem dT_make_21 : decode bT_make 21 = .ok (.getfield 36, 3) := by decide +kernel
theorem dT_make_24 : decode bT_make 24 = .ok (.iconst 0, 1) := by decide +kernel
theorem dT_make_25 : decode bT_make 25 = .ok (.putfield 64, 3) := by decide +kernel
theorem dT_make_28 : decode bT_make 28 = .ok (.aload_n 0, 1) := by decide +kernel
theorem dT_make_29 : decode bT_make 29 = .ok (.iload_n 1, 1) := by decide +kernel
theorem dT_make_30 : decode bT_make 30 = .ok (.invokevirtual 67, 3) := by decide +kernel
theorem dT_make_33 : decode bT_make 33 = .ok (.istore_n 3, 1) := by decide +kernel
theorem dT_make_34 : decode bT_make 34 = .ok (.iload_n 3, 1) := by decide +kernel
theorem dT_make_35 : decode bT_make 35 = .ok (.bipush (-3), 2) := by decide +kernel
theorem dT_make_37 : decode bT_make 37 = .ok (.if_icmp .eq 10, 3) := by decide +kernel
theorem dT_make_40 : decode bT_make 40 = .ok (.aload_n 0, 1) := by decide +kernel
theorem dT_make_41 : decode bT_make 41 = .ok (.getfield 9, 3) := by decide +kernel
theorem dT_make_44 : decode bT_make 44 = .ok (.iload_n 1, 1) := by decide +kernel
theorem dT_make_45 : decode bT_make 45 = .ok (.iload_n 2, 1) := by decide +kernel
theorem dT_make_46 : decode bT_make 46 = .ok (.iastore, 1) := by decide +kernel
theorem dT_make_47 : decode bT_make 47 = .ok (.iload_n 3, 1) := by decide +kernel
theorem dT_make_48 : decode bT_make 48 = .ok (.ireturn, 1) := by decide +kernel
theorem dT_isTable_0 : decode bT_isTable 0 = .ok (.iload_n 0, 1) := by decide +kernel
theorem dT_isTable_1 : decode bT_isTable 1 = .ok (.ifCond .lt 13, 3) := by decide +kernel
theorem dT_isTable_4 : decode bT_isTable 4 = .ok (.iload_n 0, 1) := by decide +kernel
theorem dT_isTable_5 : decode bT_isTable 5 = .ok (.bipush 6, 2) := by decide +kernel
theorem dT_isTable_7 : decode bT_isTable 7 = .ok (.if_icmp .ge 7, 3) := by decide +kernel
theorem dT_isTable_10 : decode bT_isTable 10 = .ok (.iconst 1, 1) := by decide +kernel
theorem dT_isTable_11 : decode bT_isTable 11 = .ok (.goto 4, 3) := by decide +kernel
theorem dT_isTable_14 : decode bT_isTable 14 = .ok (.iconst 0, 1) := by decide +kernel
theorem dT_isTable_15 : decode bT_isTable 15 = .ok (.ireturn, 1) := by decide +kernel
theorem dT_plantDraft_0 : decode bT_plantDraft 0 = .ok (.aload_n 0, 1) := by decide +kernel
theorem dT_plantDraft_1 : decode bT_plantDraft 1 = .ok (.invokevirtual 171, 3) := by decide +kernel
theorem dT_plantDraft_4 : decode bT_plantDraft 4 = .ok (.istore_n 2, 1) := by decide +kernel
theorem dT_plantDraft_5 : decode bT_plantDraft 5 = .ok (.iconst 1, 1) := by decide +kernel
theorem dT_plantDraft_6 : decode bT_plantDraft 6 = .ok (.istore_n 3, 1) := by decide +kernel
theorem dT_plantDraft_7 : decode bT_plantDraft 7 = .ok (.iload_n 3, 1) := by decide +kernel
theorem dT_plantDraft_8 : decode bT_plantDraft 8 = .ok (.iconst 5, 1) := by decide +kernel
theorem dT_plantDraft_9 : decode bT_plantDraft 9 = .ok (.if_icmp .gt 21, 3) := by decide +kernel
theorem dT_plantDraft_12 : decode bT_plantDraft 12 = .ok (.iload_n 2, 1) := by decide +kernel
theorem dT_plantDraft_13 : decode bT_plantDraft 13 = .ok (.iconst 1, 1) := by decide +kernel
theorem dT_plantDraft_14 : decode bT_plantDraft 14 = .ok (.if_icmp .le 16, 3) := by decide +kernel
theorem dT_plantDraft_17 : decode bT_plantDraft 17 = .ok (.aload_n 0, 1) := by decide +kernel
theorem dT_plantDraft_18 : decode bT_plantDraft 18 = .ok (.iload_n 3, 1) := by decide +kernel
theorem dT_plantDraft_19 : decode bT_plantDraft 19 = .ok (.iload_n 2, 1) := by decide +kernel
theorem dT_plantDraft_20 : decode bT_plantDraft 20 = .ok (.invokevirtual 174, 3) := by decide +kernel
theorem dT_plantDraft_23 : decode bT_plantDraft 23 = .ok (.istore_n 2, 1) := by decide +kernel
theorem dT_plantDraft_24 : decode bT_plantDraft 24 = .ok (.iinc 3 1, 3) := by decide +kernel
theorem dT_plantDraft_27 : decode bT_plantDraft 27 = .ok (.goto (-20), 3) := by decide +kernel
theorem dT_plantDraft_30 : decode bT_plantDraft 30 = .ok (.aload_n 0, 1) := by decide +kernel
theorem dT_plantDraft_31 : decode bT_plantDraft 31 = .ok (.getfield 22, 3) := by decide +kernel
theorem dT_plantDraft_34 : decode bT_plantDraft 34 = .ok (.invokevirtual 56, 3) := by decide +kernel
theorem dT_plantDraft_37 : decode bT_plantDraft 37 = .ok (.istore_n 3, 1) := by decide +kernel
theorem dT_plantDraft_38 : decode bT_plantDraft 38 = .ok (.iload_n 3, 1) := by decide +kernel
theorem dT_plantDraft_39 : decode bT_plantDraft 39 = .ok (.bipush (-3), 2) := by decide +kernel
theorem dT_plantDraft_41 : decode bT_plantDraft 41 = .ok (.if_icmp .eq 15, 3) := by decide +kernel
theorem dT_plantDraft_44 : decode bT_plantDraft 44 = .ok (.aload_n 0, 1) := by decide +kernel
theorem dT_plantDraft_45 : decode bT_plantDraft 45 = .ok (.getfield 15, 3) := by decide +kernel
theorem dT_plantDraft_48 : decode bT_plantDraft 48 = .ok (.iload_n 1, 1) := by decide +kernel
theorem dT_plantDraft_49 : decode bT_plantDraft 49 = .ok (.aload_n 0, 1) := by decide +kernel
theorem dT_plantDraft_50 : decode bT_plantDraft 50 = .ok (.getfield 43, 3) := by decide +kernel
theorem dT_plantDraft_53 : decode bT_plantDraft 53 = .ok (.iconst 0, 1) := by decide +kernel
theorem dT_plantDraft_54 : decode bT_plantDraft 54 = .ok (.aaload, 1) := by decide +kernel
theorem dT_plantDraft_55 : decode bT_plantDraft 55 = .ok (.aastore, 1) := by decide +kernel
theorem dT_plantDraft_56 : decode bT_plantDraft 56 = .ok (.iload_n 3, 1) := by decide +kernel
theorem dT_plantDraft_57 : decode bT_plantDraft 57 = .ok (.ireturn, 1) := by decide +kernel
theorem dT_groupRows_0 : decode bT_groupRows 0 = .ok (.aload_n 0, 1) := by decide +kernel
theorem dT_groupRows_1 : decode bT_groupRows 1 = .ok (.getfield 36, 3) := by decide +kernel
theorem dT_groupRows_4 : decode bT_groupRows 4 = .ok (.getfield 64, 3) := by decide +kernel
theorem dT_groupRows_7 : decode bT_groupRows 7 = .ok (.ifCond .ne 27, 3) := by decide +kernel
theorem dT_groupRows_10 : decode bT_groupRows 10 = .ok (.aload_n 0, 1) := by decide +kernel
theorem dT_groupRows_11 : decode bT_groupRows 11 = .ok (.getfield 43, 3) := by decide +kernel
theorem dT_groupRows_14 : decode bT_groupRows 14 = .ok (.iconst 0, 1) := by decide +kernel
theorem dT_groupRows_15 : decode bT_groupRows 15 = .ok (.aload_n 0, 1) := by decide +kernel
theorem dT_groupRows_16 : decode bT_groupRows 16 = .ok (.getfield 22, 3) := by decide +kernel
theorem dT_groupRows_19 : decode bT_groupRows 19 = .ok (.aload_n 0, 1) := by decide +kernel
theorem dT_groupRows_20 : decode bT_groupRows 20 = .ok (.getfield 36, 3) := by decide +kernel
theorem dT_groupRows_23 : decode bT_groupRows 23 = .ok (.getfield 93, 3) := by decide +kernel
theorem dT_groupRows_26 : decode bT_groupRows 26 = .ok (.iconst 0, 1) := by decide +kernel
theorem dT_groupRows_27 : decode bT_groupRows 27 = .ok (.iconst 0, 1) := by decide +kernel
theorem dT_groupRows_28 : decode bT_groupRows 28 = .ok (.invokevirtual 52, 3) := by decide +kernel
theorem dT_groupRows_31 : decode bT_groupRows 31 = .ok (.aastore, 1) := by decide +kernel
theorem dT_groupRows_32 : decode bT_groupRows 32 = .ok (.iconst 1, 1) := by decide +kernel
theorem dT_groupRows_33 : decode bT_groupRows 33 = .ok (.ireturn, 1) := by decide +kernel
theorem dT_groupRows_34 : decode bT_groupRows 34 = .ok (.iconst 0, 1) := by decide +kernel
theorem dT_groupRows_35 : decode bT_groupRows 35 = .ok (.istore_n 1, 1) := by decide +kernel
theorem dT_groupRows_36 : decode bT_groupRows 36 = .ok (.iconst 0, 1) := by decide +kernel
theorem dT_groupRows_37 : decode bT_groupRows 37 = .ok (.istore_n 2, 1) := by decide +kernel
theorem dT_groupRows_38 : decode bT_groupRows 38 = .ok (.iconst 0, 1) := by decide +kernel
theorem dT_groupRows_39 : decode bT_groupRows 39 = .ok (.istore_n 3, 1) := by decide +kernel
theorem dT_groupRows_40 : decode bT_groupRows 40 = .ok (.iload_n 3, 1) := by decide +kernel
theorem dT_groupRows_41 : decode bT_groupRows 41 = .ok (.aload_n 0, 1) := by decide +kernel
theorem dT_groupRows_42 : decode bT_groupRows 42 = .ok (.getfield 36, 3) := by decide +kernel
theorem dT_groupRows_45 : decode bT_groupRows 45 = .ok (.getfield 64, 3) := by decide +kernel
theorem dT_groupRows_48 : decode bT_groupRows 48 = .ok (.if_icmp .ge 69, 3) := by decide +kernel
theorem dT_groupRows_51 : decode bT_groupRows 51 = .ok (.aload_n 0, 1) := by decide +kernel
theorem dT_groupRows_52 : decode bT_groupRows 52 = .ok (.getfield 36, 3) := by decide +kernel
theorem dT_groupRows_55 : decode bT_groupRows 55 = .ok (.getfield 93, 3) := by decide +kernel
theorem dT_groupRows_58 : decode bT_groupRows 58 = .ok (.iload_n 3, 1) := by decide +kernel
theorem dT_groupRows_59 : decode bT_groupRows 59 = .ok (.aaload, 1) := by decide +kernel
theorem dT_groupRows_60 : decode bT_groupRows 60 = .ok (.getfield 178, 3) := by decide +kernel
theorem dT_groupRows_63 : decode bT_groupRows 63 = .ok (.iconst 1, 1) := by decide +kernel
theorem dT_groupRows_64 : decode bT_groupRows 64 = .ok (.if_icmp .ge 16, 3) := by decide +kernel
theorem dT_groupRows_67 : decode bT_groupRows 67 = .ok (.iload_n 3, 1) := by decide +kernel
theorem dT_groupRows_68 : decode bT_groupRows 68 = .ok (.iconst 1, 1) := by decide +kernel
theorem dT_groupRows_69 : decode bT_groupRows 69 = .ok (.iadd, 1) := by decide +kernel
theorem dT_groupRows_70 : decode bT_groupRows 70 = .ok (.aload_n 0, 1) := by decide +kernel
theorem dT_groupRows_71 : decode bT_groupRows 71 = .ok (.getfield 36, 3) := by decide +kernel
theorem dT_groupRows_74 : decode bT_groupRows 74 = .ok (.getfield 64, 3) := by decide +kernel
theorem dT_groupRows_77 : decode bT_groupRows 77 = .ok (.if_icmp .ne 34, 3) := by decide +kernel
theorem dT_groupRows_80 : decode bT_groupRows 80 = .ok (.aload_n 0, 1) := by decide +kernel
theorem dT_groupRows_81 : decode bT_groupRows 81 = .ok (.getfield 43, 3) := by decide +kernel
theorem dT_groupRows_84 : decode bT_groupRows 84 = .ok (.iload_n 1, 1) := by decide +kernel
theorem dT_groupRows_85 : decode bT_groupRows 85 = .ok (.aload_n 0, 1) := by decide +kernel
theorem dT_groupRows_86 : decode bT_groupRows 86 = .ok (.getfield 22, 3) := by decide +kernel
theorem dT_groupRows_89 : decode bT_groupRows 89 = .ok (.aload_n 0, 1) := by decide +kernel
theorem dT_groupRows_90 : decode bT_groupRows 90 = .ok (.getfield 36, 3) := by decide +kernel
theorem dT_groupRows_93 : decode bT_groupRows 93 = .ok (.getfield 93, 3) := by decide +kernel
theorem dT_groupRows_96 : decode bT_groupRows 96 = .ok (.iload_n 2, 1) := by decide +kernel
theorem dT_groupRows_97 : decode bT_groupRows 97 = .ok (.iload_n 3, 1) := by decide +kernel
theorem dT_groupRows_98 : decode bT_groupRows 98 = .ok (.iconst 1, 1) := by decide +kernel
theorem dT_groupRows_99 : decode bT_groupRows 99 = .ok (.iadd, 1) := by decide +kernel
theorem dT_groupRows_100 : decode bT_groupRows 100 = .ok (.invokevirtual 52, 3) := by decide +kernel
theorem dT_groupRows_103 : decode bT_groupRows 103 = .ok (.aastore, 1) := by decide +kernel
theorem dT_groupRows_104 : decode bT_groupRows 104 = .ok (.iinc 1 1, 3) := by decide +kernel
theorem dT_groupRows_107 : decode bT_groupRows 107 = .ok (.iload_n 3, 1) := by decide +kernel
theorem dT_groupRows_108 : decode bT_groupRows 108 = .ok (.iconst 1, 1) := by decide +kernel
theorem dT_groupRows_109 : decode bT_groupRows 109 = .ok (.iadd, 1) := by decide +kernel
theorem dT_groupRows_110 : decode bT_groupRows 110 = .ok (.istore_n 2, 1) := by decide +kernel
theorem dT_groupRows_111 : decode bT_groupRows 111 = .ok (.iinc 3 1, 3) := by decide +kernel
theorem dT_groupRows_114 : decode bT_groupRows 114 = .ok (.goto (-74), 3) := by decide +kernel
theorem dT_groupRows_117 : decode bT_groupRows 117 = .ok (.iload_n 1, 1) := by decide +kernel
theorem dT_groupRows_118 : decode bT_groupRows 118 = .ok (.ireturn, 1) := by decide +kernel
theorem dT_groupNodes_0 : decode bT_groupNodes 0 = .ok (.iconst 0, 1) := by decide +kernel
theorem dT_groupNodes_1 : decode bT_groupNodes 1 = .ok (.istore_n 3, 1) := by decide +kernel
theorem dT_groupNodes_2 : decode bT_groupNodes 2 = .ok (.iconst 0, 1) := by decide +kernel
theorem dT_groupNodes_3 : decode bT_groupNodes 3 = .ok (.istore 4, 2) := by decide +kernel
theorem dT_groupNodes_5 : decode bT_groupNodes 5 = .ok (.iconst 0, 1) := by decide +kernel
theorem dT_groupNodes_6 : decode bT_groupNodes 6 = .ok (.istore 5, 2) := by decide +kernel
theorem dT_groupNodes_8 : decode bT_groupNodes 8 = .ok (.iload 5, 2) := by decide +kernel
theorem dT_groupNodes_10 : decode bT_groupNodes 10 = .ok (.iload_n 2, 1) := by decide +kernel
theorem dT_groupNodes_11 : decode bT_groupNodes 11 = .ok (.if_icmp .ge 66, 3) := by decide +kernel
theorem dT_groupNodes_14 : decode bT_groupNodes 14 = .ok (.aload_n 0, 1) := by decide +kernel
theorem dT_groupNodes_15 : decode bT_groupNodes 15 = .ok (.getfield 43, 3) := by decide +kernel
theorem dT_groupNodes_18 : decode bT_groupNodes 18 = .ok (.iload 5, 2) := by decide +kernel
theorem dT_groupNodes_20 : decode bT_groupNodes 20 = .ok (.aaload, 1) := by decide +kernel
theorem dT_groupNodes_21 : decode bT_groupNodes 21 = .ok (.getfield 181, 3) := by decide +kernel
theorem dT_groupNodes_24 : decode bT_groupNodes 24 = .ok (.iload_n 1, 1) := by decide +kernel
theorem dT_groupNodes_25 : decode bT_groupNodes 25 = .ok (.iconst 1, 1) := by decide +kernel
theorem dT_groupNodes_26 : decode bT_groupNodes 26 = .ok (.iadd, 1) := by decide +kernel
theorem dT_groupNodes_27 : decode bT_groupNodes 27 = .ok (.if_icmp .ge 11, 3) := by decide +kernel
theorem dT_groupNodes_30 : decode bT_groupNodes 30 = .ok (.iload 5, 2) := by decide +kernel
theorem dT_groupNodes_32 : decode bT_groupNodes 32 = .ok (.iconst 1, 1) := by decide +kernel
theorem dT_groupNodes_33 : decode bT_groupNodes 33 = .ok (.iadd, 1) := by decide +kernel
theorem dT_groupNodes_34 : decode bT_groupNodes 34 = .ok (.iload_n 2, 1) := by decide +kernel
theorem dT_groupNodes_35 : decode bT_groupNodes 35 = .ok (.if_icmp .ne 36, 3) := by decide +kernel
theorem dT_groupNodes_38 : decode bT_groupNodes 38 = .ok (.aload_n 0, 1) := by decide +kernel
theorem dT_groupNodes_39 : decode bT_groupNodes 39 = .ok (.getfield 43, 3) := by decide +kernel
theorem dT_groupNodes_42 : decode bT_groupNodes 42 = .ok (.iload_n 3, 1) := by decide +kernel
theorem dT_groupNodes_43 : decode bT_groupNodes 43 = .ok (.aload_n 0, 1) := by decide +kernel
theorem dT_groupNodes_44 : decode bT_groupNodes 44 = .ok (.getfield 22, 3) := by decide +kernel
theorem dT_groupNodes_47 : decode bT_groupNodes 47 = .ok (.iload_n 1, 1) := by decide +kernel
theorem dT_groupNodes_48 : decode bT_groupNodes 48 = .ok (.aload_n 0, 1) := by decide +kernel
theorem dT_groupNodes_49 : decode bT_groupNodes 49 = .ok (.getfield 43, 3) := by decide +kernel
theorem dT_groupNodes_52 : decode bT_groupNodes 52 = .ok (.iload 4, 2) := by decide +kernel
theorem dT_groupNodes_54 : decode bT_groupNodes 54 = .ok (.iload 5, 2) := by decide +kernel
theorem dT_groupNodes_56 : decode bT_groupNodes 56 = .ok (.iconst 1, 1) := by decide +kernel
theorem dT_groupNodes_57 : decode bT_groupNodes 57 = .ok (.iadd, 1) := by decide +kernel
theorem dT_groupNodes_58 : decode bT_groupNodes 58 = .ok (.invokevirtual 184, 3) := by decide +kernel
theorem dT_groupNodes_61 : decode bT_groupNodes 61 = .ok (.aastore, 1) := by decide +kernel
theorem dT_groupNodes_62 : decode bT_groupNodes 62 = .ok (.iinc 3 1, 3) := by decide +kernel
theorem dT_groupNodes_65 : decode bT_groupNodes 65 = .ok (.iload 5, 2) := by decide +kernel
theorem dT_groupNodes_67 : decode bT_groupNodes 67 = .ok (.iconst 1, 1) := by decide +kernel
theorem dT_groupNodes_68 : decode bT_groupNodes 68 = .ok (.iadd, 1) := by decide +kernel
theorem dT_groupNodes_69 : decode bT_groupNodes 69 = .ok (.istore 4, 2) := by decide +kernel
theorem dT_groupNodes_71 : decode bT_groupNodes 71 = .ok (.iinc 5 1, 3) := by decide +kernel
theorem dT_groupNodes_74 : decode bT_groupNodes 74 = .ok (.goto (-66), 3) := by decide +kernel
theorem dT_groupNodes_77 : decode bT_groupNodes 77 = .ok (.iload_n 3, 1) := by decide +kernel
theorem dT_groupNodes_78 : decode bT_groupNodes 78 = .ok (.ireturn, 1) := by decide +kernel
theorem dT_put_0 : decode bT_put 0 = .ok (.aload_n 0, 1) := by decide +kernel
theorem dT_put_1 : decode bT_put 1 = .ok (.iload_n 1, 1) := by decide +kernel
theorem dT_put_2 : decode bT_put 2 = .ok (.iload_n 3, 1) := by decide +kernel
theorem dT_put_3 : decode bT_put 3 = .ok (.invokevirtual 71, 3) := by decide +kernel
theorem dT_put_6 : decode bT_put 6 = .ok (.ifCond .ne 5, 3) := by decide +kernel
theorem dT_put_9 : decode bT_put 9 = .ok (.iconst (-1), 1) := by decide +kernel
theorem dT_put_10 : decode bT_put 10 = .ok (.ireturn, 1) := by decide +kernel
theorem dT_put_11 : decode bT_put 11 = .ok (.aload_n 0, 1) := by decide +kernel
theorem dT_put_12 : decode bT_put 12 = .ok (.iload_n 1, 1) := by decide +kernel
theorem dT_put_13 : decode bT_put 13 = .ok (.invokevirtual 75, 3) := by decide +kernel
theorem dT_put_16 : decode bT_put 16 = .ok (.aload_n 0, 1) := by decide +kernel
theorem dT_put_17 : decode bT_put 17 = .ok (.getfield 36, 3) := by decide +kernel
theorem dT_put_20 : decode bT_put 20 = .ok (.iload_n 2, 1) := by decide +kernel
theorem dT_put_21 : decode bT_put 21 = .ok (.invokevirtual 79, 3) := by decide +kernel
theorem dT_put_24 : decode bT_put 24 = .ok (.istore 6, 2) := by decide +kernel
theorem dT_put_26 : decode bT_put 26 = .ok (.aload_n 0, 1) := by decide +kernel
theorem dT_put_27 : decode bT_put 27 = .ok (.getfield 36, 3) := by decide +kernel
theorem dT_put_30 : decode bT_put 30 = .ok (.iload 6, 2) := by decide +kernel
theorem dT_put_32 : decode bT_put 32 = .ok (.iload_n 2, 1) := by decide +kernel
theorem dT_put_33 : decode bT_put 33 = .ok (.invokevirtual 82, 3) := by decide +kernel
theorem dT_put_36 : decode bT_put 36 = .ok (.ifCond .ne 38, 3) := by decide +kernel
theorem dT_put_39 : decode bT_put 39 = .ok (.aload_n 0, 1) := by decide +kernel
theorem dT_put_40 : decode bT_put 40 = .ok (.getfield 36, 3) := by decide +kernel
theorem dT_put_43 : decode bT_put 43 = .ok (.getfield 64, 3) := by decide +kernel
theorem dT_put_46 : decode bT_put 46 = .ok (.sipush 300, 3) := by decide +kernel
theorem dT_put_49 : decode bT_put 49 = .ok (.if_icmp .lt 6, 3) := by decide +kernel
theorem dT_put_52 : decode bT_put 52 = .ok (.bipush (-3), 2) := by decide +kernel
theorem dT_put_54 : decode bT_put 54 = .ok (.ireturn, 1) := by decide +kernel
theorem dT_put_55 : decode bT_put 55 = .ok (.aload_n 0, 1) := by decide +kernel
theorem dT_put_56 : decode bT_put 56 = .ok (.getfield 36, 3) := by decide +kernel
theorem dT_put_59 : decode bT_put 59 = .ok (.iload 6, 2) := by decide +kernel
theorem dT_put_61 : decode bT_put 61 = .ok (.iload_n 2, 1) := by decide +kernel
theorem dT_put_62 : decode bT_put 62 = .ok (.aload_n 0, 1) := by decide +kernel
theorem dT_put_63 : decode bT_put 63 = .ok (.getfield 9, 3) := by decide +kernel
theorem dT_put_66 : decode bT_put 66 = .ok (.iload_n 1, 1) := by decide +kernel
theorem dT_put_67 : decode bT_put 67 = .ok (.iaload, 1) := by decide +kernel
theorem dT_put_68 : decode bT_put 68 = .ok (.invokestatic 85, 3) := by decide +kernel
theorem dT_put_71 : decode bT_put 71 = .ok (.invokevirtual 89, 3) := by decide +kernel
theorem dT_put_74 : decode bT_put 74 = .ok (.aload_n 0, 1) := by decide +kernel
theorem dT_put_75 : decode bT_put 75 = .ok (.getfield 36, 3) := by decide +kernel
theorem dT_put_78 : decode bT_put 78 = .ok (.getfield 93, 3) := by decide +kernel
theorem dT_put_81 : decode bT_put 81 = .ok (.iload 6, 2) := by decide +kernel
theorem dT_put_83 : decode bT_put 83 = .ok (.aload_n 0, 1) := by decide +kernel
theorem dT_put_84 : decode bT_put 84 = .ok (.getfield 36, 3) := by decide +kernel
theorem dT_put_87 : decode bT_put 87 = .ok (.getfield 93, 3) := by decide +kernel
theorem dT_put_90 : decode bT_put 90 = .ok (.iload 6, 2) := by decide +kernel
theorem dT_put_92 : decode bT_put 92 = .ok (.aaload, 1) := by decide +kernel
theorem dT_put_93 : decode bT_put 93 = .ok (.iload_n 3, 1) := by decide +kernel
theorem dT_put_94 : decode bT_put 94 = .ok (.iload 4, 2) := by decide +kernel
theorem dT_put_96 : decode bT_put 96 = .ok (.iload 5, 2) := by decide +kernel
theorem dT_put_98 : decode bT_put 98 = .ok (.invokevirtual 97, 3) := by decide +kernel
theorem dT_put_101 : decode bT_put 101 = .ok (.aastore, 1) := by decide +kernel
theorem dT_put_102 : decode bT_put 102 = .ok (.aload_n 0, 1) := by decide +kernel
theorem dT_put_103 : decode bT_put 103 = .ok (.iload_n 1, 1) := by decide +kernel
theorem dT_put_104 : decode bT_put 104 = .ok (.invokevirtual 67, 3) := by decide +kernel
theorem dT_put_107 : decode bT_put 107 = .ok (.ireturn, 1) := by decide +kernel
theorem dT_isColumn_0 : decode bT_isColumn 0 = .ok (.iload_n 1, 1) := by decide +kernel
theorem dT_isColumn_1 : decode bT_isColumn 1 = .ok (.invokestatic 60, 3) := by decide +kernel
theorem dT_isColumn_4 : decode bT_isColumn 4 = .ok (.ifCond .eq 21, 3) := by decide +kernel
theorem dT_isColumn_7 : decode bT_isColumn 7 = .ok (.iload_n 2, 1) := by decide +kernel
theorem dT_isColumn_8 : decode bT_isColumn 8 = .ok (.ifCond .lt 17, 3) := by decide +kernel
theorem dT_isColumn_11 : decode bT_isColumn 11 = .ok (.iload_n 2, 1) := by decide +kernel
theorem dT_isColumn_12 : decode bT_isColumn 12 = .ok (.aload_n 0, 1) := by decide +kernel
theorem dT_isColumn_13 : decode bT_isColumn 13 = .ok (.getfield 9, 3) := by decide +kernel
theorem dT_isColumn_16 : decode bT_isColumn 16 = .ok (.iload_n 1, 1) := by decide +kernel
theorem dT_isColumn_17 : decode bT_isColumn 17 = .ok (.iaload, 1) := by decide +kernel
theorem dT_isColumn_18 : decode bT_isColumn 18 = .ok (.if_icmp .ge 7, 3) := by decide +kernel
theorem dT_isColumn_21 : decode bT_isColumn 21 = .ok (.iconst 1, 1) := by decide +kernel
theorem dT_isColumn_22 : decode bT_isColumn 22 = .ok (.goto 4, 3) := by decide +kernel
theorem dT_isColumn_25 : decode bT_isColumn 25 = .ok (.iconst 0, 1) := by decide +kernel
theorem dT_isColumn_26 : decode bT_isColumn 26 = .ok (.ireturn, 1) := by decide +kernel
theorem dT_draftRowsOf_0 : decode bT_draftRowsOf 0 = .ok (.aload_n 0, 1) := by decide +kernel
theorem dT_draftRowsOf_1 : decode bT_draftRowsOf 1 = .ok (.getfield 36, 3) := by decide +kernel
theorem dT_draftRowsOf_4 : decode bT_draftRowsOf 4 = .ok (.iconst 0, 1) := by decide +kernel
theorem dT_draftRowsOf_5 : decode bT_draftRowsOf 5 = .ok (.putfield 64, 3) := by decide +kernel
theorem dT_draftRowsOf_8 : decode bT_draftRowsOf 8 = .ok (.aload_n 0, 1) := by decide +kernel
theorem dT_draftRowsOf_9 : decode bT_draftRowsOf 9 = .ok (.getfield 15, 3) := by decide +kernel
theorem dT_draftRowsOf_12 : decode bT_draftRowsOf 12 = .ok (.iload_n 1, 1) := by decide +kernel
theorem dT_draftRowsOf_13 : decode bT_draftRowsOf 13 = .ok (.aaload, 1) := by decide +kernel
theorem dT_draftRowsOf_14 : decode bT_draftRowsOf 14 = .ok (.aload_n 0, 1) := by decide +kernel
theorem dT_draftRowsOf_15 : decode bT_draftRowsOf 15 = .ok (.invokevirtual 126, 3) := by decide +kernel
theorem dT_draftRowsOf_18 : decode bT_draftRowsOf 18 = .ok (.aload_n 0, 1) := by decide +kernel
theorem dT_draftRowsOf_19 : decode bT_draftRowsOf 19 = .ok (.getfield 36, 3) := by decide +kernel
theorem dT_draftRowsOf_22 : decode bT_draftRowsOf 22 = .ok (.iconst 5, 1) := by decide +kernel
theorem dT_draftRowsOf_23 : decode bT_draftRowsOf 23 = .ok (.invokestatic 167, 3) := by decide +kernel
theorem dT_draftRowsOf_26 : decode bT_draftRowsOf 26 = .ok (.return_, 1) := by decide +kernel
theorem dT_newStamp_0 : decode bT_newStamp 0 = .ok (.aload_n 0, 1) := by decide +kernel
theorem dT_newStamp_1 : decode bT_newStamp 1 = .ok (.dup, 1) := by decide +kernel
theorem dT_newStamp_2 : decode bT_newStamp 2 = .ok (.getfield 46, 3) := by decide +kernel
theorem dT_newStamp_5 : decode bT_newStamp 5 = .ok (.iconst 1, 1) := by decide +kernel
theorem dT_newStamp_6 : decode bT_newStamp 6 = .ok (.iadd, 1) := by decide +kernel
theorem dT_newStamp_7 : decode bT_newStamp 7 = .ok (.putfield 46, 3) := by decide +kernel
theorem dT_newStamp_10 : decode bT_newStamp 10 = .ok (.aload_n 0, 1) := by decide +kernel
theorem dT_newStamp_11 : decode bT_newStamp 11 = .ok (.getfield 46, 3) := by decide +kernel
theorem dT_newStamp_14 : decode bT_newStamp 14 = .ok (.ireturn, 1) := by decide +kernel
theorem dT_gather_0 : decode bT_gather 0 = .ok (.iload_n 3, 1) := by decide +kernel
theorem dT_gather_1 : decode bT_gather 1 = .ok (.ifCond .lt 11, 3) := by decide +kernel
theorem dT_gather_4 : decode bT_gather 4 = .ok (.aload_n 0, 1) := by decide +kernel
theorem dT_gather_5 : decode bT_gather 5 = .ok (.getfield 188, 3) := by decide +kernel
theorem dT_gather_8 : decode bT_gather 8 = .ok (.iload_n 1, 1) := by decide +kernel
theorem dT_gather_9 : decode bT_gather 9 = .ok (.if_icmp .ne 4, 3) := by decide +kernel
theorem dT_gather_12 : decode bT_gather 12 = .ok (.return_, 1) := by decide +kernel
theorem dT_gather_13 : decode bT_gather 13 = .ok (.aload_n 0, 1) := by decide +kernel
theorem dT_gather_14 : decode bT_gather 14 = .ok (.getfield 194, 3) := by decide +kernel
theorem dT_gather_17 : decode bT_gather 17 = .ok (.astore 4, 2) := by decide +kernel
theorem dT_gather_19 : decode bT_gather 19 = .ok (.aload 4, 2) := by decide +kernel
theorem dT_gather_21 : decode bT_gather 21 = .ok (.arraylength, 1) := by decide +kernel
theorem dT_gather_22 : decode bT_gather 22 = .ok (.istore 5, 2) := by decide +kernel
theorem dT_gather_24 : decode bT_gather 24 = .ok (.iconst 0, 1) := by decide +kernel
theorem dT_gather_25 : decode bT_gather 25 = .ok (.istore 6, 2) := by decide +kernel
theorem dT_gather_27 : decode bT_gather 27 = .ok (.iload 6, 2) := by decide +kernel
theorem dT_gather_29 : decode bT_gather 29 = .ok (.iload 5, 2) := by decide +kernel
theorem dT_gather_31 : decode bT_gather 31 = .ok (.if_icmp .ge 22, 3) := by decide +kernel
theorem dT_gather_34 : decode bT_gather 34 = .ok (.aload 4, 2) := by decide +kernel
theorem dT_gather_36 : decode bT_gather 36 = .ok (.iload 6, 2) := by decide +kernel
theorem dT_gather_38 : decode bT_gather 38 = .ok (.aaload, 1) := by decide +kernel
theorem dT_gather_39 : decode bT_gather 39 = .ok (.astore 7, 2) := by decide +kernel
theorem dT_gather_41 : decode bT_gather 41 = .ok (.aload_n 2, 1) := by decide +kernel
theorem dT_gather_42 : decode bT_gather 42 = .ok (.aload 7, 2) := by decide +kernel
theorem dT_gather_44 : decode bT_gather 44 = .ok (.invokevirtual 195, 3) := by decide +kernel
theorem dT_gather_47 : decode bT_gather 47 = .ok (.iinc 6 1, 3) := by decide +kernel
theorem dT_gather_50 : decode bT_gather 50 = .ok (.goto (-23), 3) := by decide +kernel
theorem dT_gather_53 : decode bT_gather 53 = .ok (.aload_n 0, 1) := by decide +kernel
theorem dT_gather_54 : decode bT_gather 54 = .ok (.getfield 191, 3) := by decide +kernel
theorem dT_gather_57 : decode bT_gather 57 = .ok (.astore 4, 2) := by decide +kernel
theorem dT_gather_59 : decode bT_gather 59 = .ok (.aload 4, 2) := by decide +kernel
theorem dT_gather_61 : decode bT_gather 61 = .ok (.arraylength, 1) := by decide +kernel
theorem dT_gather_62 : decode bT_gather 62 = .ok (.istore 5, 2) := by decide +kernel
theorem dT_gather_64 : decode bT_gather 64 = .ok (.iconst 0, 1) := by decide +kernel
theorem dT_gather_65 : decode bT_gather 65 = .ok (.istore 6, 2) := by decide +kernel
theorem dT_gather_67 : decode bT_gather 67 = .ok (.iload 6, 2) := by decide +kernel
theorem dT_gather_69 : decode bT_gather 69 = .ok (.iload 5, 2) := by decide +kernel
theorem dT_gather_71 : decode bT_gather 71 = .ok (.if_icmp .ge 26, 3) := by decide +kernel
theorem dT_gather_74 : decode bT_gather 74 = .ok (.aload 4, 2) := by decide +kernel
theorem dT_gather_76 : decode bT_gather 76 = .ok (.iload 6, 2) := by decide +kernel
theorem dT_gather_78 : decode bT_gather 78 = .ok (.aaload, 1) := by decide +kernel
theorem dT_gather_79 : decode bT_gather 79 = .ok (.astore 7, 2) := by decide +kernel
theorem dT_gather_81 : decode bT_gather 81 = .ok (.aload 7, 2) := by decide +kernel
theorem dT_gather_83 : decode bT_gather 83 = .ok (.iload_n 1, 1) := by decide +kernel
theorem dT_gather_84 : decode bT_gather 84 = .ok (.aload_n 2, 1) := by decide +kernel
theorem dT_gather_85 : decode bT_gather 85 = .ok (.iload_n 3, 1) := by decide +kernel
theorem dT_gather_86 : decode bT_gather 86 = .ok (.iconst 1, 1) := by decide +kernel
theorem dT_gather_87 : decode bT_gather 87 = .ok (.isub, 1) := by decide +kernel
theorem dT_gather_88 : decode bT_gather 88 = .ok (.invokestatic 167, 3) := by decide +kernel
theorem dT_gather_91 : decode bT_gather 91 = .ok (.iinc 6 1, 3) := by decide +kernel
theorem dT_gather_94 : decode bT_gather 94 = .ok (.goto (-27), 3) := by decide +kernel
theorem dT_gather_97 : decode bT_gather 97 = .ok (.return_, 1) := by decide +kernel
theorem dT_blankRow_0 : decode bT_blankRow 0 = .ok (.new 50, 3) := by decide +kernel
theorem dT_blankRow_3 : decode bT_blankRow 3 = .ok (.dup, 1) := by decide +kernel
theorem dT_blankRow_4 : decode bT_blankRow 4 = .ok (.iload_n 0, 1) := by decide +kernel
theorem dT_blankRow_5 : decode bT_blankRow 5 = .ok (.iload_n 1, 1) := by decide +kernel
theorem dT_blankRow_6 : decode bT_blankRow 6 = .ok (.newarray .int, 2) := by decide +kernel
theorem dT_blankRow_8 : decode bT_blankRow 8 = .ok (.iconst 1, 1) := by decide +kernel
theorem dT_blankRow_9 : decode bT_blankRow 9 = .ok (.iload_n 1, 1) := by decide +kernel
theorem dT_blankRow_10 : decode bT_blankRow 10 = .ok (.ishl, 1) := by decide +kernel
theorem dT_blankRow_11 : decode bT_blankRow 11 = .ok (.iconst 1, 1) := by decide +kernel
theorem dT_blankRow_12 : decode bT_blankRow 12 = .ok (.isub, 1) := by decide +kernel
theorem dT_blankRow_13 : decode bT_blankRow 13 = .ok (.invokespecial 225, 3) := by decide +kernel
theorem dT_blankRow_16 : decode bT_blankRow 16 = .ok (.areturn, 1) := by decide +kernel
theorem dT_levelOf_0 : decode bT_levelOf 0 = .ok (.iload_n 0, 1) := by decide +kernel
theorem dT_levelOf_1 : decode bT_levelOf 1 = .ok (.ldc 228, 2) := by decide +kernel
theorem dT_levelOf_3 : decode bT_levelOf 3 = .ok (.imul, 1) := by decide +kernel
theorem dT_levelOf_4 : decode bT_levelOf 4 = .ok (.istore_n 1, 1) := by decide +kernel
theorem dT_levelOf_5 : decode bT_levelOf 5 = .ok (.iload_n 1, 1) := by decide +kernel
theorem dT_levelOf_6 : decode bT_levelOf 6 = .ok (.iload_n 1, 1) := by decide +kernel
theorem dT_levelOf_7 : decode bT_levelOf 7 = .ok (.bipush 15, 2) := by decide +kernel
theorem dT_levelOf_9 : decode bT_levelOf 9 = .ok (.iushr, 1) := by decide +kernel
theorem dT_levelOf_10 : decode bT_levelOf 10 = .ok (.ixor, 1) := by decide +kernel
theorem dT_levelOf_11 : decode bT_levelOf 11 = .ok (.istore_n 1, 1) := by decide +kernel
theorem dT_levelOf_12 : decode bT_levelOf 12 = .ok (.iload_n 1, 1) := by decide +kernel
theorem dT_levelOf_13 : decode bT_levelOf 13 = .ok (.ldc 229, 2) := by decide +kernel
theorem dT_levelOf_15 : decode bT_levelOf 15 = .ok (.imul, 1) := by decide +kernel
theorem dT_levelOf_16 : decode bT_levelOf 16 = .ok (.istore_n 1, 1) := by decide +kernel
theorem dT_levelOf_17 : decode bT_levelOf 17 = .ok (.iload_n 1, 1) := by decide +kernel
theorem dT_levelOf_18 : decode bT_levelOf 18 = .ok (.iload_n 1, 1) := by decide +kernel
theorem dT_levelOf_19 : decode bT_levelOf 19 = .ok (.bipush 13, 2) := by decide +kernel
theorem dT_levelOf_21 : decode bT_levelOf 21 = .ok (.iushr, 1) := by decide +kernel
theorem dT_levelOf_22 : decode bT_levelOf 22 = .ok (.ixor, 1) := by decide +kernel
theorem dT_levelOf_23 : decode bT_levelOf 23 = .ok (.istore_n 1, 1) := by decide +kernel
theorem dT_levelOf_24 : decode bT_levelOf 24 = .ok (.iconst 0, 1) := by decide +kernel
theorem dT_levelOf_25 : decode bT_levelOf 25 = .ok (.istore_n 2, 1) := by decide +kernel
theorem dT_levelOf_26 : decode bT_levelOf 26 = .ok (.iload_n 2, 1) := by decide +kernel
theorem dT_levelOf_27 : decode bT_levelOf 27 = .ok (.iconst 5, 1) := by decide +kernel
theorem dT_levelOf_28 : decode bT_levelOf 28 = .ok (.if_icmp .ge 19, 3) := by decide +kernel
theorem dT_levelOf_31 : decode bT_levelOf 31 = .ok (.iload_n 1, 1) := by decide +kernel
theorem dT_levelOf_32 : decode bT_levelOf 32 = .ok (.iconst 3, 1) := by decide +kernel
theorem dT_levelOf_33 : decode bT_levelOf 33 = .ok (.iand, 1) := by decide +kernel
theorem dT_levelOf_34 : decode bT_levelOf 34 = .ok (.ifCond .ne 13, 3) := by decide +kernel
theorem dT_levelOf_37 : decode bT_levelOf 37 = .ok (.iload_n 1, 1) := by decide +kernel
theorem dT_levelOf_38 : decode bT_levelOf 38 = .ok (.iconst 2, 1) := by decide +kernel
theorem dT_levelOf_39 : decode bT_levelOf 39 = .ok (.iushr, 1) := by decide +kernel
theorem dT_levelOf_40 : decode bT_levelOf 40 = .ok (.istore_n 1, 1) := by decide +kernel
theorem dT_levelOf_41 : decode bT_levelOf 41 = .ok (.iinc 2 1, 3) := by decide +kernel
theorem dT_levelOf_44 : decode bT_levelOf 44 = .ok (.goto (-18), 3) := by decide +kernel
theorem dT_levelOf_47 : decode bT_levelOf 47 = .ok (.iload_n 2, 1) := by decide +kernel
theorem dT_levelOf_48 : decode bT_levelOf 48 = .ok (.ireturn, 1) := by decide +kernel
theorem dT_remove_0 : decode bT_remove 0 = .ok (.iload_n 1, 1) := by decide +kernel
theorem dT_remove_1 : decode bT_remove 1 = .ok (.invokestatic 60, 3) := by decide +kernel
theorem dT_remove_4 : decode bT_remove 4 = .ok (.ifCond .ne 5, 3) := by decide +kernel
theorem dT_remove_7 : decode bT_remove 7 = .ok (.iconst (-1), 1) := by decide +kernel
theorem dT_remove_8 : decode bT_remove 8 = .ok (.ireturn, 1) := by decide +kernel
theorem dT_remove_9 : decode bT_remove 9 = .ok (.aload_n 0, 1) := by decide +kernel
theorem dT_remove_10 : decode bT_remove 10 = .ok (.iload_n 1, 1) := by decide +kernel
theorem dT_remove_11 : decode bT_remove 11 = .ok (.invokevirtual 75, 3) := by decide +kernel
theorem dT_remove_14 : decode bT_remove 14 = .ok (.aload_n 0, 1) := by decide +kernel
theorem dT_remove_15 : decode bT_remove 15 = .ok (.getfield 36, 3) := by decide +kernel
theorem dT_remove_18 : decode bT_remove 18 = .ok (.iload_n 2, 1) := by decide +kernel
theorem dT_remove_19 : decode bT_remove 19 = .ok (.invokevirtual 79, 3) := by decide +kernel
theorem dT_remove_22 : decode bT_remove 22 = .ok (.istore_n 3, 1) := by decide +kernel
theorem dT_remove_23 : decode bT_remove 23 = .ok (.aload_n 0, 1) := by decide +kernel
theorem dT_remove_24 : decode bT_remove 24 = .ok (.getfield 36, 3) := by decide +kernel
theorem dT_remove_27 : decode bT_remove 27 = .ok (.iload_n 3, 1) := by decide +kernel
theorem dT_remove_28 : decode bT_remove 28 = .ok (.iload_n 2, 1) := by decide +kernel
theorem dT_remove_29 : decode bT_remove 29 = .ok (.invokevirtual 82, 3) := by decide +kernel
theorem dT_remove_32 : decode bT_remove 32 = .ok (.ifCond .ne 6, 3) := by decide +kernel
theorem dT_remove_35 : decode bT_remove 35 = .ok (.bipush (-2), 2) := by decide +kernel
theorem dT_remove_37 : decode bT_remove 37 = .ok (.ireturn, 1) := by decide +kernel
theorem dT_remove_38 : decode bT_remove 38 = .ok (.aload_n 0, 1) := by decide +kernel
theorem dT_remove_39 : decode bT_remove 39 = .ok (.getfield 36, 3) := by decide +kernel
theorem dT_remove_42 : decode bT_remove 42 = .ok (.iload_n 3, 1) := by decide +kernel
theorem dT_remove_43 : decode bT_remove 43 = .ok (.invokevirtual 101, 3) := by decide +kernel
theorem dT_remove_46 : decode bT_remove 46 = .ok (.aload_n 0, 1) := by decide +kernel
theorem dT_remove_47 : decode bT_remove 47 = .ok (.iload_n 1, 1) := by decide +kernel
theorem dT_remove_48 : decode bT_remove 48 = .ok (.invokevirtual 67, 3) := by decide +kernel
theorem dT_remove_51 : decode bT_remove 51 = .ok (.ireturn, 1) := by decide +kernel
theorem dT_copy_0 : decode bT_copy 0 = .ok (.iload_n 1, 1) := by decide +kernel
theorem dT_copy_1 : decode bT_copy 1 = .ok (.invokestatic 60, 3) := by decide +kernel
theorem dT_copy_4 : decode bT_copy 4 = .ok (.ifCond .eq 10, 3) := by decide +kernel
theorem dT_copy_7 : decode bT_copy 7 = .ok (.iload_n 2, 1) := by decide +kernel
theorem dT_copy_8 : decode bT_copy 8 = .ok (.invokestatic 60, 3) := by decide +kernel
theorem dT_copy_11 : decode bT_copy 11 = .ok (.ifCond .ne 5, 3) := by decide +kernel
theorem dT_copy_14 : decode bT_copy 14 = .ok (.iconst (-1), 1) := by decide +kernel
theorem dT_copy_15 : decode bT_copy 15 = .ok (.ireturn, 1) := by decide +kernel
theorem dT_copy_16 : decode bT_copy 16 = .ok (.aload_n 0, 1) := by decide +kernel
theorem dT_copy_17 : decode bT_copy 17 = .ok (.getfield 9, 3) := by decide +kernel
theorem dT_copy_20 : decode bT_copy 20 = .ok (.iload_n 1, 1) := by decide +kernel
theorem dT_copy_21 : decode bT_copy 21 = .ok (.aload_n 0, 1) := by decide +kernel
theorem dT_copy_22 : decode bT_copy 22 = .ok (.getfield 9, 3) := by decide +kernel
theorem dT_copy_25 : decode bT_copy 25 = .ok (.iload_n 2, 1) := by decide +kernel
theorem dT_copy_26 : decode bT_copy 26 = .ok (.iaload, 1) := by decide +kernel
theorem dT_copy_27 : decode bT_copy 27 = .ok (.iastore, 1) := by decide +kernel
theorem dT_copy_28 : decode bT_copy 28 = .ok (.aload_n 0, 1) := by decide +kernel
theorem dT_copy_29 : decode bT_copy 29 = .ok (.getfield 15, 3) := by decide +kernel
theorem dT_copy_32 : decode bT_copy 32 = .ok (.iload_n 1, 1) := by decide +kernel
theorem dT_copy_33 : decode bT_copy 33 = .ok (.aload_n 0, 1) := by decide +kernel
theorem dT_copy_34 : decode bT_copy 34 = .ok (.getfield 15, 3) := by decide +kernel
theorem dT_copy_37 : decode bT_copy 37 = .ok (.iload_n 2, 1) := by decide +kernel
theorem dT_copy_38 : decode bT_copy 38 = .ok (.aaload, 1) := by decide +kernel
theorem dT_copy_39 : decode bT_copy 39 = .ok (.aastore, 1) := by decide +kernel
theorem dT_copy_40 : decode bT_copy 40 = .ok (.iconst 0, 1) := by decide +kernel
theorem dT_copy_41 : decode bT_copy 41 = .ok (.ireturn, 1) := by decide +kernel
theorem dT_get_0 : decode bT_get 0 = .ok (.aload_n 0, 1) := by decide +kernel
theorem dT_get_1 : decode bT_get 1 = .ok (.iload_n 1, 1) := by decide +kernel
theorem dT_get_2 : decode bT_get 2 = .ok (.iload_n 3, 1) := by decide +kernel
theorem dT_get_3 : decode bT_get 3 = .ok (.invokevirtual 71, 3) := by decide +kernel
theorem dT_get_6 : decode bT_get 6 = .ok (.ifCond .ne 7, 3) := by decide +kernel
theorem dT_get_9 : decode bT_get 9 = .ok (.ldc2_w 104, 3) := by decide +kernel
theorem dT_get_12 : decode bT_get 12 = .ok (.lreturn, 1) := by decide +kernel
theorem dT_get_13 : decode bT_get 13 = .ok (.aload_n 0, 1) := by decide +kernel
theorem dT_get_14 : decode bT_get 14 = .ok (.getfield 15, 3) := by decide +kernel
theorem dT_get_17 : decode bT_get 17 = .ok (.iload_n 1, 1) := by decide +kernel
theorem dT_get_18 : decode bT_get 18 = .ok (.aaload, 1) := by decide +kernel
theorem dT_get_19 : decode bT_get 19 = .ok (.iload_n 2, 1) := by decide +kernel
theorem dT_get_20 : decode bT_get 20 = .ok (.invokestatic 106, 3) := by decide +kernel
theorem dT_get_23 : decode bT_get 23 = .ok (.astore 4, 2) := by decide +kernel
theorem dT_get_25 : decode bT_get 25 = .ok (.aload 4, 2) := by decide +kernel
theorem dT_get_27 : decode bT_get 27 = .ok (.ifnonnull 7, 3) := by decide +kernel
theorem dT_get_30 : decode bT_get 30 = .ok (.ldc2_w 110, 3) := by decide +kernel
theorem dT_get_33 : decode bT_get 33 = .ok (.lreturn, 1) := by decide +kernel
theorem dT_get_34 : decode bT_get 34 = .ok (.aload 4, 2) := by decide +kernel
theorem dT_get_36 : decode bT_get 36 = .ok (.iload_n 3, 1) := by decide +kernel
theorem dT_get_37 : decode bT_get 37 = .ok (.invokevirtual 112, 3) := by decide +kernel
theorem dT_get_40 : decode bT_get 40 = .ok (.ifCond .eq 9, 3) := by decide +kernel
theorem dT_get_43 : decode bT_get 43 = .ok (.ldc2_w 115, 3) := by decide +kernel
theorem dT_get_46 : decode bT_get 46 = .ok (.goto 11, 3) := by decide +kernel
theorem dT_get_49 : decode bT_get 49 = .ok (.aload 4, 2) := by decide +kernel
theorem dT_get_51 : decode bT_get 51 = .ok (.getfield 117, 3) := by decide +kernel
theorem dT_get_54 : decode bT_get 54 = .ok (.iload_n 3, 1) := by decide +kernel
theorem dT_get_55 : decode bT_get 55 = .ok (.iaload, 1) := by decide +kernel
theorem dT_get_56 : decode bT_get 56 = .ok (.i2l, 1) := by decide +kernel
theorem dT_get_57 : decode bT_get 57 = .ok (.lreturn, 1) := by decide +kernel
theorem dT_rowWithKey_0 : decode bT_rowWithKey 0 = .ok (.aload_n 0, 1) := by decide +kernel
theorem dT_rowWithKey_1 : decode bT_rowWithKey 1 = .ok (.astore_n 2, 1) := by decide +kernel
theorem dT_rowWithKey_2 : decode bT_rowWithKey 2 = .ok (.iconst 5, 1) := by decide +kernel
theorem dT_rowWithKey_3 : decode bT_rowWithKey 3 = .ok (.istore_n 3, 1) := by decide +kernel
theorem dT_rowWithKey_4 : decode bT_rowWithKey 4 = .ok (.iload_n 3, 1) := by decide +kernel
theorem dT_rowWithKey_5 : decode bT_rowWithKey 5 = .ok (.ifCond .le 59, 3) := by decide +kernel
theorem dT_rowWithKey_8 : decode bT_rowWithKey 8 = .ok (.aload_n 2, 1) := by decide +kernel
theorem dT_rowWithKey_9 : decode bT_rowWithKey 9 = .ok (.getfield 123, 3) := by decide +kernel
theorem dT_rowWithKey_12 : decode bT_rowWithKey 12 = .ok (.ifCond .le 52, 3) := by decide +kernel
theorem dT_rowWithKey_15 : decode bT_rowWithKey 15 = .ok (.iconst 0, 1) := by decide +kernel
theorem dT_rowWithKey_16 : decode bT_rowWithKey 16 = .ok (.istore 4, 2) := by decide +kernel
theorem dT_rowWithKey_18 : decode bT_rowWithKey 18 = .ok (.iload 4, 2) := by decide +kernel
theorem dT_rowWithKey_20 : decode bT_rowWithKey 20 = .ok (.iconst 1, 1) := by decide +kernel
theorem dT_rowWithKey_21 : decode bT_rowWithKey 21 = .ok (.iadd, 1) := by decide +kernel
theorem dT_rowWithKey_22 : decode bT_rowWithKey 22 = .ok (.aload_n 2, 1) := by decide +kernel
theorem dT_rowWithKey_23 : decode bT_rowWithKey 23 = .ok (.getfield 191, 3) := by decide +kernel
theorem dT_rowWithKey_26 : decode bT_rowWithKey 26 = .ok (.arraylength, 1) := by decide +kernel
theorem dT_rowWithKey_27 : decode bT_rowWithKey 27 = .ok (.if_icmp .ge 23, 3) := by decide +kernel
theorem dT_rowWithKey_30 : decode bT_rowWithKey 30 = .ok (.aload_n 2, 1) := by decide +kernel
theorem dT_rowWithKey_31 : decode bT_rowWithKey 31 = .ok (.getfield 191, 3) := by decide +kernel
theorem dT_rowWithKey_34 : decode bT_rowWithKey 34 = .ok (.iload 4, 2) := by decide +kernel
theorem dT_rowWithKey_36 : decode bT_rowWithKey 36 = .ok (.aaload, 1) := by decide +kernel
theorem dT_rowWithKey_37 : decode bT_rowWithKey 37 = .ok (.getfield 199, 3) := by decide +kernel
theorem dT_rowWithKey_40 : decode bT_rowWithKey 40 = .ok (.iload_n 1, 1) := by decide +kernel
theorem dT_rowWithKey_41 : decode bT_rowWithKey 41 = .ok (.if_icmp .ge 9, 3) := by decide +kernel
theorem dT_rowWithKey_44 : decode bT_rowWithKey 44 = .ok (.iinc 4 1, 3) := by decide +kernel
theorem dT_rowWithKey_47 : decode bT_rowWithKey 47 = .ok (.goto (-29), 3) := by decide +kernel
theorem dT_rowWithKey_50 : decode bT_rowWithKey 50 = .ok (.aload_n 2, 1) := by decide +kernel
theorem dT_rowWithKey_51 : decode bT_rowWithKey 51 = .ok (.getfield 191, 3) := by decide +kernel
theorem dT_rowWithKey_54 : decode bT_rowWithKey 54 = .ok (.iload 4, 2) := by decide +kernel
theorem dT_rowWithKey_56 : decode bT_rowWithKey 56 = .ok (.aaload, 1) := by decide +kernel
theorem dT_rowWithKey_57 : decode bT_rowWithKey 57 = .ok (.astore_n 2, 1) := by decide +kernel
theorem dT_rowWithKey_58 : decode bT_rowWithKey 58 = .ok (.iinc 3 (-1), 3) := by decide +kernel
theorem dT_rowWithKey_61 : decode bT_rowWithKey 61 = .ok (.goto (-57), 3) := by decide +kernel
theorem dT_rowWithKey_64 : decode bT_rowWithKey 64 = .ok (.aload_n 2, 1) := by decide +kernel
theorem dT_rowWithKey_65 : decode bT_rowWithKey 65 = .ok (.getfield 194, 3) := by decide +kernel
theorem dT_rowWithKey_68 : decode bT_rowWithKey 68 = .ok (.astore_n 3, 1) := by decide +kernel
theorem dT_rowWithKey_69 : decode bT_rowWithKey 69 = .ok (.aload_n 3, 1) := by decide +kernel
theorem dT_rowWithKey_70 : decode bT_rowWithKey 70 = .ok (.arraylength, 1) := by decide +kernel
theorem dT_rowWithKey_71 : decode bT_rowWithKey 71 = .ok (.istore 4, 2) := by decide +kernel
theorem dT_rowWithKey_73 : decode bT_rowWithKey 73 = .ok (.iconst 0, 1) := by decide +kernel
theorem dT_rowWithKey_74 : decode bT_rowWithKey 74 = .ok (.istore 5, 2) := by decide +kernel
theorem dT_rowWithKey_76 : decode bT_rowWithKey 76 = .ok (.iload 5, 2) := by decide +kernel
theorem dT_rowWithKey_78 : decode bT_rowWithKey 78 = .ok (.iload 4, 2) := by decide +kernel
theorem dT_rowWithKey_80 : decode bT_rowWithKey 80 = .ok (.if_icmp .ge 27, 3) := by decide +kernel
theorem dT_rowWithKey_83 : decode bT_rowWithKey 83 = .ok (.aload_n 3, 1) := by decide +kernel
theorem dT_rowWithKey_84 : decode bT_rowWithKey 84 = .ok (.iload 5, 2) := by decide +kernel
theorem dT_rowWithKey_86 : decode bT_rowWithKey 86 = .ok (.aaload, 1) := by decide +kernel
theorem dT_rowWithKey_87 : decode bT_rowWithKey 87 = .ok (.astore 6, 2) := by decide +kernel
theorem dT_rowWithKey_89 : decode bT_rowWithKey 89 = .ok (.aload 6, 2) := by decide +kernel
theorem dT_rowWithKey_91 : decode bT_rowWithKey 91 = .ok (.getfield 202, 3) := by decide +kernel
theorem dT_rowWithKey_94 : decode bT_rowWithKey 94 = .ok (.iload_n 1, 1) := by decide +kernel
theorem dT_rowWithKey_95 : decode bT_rowWithKey 95 = .ok (.if_icmp .ne 6, 3) := by decide +kernel
theorem dT_rowWithKey_98 : decode bT_rowWithKey 98 = .ok (.aload 6, 2) := by decide +kernel
theorem dT_rowWithKey_100 : decode bT_rowWithKey 100 = .ok (.areturn, 1) := by decide +kernel
theorem dT_rowWithKey_101 : decode bT_rowWithKey 101 = .ok (.iinc 5 1, 3) := by decide +kernel
theorem dT_rowWithKey_104 : decode bT_rowWithKey 104 = .ok (.goto (-28), 3) := by decide +kernel
theorem dT_rowWithKey_107 : decode bT_rowWithKey 107 = .ok (.aconst_null, 1) := by decide +kernel
theorem dT_rowWithKey_108 : decode bT_rowWithKey 108 = .ok (.areturn, 1) := by decide +kernel
theorem dT_measure_0 : decode bT_measure 0 = .ok (.iload_n 1, 1) := by decide +kernel
theorem dT_measure_1 : decode bT_measure 1 = .ok (.invokestatic 60, 3) := by decide +kernel
theorem dT_measure_4 : decode bT_measure 4 = .ok (.ifCond .ne 5, 3) := by decide +kernel
theorem dT_measure_7 : decode bT_measure 7 = .ok (.iconst (-1), 1) := by decide +kernel
theorem dT_measure_8 : decode bT_measure 8 = .ok (.ireturn, 1) := by decide +kernel
theorem dT_measure_9 : decode bT_measure 9 = .ok (.aload_n 0, 1) := by decide +kernel
theorem dT_measure_10 : decode bT_measure 10 = .ok (.getfield 15, 3) := by decide +kernel
theorem dT_measure_13 : decode bT_measure 13 = .ok (.iload_n 1, 1) := by decide +kernel
theorem dT_measure_14 : decode bT_measure 14 = .ok (.aaload, 1) := by decide +kernel
theorem dT_measure_15 : decode bT_measure 15 = .ok (.astore_n 3, 1) := by decide +kernel
theorem dT_measure_16 : decode bT_measure 16 = .ok (.iload_n 2, 1) := by decide +kernel
theorem dT_measure_17 : decode bT_measure 17 = .ok (.tableswitch 58 0 3 #[31, 36, 43, 48], 31) := by decide +kernel
theorem dT_measure_48 : decode bT_measure 48 = .ok (.aload_n 3, 1) := by decide +kernel
theorem dT_measure_49 : decode bT_measure 49 = .ok (.getfield 120, 3) := by decide +kernel
theorem dT_measure_52 : decode bT_measure 52 = .ok (.ireturn, 1) := by decide +kernel
theorem dT_measure_53 : decode bT_measure 53 = .ok (.aload_n 0, 1) := by decide +kernel
theorem dT_measure_54 : decode bT_measure 54 = .ok (.getfield 9, 3) := by decide +kernel
theorem dT_measure_57 : decode bT_measure 57 = .ok (.iload_n 1, 1) := by decide +kernel
theorem dT_measure_58 : decode bT_measure 58 = .ok (.iaload, 1) := by decide +kernel
theorem dT_measure_59 : decode bT_measure 59 = .ok (.ireturn, 1) := by decide +kernel
theorem dT_measure_60 : decode bT_measure 60 = .ok (.aload_n 3, 1) := by decide +kernel
theorem dT_measure_61 : decode bT_measure 61 = .ok (.getfield 123, 3) := by decide +kernel
theorem dT_measure_64 : decode bT_measure 64 = .ok (.ireturn, 1) := by decide +kernel
theorem dT_measure_65 : decode bT_measure 65 = .ok (.aload_n 3, 1) := by decide +kernel
theorem dT_measure_66 : decode bT_measure 66 = .ok (.aload_n 0, 1) := by decide +kernel
theorem dT_measure_67 : decode bT_measure 67 = .ok (.invokevirtual 126, 3) := by decide +kernel
theorem dT_measure_70 : decode bT_measure 70 = .ok (.iconst 5, 1) := by decide +kernel
theorem dT_measure_71 : decode bT_measure 71 = .ok (.invokestatic 129, 3) := by decide +kernel
theorem dT_measure_74 : decode bT_measure 74 = .ok (.ireturn, 1) := by decide +kernel
theorem dT_measure_75 : decode bT_measure 75 = .ok (.iconst (-1), 1) := by decide +kernel
theorem dT_measure_76 : decode bT_measure 76 = .ok (.ireturn, 1) := by decide +kernel
theorem dT_stampTree_0 : decode bT_stampTree 0 = .ok (.iload_n 2, 1) := by decide +kernel
theorem dT_stampTree_1 : decode bT_stampTree 1 = .ok (.ifCond .lt 11, 3) := by decide +kernel
theorem dT_stampTree_4 : decode bT_stampTree 4 = .ok (.aload_n 0, 1) := by decide +kernel
theorem dT_stampTree_5 : decode bT_stampTree 5 = .ok (.getfield 188, 3) := by decide +kernel
theorem dT_stampTree_8 : decode bT_stampTree 8 = .ok (.iload_n 1, 1) := by decide +kernel
theorem dT_stampTree_9 : decode bT_stampTree 9 = .ok (.if_icmp .ne 5, 3) := by decide +kernel
theorem dT_stampTree_12 : decode bT_stampTree 12 = .ok (.iconst 0, 1) := by decide +kernel
theorem dT_stampTree_13 : decode bT_stampTree 13 = .ok (.ireturn, 1) := by decide +kernel
theorem dT_stampTree_14 : decode bT_stampTree 14 = .ok (.aload_n 0, 1) := by decide +kernel
theorem dT_stampTree_15 : decode bT_stampTree 15 = .ok (.iload_n 1, 1) := by decide +kernel
theorem dT_stampTree_16 : decode bT_stampTree 16 = .ok (.putfield 188, 3) := by decide +kernel
theorem dT_stampTree_19 : decode bT_stampTree 19 = .ok (.iconst 1, 1) := by decide +kernel
theorem dT_stampTree_20 : decode bT_stampTree 20 = .ok (.istore_n 3, 1) := by decide +kernel
theorem dT_stampTree_21 : decode bT_stampTree 21 = .ok (.aload_n 0, 1) := by decide +kernel
theorem dT_stampTree_22 : decode bT_stampTree 22 = .ok (.getfield 191, 3) := by decide +kernel
theorem dT_stampTree_25 : decode bT_stampTree 25 = .ok (.astore 4, 2) := by decide +kernel
theorem dT_stampTree_27 : decode bT_stampTree 27 = .ok (.aload 4, 2) := by decide +kernel
theorem dT_stampTree_29 : decode bT_stampTree 29 = .ok (.arraylength, 1) := by decide +kernel
theorem dT_stampTree_30 : decode bT_stampTree 30 = .ok (.istore 5, 2) := by decide +kernel
theorem dT_stampTree_32 : decode bT_stampTree 32 = .ok (.iconst 0, 1) := by decide +kernel
theorem dT_stampTree_33 : decode bT_stampTree 33 = .ok (.istore 6, 2) := by decide +kernel
theorem dT_stampTree_35 : decode bT_stampTree 35 = .ok (.iload 6, 2) := by decide +kernel
theorem dT_stampTree_37 : decode bT_stampTree 37 = .ok (.iload 5, 2) := by decide +kernel
theorem dT_stampTree_39 : decode bT_stampTree 39 = .ok (.if_icmp .ge 28, 3) := by decide +kernel
theorem dT_stampTree_42 : decode bT_stampTree 42 = .ok (.aload 4, 2) := by decide +kernel
theorem dT_stampTree_44 : decode bT_stampTree 44 = .ok (.iload 6, 2) := by decide +kernel
theorem dT_stampTree_46 : decode bT_stampTree 46 = .ok (.aaload, 1) := by decide +kernel
theorem dT_stampTree_47 : decode bT_stampTree 47 = .ok (.astore 7, 2) := by decide +kernel
theorem dT_stampTree_49 : decode bT_stampTree 49 = .ok (.iload_n 3, 1) := by decide +kernel
theorem dT_stampTree_50 : decode bT_stampTree 50 = .ok (.aload 7, 2) := by decide +kernel
theorem dT_stampTree_52 : decode bT_stampTree 52 = .ok (.iload_n 1, 1) := by decide +kernel
theorem dT_stampTree_53 : decode bT_stampTree 53 = .ok (.iload_n 2, 1) := by decide +kernel
theorem dT_stampTree_54 : decode bT_stampTree 54 = .ok (.iconst 1, 1) := by decide +kernel
theorem dT_stampTree_55 : decode bT_stampTree 55 = .ok (.isub, 1) := by decide +kernel
theorem dT_stampTree_56 : decode bT_stampTree 56 = .ok (.invokestatic 129, 3) := by decide +kernel
theorem dT_stampTree_59 : decode bT_stampTree 59 = .ok (.iadd, 1) := by decide +kernel
theorem dT_stampTree_60 : decode bT_stampTree 60 = .ok (.istore_n 3, 1) := by decide +kernel
theorem dT_stampTree_61 : decode bT_stampTree 61 = .ok (.iinc 6 1, 3) := by decide +kernel
theorem dT_stampTree_64 : decode bT_stampTree 64 = .ok (.goto (-29), 3) := by decide +kernel
theorem dT_stampTree_67 : decode bT_stampTree 67 = .ok (.iload_n 3, 1) := by decide +kernel
theorem dT_stampTree_68 : decode bT_stampTree 68 = .ok (.ireturn, 1) := by decide +kernel
theorem dT_address_0 : decode bT_address 0 = .ok (.iload_n 1, 1) := by decide +kernel
theorem dT_address_1 : decode bT_address 1 = .ok (.invokestatic 60, 3) := by decide +kernel
theorem dT_address_4 : decode bT_address 4 = .ok (.ifCond .eq 16, 3) := by decide +kernel
theorem dT_address_7 : decode bT_address 7 = .ok (.aload_n 0, 1) := by decide +kernel
theorem dT_address_8 : decode bT_address 8 = .ok (.getfield 15, 3) := by decide +kernel
theorem dT_address_11 : decode bT_address 11 = .ok (.iload_n 1, 1) := by decide +kernel
theorem dT_address_12 : decode bT_address 12 = .ok (.aaload, 1) := by decide +kernel
theorem dT_address_13 : decode bT_address 13 = .ok (.iconst 5, 1) := by decide +kernel
theorem dT_address_14 : decode bT_address 14 = .ok (.invokestatic 133, 3) := by decide +kernel
theorem dT_address_17 : decode bT_address 17 = .ok (.goto 4, 3) := by decide +kernel
theorem dT_address_20 : decode bT_address 20 = .ok (.lconst 0, 1) := by decide +kernel
theorem dT_address_21 : decode bT_address 21 = .ok (.lreturn, 1) := by decide +kernel
theorem dT_addressOf_0 : decode bT_addressOf 0 = .ok (.iload_n 1, 1) := by decide +kernel
theorem dT_addressOf_1 : decode bT_addressOf 1 = .ok (.ifCond .lt 10, 3) := by decide +kernel
theorem dT_addressOf_4 : decode bT_addressOf 4 = .ok (.aload_n 0, 1) := by decide +kernel
theorem dT_addressOf_5 : decode bT_addressOf 5 = .ok (.getfield 205, 3) := by decide +kernel
theorem dT_addressOf_8 : decode bT_addressOf 8 = .ok (.ifCond .eq 8, 3) := by decide +kernel
theorem dT_addressOf_11 : decode bT_addressOf 11 = .ok (.aload_n 0, 1) := by decide +kernel
theorem dT_addressOf_12 : decode bT_addressOf 12 = .ok (.getfield 209, 3) := by decide +kernel
theorem dT_addressOf_15 : decode bT_addressOf 15 = .ok (.lreturn, 1) := by decide +kernel
theorem dT_addressOf_16 : decode bT_addressOf 16 = .ok (.ldc2_w 213, 3) := by decide +kernel
theorem dT_addressOf_19 : decode bT_addressOf 19 = .ok (.aload_n 0, 1) := by decide +kernel
theorem dT_addressOf_20 : decode bT_addressOf 20 = .ok (.getfield 123, 3) := by decide +kernel
theorem dT_addressOf_23 : decode bT_addressOf 23 = .ok (.i2l, 1) := by decide +kernel
theorem dT_addressOf_24 : decode bT_addressOf 24 = .ok (.invokestatic 215, 3) := by decide +kernel
theorem dT_addressOf_27 : decode bT_addressOf 27 = .ok (.lstore_n 2, 1) := by decide +kernel
theorem dT_addressOf_28 : decode bT_addressOf 28 = .ok (.aload_n 0, 1) := by decide +kernel
theorem dT_addressOf_29 : decode bT_addressOf 29 = .ok (.getfield 194, 3) := by decide +kernel
theorem dT_addressOf_32 : decode bT_addressOf 32 = .ok (.astore 4, 2) := by decide +kernel
theorem dT_addressOf_34 : decode bT_addressOf 34 = .ok (.aload 4, 2) := by decide +kernel
theorem dT_addressOf_36 : decode bT_addressOf 36 = .ok (.arraylength, 1) := by decide +kernel
theorem dT_addressOf_37 : decode bT_addressOf 37 = .ok (.istore 5, 2) := by decide +kernel
theorem dT_addressOf_39 : decode bT_addressOf 39 = .ok (.iconst 0, 1) := by decide +kernel
theorem dT_addressOf_40 : decode bT_addressOf 40 = .ok (.istore 6, 2) := by decide +kernel
theorem dT_addressOf_42 : decode bT_addressOf 42 = .ok (.iload 6, 2) := by decide +kernel
theorem dT_addressOf_44 : decode bT_addressOf 44 = .ok (.iload 5, 2) := by decide +kernel
theorem dT_addressOf_46 : decode bT_addressOf 46 = .ok (.if_icmp .ge 23, 3) := by decide +kernel
theorem dT_addressOf_49 : decode bT_addressOf 49 = .ok (.aload 4, 2) := by decide +kernel
theorem dT_addressOf_51 : decode bT_addressOf 51 = .ok (.iload 6, 2) := by decide +kernel
theorem dT_addressOf_53 : decode bT_addressOf 53 = .ok (.aaload, 1) := by decide +kernel
theorem dT_addressOf_54 : decode bT_addressOf 54 = .ok (.astore 7, 2) := by decide +kernel
theorem dT_addressOf_56 : decode bT_addressOf 56 = .ok (.lload_n 2, 1) := by decide +kernel
theorem dT_addressOf_57 : decode bT_addressOf 57 = .ok (.aload 7, 2) := by decide +kernel
theorem dT_addressOf_59 : decode bT_addressOf 59 = .ok (.invokestatic 219, 3) := by decide +kernel
theorem dT_addressOf_62 : decode bT_addressOf 62 = .ok (.lstore_n 2, 1) := by decide +kernel
theorem dT_addressOf_63 : decode bT_addressOf 63 = .ok (.iinc 6 1, 3) := by decide +kernel
theorem dT_addressOf_66 : decode bT_addressOf 66 = .ok (.goto (-24), 3) := by decide +kernel
theorem dT_addressOf_69 : decode bT_addressOf 69 = .ok (.aload_n 0, 1) := by decide +kernel
theorem dT_addressOf_70 : decode bT_addressOf 70 = .ok (.getfield 191, 3) := by decide +kernel
theorem dT_addressOf_73 : decode bT_addressOf 73 = .ok (.astore 4, 2) := by decide +kernel
theorem dT_addressOf_75 : decode bT_addressOf 75 = .ok (.aload 4, 2) := by decide +kernel
theorem dT_addressOf_77 : decode bT_addressOf 77 = .ok (.arraylength, 1) := by decide +kernel
theorem dT_addressOf_78 : decode bT_addressOf 78 = .ok (.istore 5, 2) := by decide +kernel
theorem dT_addressOf_80 : decode bT_addressOf 80 = .ok (.iconst 0, 1) := by decide +kernel
theorem dT_addressOf_81 : decode bT_addressOf 81 = .ok (.istore 6, 2) := by decide +kernel
theorem dT_addressOf_83 : decode bT_addressOf 83 = .ok (.iload 6, 2) := by decide +kernel
theorem dT_addressOf_85 : decode bT_addressOf 85 = .ok (.iload 5, 2) := by decide +kernel
theorem dT_addressOf_87 : decode bT_addressOf 87 = .ok (.if_icmp .ge 29, 3) := by decide +kernel
theorem dT_addressOf_90 : decode bT_addressOf 90 = .ok (.aload 4, 2) := by decide +kernel
theorem dT_addressOf_92 : decode bT_addressOf 92 = .ok (.iload 6, 2) := by decide +kernel
theorem dT_addressOf_94 : decode bT_addressOf 94 = .ok (.aaload, 1) := by decide +kernel
theorem dT_addressOf_95 : decode bT_addressOf 95 = .ok (.astore 7, 2) := by decide +kernel
theorem dT_addressOf_97 : decode bT_addressOf 97 = .ok (.lload_n 2, 1) := by decide +kernel
theorem dT_addressOf_98 : decode bT_addressOf 98 = .ok (.aload 7, 2) := by decide +kernel
theorem dT_addressOf_100 : decode bT_addressOf 100 = .ok (.iload_n 1, 1) := by decide +kernel
theorem dT_addressOf_101 : decode bT_addressOf 101 = .ok (.iconst 1, 1) := by decide +kernel
theorem dT_addressOf_102 : decode bT_addressOf 102 = .ok (.isub, 1) := by decide +kernel
theorem dT_addressOf_103 : decode bT_addressOf 103 = .ok (.invokestatic 133, 3) := by decide +kernel
theorem dT_addressOf_106 : decode bT_addressOf 106 = .ok (.invokestatic 215, 3) := by decide +kernel
theorem dT_addressOf_109 : decode bT_addressOf 109 = .ok (.lstore_n 2, 1) := by decide +kernel
theorem dT_addressOf_110 : decode bT_addressOf 110 = .ok (.iinc 6 1, 3) := by decide +kernel
theorem dT_addressOf_113 : decode bT_addressOf 113 = .ok (.goto (-30), 3) := by decide +kernel
theorem dT_addressOf_116 : decode bT_addressOf 116 = .ok (.aload_n 0, 1) := by decide +kernel
theorem dT_addressOf_117 : decode bT_addressOf 117 = .ok (.lload_n 2, 1) := by decide +kernel
theorem dT_addressOf_118 : decode bT_addressOf 118 = .ok (.putfield 209, 3) := by decide +kernel
theorem dT_addressOf_121 : decode bT_addressOf 121 = .ok (.aload_n 0, 1) := by decide +kernel
theorem dT_addressOf_122 : decode bT_addressOf 122 = .ok (.iconst 1, 1) := by decide +kernel
theorem dT_addressOf_123 : decode bT_addressOf 123 = .ok (.putfield 205, 3) := by decide +kernel
theorem dT_addressOf_126 : decode bT_addressOf 126 = .ok (.lload_n 2, 1) := by decide +kernel
theorem dT_addressOf_127 : decode bT_addressOf 127 = .ok (.lreturn, 1) := by decide +kernel
theorem dT_mixed_0 : decode bT_mixed 0 = .ok (.lload_n 0, 1) := by decide +kernel
theorem dT_mixed_1 : decode bT_mixed 1 = .ok (.lload_n 2, 1) := by decide +kernel
theorem dT_mixed_2 : decode bT_mixed 2 = .ok (.lxor, 1) := by decide +kernel
theorem dT_mixed_3 : decode bT_mixed 3 = .ok (.ldc2_w 223, 3) := by decide +kernel
theorem dT_mixed_6 : decode bT_mixed 6 = .ok (.lmul, 1) := by decide +kernel
theorem dT_mixed_7 : decode bT_mixed 7 = .ok (.lreturn, 1) := by decide +kernel
theorem dT_mixedRow_0 : decode bT_mixedRow 0 = .ok (.lload_n 0, 1) := by decide +kernel
theorem dT_mixedRow_1 : decode bT_mixedRow 1 = .ok (.aload_n 2, 1) := by decide +kernel
theorem dT_mixedRow_2 : decode bT_mixedRow 2 = .ok (.getfield 202, 3) := by decide +kernel
theorem dT_mixedRow_5 : decode bT_mixedRow 5 = .ok (.i2l, 1) := by decide +kernel
theorem dT_mixedRow_6 : decode bT_mixedRow 6 = .ok (.invokestatic 215, 3) := by decide +kernel
theorem dT_mixedRow_9 : decode bT_mixedRow 9 = .ok (.lstore_n 3, 1) := by decide +kernel
theorem dT_mixedRow_10 : decode bT_mixedRow 10 = .ok (.iconst 0, 1) := by decide +kernel
theorem dT_mixedRow_11 : decode bT_mixedRow 11 = .ok (.istore 5, 2) := by decide +kernel
theorem dT_mixedRow_13 : decode bT_mixedRow 13 = .ok (.iload 5, 2) := by decide +kernel
theorem dT_mixedRow_15 : decode bT_mixedRow 15 = .ok (.aload_n 2, 1) := by decide +kernel
theorem dT_mixedRow_16 : decode bT_mixedRow 16 = .ok (.getfield 117, 3) := by decide +kernel
theorem dT_mixedRow_19 : decode bT_mixedRow 19 = .ok (.arraylength, 1) := by decide +kernel
theorem dT_mixedRow_20 : decode bT_mixedRow 20 = .ok (.if_icmp .ge 43, 3) := by decide +kernel
theorem dT_mixedRow_23 : decode bT_mixedRow 23 = .ok (.aload_n 2, 1) := by decide +kernel
theorem dT_mixedRow_24 : decode bT_mixedRow 24 = .ok (.iload 5, 2) := by decide +kernel
theorem dT_mixedRow_26 : decode bT_mixedRow 26 = .ok (.invokevirtual 112, 3) := by decide +kernel
theorem dT_mixedRow_29 : decode bT_mixedRow 29 = .ok (.ifCond .eq 11, 3) := by decide +kernel
theorem dT_mixedRow_32 : decode bT_mixedRow 32 = .ok (.lload_n 3, 1) := by decide +kernel
theorem dT_mixedRow_33 : decode bT_mixedRow 33 = .ok (.lconst 0, 1) := by decide +kernel
theorem dT_mixedRow_34 : decode bT_mixedRow 34 = .ok (.invokestatic 215, 3) := by decide +kernel
theorem dT_mixedRow_37 : decode bT_mixedRow 37 = .ok (.goto 19, 3) := by decide +kernel
theorem dT_mixedRow_40 : decode bT_mixedRow 40 = .ok (.lload_n 3, 1) := by decide +kernel
theorem dT_mixedRow_41 : decode bT_mixedRow 41 = .ok (.lconst 1, 1) := by decide +kernel
theorem dT_mixedRow_42 : decode bT_mixedRow 42 = .ok (.invokestatic 215, 3) := by decide +kernel
theorem dT_mixedRow_45 : decode bT_mixedRow 45 = .ok (.aload_n 2, 1) := by decide +kernel
theorem dT_mixedRow_46 : decode bT_mixedRow 46 = .ok (.getfield 117, 3) := by decide +kernel
theorem dT_mixedRow_49 : decode bT_mixedRow 49 = .ok (.iload 5, 2) := by decide +kernel
theorem dT_mixedRow_51 : decode bT_mixedRow 51 = .ok (.iaload, 1) := by decide +kernel
theorem dT_mixedRow_52 : decode bT_mixedRow 52 = .ok (.i2l, 1) := by decide +kernel
theorem dT_mixedRow_53 : decode bT_mixedRow 53 = .ok (.invokestatic 215, 3) := by decide +kernel
theorem dT_mixedRow_56 : decode bT_mixedRow 56 = .ok (.lstore_n 3, 1) := by decide +kernel
theorem dT_mixedRow_57 : decode bT_mixedRow 57 = .ok (.iinc 5 1, 3) := by decide +kernel
theorem dT_mixedRow_60 : decode bT_mixedRow 60 = .ok (.goto (-47), 3) := by decide +kernel
theorem dT_mixedRow_63 : decode bT_mixedRow 63 = .ok (.lload_n 3, 1) := by decide +kernel
theorem dT_mixedRow_64 : decode bT_mixedRow 64 = .ok (.lreturn, 1) := by decide +kernel
theorem dT_row_0 : decode bT_row 0 = .ok (.iload_n 1, 1) := by decide +kernel
theorem dT_row_1 : decode bT_row 1 = .ok (.invokestatic 60, 3) := by decide +kernel
theorem dT_row_4 : decode bT_row 4 = .ok (.ifCond .eq 20, 3) := by decide +kernel
theorem dT_row_7 : decode bT_row 7 = .ok (.iload_n 2, 1) := by decide +kernel
theorem dT_row_8 : decode bT_row 8 = .ok (.ifCond .lt 16, 3) := by decide +kernel
theorem dT_row_11 : decode bT_row 11 = .ok (.iload_n 2, 1) := by decide +kernel
theorem dT_row_12 : decode bT_row 12 = .ok (.aload_n 0, 1) := by decide +kernel
theorem dT_row_13 : decode bT_row 13 = .ok (.getfield 15, 3) := by decide +kernel
theorem dT_row_16 : decode bT_row 16 = .ok (.iload_n 1, 1) := by decide +kernel
theorem dT_row_17 : decode bT_row 17 = .ok (.aaload, 1) := by decide +kernel
theorem dT_row_18 : decode bT_row 18 = .ok (.getfield 120, 3) := by decide +kernel
theorem dT_row_21 : decode bT_row 21 = .ok (.if_icmp .lt 7, 3) := by decide +kernel
theorem dT_row_24 : decode bT_row 24 = .ok (.ldc2_w 115, 3) := by decide +kernel
theorem dT_row_27 : decode bT_row 27 = .ok (.lreturn, 1) := by decide +kernel
theorem dT_row_28 : decode bT_row 28 = .ok (.aload_n 0, 1) := by decide +kernel
theorem dT_row_29 : decode bT_row 29 = .ok (.getfield 15, 3) := by decide +kernel
theorem dT_row_32 : decode bT_row 32 = .ok (.iload_n 1, 1) := by decide +kernel
theorem dT_row_33 : decode bT_row 33 = .ok (.aaload, 1) := by decide +kernel
theorem dT_row_34 : decode bT_row 34 = .ok (.iload_n 2, 1) := by decide +kernel
theorem dT_row_35 : decode bT_row 35 = .ok (.invokestatic 137, 3) := by decide +kernel
theorem dT_row_38 : decode bT_row 38 = .ok (.lreturn, 1) := by decide +kernel
theorem dT_keyInOrder_0 : decode bT_keyInOrder 0 = .ok (.aload_n 0, 1) := by decide +kernel
theorem dT_keyInOrder_1 : decode bT_keyInOrder 1 = .ok (.astore_n 2, 1) := by decide +kernel
theorem dT_keyInOrder_2 : decode bT_keyInOrder 2 = .ok (.iload_n 1, 1) := by decide +kernel
theorem dT_keyInOrder_3 : decode bT_keyInOrder 3 = .ok (.istore_n 3, 1) := by decide +kernel
theorem dT_keyInOrder_4 : decode bT_keyInOrder 4 = .ok (.iconst 5, 1) := by decide +kernel
theorem dT_keyInOrder_5 : decode bT_keyInOrder 5 = .ok (.istore 4, 2) := by decide +kernel
theorem dT_keyInOrder_7 : decode bT_keyInOrder 7 = .ok (.iload 4, 2) := by decide +kernel
theorem dT_keyInOrder_9 : decode bT_keyInOrder 9 = .ok (.ifCond .le 72, 3) := by decide +kernel
theorem dT_keyInOrder_12 : decode bT_keyInOrder 12 = .ok (.aload_n 2, 1) := by decide +kernel
theorem dT_keyInOrder_13 : decode bT_keyInOrder 13 = .ok (.getfield 123, 3) := by decide +kernel
theorem dT_keyInOrder_16 : decode bT_keyInOrder 16 = .ok (.ifCond .le 65, 3) := by decide +kernel
theorem dT_keyInOrder_19 : decode bT_keyInOrder 19 = .ok (.iconst 0, 1) := by decide +kernel
theorem dT_keyInOrder_20 : decode bT_keyInOrder 20 = .ok (.istore 5, 2) := by decide +kernel
theorem dT_keyInOrder_22 : decode bT_keyInOrder 22 = .ok (.iload 5, 2) := by decide +kernel
theorem dT_keyInOrder_24 : decode bT_keyInOrder 24 = .ok (.iconst 1, 1) := by decide +kernel
theorem dT_keyInOrder_25 : decode bT_keyInOrder 25 = .ok (.iadd, 1) := by decide +kernel
theorem dT_keyInOrder_26 : decode bT_keyInOrder 26 = .ok (.aload_n 2, 1) := by decide +kernel
theorem dT_keyInOrder_27 : decode bT_keyInOrder 27 = .ok (.getfield 191, 3) := by decide +kernel
theorem dT_keyInOrder_30 : decode bT_keyInOrder 30 = .ok (.arraylength, 1) := by decide +kernel
theorem dT_keyInOrder_31 : decode bT_keyInOrder 31 = .ok (.if_icmp .ge 36, 3) := by decide +kernel
theorem dT_keyInOrder_34 : decode bT_keyInOrder 34 = .ok (.iload_n 3, 1) := by decide +kernel
theorem dT_keyInOrder_35 : decode bT_keyInOrder 35 = .ok (.aload_n 2, 1) := by decide +kernel
theorem dT_keyInOrder_36 : decode bT_keyInOrder 36 = .ok (.getfield 191, 3) := by decide +kernel
theorem dT_keyInOrder_39 : decode bT_keyInOrder 39 = .ok (.iload 5, 2) := by decide +kernel
theorem dT_keyInOrder_41 : decode bT_keyInOrder 41 = .ok (.aaload, 1) := by decide +kernel
theorem dT_keyInOrder_42 : decode bT_keyInOrder 42 = .ok (.getfield 120, 3) := by decide +kernel
theorem dT_keyInOrder_45 : decode bT_keyInOrder 45 = .ok (.if_icmp .lt 22, 3) := by decide +kernel
theorem dT_keyInOrder_48 : decode bT_keyInOrder 48 = .ok (.iload_n 3, 1) := by decide +kernel
theorem dT_keyInOrder_49 : decode bT_keyInOrder 49 = .ok (.aload_n 2, 1) := by decide +kernel
theorem dT_keyInOrder_50 : decode bT_keyInOrder 50 = .ok (.getfield 191, 3) := by decide +kernel
theorem dT_keyInOrder_53 : decode bT_keyInOrder 53 = .ok (.iload 5, 2) := by decide +kernel
theorem dT_keyInOrder_55 : decode bT_keyInOrder 55 = .ok (.aaload, 1) := by decide +kernel
theorem dT_keyInOrder_56 : decode bT_keyInOrder 56 = .ok (.getfield 120, 3) := by decide +kernel
theorem dT_keyInOrder_59 : decode bT_keyInOrder 59 = .ok (.isub, 1) := by decide +kernel
theorem dT_keyInOrder_60 : decode bT_keyInOrder 60 = .ok (.istore_n 3, 1) := by decide +kernel
theorem dT_keyInOrder_61 : decode bT_keyInOrder 61 = .ok (.iinc 5 1, 3) := by decide +kernel
theorem dT_keyInOrder_64 : decode bT_keyInOrder 64 = .ok (.goto (-42), 3) := by decide +kernel
theorem dT_keyInOrder_67 : decode bT_keyInOrder 67 = .ok (.aload_n 2, 1) := by decide +kernel
theorem dT_keyInOrder_68 : decode bT_keyInOrder 68 = .ok (.getfield 191, 3) := by decide +kernel
theorem dT_keyInOrder_71 : decode bT_keyInOrder 71 = .ok (.iload 5, 2) := by decide +kernel
theorem dT_keyInOrder_73 : decode bT_keyInOrder 73 = .ok (.aaload, 1) := by decide +kernel
theorem dT_keyInOrder_74 : decode bT_keyInOrder 74 = .ok (.astore_n 2, 1) := by decide +kernel
theorem dT_keyInOrder_75 : decode bT_keyInOrder 75 = .ok (.iinc 4 (-1), 3) := by decide +kernel
theorem dT_keyInOrder_78 : decode bT_keyInOrder 78 = .ok (.goto (-71), 3) := by decide +kernel
theorem dT_keyInOrder_81 : decode bT_keyInOrder 81 = .ok (.iload_n 3, 1) := by decide +kernel
theorem dT_keyInOrder_82 : decode bT_keyInOrder 82 = .ok (.aload_n 2, 1) := by decide +kernel
theorem dT_keyInOrder_83 : decode bT_keyInOrder 83 = .ok (.getfield 194, 3) := by decide +kernel
theorem dT_keyInOrder_86 : decode bT_keyInOrder 86 = .ok (.arraylength, 1) := by decide +kernel
theorem dT_keyInOrder_87 : decode bT_keyInOrder 87 = .ok (.if_icmp .ge 16, 3) := by decide +kernel
theorem dT_keyInOrder_90 : decode bT_keyInOrder 90 = .ok (.aload_n 2, 1) := by decide +kernel
theorem dT_keyInOrder_91 : decode bT_keyInOrder 91 = .ok (.getfield 194, 3) := by decide +kernel
theorem dT_keyInOrder_94 : decode bT_keyInOrder 94 = .ok (.iload_n 3, 1) := by decide +kernel
theorem dT_keyInOrder_95 : decode bT_keyInOrder 95 = .ok (.aaload, 1) := by decide +kernel
theorem dT_keyInOrder_96 : decode bT_keyInOrder 96 = .ok (.getfield 202, 3) := by decide +kernel
theorem dT_keyInOrder_99 : decode bT_keyInOrder 99 = .ok (.i2l, 1) := by decide +kernel
theorem dT_keyInOrder_100 : decode bT_keyInOrder 100 = .ok (.goto 6, 3) := by decide +kernel
theorem dT_keyInOrder_103 : decode bT_keyInOrder 103 = .ok (.ldc2_w 115, 3) := by decide +kernel
theorem dT_keyInOrder_106 : decode bT_keyInOrder 106 = .ok (.lreturn, 1) := by decide +kernel
theorem dT_compare_0 : decode bT_compare 0 = .ok (.iload_n 1, 1) := by decide +kernel
theorem dT_compare_1 : decode bT_compare 1 = .ok (.invokestatic 60, 3) := by decide +kernel
theorem dT_compare_4 : decode bT_compare 4 = .ok (.ifCond .eq 25, 3) := by decide +kernel
theorem dT_compare_7 : decode bT_compare 7 = .ok (.iload_n 2, 1) := by decide +kernel
theorem dT_compare_8 : decode bT_compare 8 = .ok (.invokestatic 60, 3) := by decide +kernel
theorem dT_compare_11 : decode bT_compare 11 = .ok (.ifCond .eq 18, 3) := by decide +kernel
theorem dT_compare_14 : decode bT_compare 14 = .ok (.aload_n 0, 1) := by decide +kernel
theorem dT_compare_15 : decode bT_compare 15 = .ok (.getfield 9, 3) := by decide +kernel
theorem dT_compare_18 : decode bT_compare 18 = .ok (.iload_n 1, 1) := by decide +kernel
theorem dT_compare_19 : decode bT_compare 19 = .ok (.iaload, 1) := by decide +kernel
theorem dT_compare_20 : decode bT_compare 20 = .ok (.aload_n 0, 1) := by decide +kernel
theorem dT_compare_21 : decode bT_compare 21 = .ok (.getfield 9, 3) := by decide +kernel
theorem dT_compare_24 : decode bT_compare 24 = .ok (.iload_n 2, 1) := by decide +kernel
theorem dT_compare_25 : decode bT_compare 25 = .ok (.iaload, 1) := by decide +kernel
theorem dT_compare_26 : decode bT_compare 26 = .ok (.if_icmp .eq 5, 3) := by decide +kernel
theorem dT_compare_29 : decode bT_compare 29 = .ok (.iconst (-1), 1) := by decide +kernel
theorem dT_compare_30 : decode bT_compare 30 = .ok (.ireturn, 1) := by decide +kernel
theorem dT_compare_31 : decode bT_compare 31 = .ok (.aload_n 0, 1) := by decide +kernel
theorem dT_compare_32 : decode bT_compare 32 = .ok (.iload_n 1, 1) := by decide +kernel
theorem dT_compare_33 : decode bT_compare 33 = .ok (.iload_n 2, 1) := by decide +kernel
theorem dT_compare_34 : decode bT_compare 34 = .ok (.aload_n 0, 1) := by decide +kernel
theorem dT_compare_35 : decode bT_compare 35 = .ok (.getfield 36, 3) := by decide +kernel
theorem dT_compare_38 : decode bT_compare 38 = .ok (.invokevirtual 140, 3) := by decide +kernel
theorem dT_compare_41 : decode bT_compare 41 = .ok (.aload_n 0, 1) := by decide +kernel
theorem dT_compare_42 : decode bT_compare 42 = .ok (.iload_n 2, 1) := by decide +kernel
theorem dT_compare_43 : decode bT_compare 43 = .ok (.iload_n 1, 1) := by decide +kernel
theorem dT_compare_44 : decode bT_compare 44 = .ok (.aload_n 0, 1) := by decide +kernel
theorem dT_compare_45 : decode bT_compare 45 = .ok (.getfield 40, 3) := by decide +kernel
theorem dT_compare_48 : decode bT_compare 48 = .ok (.invokevirtual 140, 3) := by decide +kernel
theorem dT_compare_51 : decode bT_compare 51 = .ok (.aload_n 0, 1) := by decide +kernel
theorem dT_compare_52 : decode bT_compare 52 = .ok (.getfield 29, 3) := by decide +kernel
theorem dT_compare_55 : decode bT_compare 55 = .ok (.aload_n 0, 1) := by decide +kernel
theorem dT_compare_56 : decode bT_compare 56 = .ok (.getfield 36, 3) := by decide +kernel
theorem dT_compare_59 : decode bT_compare 59 = .ok (.aload_n 0, 1) := by decide +kernel
theorem dT_compare_60 : decode bT_compare 60 = .ok (.getfield 40, 3) := by decide +kernel
theorem dT_compare_63 : decode bT_compare 63 = .ok (.invokevirtual 144, 3) := by decide +kernel
theorem dT_compare_66 : decode bT_compare 66 = .ok (.aload_n 0, 1) := by decide +kernel
theorem dT_compare_67 : decode bT_compare 67 = .ok (.getfield 29, 3) := by decide +kernel
theorem dT_compare_70 : decode bT_compare 70 = .ok (.getfield 148, 3) := by decide +kernel
theorem dT_compare_73 : decode bT_compare 73 = .ok (.ireturn, 1) := by decide +kernel
theorem dT_gatherUnshared_0 : decode bT_gatherUnshared 0 = .ok (.aload_n 0, 1) := by decide +kernel
theorem dT_gatherUnshared_1 : decode bT_gatherUnshared 1 = .ok (.invokevirtual 126, 3) := by decide +kernel
theorem dT_gatherUnshared_4 : decode bT_gatherUnshared 4 = .ok (.istore 4, 2) := by decide +kernel
theorem dT_gatherUnshared_6 : decode bT_gatherUnshared 6 = .ok (.aload_n 0, 1) := by decide +kernel
theorem dT_gatherUnshared_7 : decode bT_gatherUnshared 7 = .ok (.getfield 15, 3) := by decide +kernel
theorem dT_gatherUnshared_10 : decode bT_gatherUnshared 10 = .ok (.iload_n 2, 1) := by decide +kernel
theorem dT_gatherUnshared_11 : decode bT_gatherUnshared 11 = .ok (.aaload, 1) := by decide +kernel
theorem dT_gatherUnshared_12 : decode bT_gatherUnshared 12 = .ok (.iload 4, 2) := by decide +kernel
theorem dT_gatherUnshared_14 : decode bT_gatherUnshared 14 = .ok (.iconst 5, 1) := by decide +kernel
theorem dT_gatherUnshared_15 : decode bT_gatherUnshared 15 = .ok (.invokestatic 129, 3) := by decide +kernel
theorem dT_gatherUnshared_18 : decode bT_gatherUnshared 18 = .ok (.pop, 1) := by decide +kernel
theorem dT_gatherUnshared_19 : decode bT_gatherUnshared 19 = .ok (.aload_n 3, 1) := by decide +kernel
theorem dT_gatherUnshared_20 : decode bT_gatherUnshared 20 = .ok (.iconst 0, 1) := by decide +kernel
theorem dT_gatherUnshared_21 : decode bT_gatherUnshared 21 = .ok (.putfield 64, 3) := by decide +kernel
theorem dT_gatherUnshared_24 : decode bT_gatherUnshared 24 = .ok (.aload_n 0, 1) := by decide +kernel
theorem dT_gatherUnshared_25 : decode bT_gatherUnshared 25 = .ok (.getfield 15, 3) := by decide +kernel
theorem dT_gatherUnshared_28 : decode bT_gatherUnshared 28 = .ok (.iload_n 1, 1) := by decide +kernel
theorem dT_gatherUnshared_29 : decode bT_gatherUnshared 29 = .ok (.aaload, 1) := by decide +kernel
theorem dT_gatherUnshared_30 : decode bT_gatherUnshared 30 = .ok (.iload 4, 2) := by decide +kernel
theorem dT_gatherUnshared_32 : decode bT_gatherUnshared 32 = .ok (.aload_n 3, 1) := by decide +kernel
theorem dT_gatherUnshared_33 : decode bT_gatherUnshared 33 = .ok (.iconst 5, 1) := by decide +kernel
theorem dT_gatherUnshared_34 : decode bT_gatherUnshared 34 = .ok (.invokestatic 167, 3) := by decide +kernel
theorem dT_gatherUnshared_37 : decode bT_gatherUnshared 37 = .ok (.return_, 1) := by decide +kernel
theorem dT_difference_0 : decode bT_difference 0 = .ok (.iload_n 1, 1) := by decide +kernel
theorem dT_difference_1 : decode bT_difference 1 = .ok (.ifCond .lt 14, 3) := by decide +kernel
theorem dT_difference_4 : decode bT_difference 4 = .ok (.iload_n 1, 1) := by decide +kernel
theorem dT_difference_5 : decode bT_difference 5 = .ok (.aload_n 0, 1) := by decide +kernel
theorem dT_difference_6 : decode bT_difference 6 = .ok (.getfield 29, 3) := by decide +kernel
theorem dT_difference_9 : decode bT_difference 9 = .ok (.getfield 148, 3) := by decide +kernel
theorem dT_difference_12 : decode bT_difference 12 = .ok (.if_icmp .lt 7, 3) := by decide +kernel
theorem dT_difference_15 : decode bT_difference 15 = .ok (.ldc2_w 115, 3) := by decide +kernel
theorem dT_difference_18 : decode bT_difference 18 = .ok (.lreturn, 1) := by decide +kernel
theorem dT_difference_19 : decode bT_difference 19 = .ok (.iload_n 2, 1) := by decide +kernel
theorem dT_difference_20 : decode bT_difference 20 = .ok (.tableswitch 61 0 2 #[28, 39, 50], 28) := by decide +kernel
theorem dT_difference_48 : decode bT_difference 48 = .ok (.aload_n 0, 1) := by decide +kernel
theorem dT_difference_49 : decode bT_difference 49 = .ok (.getfield 29, 3) := by decide +kernel
theorem dT_difference_52 : decode bT_difference 52 = .ok (.getfield 149, 3) := by decide +kernel
theorem dT_difference_55 : decode bT_difference 55 = .ok (.iload_n 1, 1) := by decide +kernel
theorem dT_difference_56 : decode bT_difference 56 = .ok (.iaload, 1) := by decide +kernel
theorem dT_difference_57 : decode bT_difference 57 = .ok (.i2l, 1) := by decide +kernel
theorem dT_difference_58 : decode bT_difference 58 = .ok (.lreturn, 1) := by decide +kernel
theorem dT_difference_59 : decode bT_difference 59 = .ok (.aload_n 0, 1) := by decide +kernel
theorem dT_difference_60 : decode bT_difference 60 = .ok (.getfield 29, 3) := by decide +kernel
theorem dT_difference_63 : decode bT_difference 63 = .ok (.getfield 152, 3) := by decide +kernel
theorem dT_difference_66 : decode bT_difference 66 = .ok (.iload_n 1, 1) := by decide +kernel
theorem dT_difference_67 : decode bT_difference 67 = .ok (.iaload, 1) := by decide +kernel
theorem dT_difference_68 : decode bT_difference 68 = .ok (.i2l, 1) := by decide +kernel
theorem dT_difference_69 : decode bT_difference 69 = .ok (.lreturn, 1) := by decide +kernel
theorem dT_difference_70 : decode bT_difference 70 = .ok (.aload_n 0, 1) := by decide +kernel
theorem dT_difference_71 : decode bT_difference 71 = .ok (.getfield 29, 3) := by decide +kernel
theorem dT_difference_74 : decode bT_difference 74 = .ok (.getfield 155, 3) := by decide +kernel
theorem dT_difference_77 : decode bT_difference 77 = .ok (.iload_n 1, 1) := by decide +kernel
theorem dT_difference_78 : decode bT_difference 78 = .ok (.iaload, 1) := by decide +kernel
theorem dT_difference_79 : decode bT_difference 79 = .ok (.i2l, 1) := by decide +kernel
theorem dT_difference_80 : decode bT_difference 80 = .ok (.lreturn, 1) := by decide +kernel
theorem dT_difference_81 : decode bT_difference 81 = .ok (.ldc2_w 115, 3) := by decide +kernel
theorem dT_difference_84 : decode bT_difference 84 = .ok (.lreturn, 1) := by decide +kernel
theorem dT_sweep_0 : decode bT_sweep 0 = .ok (.aload_n 0, 1) := by decide +kernel
theorem dT_sweep_1 : decode bT_sweep 1 = .ok (.invokevirtual 126, 3) := by decide +kernel
theorem dT_sweep_4 : decode bT_sweep 4 = .ok (.istore_n 1, 1) := by decide +kernel
theorem dT_sweep_5 : decode bT_sweep 5 = .ok (.aload_n 0, 1) := by decide +kernel
theorem dT_sweep_6 : decode bT_sweep 6 = .ok (.getfield 15, 3) := by decide +kernel
theorem dT_sweep_9 : decode bT_sweep 9 = .ok (.astore_n 2, 1) := by decide +kernel
theorem dT_sweep_10 : decode bT_sweep 10 = .ok (.aload_n 2, 1) := by decide +kernel
theorem dT_sweep_11 : decode bT_sweep 11 = .ok (.arraylength, 1) := by decide +kernel
theorem dT_sweep_12 : decode bT_sweep 12 = .ok (.istore_n 3, 1) := by decide +kernel
theorem dT_sweep_13 : decode bT_sweep 13 = .ok (.iconst 0, 1) := by decide +kernel
theorem dT_sweep_14 : decode bT_sweep 14 = .ok (.istore 4, 2) := by decide +kernel
theorem dT_sweep_16 : decode bT_sweep 16 = .ok (.iload 4, 2) := by decide +kernel
theorem dT_sweep_18 : decode bT_sweep 18 = .ok (.iload_n 3, 1) := by decide +kernel
theorem dT_sweep_19 : decode bT_sweep 19 = .ok (.if_icmp .ge 23, 3) := by decide +kernel
theorem dT_sweep_22 : decode bT_sweep 22 = .ok (.aload_n 2, 1) := by decide +kernel
theorem dT_sweep_23 : decode bT_sweep 23 = .ok (.iload 4, 2) := by decide +kernel
theorem dT_sweep_25 : decode bT_sweep 25 = .ok (.aaload, 1) := by decide +kernel
theorem dT_sweep_26 : decode bT_sweep 26 = .ok (.astore 5, 2) := by decide +kernel
theorem dT_sweep_28 : decode bT_sweep 28 = .ok (.aload 5, 2) := by decide +kernel
theorem dT_sweep_30 : decode bT_sweep 30 = .ok (.iload_n 1, 1) := by decide +kernel
theorem dT_sweep_31 : decode bT_sweep 31 = .ok (.iconst 5, 1) := by decide +kernel
theorem dT_sweep_32 : decode bT_sweep 32 = .ok (.invokestatic 129, 3) := by decide +kernel
theorem dT_sweep_35 : decode bT_sweep 35 = .ok (.pop, 1) := by decide +kernel
theorem dT_sweep_36 : decode bT_sweep 36 = .ok (.iinc 4 1, 3) := by decide +kernel
theorem dT_sweep_39 : decode bT_sweep 39 = .ok (.goto (-23), 3) := by decide +kernel
theorem dT_sweep_42 : decode bT_sweep 42 = .ok (.aload_n 0, 1) := by decide +kernel
theorem dT_sweep_43 : decode bT_sweep 43 = .ok (.getfield 22, 3) := by decide +kernel
theorem dT_sweep_46 : decode bT_sweep 46 = .ok (.iload_n 1, 1) := by decide +kernel
theorem dT_sweep_47 : decode bT_sweep 47 = .ok (.invokevirtual 158, 3) := by decide +kernel
theorem dT_sweep_50 : decode bT_sweep 50 = .ok (.ireturn, 1) := by decide +kernel
theorem dT_count_0 : decode bT_count 0 = .ok (.iload_n 1, 1) := by decide +kernel
theorem dT_count_1 : decode bT_count 1 = .ok (.lookupswitch 43 #[(0, 27), (1, 35)], 27) := by decide +kernel
theorem dT_count_28 : decode bT_count 28 = .ok (.aload_n 0, 1) := by decide +kernel
theorem dT_count_29 : decode bT_count 29 = .ok (.getfield 22, 3) := by decide +kernel
theorem dT_count_32 : decode bT_count 32 = .ok (.getfield 161, 3) := by decide +kernel
theorem dT_count_35 : decode bT_count 35 = .ok (.ireturn, 1) := by decide +kernel
theorem dT_count_36 : decode bT_count 36 = .ok (.aload_n 0, 1) := by decide +kernel
theorem dT_count_37 : decode bT_count 37 = .ok (.getfield 22, 3) := by decide +kernel
theorem dT_count_40 : decode bT_count 40 = .ok (.getfield 164, 3) := by decide +kernel
theorem dT_count_43 : decode bT_count 43 = .ok (.ireturn, 1) := by decide +kernel
theorem dT_count_44 : decode bT_count 44 = .ok (.iconst (-1), 1) := by decide +kernel
theorem dT_count_45 : decode bT_count 45 = .ok (.ireturn, 1) := by decide +kernel
end
section
theorem dM_init_0 : decode bM_init 0 = .ok (.aload_n 0, 1) := by decide +kernel
theorem dM_init_1 : decode bM_init 1 = .ok (.invokespecial 3, 3) := by decide +kernel
theorem dM_init_4 : decode bM_init 4 = .ok (.aload_n 0, 1) := by decide +kernel
theorem dM_init_5 : decode bM_init 5 = .ok (.bipush 6, 2) := by decide +kernel
theorem dM_init_7 : decode bM_init 7 = .ok (.newarray .int, 2) := by decide +kernel
theorem dM_init_9 : decode bM_init 9 = .ok (.putfield 11, 3) := by decide +kernel
theorem dM_init_12 : decode bM_init 12 = .ok (.aload_n 0, 1) := by decide +kernel
theorem dM_init_13 : decode bM_init 13 = .ok (.bipush 6, 2) := by decide +kernel
theorem dM_init_15 : decode bM_init 15 = .ok (.newarray .int, 2) := by decide +kernel
theorem dM_init_17 : decode bM_init 17 = .ok (.putfield 15, 3) := by decide +kernel
theorem dM_init_20 : decode bM_init 20 = .ok (.aload_n 0, 1) := by decide +kernel
theorem dM_init_21 : decode bM_init 21 = .ok (.bipush 6, 2) := by decide +kernel
theorem dM_init_23 : decode bM_init 23 = .ok (.sipush 301, 3) := by decide +kernel
theorem dM_init_26 : decode bM_init 26 = .ok (.multianewarray 18 2, 4) := by decide +kernel
theorem dM_init_30 : decode bM_init 30 = .ok (.putfield 20, 3) := by decide +kernel
theorem dM_init_33 : decode bM_init 33 = .ok (.aload_n 0, 1) := by decide +kernel
theorem dM_init_34 : decode bM_init 34 = .ok (.bipush 6, 2) := by decide +kernel
theorem dM_init_36 : decode bM_init 36 = .ok (.sipush 1806, 3) := by decide +kernel
theorem dM_init_39 : decode bM_init 39 = .ok (.multianewarray 23 2, 4) := by decide +kernel
theorem dM_init_43 : decode bM_init 43 = .ok (.putfield 25, 3) := by decide +kernel
theorem dM_init_46 : decode bM_init 46 = .ok (.aload_n 0, 1) := by decide +kernel
theorem dM_init_47 : decode bM_init 47 = .ok (.sipush 301, 3) := by decide +kernel
theorem dM_init_50 : decode bM_init 50 = .ok (.newarray .int, 2) := by decide +kernel
theorem dM_init_52 : decode bM_init 52 = .ok (.putfield 28, 3) := by decide +kernel
theorem dM_init_55 : decode bM_init 55 = .ok (.aload_n 0, 1) := by decide +kernel
theorem dM_init_56 : decode bM_init 56 = .ok (.sipush 1806, 3) := by decide +kernel
theorem dM_init_59 : decode bM_init 59 = .ok (.newarray .long, 2) := by decide +kernel
theorem dM_init_61 : decode bM_init 61 = .ok (.putfield 31, 3) := by decide +kernel
theorem dM_init_64 : decode bM_init 64 = .ok (.aload_n 0, 1) := by decide +kernel
theorem dM_init_65 : decode bM_init 65 = .ok (.sipush 600, 3) := by decide +kernel
theorem dM_init_68 : decode bM_init 68 = .ok (.newarray .int, 2) := by decide +kernel
theorem dM_init_70 : decode bM_init 70 = .ok (.putfield 35, 3) := by decide +kernel
theorem dM_init_73 : decode bM_init 73 = .ok (.aload_n 0, 1) := by decide +kernel
theorem dM_init_74 : decode bM_init 74 = .ok (.sipush 600, 3) := by decide +kernel
theorem dM_init_77 : decode bM_init 77 = .ok (.newarray .int, 2) := by decide +kernel
theorem dM_init_79 : decode bM_init 79 = .ok (.putfield 38, 3) := by decide +kernel
theorem dM_init_82 : decode bM_init 82 = .ok (.aload_n 0, 1) := by decide +kernel
theorem dM_init_83 : decode bM_init 83 = .ok (.sipush 600, 3) := by decide +kernel
theorem dM_init_86 : decode bM_init 86 = .ok (.newarray .int, 2) := by decide +kernel
theorem dM_init_88 : decode bM_init 88 = .ok (.putfield 41, 3) := by decide +kernel
theorem dM_init_91 : decode bM_init 91 = .ok (.aload_n 0, 1) := by decide +kernel
theorem dM_init_92 : decode bM_init 92 = .ok (.ldc 44, 2) := by decide +kernel
theorem dM_init_94 : decode bM_init 94 = .ok (.newarray .int, 2) := by decide +kernel
theorem dM_init_96 : decode bM_init 96 = .ok (.putfield 45, 3) := by decide +kernel
theorem dM_init_99 : decode bM_init 99 = .ok (.aload_n 0, 1) := by decide +kernel
theorem dM_init_100 : decode bM_init 100 = .ok (.ldc 44, 2) := by decide +kernel
theorem dM_init_102 : decode bM_init 102 = .ok (.newarray .int, 2) := by decide +kernel
theorem dM_init_104 : decode bM_init 104 = .ok (.putfield 48, 3) := by decide +kernel
theorem dM_init_107 : decode bM_init 107 = .ok (.aload_n 0, 1) := by decide +kernel
theorem dM_init_108 : decode bM_init 108 = .ok (.ldc 44, 2) := by decide +kernel
theorem dM_init_110 : decode bM_init 110 = .ok (.newarray .int, 2) := by decide +kernel
theorem dM_init_112 : decode bM_init 112 = .ok (.putfield 51, 3) := by decide +kernel
theorem dM_init_115 : decode bM_init 115 = .ok (.aload_n 0, 1) := by decide +kernel
theorem dM_init_116 : decode bM_init 116 = .ok (.ldc 44, 2) := by decide +kernel
theorem dM_init_118 : decode bM_init 118 = .ok (.newarray .int, 2) := by decide +kernel
theorem dM_init_120 : decode bM_init 120 = .ok (.putfield 54, 3) := by decide +kernel
theorem dM_init_123 : decode bM_init 123 = .ok (.aload_n 0, 1) := by decide +kernel
theorem dM_init_124 : decode bM_init 124 = .ok (.ldc 44, 2) := by decide +kernel
theorem dM_init_126 : decode bM_init 126 = .ok (.newarray .int, 2) := by decide +kernel
theorem dM_init_128 : decode bM_init 128 = .ok (.putfield 57, 3) := by decide +kernel
theorem dM_init_131 : decode bM_init 131 = .ok (.aload_n 0, 1) := by decide +kernel
theorem dM_init_132 : decode bM_init 132 = .ok (.ldc 44, 2) := by decide +kernel
theorem dM_init_134 : decode bM_init 134 = .ok (.newarray .long, 2) := by decide +kernel
theorem dM_init_136 : decode bM_init 136 = .ok (.putfield 60, 3) := by decide +kernel
theorem dM_init_139 : decode bM_init 139 = .ok (.aload_n 0, 1) := by decide +kernel
theorem dM_init_140 : decode bM_init 140 = .ok (.sipush 4096, 3) := by decide +kernel
theorem dM_init_143 : decode bM_init 143 = .ok (.newarray .int, 2) := by decide +kernel
theorem dM_init_145 : decode bM_init 145 = .ok (.putfield 63, 3) := by decide +kernel
theorem dM_init_148 : decode bM_init 148 = .ok (.aload_n 0, 1) := by decide +kernel
theorem dM_init_149 : decode bM_init 149 = .ok (.sipush 301, 3) := by decide +kernel
theorem dM_init_152 : decode bM_init 152 = .ok (.newarray .int, 2) := by decide +kernel
theorem dM_init_154 : decode bM_init 154 = .ok (.putfield 66, 3) := by decide +kernel
theorem dM_init_157 : decode bM_init 157 = .ok (.aload_n 0, 1) := by decide +kernel
theorem dM_init_158 : decode bM_init 158 = .ok (.sipush 301, 3) := by decide +kernel
theorem dM_init_161 : decode bM_init 161 = .ok (.newarray .int, 2) := by decide +kernel
theorem dM_init_163 : decode bM_init 163 = .ok (.putfield 69, 3) := by decide +kernel
theorem dM_init_166 : decode bM_init 166 = .ok (.aload_n 0, 1) := by decide +kernel
theorem dM_init_167 : decode bM_init 167 = .ok (.sipush 2100, 3) := by decide +kernel
theorem dM_init_170 : decode bM_init 170 = .ok (.newarray .long, 2) := by decide +kernel
theorem dM_init_172 : decode bM_init 172 = .ok (.putfield 72, 3) := by decide +kernel
theorem dM_init_175 : decode bM_init 175 = .ok (.iconst 0, 1) := by decide +kernel
theorem dM_init_176 : decode bM_init 176 = .ok (.istore_n 1, 1) := by decide +kernel
theorem dM_init_177 : decode bM_init 177 = .ok (.iload_n 1, 1) := by decide +kernel
theorem dM_init_178 : decode bM_init 178 = .ok (.bipush 6, 2) := by decide +kernel
theorem dM_init_180 : decode bM_init 180 = .ok (.if_icmp .ge 22, 3) := by decide +kernel
theorem dM_init_183 : decode bM_init 183 = .ok (.aload_n 0, 1) := by decide +kernel
theorem dM_init_184 : decode bM_init 184 = .ok (.getfield 11, 3) := by decide +kernel
theorem dM_init_187 : decode bM_init 187 = .ok (.iload_n 1, 1) := by decide +kernel
theorem dM_init_188 : decode bM_init 188 = .ok (.iconst 1, 1) := by decide +kernel
theorem dM_init_189 : decode bM_init 189 = .ok (.iastore, 1) := by decide +kernel
theorem dM_init_190 : decode bM_init 190 = .ok (.aload_n 0, 1) := by decide +kernel
theorem dM_init_191 : decode bM_init 191 = .ok (.iload_n 1, 1) := by decide +kernel
theorem dM_init_192 : decode bM_init 192 = .ok (.invokevirtual 75, 3) := by decide +kernel
theorem dM_init_195 : decode bM_init 195 = .ok (.pop, 1) := by decide +kernel
theorem dM_init_196 : decode bM_init 196 = .ok (.iinc 1 1, 3) := by decide +kernel
theorem dM_init_199 : decode bM_init 199 = .ok (.goto (-22), 3) := by decide +kernel
theorem dM_init_202 : decode bM_init 202 = .ok (.return_, 1) := by decide +kernel
theorem dM_lay_0 : decode bM_lay 0 = .ok (.iconst 0, 1) := by decide +kernel
theorem dM_lay_1 : decode bM_lay 1 = .ok (.istore_n 2, 1) := by decide +kernel
theorem dM_lay_2 : decode bM_lay 2 = .ok (.aload_n 0, 1) := by decide +kernel
theorem dM_lay_3 : decode bM_lay 3 = .ok (.getfield 15, 3) := by decide +kernel
theorem dM_lay_6 : decode bM_lay 6 = .ok (.iload_n 1, 1) := by decide +kernel
theorem dM_lay_7 : decode bM_lay 7 = .ok (.iaload, 1) := by decide +kernel
theorem dM_lay_8 : decode bM_lay 8 = .ok (.istore_n 3, 1) := by decide +kernel
theorem dM_lay_9 : decode bM_lay 9 = .ok (.aload_n 0, 1) := by decide +kernel
theorem dM_lay_10 : decode bM_lay 10 = .ok (.getfield 11, 3) := by decide +kernel
theorem dM_lay_13 : decode bM_lay 13 = .ok (.iload_n 1, 1) := by decide +kernel
theorem dM_lay_14 : decode bM_lay 14 = .ok (.iaload, 1) := by decide +kernel
theorem dM_lay_15 : decode bM_lay 15 = .ok (.istore 4, 2) := by decide +kernel
theorem dM_lay_17 : decode bM_lay 17 = .ok (.aload_n 0, 1) := by decide +kernel
theorem dM_lay_18 : decode bM_lay 18 = .ok (.iconst 0, 1) := by decide +kernel
theorem dM_lay_19 : decode bM_lay 19 = .ok (.putfield 114, 3) := by decide +kernel
theorem dM_lay_22 : decode bM_lay 22 = .ok (.aload_n 0, 1) := by decide +kernel
theorem dM_lay_23 : decode bM_lay 23 = .ok (.iconst 0, 1) := by decide +kernel
theorem dM_lay_24 : decode bM_lay 24 = .ok (.putfield 117, 3) := by decide +kernel
theorem dM_lay_27 : decode bM_lay 27 = .ok (.aload_n 0, 1) := by decide +kernel
theorem dM_lay_28 : decode bM_lay 28 = .ok (.iconst 0, 1) := by decide +kernel
theorem dM_lay_29 : decode bM_lay 29 = .ok (.putfield 120, 3) := by decide +kernel
theorem dM_lay_32 : decode bM_lay 32 = .ok (.aload_n 0, 1) := by decide +kernel
theorem dM_lay_33 : decode bM_lay 33 = .ok (.iconst 0, 1) := by decide +kernel
theorem dM_lay_34 : decode bM_lay 34 = .ok (.putfield 123, 3) := by decide +kernel
theorem dM_lay_37 : decode bM_lay 37 = .ok (.aload_n 0, 1) := by decide +kernel
theorem dM_lay_38 : decode bM_lay 38 = .ok (.iconst 0, 1) := by decide +kernel
theorem dM_lay_39 : decode bM_lay 39 = .ok (.putfield 89, 3) := by decide +kernel
theorem dM_lay_42 : decode bM_lay 42 = .ok (.iload_n 2, 1) := by decide +kernel
theorem dM_lay_43 : decode bM_lay 43 = .ok (.istore 5, 2) := by decide +kernel
theorem dM_lay_45 : decode bM_lay 45 = .ok (.iload 5, 2) := by decide +kernel
theorem dM_lay_47 : decode bM_lay 47 = .ok (.iload_n 3, 1) := by decide +kernel
theorem dM_lay_48 : decode bM_lay 48 = .ok (.if_icmp .lt 14, 3) := by decide +kernel
theorem dM_lay_51 : decode bM_lay 51 = .ok (.iload 5, 2) := by decide +kernel
theorem dM_lay_53 : decode bM_lay 53 = .ok (.iload_n 2, 1) := by decide +kernel
theorem dM_lay_54 : decode bM_lay 54 = .ok (.if_icmp .ne 142, 3) := by decide +kernel
theorem dM_lay_57 : decode bM_lay 57 = .ok (.iload_n 2, 1) := by decide +kernel
theorem dM_lay_58 : decode bM_lay 58 = .ok (.iload_n 3, 1) := by decide +kernel
theorem dM_lay_59 : decode bM_lay 59 = .ok (.if_icmp .ne 137, 3) := by decide +kernel
theorem dM_lay_62 : decode bM_lay 62 = .ok (.iload_n 2, 1) := by decide +kernel
theorem dM_lay_63 : decode bM_lay 63 = .ok (.iload_n 3, 1) := by decide +kernel
theorem dM_lay_64 : decode bM_lay 64 = .ok (.if_icmp .ge 76, 3) := by decide +kernel
theorem dM_lay_67 : decode bM_lay 67 = .ok (.aload_n 0, 1) := by decide +kernel
theorem dM_lay_68 : decode bM_lay 68 = .ok (.getfield 72, 3) := by decide +kernel
theorem dM_lay_71 : decode bM_lay 71 = .ok (.aload_n 0, 1) := by decide +kernel
theorem dM_lay_72 : decode bM_lay 72 = .ok (.dup, 1) := by decide +kernel
theorem dM_lay_73 : decode bM_lay 73 = .ok (.getfield 89, 3) := by decide +kernel
theorem dM_lay_76 : decode bM_lay 76 = .ok (.dup_x1, 1) := by decide +kernel
theorem dM_lay_77 : decode bM_lay 77 = .ok (.iconst 1, 1) := by decide +kernel
theorem dM_lay_78 : decode bM_lay 78 = .ok (.iadd, 1) := by decide +kernel
theorem dM_lay_79 : decode bM_lay 79 = .ok (.putfield 89, 3) := by decide +kernel
theorem dM_lay_82 : decode bM_lay 82 = .ok (.aload_n 0, 1) := by decide +kernel
theorem dM_lay_83 : decode bM_lay 83 = .ok (.getfield 20, 3) := by decide +kernel
theorem dM_lay_86 : decode bM_lay 86 = .ok (.iload_n 1, 1) := by decide +kernel
theorem dM_lay_87 : decode bM_lay 87 = .ok (.aaload, 1) := by decide +kernel
theorem dM_lay_88 : decode bM_lay 88 = .ok (.iload 5, 2) := by decide +kernel
theorem dM_lay_90 : decode bM_lay 90 = .ok (.iaload, 1) := by decide +kernel
theorem dM_lay_91 : decode bM_lay 91 = .ok (.i2l, 1) := by decide +kernel
theorem dM_lay_92 : decode bM_lay 92 = .ok (.lastore, 1) := by decide +kernel
theorem dM_lay_93 : decode bM_lay 93 = .ok (.iconst 0, 1) := by decide +kernel
theorem dM_lay_94 : decode bM_lay 94 = .ok (.istore 6, 2) := by decide +kernel
theorem dM_lay_96 : decode bM_lay 96 = .ok (.iload 6, 2) := by decide +kernel
theorem dM_lay_98 : decode bM_lay 98 = .ok (.iload 4, 2) := by decide +kernel
theorem dM_lay_100 : decode bM_lay 100 = .ok (.if_icmp .ge 40, 3) := by decide +kernel
theorem dM_lay_103 : decode bM_lay 103 = .ok (.aload_n 0, 1) := by decide +kernel
theorem dM_lay_104 : decode bM_lay 104 = .ok (.getfield 72, 3) := by decide +kernel
theorem dM_lay_107 : decode bM_lay 107 = .ok (.aload_n 0, 1) := by decide +kernel
theorem dM_lay_108 : decode bM_lay 108 = .ok (.dup, 1) := by decide +kernel
theorem dM_lay_109 : decode bM_lay 109 = .ok (.getfield 89, 3) := by decide +kernel
theorem dM_lay_112 : decode bM_lay 112 = .ok (.dup_x1, 1) := by decide +kernel
theorem dM_lay_113 : decode bM_lay 113 = .ok (.iconst 1, 1) := by decide +kernel
theorem dM_lay_114 : decode bM_lay 114 = .ok (.iadd, 1) := by decide +kernel
theorem dM_lay_115 : decode bM_lay 115 = .ok (.putfield 89, 3) := by decide +kernel
theorem dM_lay_118 : decode bM_lay 118 = .ok (.aload_n 0, 1) := by decide +kernel
theorem dM_lay_119 : decode bM_lay 119 = .ok (.getfield 25, 3) := by decide +kernel
theorem dM_lay_122 : decode bM_lay 122 = .ok (.iload_n 1, 1) := by decide +kernel
theorem dM_lay_123 : decode bM_lay 123 = .ok (.aaload, 1) := by decide +kernel
theorem dM_lay_124 : decode bM_lay 124 = .ok (.bipush 6, 2) := by decide +kernel
theorem dM_lay_126 : decode bM_lay 126 = .ok (.iload 5, 2) := by decide +kernel
theorem dM_lay_128 : decode bM_lay 128 = .ok (.imul, 1) := by decide +kernel
theorem dM_lay_129 : decode bM_lay 129 = .ok (.iload 6, 2) := by decide +kernel
theorem dM_lay_131 : decode bM_lay 131 = .ok (.iadd, 1) := by decide +kernel
theorem dM_lay_132 : decode bM_lay 132 = .ok (.laload, 1) := by decide +kernel
theorem dM_lay_133 : decode bM_lay 133 = .ok (.lastore, 1) := by decide +kernel
theorem dM_lay_134 : decode bM_lay 134 = .ok (.iinc 6 1, 3) := by decide +kernel
theorem dM_lay_137 : decode bM_lay 137 = .ok (.goto (-41), 3) := by decide +kernel
theorem dM_lay_140 : decode bM_lay 140 = .ok (.iload 5, 2) := by decide +kernel
theorem dM_lay_142 : decode bM_lay 142 = .ok (.iload_n 3, 1) := by decide +kernel
theorem dM_lay_143 : decode bM_lay 143 = .ok (.iconst 1, 1) := by decide +kernel
theorem dM_lay_144 : decode bM_lay 144 = .ok (.isub, 1) := by decide +kernel
theorem dM_lay_145 : decode bM_lay 145 = .ok (.if_icmp .ge 22, 3) := by decide +kernel
theorem dM_lay_148 : decode bM_lay 148 = .ok (.aload_n 0, 1) := by decide +kernel
theorem dM_lay_149 : decode bM_lay 149 = .ok (.getfield 20, 3) := by decide +kernel
theorem dM_lay_152 : decode bM_lay 152 = .ok (.iload_n 1, 1) := by decide +kernel
theorem dM_lay_153 : decode bM_lay 153 = .ok (.aaload, 1) := by decide +kernel
theorem dM_lay_154 : decode bM_lay 154 = .ok (.iload 5, 2) := by decide +kernel
theorem dM_lay_156 : decode bM_lay 156 = .ok (.iaload, 1) := by decide +kernel
theorem dM_lay_157 : decode bM_lay 157 = .ok (.invokestatic 126, 3) := by decide +kernel
theorem dM_lay_160 : decode bM_lay 160 = .ok (.iconst 1, 1) := by decide +kernel
theorem dM_lay_161 : decode bM_lay 161 = .ok (.if_icmp .ge 6, 3) := by decide +kernel
theorem dM_lay_164 : decode bM_lay 164 = .ok (.goto 26, 3) := by decide +kernel
theorem dM_lay_167 : decode bM_lay 167 = .ok (.aload_n 0, 1) := by decide +kernel
theorem dM_lay_168 : decode bM_lay 168 = .ok (.iconst 0, 1) := by decide +kernel
theorem dM_lay_169 : decode bM_lay 169 = .ok (.iload_n 2, 1) := by decide +kernel
theorem dM_lay_170 : decode bM_lay 170 = .ok (.iload_n 3, 1) := by decide +kernel
theorem dM_lay_171 : decode bM_lay 171 = .ok (.if_icmp .ge 8, 3) := by decide +kernel
theorem dM_lay_174 : decode bM_lay 174 = .ok (.iload 4, 2) := by decide +kernel
theorem dM_lay_176 : decode bM_lay 176 = .ok (.goto 4, 3) := by decide +kernel
theorem dM_lay_179 : decode bM_lay 179 = .ok (.iconst 0, 1) := by decide +kernel
theorem dM_lay_180 : decode bM_lay 180 = .ok (.iload 5, 2) := by decide +kernel
theorem dM_lay_182 : decode bM_lay 182 = .ok (.invokevirtual 130, 3) := by decide +kernel
theorem dM_lay_185 : decode bM_lay 185 = .ok (.ifCond .ne 5, 3) := by decide +kernel
theorem dM_lay_188 : decode bM_lay 188 = .ok (.iconst 0, 1) := by decide +kernel
theorem dM_lay_189 : decode bM_lay 189 = .ok (.ireturn, 1) := by decide +kernel
theorem dM_lay_190 : decode bM_lay 190 = .ok (.iinc 5 1, 3) := by decide +kernel
theorem dM_lay_193 : decode bM_lay 193 = .ok (.goto (-148), 3) := by decide +kernel
theorem dM_lay_196 : decode bM_lay 196 = .ok (.aload_n 0, 1) := by decide +kernel
theorem dM_lay_197 : decode bM_lay 197 = .ok (.getfield 114, 3) := by decide +kernel
theorem dM_lay_200 : decode bM_lay 200 = .ok (.iconst 1, 1) := by decide +kernel
theorem dM_lay_201 : decode bM_lay 201 = .ok (.if_icmp .le 131, 3) := by decide +kernel
theorem dM_lay_204 : decode bM_lay 204 = .ok (.aload_n 0, 1) := by decide +kernel
theorem dM_lay_205 : decode bM_lay 205 = .ok (.getfield 114, 3) := by decide +kernel
theorem dM_lay_208 : decode bM_lay 208 = .ok (.istore 5, 2) := by decide +kernel
theorem dM_lay_210 : decode bM_lay 210 = .ok (.aload_n 0, 1) := by decide +kernel
theorem dM_lay_211 : decode bM_lay 211 = .ok (.iconst 0, 1) := by decide +kernel
theorem dM_lay_212 : decode bM_lay 212 = .ok (.putfield 114, 3) := by decide +kernel
theorem dM_lay_215 : decode bM_lay 215 = .ok (.aload_n 0, 1) := by decide +kernel
theorem dM_lay_216 : decode bM_lay 216 = .ok (.dup, 1) := by decide +kernel
theorem dM_lay_217 : decode bM_lay 217 = .ok (.getfield 117, 3) := by decide +kernel
theorem dM_lay_220 : decode bM_lay 220 = .ok (.iconst 1, 1) := by decide +kernel
theorem dM_lay_221 : decode bM_lay 221 = .ok (.iadd, 1) := by decide +kernel
theorem dM_lay_222 : decode bM_lay 222 = .ok (.putfield 117, 3) := by decide +kernel
theorem dM_lay_225 : decode bM_lay 225 = .ok (.aload_n 0, 1) := by decide +kernel
theorem dM_lay_226 : decode bM_lay 226 = .ok (.iconst 0, 1) := by decide +kernel
theorem dM_lay_227 : decode bM_lay 227 = .ok (.putfield 89, 3) := by decide +kernel
theorem dM_lay_230 : decode bM_lay 230 = .ok (.iconst 0, 1) := by decide +kernel
theorem dM_lay_231 : decode bM_lay 231 = .ok (.istore 6, 2) := by decide +kernel
theorem dM_lay_233 : decode bM_lay 233 = .ok (.iload 6, 2) := by decide +kernel
theorem dM_lay_235 : decode bM_lay 235 = .ok (.iload 5, 2) := by decide +kernel
theorem dM_lay_237 : decode bM_lay 237 = .ok (.if_icmp .ge 92, 3) := by decide +kernel
theorem dM_lay_240 : decode bM_lay 240 = .ok (.aload_n 0, 1) := by decide +kernel
theorem dM_lay_241 : decode bM_lay 241 = .ok (.getfield 72, 3) := by decide +kernel
theorem dM_lay_244 : decode bM_lay 244 = .ok (.aload_n 0, 1) := by decide +kernel
theorem dM_lay_245 : decode bM_lay 245 = .ok (.dup, 1) := by decide +kernel
theorem dM_lay_246 : decode bM_lay 246 = .ok (.getfield 89, 3) := by decide +kernel
theorem dM_lay_249 : decode bM_lay 249 = .ok (.dup_x1, 1) := by decide +kernel
theorem dM_lay_250 : decode bM_lay 250 = .ok (.iconst 1, 1) := by decide +kernel
theorem dM_lay_251 : decode bM_lay 251 = .ok (.iadd, 1) := by decide +kernel
theorem dM_lay_252 : decode bM_lay 252 = .ok (.putfield 89, 3) := by decide +kernel
theorem dM_lay_255 : decode bM_lay 255 = .ok (.aload_n 0, 1) := by decide +kernel
theorem dM_lay_256 : decode bM_lay 256 = .ok (.getfield 66, 3) := by decide +kernel
theorem dM_lay_259 : decode bM_lay 259 = .ok (.iload 6, 2) := by decide +kernel
theorem dM_lay_261 : decode bM_lay 261 = .ok (.iaload, 1) := by decide +kernel
theorem dM_lay_262 : decode bM_lay 262 = .ok (.i2l, 1) := by decide +kernel
theorem dM_lay_263 : decode bM_lay 263 = .ok (.lastore, 1) := by decide +kernel
theorem dM_lay_264 : decode bM_lay 264 = .ok (.iload 6, 2) := by decide +kernel
theorem dM_lay_266 : decode bM_lay 266 = .ok (.iload 5, 2) := by decide +kernel
theorem dM_lay_268 : decode bM_lay 268 = .ok (.iconst 1, 1) := by decide +kernel
theorem dM_lay_269 : decode bM_lay 269 = .ok (.isub, 1) := by decide +kernel
theorem dM_lay_270 : decode bM_lay 270 = .ok (.if_icmp .ge 32, 3) := by decide +kernel
theorem dM_lay_273 : decode bM_lay 273 = .ok (.aload_n 0, 1) := by decide +kernel
theorem dM_lay_274 : decode bM_lay 274 = .ok (.getfield 20, 3) := by decide +kernel
theorem dM_lay_277 : decode bM_lay 277 = .ok (.iload_n 1, 1) := by decide +kernel
theorem dM_lay_278 : decode bM_lay 278 = .ok (.aaload, 1) := by decide +kernel
theorem dM_lay_279 : decode bM_lay 279 = .ok (.aload_n 0, 1) := by decide +kernel
theorem dM_lay_280 : decode bM_lay 280 = .ok (.getfield 69, 3) := by decide +kernel
theorem dM_lay_283 : decode bM_lay 283 = .ok (.iload 6, 2) := by decide +kernel
theorem dM_lay_285 : decode bM_lay 285 = .ok (.iaload, 1) := by decide +kernel
theorem dM_lay_286 : decode bM_lay 286 = .ok (.iaload, 1) := by decide +kernel
theorem dM_lay_287 : decode bM_lay 287 = .ok (.invokestatic 126, 3) := by decide +kernel
theorem dM_lay_290 : decode bM_lay 290 = .ok (.aload_n 0, 1) := by decide +kernel
theorem dM_lay_291 : decode bM_lay 291 = .ok (.getfield 117, 3) := by decide +kernel
theorem dM_lay_294 : decode bM_lay 294 = .ok (.iconst 1, 1) := by decide +kernel
theorem dM_lay_295 : decode bM_lay 295 = .ok (.iadd, 1) := by decide +kernel
theorem dM_lay_296 : decode bM_lay 296 = .ok (.if_icmp .ge 6, 3) := by decide +kernel
theorem dM_lay_299 : decode bM_lay 299 = .ok (.goto 24, 3) := by decide +kernel
theorem dM_lay_302 : decode bM_lay 302 = .ok (.aload_n 0, 1) := by decide +kernel
theorem dM_lay_303 : decode bM_lay 303 = .ok (.aload_n 0, 1) := by decide +kernel
theorem dM_lay_304 : decode bM_lay 304 = .ok (.getfield 117, 3) := by decide +kernel
theorem dM_lay_307 : decode bM_lay 307 = .ok (.iconst 0, 1) := by decide +kernel
theorem dM_lay_308 : decode bM_lay 308 = .ok (.aload_n 0, 1) := by decide +kernel
theorem dM_lay_309 : decode bM_lay 309 = .ok (.getfield 69, 3) := by decide +kernel
theorem dM_lay_312 : decode bM_lay 312 = .ok (.iload 6, 2) := by decide +kernel
theorem dM_lay_314 : decode bM_lay 314 = .ok (.iaload, 1) := by decide +kernel
theorem dM_lay_315 : decode bM_lay 315 = .ok (.invokevirtual 130, 3) := by decide +kernel
theorem dM_lay_318 : decode bM_lay 318 = .ok (.ifCond .ne 5, 3) := by decide +kernel
theorem dM_lay_321 : decode bM_lay 321 = .ok (.iconst 0, 1) := by decide +kernel
theorem dM_lay_322 : decode bM_lay 322 = .ok (.ireturn, 1) := by decide +kernel
theorem dM_lay_323 : decode bM_lay 323 = .ok (.iinc 6 1, 3) := by decide +kernel
theorem dM_lay_326 : decode bM_lay 326 = .ok (.goto (-93), 3) := by decide +kernel
theorem dM_lay_329 : decode bM_lay 329 = .ok (.goto (-133), 3) := by decide +kernel
theorem dM_lay_332 : decode bM_lay 332 = .ok (.iconst 1, 1) := by decide +kernel
theorem dM_lay_333 : decode bM_lay 333 = .ok (.ireturn, 1) := by decide +kernel
theorem dM_levelOf_0 : decode bM_levelOf 0 = .ok (.iload_n 0, 1) := by decide +kernel
theorem dM_levelOf_1 : decode bM_levelOf 1 = .ok (.ldc 79, 2) := by decide +kernel
theorem dM_levelOf_3 : decode bM_levelOf 3 = .ok (.imul, 1) := by decide +kernel
theorem dM_levelOf_4 : decode bM_levelOf 4 = .ok (.istore_n 1, 1) := by decide +kernel
theorem dM_levelOf_5 : decode bM_levelOf 5 = .ok (.iload_n 1, 1) := by decide +kernel
theorem dM_levelOf_6 : decode bM_levelOf 6 = .ok (.iload_n 1, 1) := by decide +kernel
theorem dM_levelOf_7 : decode bM_levelOf 7 = .ok (.bipush 15, 2) := by decide +kernel
theorem dM_levelOf_9 : decode bM_levelOf 9 = .ok (.iushr, 1) := by decide +kernel
theorem dM_levelOf_10 : decode bM_levelOf 10 = .ok (.ixor, 1) := by decide +kernel
theorem dM_levelOf_11 : decode bM_levelOf 11 = .ok (.istore_n 1, 1) := by decide +kernel
theorem dM_levelOf_12 : decode bM_levelOf 12 = .ok (.iload_n 1, 1) := by decide +kernel
theorem dM_levelOf_13 : decode bM_levelOf 13 = .ok (.ldc 80, 2) := by decide +kernel
theorem dM_levelOf_15 : decode bM_levelOf 15 = .ok (.imul, 1) := by decide +kernel
theorem dM_levelOf_16 : decode bM_levelOf 16 = .ok (.istore_n 1, 1) := by decide +kernel
theorem dM_levelOf_17 : decode bM_levelOf 17 = .ok (.iload_n 1, 1) := by decide +kernel
theorem dM_levelOf_18 : decode bM_levelOf 18 = .ok (.iload_n 1, 1) := by decide +kernel
theorem dM_levelOf_19 : decode bM_levelOf 19 = .ok (.bipush 13, 2) := by decide +kernel
theorem dM_levelOf_21 : decode bM_levelOf 21 = .ok (.iushr, 1) := by decide +kernel
theorem dM_levelOf_22 : decode bM_levelOf 22 = .ok (.ixor, 1) := by decide +kernel
theorem dM_levelOf_23 : decode bM_levelOf 23 = .ok (.istore_n 1, 1) := by decide +kernel
theorem dM_levelOf_24 : decode bM_levelOf 24 = .ok (.iload_n 1, 1) := by decide +kernel
theorem dM_levelOf_25 : decode bM_levelOf 25 = .ok (.ifCond .ne 5, 3) := by decide +kernel
theorem dM_levelOf_28 : decode bM_levelOf 28 = .ok (.iconst 5, 1) := by decide +kernel
theorem dM_levelOf_29 : decode bM_levelOf 29 = .ok (.ireturn, 1) := by decide +kernel
theorem dM_levelOf_30 : decode bM_levelOf 30 = .ok (.iconst 0, 1) := by decide +kernel
theorem dM_levelOf_31 : decode bM_levelOf 31 = .ok (.istore_n 2, 1) := by decide +kernel
theorem dM_levelOf_32 : decode bM_levelOf 32 = .ok (.iload_n 1, 1) := by decide +kernel
theorem dM_levelOf_33 : decode bM_levelOf 33 = .ok (.iload_n 2, 1) := by decide +kernel
theorem dM_levelOf_34 : decode bM_levelOf 34 = .ok (.ishr, 1) := by decide +kernel
theorem dM_levelOf_35 : decode bM_levelOf 35 = .ok (.iconst 1, 1) := by decide +kernel
theorem dM_levelOf_36 : decode bM_levelOf 36 = .ok (.iand, 1) := by decide +kernel
theorem dM_levelOf_37 : decode bM_levelOf 37 = .ok (.ifCond .ne 9, 3) := by decide +kernel
theorem dM_levelOf_40 : decode bM_levelOf 40 = .ok (.iinc 2 1, 3) := by decide +kernel
theorem dM_levelOf_43 : decode bM_levelOf 43 = .ok (.goto (-11), 3) := by decide +kernel
theorem dM_levelOf_46 : decode bM_levelOf 46 = .ok (.iconst 5, 1) := by decide +kernel
theorem dM_levelOf_47 : decode bM_levelOf 47 = .ok (.iload_n 2, 1) := by decide +kernel
theorem dM_levelOf_48 : decode bM_levelOf 48 = .ok (.iconst 2, 1) := by decide +kernel
theorem dM_levelOf_49 : decode bM_levelOf 49 = .ok (.idiv, 1) := by decide +kernel
theorem dM_levelOf_50 : decode bM_levelOf 50 = .ok (.invokestatic 81, 3) := by decide +kernel
theorem dM_levelOf_53 : decode bM_levelOf 53 = .ok (.ireturn, 1) := by decide +kernel
theorem dM_keep_0 : decode bM_keep 0 = .ok (.aload_n 0, 1) := by decide +kernel
theorem dM_keep_1 : decode bM_keep 1 = .ok (.iload_n 1, 1) := by decide +kernel
theorem dM_keep_2 : decode bM_keep 2 = .ok (.iload_n 2, 1) := by decide +kernel
theorem dM_keep_3 : decode bM_keep 3 = .ok (.invokevirtual 133, 3) := by decide +kernel
theorem dM_keep_6 : decode bM_keep 6 = .ok (.istore 4, 2) := by decide +kernel
theorem dM_keep_8 : decode bM_keep 8 = .ok (.iload 4, 2) := by decide +kernel
theorem dM_keep_10 : decode bM_keep 10 = .ok (.ifCond .ge 5, 3) := by decide +kernel
theorem dM_keep_13 : decode bM_keep 13 = .ok (.iconst 0, 1) := by decide +kernel
theorem dM_keep_14 : decode bM_keep 14 = .ok (.ireturn, 1) := by decide +kernel
theorem dM_keep_15 : decode bM_keep 15 = .ok (.aload_n 0, 1) := by decide +kernel
theorem dM_keep_16 : decode bM_keep 16 = .ok (.dup, 1) := by decide +kernel
theorem dM_keep_17 : decode bM_keep 17 = .ok (.getfield 120, 3) := by decide +kernel
theorem dM_keep_20 : decode bM_keep 20 = .ok (.iconst 1, 1) := by decide +kernel
theorem dM_keep_21 : decode bM_keep 21 = .ok (.iadd, 1) := by decide +kernel
theorem dM_keep_22 : decode bM_keep 22 = .ok (.putfield 120, 3) := by decide +kernel
theorem dM_keep_25 : decode bM_keep 25 = .ok (.aload_n 0, 1) := by decide +kernel
theorem dM_keep_26 : decode bM_keep 26 = .ok (.dup, 1) := by decide +kernel
theorem dM_keep_27 : decode bM_keep 27 = .ok (.getfield 123, 3) := by decide +kernel
theorem dM_keep_30 : decode bM_keep 30 = .ok (.aload_n 0, 1) := by decide +kernel
theorem dM_keep_31 : decode bM_keep 31 = .ok (.getfield 89, 3) := by decide +kernel
theorem dM_keep_34 : decode bM_keep 34 = .ok (.iadd, 1) := by decide +kernel
theorem dM_keep_35 : decode bM_keep 35 = .ok (.putfield 123, 3) := by decide +kernel
theorem dM_keep_38 : decode bM_keep 38 = .ok (.aload_n 0, 1) := by decide +kernel
theorem dM_keep_39 : decode bM_keep 39 = .ok (.getfield 66, 3) := by decide +kernel
theorem dM_keep_42 : decode bM_keep 42 = .ok (.aload_n 0, 1) := by decide +kernel
theorem dM_keep_43 : decode bM_keep 43 = .ok (.getfield 114, 3) := by decide +kernel
theorem dM_keep_46 : decode bM_keep 46 = .ok (.iload 4, 2) := by decide +kernel
theorem dM_keep_48 : decode bM_keep 48 = .ok (.iastore, 1) := by decide +kernel
theorem dM_keep_49 : decode bM_keep 49 = .ok (.aload_n 0, 1) := by decide +kernel
theorem dM_keep_50 : decode bM_keep 50 = .ok (.getfield 69, 3) := by decide +kernel
theorem dM_keep_53 : decode bM_keep 53 = .ok (.aload_n 0, 1) := by decide +kernel
theorem dM_keep_54 : decode bM_keep 54 = .ok (.getfield 114, 3) := by decide +kernel
theorem dM_keep_57 : decode bM_keep 57 = .ok (.iload_n 3, 1) := by decide +kernel
theorem dM_keep_58 : decode bM_keep 58 = .ok (.iastore, 1) := by decide +kernel
theorem dM_keep_59 : decode bM_keep 59 = .ok (.aload_n 0, 1) := by decide +kernel
theorem dM_keep_60 : decode bM_keep 60 = .ok (.dup, 1) := by decide +kernel
theorem dM_keep_61 : decode bM_keep 61 = .ok (.getfield 114, 3) := by decide +kernel
theorem dM_keep_64 : decode bM_keep 64 = .ok (.iconst 1, 1) := by decide +kernel
theorem dM_keep_65 : decode bM_keep 65 = .ok (.iadd, 1) := by decide +kernel
theorem dM_keep_66 : decode bM_keep 66 = .ok (.putfield 114, 3) := by decide +kernel
theorem dM_keep_69 : decode bM_keep 69 = .ok (.aload_n 0, 1) := by decide +kernel
theorem dM_keep_70 : decode bM_keep 70 = .ok (.iconst 0, 1) := by decide +kernel
theorem dM_keep_71 : decode bM_keep 71 = .ok (.putfield 89, 3) := by decide +kernel
theorem dM_keep_74 : decode bM_keep 74 = .ok (.iconst 1, 1) := by decide +kernel
theorem dM_keep_75 : decode bM_keep 75 = .ok (.ireturn, 1) := by decide +kernel
theorem dM_node_0 : decode bM_node 0 = .ok (.aload_n 0, 1) := by decide +kernel
theorem dM_node_1 : decode bM_node 1 = .ok (.iload_n 1, 1) := by decide +kernel
theorem dM_node_2 : decode bM_node 2 = .ok (.iload_n 2, 1) := by decide +kernel
theorem dM_node_3 : decode bM_node 3 = .ok (.invokevirtual 95, 3) := by decide +kernel
theorem dM_node_6 : decode bM_node 6 = .ok (.istore_n 3, 1) := by decide +kernel
theorem dM_node_7 : decode bM_node 7 = .ok (.aload_n 0, 1) := by decide +kernel
theorem dM_node_8 : decode bM_node 8 = .ok (.getfield 63, 3) := by decide +kernel
theorem dM_node_11 : decode bM_node 11 = .ok (.iload_n 3, 1) := by decide +kernel
theorem dM_node_12 : decode bM_node 12 = .ok (.iaload, 1) := by decide +kernel
theorem dM_node_13 : decode bM_node 13 = .ok (.iconst 1, 1) := by decide +kernel
theorem dM_node_14 : decode bM_node 14 = .ok (.isub, 1) := by decide +kernel
theorem dM_node_15 : decode bM_node 15 = .ok (.istore 4, 2) := by decide +kernel
theorem dM_node_17 : decode bM_node 17 = .ok (.iload 4, 2) := by decide +kernel
theorem dM_node_19 : decode bM_node 19 = .ok (.ifCond .lt 29, 3) := by decide +kernel
theorem dM_node_22 : decode bM_node 22 = .ok (.aload_n 0, 1) := by decide +kernel
theorem dM_node_23 : decode bM_node 23 = .ok (.iload 4, 2) := by decide +kernel
theorem dM_node_25 : decode bM_node 25 = .ok (.iload_n 1, 1) := by decide +kernel
theorem dM_node_26 : decode bM_node 26 = .ok (.iload_n 2, 1) := by decide +kernel
theorem dM_node_27 : decode bM_node 27 = .ok (.invokevirtual 98, 3) := by decide +kernel
theorem dM_node_30 : decode bM_node 30 = .ok (.ifCond .eq 6, 3) := by decide +kernel
theorem dM_node_33 : decode bM_node 33 = .ok (.iload 4, 2) := by decide +kernel
theorem dM_node_35 : decode bM_node 35 = .ok (.ireturn, 1) := by decide +kernel
theorem dM_node_36 : decode bM_node 36 = .ok (.aload_n 0, 1) := by decide +kernel
theorem dM_node_37 : decode bM_node 37 = .ok (.getfield 57, 3) := by decide +kernel
theorem dM_node_40 : decode bM_node 40 = .ok (.iload 4, 2) := by decide +kernel
theorem dM_node_42 : decode bM_node 42 = .ok (.iaload, 1) := by decide +kernel
theorem dM_node_43 : decode bM_node 43 = .ok (.istore 4, 2) := by decide +kernel
theorem dM_node_45 : decode bM_node 45 = .ok (.goto (-28), 3) := by decide +kernel
theorem dM_node_48 : decode bM_node 48 = .ok (.aload_n 0, 1) := by decide +kernel
theorem dM_node_49 : decode bM_node 49 = .ok (.getfield 102, 3) := by decide +kernel
theorem dM_node_52 : decode bM_node 52 = .ok (.aload_n 0, 1) := by decide +kernel
theorem dM_node_53 : decode bM_node 53 = .ok (.getfield 89, 3) := by decide +kernel
theorem dM_node_56 : decode bM_node 56 = .ok (.iadd, 1) := by decide +kernel
theorem dM_node_57 : decode bM_node 57 = .ok (.ldc 44, 2) := by decide +kernel
theorem dM_node_59 : decode bM_node 59 = .ok (.if_icmp .gt 12, 3) := by decide +kernel
theorem dM_node_62 : decode bM_node 62 = .ok (.aload_n 0, 1) := by decide +kernel
theorem dM_node_63 : decode bM_node 63 = .ok (.getfield 105, 3) := by decide +kernel
theorem dM_node_66 : decode bM_node 66 = .ok (.ldc 44, 2) := by decide +kernel
theorem dM_node_68 : decode bM_node 68 = .ok (.if_icmp .ne 6, 3) := by decide +kernel
theorem dM_node_71 : decode bM_node 71 = .ok (.bipush (-2), 2) := by decide +kernel
theorem dM_node_73 : decode bM_node 73 = .ok (.ireturn, 1) := by decide +kernel
theorem dM_node_74 : decode bM_node 74 = .ok (.aload_n 0, 1) := by decide +kernel
theorem dM_node_75 : decode bM_node 75 = .ok (.getfield 45, 3) := by decide +kernel
theorem dM_node_78 : decode bM_node 78 = .ok (.aload_n 0, 1) := by decide +kernel
theorem dM_node_79 : decode bM_node 79 = .ok (.getfield 105, 3) := by decide +kernel
theorem dM_node_82 : decode bM_node 82 = .ok (.iload_n 1, 1) := by decide +kernel
theorem dM_node_83 : decode bM_node 83 = .ok (.iastore, 1) := by decide +kernel
theorem dM_node_84 : decode bM_node 84 = .ok (.aload_n 0, 1) := by decide +kernel
theorem dM_node_85 : decode bM_node 85 = .ok (.getfield 54, 3) := by decide +kernel
theorem dM_node_88 : decode bM_node 88 = .ok (.aload_n 0, 1) := by decide +kernel
theorem dM_node_89 : decode bM_node 89 = .ok (.getfield 105, 3) := by decide +kernel
theorem dM_node_92 : decode bM_node 92 = .ok (.iload_n 2, 1) := by decide +kernel
theorem dM_node_93 : decode bM_node 93 = .ok (.iastore, 1) := by decide +kernel
theorem dM_node_94 : decode bM_node 94 = .ok (.aload_n 0, 1) := by decide +kernel
theorem dM_node_95 : decode bM_node 95 = .ok (.getfield 48, 3) := by decide +kernel
theorem dM_node_98 : decode bM_node 98 = .ok (.aload_n 0, 1) := by decide +kernel
theorem dM_node_99 : decode bM_node 99 = .ok (.getfield 105, 3) := by decide +kernel
theorem dM_node_102 : decode bM_node 102 = .ok (.aload_n 0, 1) := by decide +kernel
theorem dM_node_103 : decode bM_node 103 = .ok (.getfield 102, 3) := by decide +kernel
theorem dM_node_106 : decode bM_node 106 = .ok (.iastore, 1) := by decide +kernel
theorem dM_node_107 : decode bM_node 107 = .ok (.aload_n 0, 1) := by decide +kernel
theorem dM_node_108 : decode bM_node 108 = .ok (.getfield 51, 3) := by decide +kernel
theorem dM_node_111 : decode bM_node 111 = .ok (.aload_n 0, 1) := by decide +kernel
theorem dM_node_112 : decode bM_node 112 = .ok (.getfield 105, 3) := by decide +kernel
theorem dM_node_115 : decode bM_node 115 = .ok (.aload_n 0, 1) := by decide +kernel
theorem dM_node_116 : decode bM_node 116 = .ok (.getfield 89, 3) := by decide +kernel
theorem dM_node_119 : decode bM_node 119 = .ok (.iastore, 1) := by decide +kernel
theorem dM_node_120 : decode bM_node 120 = .ok (.aload_n 0, 1) := by decide +kernel
theorem dM_node_121 : decode bM_node 121 = .ok (.getfield 72, 3) := by decide +kernel
theorem dM_node_124 : decode bM_node 124 = .ok (.iconst 0, 1) := by decide +kernel
theorem dM_node_125 : decode bM_node 125 = .ok (.aload_n 0, 1) := by decide +kernel
theorem dM_node_126 : decode bM_node 126 = .ok (.getfield 60, 3) := by decide +kernel
theorem dM_node_129 : decode bM_node 129 = .ok (.aload_n 0, 1) := by decide +kernel
theorem dM_node_130 : decode bM_node 130 = .ok (.getfield 102, 3) := by decide +kernel
theorem dM_node_133 : decode bM_node 133 = .ok (.aload_n 0, 1) := by decide +kernel
theorem dM_node_134 : decode bM_node 134 = .ok (.getfield 89, 3) := by decide +kernel
theorem dM_node_137 : decode bM_node 137 = .ok (.invokestatic 108, 3) := by decide +kernel
theorem dM_node_140 : decode bM_node 140 = .ok (.aload_n 0, 1) := by decide +kernel
theorem dM_node_141 : decode bM_node 141 = .ok (.getfield 57, 3) := by decide +kernel
theorem dM_node_144 : decode bM_node 144 = .ok (.aload_n 0, 1) := by decide +kernel
theorem dM_node_145 : decode bM_node 145 = .ok (.getfield 105, 3) := by decide +kernel
theorem dM_node_148 : decode bM_node 148 = .ok (.aload_n 0, 1) := by decide +kernel
theorem dM_node_149 : decode bM_node 149 = .ok (.getfield 63, 3) := by decide +kernel
theorem dM_node_152 : decode bM_node 152 = .ok (.iload_n 3, 1) := by decide +kernel
theorem dM_node_153 : decode bM_node 153 = .ok (.iaload, 1) := by decide +kernel
theorem dM_node_154 : decode bM_node 154 = .ok (.iconst 1, 1) := by decide +kernel
theorem dM_node_155 : decode bM_node 155 = .ok (.isub, 1) := by decide +kernel
theorem dM_node_156 : decode bM_node 156 = .ok (.iastore, 1) := by decide +kernel
theorem dM_node_157 : decode bM_node 157 = .ok (.aload_n 0, 1) := by decide +kernel
theorem dM_node_158 : decode bM_node 158 = .ok (.getfield 63, 3) := by decide +kernel
theorem dM_node_161 : decode bM_node 161 = .ok (.iload_n 3, 1) := by decide +kernel
theorem dM_node_162 : decode bM_node 162 = .ok (.aload_n 0, 1) := by decide +kernel
theorem dM_node_163 : decode bM_node 163 = .ok (.getfield 105, 3) := by decide +kernel
theorem dM_node_166 : decode bM_node 166 = .ok (.iconst 1, 1) := by decide +kernel
theorem dM_node_167 : decode bM_node 167 = .ok (.iadd, 1) := by decide +kernel
theorem dM_node_168 : decode bM_node 168 = .ok (.iastore, 1) := by decide +kernel
theorem dM_node_169 : decode bM_node 169 = .ok (.aload_n 0, 1) := by decide +kernel
theorem dM_node_170 : decode bM_node 170 = .ok (.dup, 1) := by decide +kernel
theorem dM_node_171 : decode bM_node 171 = .ok (.getfield 102, 3) := by decide +kernel
theorem dM_node_174 : decode bM_node 174 = .ok (.aload_n 0, 1) := by decide +kernel
theorem dM_node_175 : decode bM_node 175 = .ok (.getfield 89, 3) := by decide +kernel
theorem dM_node_178 : decode bM_node 178 = .ok (.iadd, 1) := by decide +kernel
theorem dM_node_179 : decode bM_node 179 = .ok (.putfield 102, 3) := by decide +kernel
theorem dM_node_182 : decode bM_node 182 = .ok (.aload_n 0, 1) := by decide +kernel
theorem dM_node_183 : decode bM_node 183 = .ok (.dup, 1) := by decide +kernel
theorem dM_node_184 : decode bM_node 184 = .ok (.getfield 105, 3) := by decide +kernel
theorem dM_node_187 : decode bM_node 187 = .ok (.iconst 1, 1) := by decide +kernel
theorem dM_node_188 : decode bM_node 188 = .ok (.iadd, 1) := by decide +kernel
theorem dM_node_189 : decode bM_node 189 = .ok (.putfield 105, 3) := by decide +kernel
theorem dM_node_192 : decode bM_node 192 = .ok (.aload_n 0, 1) := by decide +kernel
theorem dM_node_193 : decode bM_node 193 = .ok (.getfield 105, 3) := by decide +kernel
theorem dM_node_196 : decode bM_node 196 = .ok (.iconst 1, 1) := by decide +kernel
theorem dM_node_197 : decode bM_node 197 = .ok (.isub, 1) := by decide +kernel
theorem dM_node_198 : decode bM_node 198 = .ok (.ireturn, 1) := by decide +kernel
theorem dM_hash_0 : decode bM_hash 0 = .ok (.ldc2_w 87, 3) := by decide +kernel
theorem dM_hash_3 : decode bM_hash 3 = .ok (.iload_n 1, 1) := by decide +kernel
theorem dM_hash_4 : decode bM_hash 4 = .ok (.i2l, 1) := by decide +kernel
theorem dM_hash_5 : decode bM_hash 5 = .ok (.lmul, 1) := by decide +kernel
theorem dM_hash_6 : decode bM_hash 6 = .ok (.iload_n 2, 1) := by decide +kernel
theorem dM_hash_7 : decode bM_hash 7 = .ok (.i2l, 1) := by decide +kernel
theorem dM_hash_8 : decode bM_hash 8 = .ok (.ladd, 1) := by decide +kernel
theorem dM_hash_9 : decode bM_hash 9 = .ok (.lstore_n 3, 1) := by decide +kernel
theorem dM_hash_10 : decode bM_hash 10 = .ok (.iconst 0, 1) := by decide +kernel
theorem dM_hash_11 : decode bM_hash 11 = .ok (.istore 5, 2) := by decide +kernel
theorem dM_hash_13 : decode bM_hash 13 = .ok (.iload 5, 2) := by decide +kernel
theorem dM_hash_15 : decode bM_hash 15 = .ok (.aload_n 0, 1) := by decide +kernel
theorem dM_hash_16 : decode bM_hash 16 = .ok (.getfield 89, 3) := by decide +kernel
theorem dM_hash_19 : decode bM_hash 19 = .ok (.if_icmp .ge 23, 3) := by decide +kernel
theorem dM_hash_22 : decode bM_hash 22 = .ok (.lload_n 3, 1) := by decide +kernel
theorem dM_hash_23 : decode bM_hash 23 = .ok (.ldc2_w 93, 3) := by decide +kernel
theorem dM_hash_26 : decode bM_hash 26 = .ok (.lmul, 1) := by decide +kernel
theorem dM_hash_27 : decode bM_hash 27 = .ok (.aload_n 0, 1) := by decide +kernel
theorem dM_hash_28 : decode bM_hash 28 = .ok (.getfield 72, 3) := by decide +kernel
theorem dM_hash_31 : decode bM_hash 31 = .ok (.iload 5, 2) := by decide +kernel
theorem dM_hash_33 : decode bM_hash 33 = .ok (.laload, 1) := by decide +kernel
theorem dM_hash_34 : decode bM_hash 34 = .ok (.ladd, 1) := by decide +kernel
theorem dM_hash_35 : decode bM_hash 35 = .ok (.lstore_n 3, 1) := by decide +kernel
theorem dM_hash_36 : decode bM_hash 36 = .ok (.iinc 5 1, 3) := by decide +kernel
theorem dM_hash_39 : decode bM_hash 39 = .ok (.goto (-26), 3) := by decide +kernel
theorem dM_hash_42 : decode bM_hash 42 = .ok (.lload_n 3, 1) := by decide +kernel
theorem dM_hash_43 : decode bM_hash 43 = .ok (.lload_n 3, 1) := by decide +kernel
theorem dM_hash_44 : decode bM_hash 44 = .ok (.bipush 29, 2) := by decide +kernel
theorem dM_hash_46 : decode bM_hash 46 = .ok (.lushr, 1) := by decide +kernel
theorem dM_hash_47 : decode bM_hash 47 = .ok (.lxor, 1) := by decide +kernel
theorem dM_hash_48 : decode bM_hash 48 = .ok (.l2i, 1) := by decide +kernel
theorem dM_hash_49 : decode bM_hash 49 = .ok (.sipush 4095, 3) := by decide +kernel
theorem dM_hash_52 : decode bM_hash 52 = .ok (.iand, 1) := by decide +kernel
theorem dM_hash_53 : decode bM_hash 53 = .ok (.ireturn, 1) := by decide +kernel
theorem dM_isMade_0 : decode bM_isMade 0 = .ok (.aload_n 0, 1) := by decide +kernel
theorem dM_isMade_1 : decode bM_isMade 1 = .ok (.getfield 45, 3) := by decide +kernel
theorem dM_isMade_4 : decode bM_isMade 4 = .ok (.iload_n 1, 1) := by decide +kernel
theorem dM_isMade_5 : decode bM_isMade 5 = .ok (.iaload, 1) := by decide +kernel
theorem dM_isMade_6 : decode bM_isMade 6 = .ok (.iload_n 2, 1) := by decide +kernel
theorem dM_isMade_7 : decode bM_isMade 7 = .ok (.if_icmp .ne 26, 3) := by decide +kernel
theorem dM_isMade_10 : decode bM_isMade 10 = .ok (.aload_n 0, 1) := by decide +kernel
theorem dM_isMade_11 : decode bM_isMade 11 = .ok (.getfield 54, 3) := by decide +kernel
theorem dM_isMade_14 : decode bM_isMade 14 = .ok (.iload_n 1, 1) := by decide +kernel
theorem dM_isMade_15 : decode bM_isMade 15 = .ok (.iaload, 1) := by decide +kernel
theorem dM_isMade_16 : decode bM_isMade 16 = .ok (.iload_n 3, 1) := by decide +kernel
theorem dM_isMade_17 : decode bM_isMade 17 = .ok (.if_icmp .ne 16, 3) := by decide +kernel
theorem dM_isMade_20 : decode bM_isMade 20 = .ok (.aload_n 0, 1) := by decide +kernel
theorem dM_isMade_21 : decode bM_isMade 21 = .ok (.getfield 51, 3) := by decide +kernel
theorem dM_isMade_24 : decode bM_isMade 24 = .ok (.iload_n 1, 1) := by decide +kernel
theorem dM_isMade_25 : decode bM_isMade 25 = .ok (.iaload, 1) := by decide +kernel
theorem dM_isMade_26 : decode bM_isMade 26 = .ok (.aload_n 0, 1) := by decide +kernel
theorem dM_isMade_27 : decode bM_isMade 27 = .ok (.getfield 89, 3) := by decide +kernel
theorem dM_isMade_30 : decode bM_isMade 30 = .ok (.if_icmp .eq 5, 3) := by decide +kernel
theorem dM_isMade_33 : decode bM_isMade 33 = .ok (.iconst 0, 1) := by decide +kernel
theorem dM_isMade_34 : decode bM_isMade 34 = .ok (.ireturn, 1) := by decide +kernel
theorem dM_isMade_35 : decode bM_isMade 35 = .ok (.iconst 0, 1) := by decide +kernel
theorem dM_isMade_36 : decode bM_isMade 36 = .ok (.istore 4, 2) := by decide +kernel
theorem dM_isMade_38 : decode bM_isMade 38 = .ok (.iload 4, 2) := by decide +kernel
theorem dM_isMade_40 : decode bM_isMade 40 = .ok (.aload_n 0, 1) := by decide +kernel
theorem dM_isMade_41 : decode bM_isMade 41 = .ok (.getfield 89, 3) := by decide +kernel
theorem dM_isMade_44 : decode bM_isMade 44 = .ok (.if_icmp .ge 36, 3) := by decide +kernel
theorem dM_isMade_47 : decode bM_isMade 47 = .ok (.aload_n 0, 1) := by decide +kernel
theorem dM_isMade_48 : decode bM_isMade 48 = .ok (.getfield 60, 3) := by decide +kernel
theorem dM_isMade_51 : decode bM_isMade 51 = .ok (.aload_n 0, 1) := by decide +kernel
theorem dM_isMade_52 : decode bM_isMade 52 = .ok (.getfield 48, 3) := by decide +kernel
theorem dM_isMade_55 : decode bM_isMade 55 = .ok (.iload_n 1, 1) := by decide +kernel
theorem dM_isMade_56 : decode bM_isMade 56 = .ok (.iaload, 1) := by decide +kernel
theorem dM_isMade_57 : decode bM_isMade 57 = .ok (.iload 4, 2) := by decide +kernel
theorem dM_isMade_59 : decode bM_isMade 59 = .ok (.iadd, 1) := by decide +kernel
theorem dM_isMade_60 : decode bM_isMade 60 = .ok (.laload, 1) := by decide +kernel
theorem dM_isMade_61 : decode bM_isMade 61 = .ok (.aload_n 0, 1) := by decide +kernel
theorem dM_isMade_62 : decode bM_isMade 62 = .ok (.getfield 72, 3) := by decide +kernel
theorem dM_isMade_65 : decode bM_isMade 65 = .ok (.iload 4, 2) := by decide +kernel
theorem dM_isMade_67 : decode bM_isMade 67 = .ok (.laload, 1) := by decide +kernel
theorem dM_isMade_68 : decode bM_isMade 68 = .ok (.lcmp, 1) := by decide +kernel
theorem dM_isMade_69 : decode bM_isMade 69 = .ok (.ifCond .eq 5, 3) := by decide +kernel
theorem dM_isMade_72 : decode bM_isMade 72 = .ok (.iconst 0, 1) := by decide +kernel
theorem dM_isMade_73 : decode bM_isMade 73 = .ok (.ireturn, 1) := by decide +kernel
theorem dM_isMade_74 : decode bM_isMade 74 = .ok (.iinc 4 1, 3) := by decide +kernel
theorem dM_isMade_77 : decode bM_isMade 77 = .ok (.goto (-39), 3) := by decide +kernel
theorem dM_isMade_80 : decode bM_isMade 80 = .ok (.iconst 1, 1) := by decide +kernel
theorem dM_isMade_81 : decode bM_isMade 81 = .ok (.ireturn, 1) := by decide +kernel
theorem dM_make_0 : decode bM_make 0 = .ok (.iload_n 1, 1) := by decide +kernel
theorem dM_make_1 : decode bM_make 1 = .ok (.iconst 0, 1) := by decide +kernel
theorem dM_make_2 : decode bM_make 2 = .ok (.iconst 5, 1) := by decide +kernel
theorem dM_make_3 : decode bM_make 3 = .ok (.invokestatic 163, 3) := by decide +kernel
theorem dM_make_6 : decode bM_make 6 = .ok (.ifCond .eq 13, 3) := by decide +kernel
theorem dM_make_9 : decode bM_make 9 = .ok (.iload_n 2, 1) := by decide +kernel
theorem dM_make_10 : decode bM_make 10 = .ok (.iconst 1, 1) := by decide +kernel
theorem dM_make_11 : decode bM_make 11 = .ok (.bipush 6, 2) := by decide +kernel
theorem dM_make_13 : decode bM_make 13 = .ok (.invokestatic 163, 3) := by decide +kernel
theorem dM_make_16 : decode bM_make 16 = .ok (.ifCond .ne 5, 3) := by decide +kernel
theorem dM_make_19 : decode bM_make 19 = .ok (.iconst (-1), 1) := by decide +kernel
theorem dM_make_20 : decode bM_make 20 = .ok (.ireturn, 1) := by decide +kernel
theorem dM_make_21 : decode bM_make 21 = .ok (.aload_n 0, 1) := by decide +kernel
theorem dM_make_22 : decode bM_make 22 = .ok (.iload_n 1, 1) := by decide +kernel
theorem dM_make_23 : decode bM_make 23 = .ok (.invokevirtual 166, 3) := by decide +kernel
theorem dM_make_26 : decode bM_make 26 = .ok (.aload_n 0, 1) := by decide +kernel
theorem dM_make_27 : decode bM_make 27 = .ok (.getfield 11, 3) := by decide +kernel
theorem dM_make_30 : decode bM_make 30 = .ok (.iload_n 1, 1) := by decide +kernel
theorem dM_make_31 : decode bM_make 31 = .ok (.iload_n 2, 1) := by decide +kernel
theorem dM_make_32 : decode bM_make 32 = .ok (.iastore, 1) := by decide +kernel
theorem dM_make_33 : decode bM_make 33 = .ok (.aload_n 0, 1) := by decide +kernel
theorem dM_make_34 : decode bM_make 34 = .ok (.getfield 15, 3) := by decide +kernel
theorem dM_make_37 : decode bM_make 37 = .ok (.iload_n 1, 1) := by decide +kernel
theorem dM_make_38 : decode bM_make 38 = .ok (.iconst 0, 1) := by decide +kernel
theorem dM_make_39 : decode bM_make 39 = .ok (.iastore, 1) := by decide +kernel
theorem dM_make_40 : decode bM_make 40 = .ok (.aload_n 0, 1) := by decide +kernel
theorem dM_make_41 : decode bM_make 41 = .ok (.iload_n 1, 1) := by decide +kernel
theorem dM_make_42 : decode bM_make 42 = .ok (.invokevirtual 169, 3) := by decide +kernel
theorem dM_make_45 : decode bM_make 45 = .ok (.ireturn, 1) := by decide +kernel
theorem dM_in_0 : decode bM_in 0 = .ok (.iload_n 0, 1) := by decide +kernel
theorem dM_in_1 : decode bM_in 1 = .ok (.iload_n 1, 1) := by decide +kernel
theorem dM_in_2 : decode bM_in 2 = .ok (.if_icmp .lt 12, 3) := by decide +kernel
theorem dM_in_5 : decode bM_in 5 = .ok (.iload_n 0, 1) := by decide +kernel
theorem dM_in_6 : decode bM_in 6 = .ok (.iload_n 2, 1) := by decide +kernel
theorem dM_in_7 : decode bM_in 7 = .ok (.if_icmp .gt 7, 3) := by decide +kernel
theorem dM_in_10 : decode bM_in 10 = .ok (.iconst 1, 1) := by decide +kernel
theorem dM_in_11 : decode bM_in 11 = .ok (.goto 4, 3) := by decide +kernel
theorem dM_in_14 : decode bM_in 14 = .ok (.iconst 0, 1) := by decide +kernel
theorem dM_in_15 : decode bM_in 15 = .ok (.ireturn, 1) := by decide +kernel
theorem dM_remember_0 : decode bM_remember 0 = .ok (.aload_n 0, 1) := by decide +kernel
theorem dM_remember_1 : decode bM_remember 1 = .ok (.aload_n 0, 1) := by decide +kernel
theorem dM_remember_2 : decode bM_remember 2 = .ok (.getfield 11, 3) := by decide +kernel
theorem dM_remember_5 : decode bM_remember 5 = .ok (.iload_n 1, 1) := by decide +kernel
theorem dM_remember_6 : decode bM_remember 6 = .ok (.iaload, 1) := by decide +kernel
theorem dM_remember_7 : decode bM_remember 7 = .ok (.putfield 150, 3) := by decide +kernel
theorem dM_remember_10 : decode bM_remember 10 = .ok (.aload_n 0, 1) := by decide +kernel
theorem dM_remember_11 : decode bM_remember 11 = .ok (.aload_n 0, 1) := by decide +kernel
theorem dM_remember_12 : decode bM_remember 12 = .ok (.getfield 15, 3) := by decide +kernel
theorem dM_remember_15 : decode bM_remember 15 = .ok (.iload_n 1, 1) := by decide +kernel
theorem dM_remember_16 : decode bM_remember 16 = .ok (.iaload, 1) := by decide +kernel
theorem dM_remember_17 : decode bM_remember 17 = .ok (.putfield 153, 3) := by decide +kernel
theorem dM_remember_20 : decode bM_remember 20 = .ok (.aload_n 0, 1) := by decide +kernel
theorem dM_remember_21 : decode bM_remember 21 = .ok (.getfield 20, 3) := by decide +kernel
theorem dM_remember_24 : decode bM_remember 24 = .ok (.iload_n 1, 1) := by decide +kernel
theorem dM_remember_25 : decode bM_remember 25 = .ok (.aaload, 1) := by decide +kernel
theorem dM_remember_26 : decode bM_remember 26 = .ok (.iconst 0, 1) := by decide +kernel
theorem dM_remember_27 : decode bM_remember 27 = .ok (.aload_n 0, 1) := by decide +kernel
theorem dM_remember_28 : decode bM_remember 28 = .ok (.getfield 28, 3) := by decide +kernel
theorem dM_remember_31 : decode bM_remember 31 = .ok (.iconst 0, 1) := by decide +kernel
theorem dM_remember_32 : decode bM_remember 32 = .ok (.aload_n 0, 1) := by decide +kernel
theorem dM_remember_33 : decode bM_remember 33 = .ok (.getfield 15, 3) := by decide +kernel
theorem dM_remember_36 : decode bM_remember 36 = .ok (.iload_n 1, 1) := by decide +kernel
theorem dM_remember_37 : decode bM_remember 37 = .ok (.iaload, 1) := by decide +kernel
theorem dM_remember_38 : decode bM_remember 38 = .ok (.invokestatic 108, 3) := by decide +kernel
theorem dM_remember_41 : decode bM_remember 41 = .ok (.aload_n 0, 1) := by decide +kernel
theorem dM_remember_42 : decode bM_remember 42 = .ok (.getfield 25, 3) := by decide +kernel
theorem dM_remember_45 : decode bM_remember 45 = .ok (.iload_n 1, 1) := by decide +kernel
theorem dM_remember_46 : decode bM_remember 46 = .ok (.aaload, 1) := by decide +kernel
theorem dM_remember_47 : decode bM_remember 47 = .ok (.iconst 0, 1) := by decide +kernel
theorem dM_remember_48 : decode bM_remember 48 = .ok (.aload_n 0, 1) := by decide +kernel
theorem dM_remember_49 : decode bM_remember 49 = .ok (.getfield 31, 3) := by decide +kernel
theorem dM_remember_52 : decode bM_remember 52 = .ok (.iconst 0, 1) := by decide +kernel
theorem dM_remember_53 : decode bM_remember 53 = .ok (.bipush 6, 2) := by decide +kernel
theorem dM_remember_55 : decode bM_remember 55 = .ok (.aload_n 0, 1) := by decide +kernel
theorem dM_remember_56 : decode bM_remember 56 = .ok (.getfield 15, 3) := by decide +kernel
theorem dM_remember_59 : decode bM_remember 59 = .ok (.iload_n 1, 1) := by decide +kernel
theorem dM_remember_60 : decode bM_remember 60 = .ok (.iaload, 1) := by decide +kernel
theorem dM_remember_61 : decode bM_remember 61 = .ok (.imul, 1) := by decide +kernel
theorem dM_remember_62 : decode bM_remember 62 = .ok (.invokestatic 108, 3) := by decide +kernel
theorem dM_remember_65 : decode bM_remember 65 = .ok (.return_, 1) := by decide +kernel
theorem dM_write_0 : decode bM_write 0 = .ok (.aload_n 0, 1) := by decide +kernel
theorem dM_write_1 : decode bM_write 1 = .ok (.getfield 105, 3) := by decide +kernel
theorem dM_write_4 : decode bM_write 4 = .ok (.istore_n 2, 1) := by decide +kernel
theorem dM_write_5 : decode bM_write 5 = .ok (.aload_n 0, 1) := by decide +kernel
theorem dM_write_6 : decode bM_write 6 = .ok (.iload_n 1, 1) := by decide +kernel
theorem dM_write_7 : decode bM_write 7 = .ok (.invokevirtual 75, 3) := by decide +kernel
theorem dM_write_10 : decode bM_write 10 = .ok (.ifCond .eq 10, 3) := by decide +kernel
theorem dM_write_13 : decode bM_write 13 = .ok (.aload_n 0, 1) := by decide +kernel
theorem dM_write_14 : decode bM_write 14 = .ok (.getfield 105, 3) := by decide +kernel
theorem dM_write_17 : decode bM_write 17 = .ok (.iload_n 2, 1) := by decide +kernel
theorem dM_write_18 : decode bM_write 18 = .ok (.isub, 1) := by decide +kernel
theorem dM_write_19 : decode bM_write 19 = .ok (.ireturn, 1) := by decide +kernel
theorem dM_write_20 : decode bM_write 20 = .ok (.aload_n 0, 1) := by decide +kernel
theorem dM_write_21 : decode bM_write 21 = .ok (.iload_n 2, 1) := by decide +kernel
theorem dM_write_22 : decode bM_write 22 = .ok (.invokevirtual 156, 3) := by decide +kernel
theorem dM_write_25 : decode bM_write 25 = .ok (.aload_n 0, 1) := by decide +kernel
theorem dM_write_26 : decode bM_write 26 = .ok (.getfield 11, 3) := by decide +kernel
theorem dM_write_29 : decode bM_write 29 = .ok (.iload_n 1, 1) := by decide +kernel
theorem dM_write_30 : decode bM_write 30 = .ok (.aload_n 0, 1) := by decide +kernel
theorem dM_write_31 : decode bM_write 31 = .ok (.getfield 150, 3) := by decide +kernel
theorem dM_write_34 : decode bM_write 34 = .ok (.iastore, 1) := by decide +kernel
theorem dM_write_35 : decode bM_write 35 = .ok (.aload_n 0, 1) := by decide +kernel
theorem dM_write_36 : decode bM_write 36 = .ok (.getfield 15, 3) := by decide +kernel
theorem dM_write_39 : decode bM_write 39 = .ok (.iload_n 1, 1) := by decide +kernel
theorem dM_write_40 : decode bM_write 40 = .ok (.aload_n 0, 1) := by decide +kernel
theorem dM_write_41 : decode bM_write 41 = .ok (.getfield 153, 3) := by decide +kernel
theorem dM_write_44 : decode bM_write 44 = .ok (.iastore, 1) := by decide +kernel
theorem dM_write_45 : decode bM_write 45 = .ok (.aload_n 0, 1) := by decide +kernel
theorem dM_write_46 : decode bM_write 46 = .ok (.getfield 28, 3) := by decide +kernel
theorem dM_write_49 : decode bM_write 49 = .ok (.iconst 0, 1) := by decide +kernel
theorem dM_write_50 : decode bM_write 50 = .ok (.aload_n 0, 1) := by decide +kernel
theorem dM_write_51 : decode bM_write 51 = .ok (.getfield 20, 3) := by decide +kernel
theorem dM_write_54 : decode bM_write 54 = .ok (.iload_n 1, 1) := by decide +kernel
theorem dM_write_55 : decode bM_write 55 = .ok (.aaload, 1) := by decide +kernel
theorem dM_write_56 : decode bM_write 56 = .ok (.iconst 0, 1) := by decide +kernel
theorem dM_write_57 : decode bM_write 57 = .ok (.aload_n 0, 1) := by decide +kernel
theorem dM_write_58 : decode bM_write 58 = .ok (.getfield 153, 3) := by decide +kernel
theorem dM_write_61 : decode bM_write 61 = .ok (.invokestatic 108, 3) := by decide +kernel
theorem dM_write_64 : decode bM_write 64 = .ok (.aload_n 0, 1) := by decide +kernel
theorem dM_write_65 : decode bM_write 65 = .ok (.getfield 31, 3) := by decide +kernel
theorem dM_write_68 : decode bM_write 68 = .ok (.iconst 0, 1) := by decide +kernel
theorem dM_write_69 : decode bM_write 69 = .ok (.aload_n 0, 1) := by decide +kernel
theorem dM_write_70 : decode bM_write 70 = .ok (.getfield 25, 3) := by decide +kernel
theorem dM_write_73 : decode bM_write 73 = .ok (.iload_n 1, 1) := by decide +kernel
theorem dM_write_74 : decode bM_write 74 = .ok (.aaload, 1) := by decide +kernel
theorem dM_write_75 : decode bM_write 75 = .ok (.iconst 0, 1) := by decide +kernel
theorem dM_write_76 : decode bM_write 76 = .ok (.bipush 6, 2) := by decide +kernel
theorem dM_write_78 : decode bM_write 78 = .ok (.aload_n 0, 1) := by decide +kernel
theorem dM_write_79 : decode bM_write 79 = .ok (.getfield 153, 3) := by decide +kernel
theorem dM_write_82 : decode bM_write 82 = .ok (.imul, 1) := by decide +kernel
theorem dM_write_83 : decode bM_write 83 = .ok (.invokestatic 108, 3) := by decide +kernel
theorem dM_write_86 : decode bM_write 86 = .ok (.bipush (-3), 2) := by decide +kernel
theorem dM_write_88 : decode bM_write 88 = .ok (.ireturn, 1) := by decide +kernel
theorem dM_back_0 : decode bM_back 0 = .ok (.aload_n 0, 1) := by decide +kernel
theorem dM_back_1 : decode bM_back 1 = .ok (.getfield 105, 3) := by decide +kernel
theorem dM_back_4 : decode bM_back 4 = .ok (.iload_n 1, 1) := by decide +kernel
theorem dM_back_5 : decode bM_back 5 = .ok (.if_icmp .le 105, 3) := by decide +kernel
theorem dM_back_8 : decode bM_back 8 = .ok (.aload_n 0, 1) := by decide +kernel
theorem dM_back_9 : decode bM_back 9 = .ok (.dup, 1) := by decide +kernel
theorem dM_back_10 : decode bM_back 10 = .ok (.getfield 105, 3) := by decide +kernel
theorem dM_back_13 : decode bM_back 13 = .ok (.iconst 1, 1) := by decide +kernel
theorem dM_back_14 : decode bM_back 14 = .ok (.isub, 1) := by decide +kernel
theorem dM_back_15 : decode bM_back 15 = .ok (.putfield 105, 3) := by decide +kernel
theorem dM_back_18 : decode bM_back 18 = .ok (.aload_n 0, 1) := by decide +kernel
theorem dM_back_19 : decode bM_back 19 = .ok (.aload_n 0, 1) := by decide +kernel
theorem dM_back_20 : decode bM_back 20 = .ok (.getfield 51, 3) := by decide +kernel
theorem dM_back_23 : decode bM_back 23 = .ok (.aload_n 0, 1) := by decide +kernel
theorem dM_back_24 : decode bM_back 24 = .ok (.getfield 105, 3) := by decide +kernel
theorem dM_back_27 : decode bM_back 27 = .ok (.iaload, 1) := by decide +kernel
theorem dM_back_28 : decode bM_back 28 = .ok (.putfield 89, 3) := by decide +kernel
theorem dM_back_31 : decode bM_back 31 = .ok (.aload_n 0, 1) := by decide +kernel
theorem dM_back_32 : decode bM_back 32 = .ok (.getfield 60, 3) := by decide +kernel
theorem dM_back_35 : decode bM_back 35 = .ok (.aload_n 0, 1) := by decide +kernel
theorem dM_back_36 : decode bM_back 36 = .ok (.getfield 48, 3) := by decide +kernel
theorem dM_back_39 : decode bM_back 39 = .ok (.aload_n 0, 1) := by decide +kernel
theorem dM_back_40 : decode bM_back 40 = .ok (.getfield 105, 3) := by decide +kernel
theorem dM_back_43 : decode bM_back 43 = .ok (.iaload, 1) := by decide +kernel
theorem dM_back_44 : decode bM_back 44 = .ok (.aload_n 0, 1) := by decide +kernel
theorem dM_back_45 : decode bM_back 45 = .ok (.getfield 72, 3) := by decide +kernel
theorem dM_back_48 : decode bM_back 48 = .ok (.iconst 0, 1) := by decide +kernel
theorem dM_back_49 : decode bM_back 49 = .ok (.aload_n 0, 1) := by decide +kernel
theorem dM_back_50 : decode bM_back 50 = .ok (.getfield 89, 3) := by decide +kernel
theorem dM_back_53 : decode bM_back 53 = .ok (.invokestatic 108, 3) := by decide +kernel
theorem dM_back_56 : decode bM_back 56 = .ok (.aload_n 0, 1) := by decide +kernel
theorem dM_back_57 : decode bM_back 57 = .ok (.getfield 63, 3) := by decide +kernel
theorem dM_back_60 : decode bM_back 60 = .ok (.aload_n 0, 1) := by decide +kernel
theorem dM_back_61 : decode bM_back 61 = .ok (.aload_n 0, 1) := by decide +kernel
theorem dM_back_62 : decode bM_back 62 = .ok (.getfield 45, 3) := by decide +kernel
theorem dM_back_65 : decode bM_back 65 = .ok (.aload_n 0, 1) := by decide +kernel
theorem dM_back_66 : decode bM_back 66 = .ok (.getfield 105, 3) := by decide +kernel
theorem dM_back_69 : decode bM_back 69 = .ok (.iaload, 1) := by decide +kernel
theorem dM_back_70 : decode bM_back 70 = .ok (.aload_n 0, 1) := by decide +kernel
theorem dM_back_71 : decode bM_back 71 = .ok (.getfield 54, 3) := by decide +kernel
theorem dM_back_74 : decode bM_back 74 = .ok (.aload_n 0, 1) := by decide +kernel
theorem dM_back_75 : decode bM_back 75 = .ok (.getfield 105, 3) := by decide +kernel
theorem dM_back_78 : decode bM_back 78 = .ok (.iaload, 1) := by decide +kernel
theorem dM_back_79 : decode bM_back 79 = .ok (.invokevirtual 95, 3) := by decide +kernel
theorem dM_back_82 : decode bM_back 82 = .ok (.aload_n 0, 1) := by decide +kernel
theorem dM_back_83 : decode bM_back 83 = .ok (.getfield 57, 3) := by decide +kernel
theorem dM_back_86 : decode bM_back 86 = .ok (.aload_n 0, 1) := by decide +kernel
theorem dM_back_87 : decode bM_back 87 = .ok (.getfield 105, 3) := by decide +kernel
theorem dM_back_90 : decode bM_back 90 = .ok (.iaload, 1) := by decide +kernel
theorem dM_back_91 : decode bM_back 91 = .ok (.iconst 1, 1) := by decide +kernel
theorem dM_back_92 : decode bM_back 92 = .ok (.iadd, 1) := by decide +kernel
theorem dM_back_93 : decode bM_back 93 = .ok (.iastore, 1) := by decide +kernel
theorem dM_back_94 : decode bM_back 94 = .ok (.aload_n 0, 1) := by decide +kernel
theorem dM_back_95 : decode bM_back 95 = .ok (.aload_n 0, 1) := by decide +kernel
theorem dM_back_96 : decode bM_back 96 = .ok (.getfield 48, 3) := by decide +kernel
theorem dM_back_99 : decode bM_back 99 = .ok (.aload_n 0, 1) := by decide +kernel
theorem dM_back_100 : decode bM_back 100 = .ok (.getfield 105, 3) := by decide +kernel
theorem dM_back_103 : decode bM_back 103 = .ok (.iaload, 1) := by decide +kernel
theorem dM_back_104 : decode bM_back 104 = .ok (.putfield 102, 3) := by decide +kernel
theorem dM_back_107 : decode bM_back 107 = .ok (.goto (-107), 3) := by decide +kernel
theorem dM_back_110 : decode bM_back 110 = .ok (.return_, 1) := by decide +kernel
theorem dM_put_0 : decode bM_put 0 = .ok (.iload_n 1, 1) := by decide +kernel
theorem dM_put_1 : decode bM_put 1 = .ok (.iconst 0, 1) := by decide +kernel
theorem dM_put_2 : decode bM_put 2 = .ok (.iconst 5, 1) := by decide +kernel
theorem dM_put_3 : decode bM_put 3 = .ok (.invokestatic 163, 3) := by decide +kernel
theorem dM_put_6 : decode bM_put 6 = .ok (.ifCond .eq 19, 3) := by decide +kernel
theorem dM_put_9 : decode bM_put 9 = .ok (.iload_n 3, 1) := by decide +kernel
theorem dM_put_10 : decode bM_put 10 = .ok (.iconst 0, 1) := by decide +kernel
theorem dM_put_11 : decode bM_put 11 = .ok (.aload_n 0, 1) := by decide +kernel
theorem dM_put_12 : decode bM_put 12 = .ok (.getfield 11, 3) := by decide +kernel
theorem dM_put_15 : decode bM_put 15 = .ok (.iload_n 1, 1) := by decide +kernel
theorem dM_put_16 : decode bM_put 16 = .ok (.iaload, 1) := by decide +kernel
theorem dM_put_17 : decode bM_put 17 = .ok (.iconst 1, 1) := by decide +kernel
theorem dM_put_18 : decode bM_put 18 = .ok (.isub, 1) := by decide +kernel
theorem dM_put_19 : decode bM_put 19 = .ok (.invokestatic 163, 3) := by decide +kernel
theorem dM_put_22 : decode bM_put 22 = .ok (.ifCond .ne 5, 3) := by decide +kernel
theorem dM_put_25 : decode bM_put 25 = .ok (.iconst (-1), 1) := by decide +kernel
theorem dM_put_26 : decode bM_put 26 = .ok (.ireturn, 1) := by decide +kernel
theorem dM_put_27 : decode bM_put 27 = .ok (.aload_n 0, 1) := by decide +kernel
theorem dM_put_28 : decode bM_put 28 = .ok (.iload_n 1, 1) := by decide +kernel
theorem dM_put_29 : decode bM_put 29 = .ok (.invokevirtual 166, 3) := by decide +kernel
theorem dM_put_32 : decode bM_put 32 = .ok (.aload_n 0, 1) := by decide +kernel
theorem dM_put_33 : decode bM_put 33 = .ok (.iload_n 1, 1) := by decide +kernel
theorem dM_put_34 : decode bM_put 34 = .ok (.iload_n 2, 1) := by decide +kernel
theorem dM_put_35 : decode bM_put 35 = .ok (.invokevirtual 172, 3) := by decide +kernel
theorem dM_put_38 : decode bM_put 38 = .ok (.istore 6, 2) := by decide +kernel
theorem dM_put_40 : decode bM_put 40 = .ok (.iload 6, 2) := by decide +kernel
theorem dM_put_42 : decode bM_put 42 = .ok (.ifCond .ge 112, 3) := by decide +kernel
theorem dM_put_45 : decode bM_put 45 = .ok (.aload_n 0, 1) := by decide +kernel
theorem dM_put_46 : decode bM_put 46 = .ok (.getfield 15, 3) := by decide +kernel
theorem dM_put_49 : decode bM_put 49 = .ok (.iload_n 1, 1) := by decide +kernel
theorem dM_put_50 : decode bM_put 50 = .ok (.iaload, 1) := by decide +kernel
theorem dM_put_51 : decode bM_put 51 = .ok (.sipush 300, 3) := by decide +kernel
theorem dM_put_54 : decode bM_put 54 = .ok (.if_icmp .ne 6, 3) := by decide +kernel
theorem dM_put_57 : decode bM_put 57 = .ok (.bipush (-3), 2) := by decide +kernel
theorem dM_put_59 : decode bM_put 59 = .ok (.ireturn, 1) := by decide +kernel
theorem dM_put_60 : decode bM_put 60 = .ok (.aload_n 0, 1) := by decide +kernel
end
section
theorem dM_put_61 : decode bM_put 61 = .ok (.iload_n 1, 1) := by decide +kernel
theorem dM_put_62 : decode bM_put 62 = .ok (.iload_n 2, 1) := by decide +kernel
theorem dM_put_63 : decode bM_put 63 = .ok (.invokevirtual 160, 3) := by decide +kernel
theorem dM_put_66 : decode bM_put 66 = .ok (.istore 6, 2) := by decide +kernel
theorem dM_put_68 : decode bM_put 68 = .ok (.aload_n 0, 1) := by decide +kernel
theorem dM_put_69 : decode bM_put 69 = .ok (.getfield 15, 3) := by decide +kernel
theorem dM_put_72 : decode bM_put 72 = .ok (.iload_n 1, 1) := by decide +kernel
theorem dM_put_73 : decode bM_put 73 = .ok (.iaload, 1) := by decide +kernel
theorem dM_put_74 : decode bM_put 74 = .ok (.istore 7, 2) := by decide +kernel
theorem dM_put_76 : decode bM_put 76 = .ok (.iload 7, 2) := by decide +kernel
theorem dM_put_78 : decode bM_put 78 = .ok (.iload 6, 2) := by decide +kernel
theorem dM_put_80 : decode bM_put 80 = .ok (.if_icmp .le 20, 3) := by decide +kernel
theorem dM_put_83 : decode bM_put 83 = .ok (.aload_n 0, 1) := by decide +kernel
theorem dM_put_84 : decode bM_put 84 = .ok (.iload_n 1, 1) := by decide +kernel
theorem dM_put_85 : decode bM_put 85 = .ok (.iload 7, 2) := by decide +kernel
theorem dM_put_87 : decode bM_put 87 = .ok (.iconst 1, 1) := by decide +kernel
theorem dM_put_88 : decode bM_put 88 = .ok (.isub, 1) := by decide +kernel
theorem dM_put_89 : decode bM_put 89 = .ok (.iload 7, 2) := by decide +kernel
theorem dM_put_91 : decode bM_put 91 = .ok (.invokevirtual 175, 3) := by decide +kernel
theorem dM_put_94 : decode bM_put 94 = .ok (.iinc 7 (-1), 3) := by decide +kernel
theorem dM_put_97 : decode bM_put 97 = .ok (.goto (-21), 3) := by decide +kernel
theorem dM_put_100 : decode bM_put 100 = .ok (.aload_n 0, 1) := by decide +kernel
theorem dM_put_101 : decode bM_put 101 = .ok (.getfield 20, 3) := by decide +kernel
theorem dM_put_104 : decode bM_put 104 = .ok (.iload_n 1, 1) := by decide +kernel
theorem dM_put_105 : decode bM_put 105 = .ok (.aaload, 1) := by decide +kernel
theorem dM_put_106 : decode bM_put 106 = .ok (.iload 6, 2) := by decide +kernel
theorem dM_put_108 : decode bM_put 108 = .ok (.iload_n 2, 1) := by decide +kernel
theorem dM_put_109 : decode bM_put 109 = .ok (.iastore, 1) := by decide +kernel
theorem dM_put_110 : decode bM_put 110 = .ok (.iconst 0, 1) := by decide +kernel
theorem dM_put_111 : decode bM_put 111 = .ok (.istore 7, 2) := by decide +kernel
theorem dM_put_113 : decode bM_put 113 = .ok (.iload 7, 2) := by decide +kernel
theorem dM_put_115 : decode bM_put 115 = .ok (.bipush 6, 2) := by decide +kernel
theorem dM_put_117 : decode bM_put 117 = .ok (.if_icmp .ge 27, 3) := by decide +kernel
theorem dM_put_120 : decode bM_put 120 = .ok (.aload_n 0, 1) := by decide +kernel
theorem dM_put_121 : decode bM_put 121 = .ok (.getfield 25, 3) := by decide +kernel
theorem dM_put_124 : decode bM_put 124 = .ok (.iload_n 1, 1) := by decide +kernel
theorem dM_put_125 : decode bM_put 125 = .ok (.aaload, 1) := by decide +kernel
theorem dM_put_126 : decode bM_put 126 = .ok (.bipush 6, 2) := by decide +kernel
theorem dM_put_128 : decode bM_put 128 = .ok (.iload 6, 2) := by decide +kernel
theorem dM_put_130 : decode bM_put 130 = .ok (.imul, 1) := by decide +kernel
theorem dM_put_131 : decode bM_put 131 = .ok (.iload 7, 2) := by decide +kernel
theorem dM_put_133 : decode bM_put 133 = .ok (.iadd, 1) := by decide +kernel
theorem dM_put_134 : decode bM_put 134 = .ok (.ldc2_w 146, 3) := by decide +kernel
theorem dM_put_137 : decode bM_put 137 = .ok (.lastore, 1) := by decide +kernel
theorem dM_put_138 : decode bM_put 138 = .ok (.iinc 7 1, 3) := by decide +kernel
theorem dM_put_141 : decode bM_put 141 = .ok (.goto (-28), 3) := by decide +kernel
theorem dM_put_144 : decode bM_put 144 = .ok (.aload_n 0, 1) := by decide +kernel
theorem dM_put_145 : decode bM_put 145 = .ok (.getfield 15, 3) := by decide +kernel
theorem dM_put_148 : decode bM_put 148 = .ok (.iload_n 1, 1) := by decide +kernel
theorem dM_put_149 : decode bM_put 149 = .ok (.dup2, 1) := by decide +kernel
theorem dM_put_150 : decode bM_put 150 = .ok (.iaload, 1) := by decide +kernel
theorem dM_put_151 : decode bM_put 151 = .ok (.iconst 1, 1) := by decide +kernel
theorem dM_put_152 : decode bM_put 152 = .ok (.iadd, 1) := by decide +kernel
theorem dM_put_153 : decode bM_put 153 = .ok (.iastore, 1) := by decide +kernel
theorem dM_put_154 : decode bM_put 154 = .ok (.aload_n 0, 1) := by decide +kernel
theorem dM_put_155 : decode bM_put 155 = .ok (.getfield 25, 3) := by decide +kernel
theorem dM_put_158 : decode bM_put 158 = .ok (.iload_n 1, 1) := by decide +kernel
theorem dM_put_159 : decode bM_put 159 = .ok (.aaload, 1) := by decide +kernel
theorem dM_put_160 : decode bM_put 160 = .ok (.bipush 6, 2) := by decide +kernel
theorem dM_put_162 : decode bM_put 162 = .ok (.iload 6, 2) := by decide +kernel
theorem dM_put_164 : decode bM_put 164 = .ok (.imul, 1) := by decide +kernel
theorem dM_put_165 : decode bM_put 165 = .ok (.iload_n 3, 1) := by decide +kernel
theorem dM_put_166 : decode bM_put 166 = .ok (.iadd, 1) := by decide +kernel
theorem dM_put_167 : decode bM_put 167 = .ok (.iload 5, 2) := by decide +kernel
theorem dM_put_169 : decode bM_put 169 = .ok (.ifCond .eq 9, 3) := by decide +kernel
theorem dM_put_172 : decode bM_put 172 = .ok (.ldc2_w 146, 3) := by decide +kernel
theorem dM_put_175 : decode bM_put 175 = .ok (.goto 6, 3) := by decide +kernel
theorem dM_put_178 : decode bM_put 178 = .ok (.iload 4, 2) := by decide +kernel
theorem dM_put_180 : decode bM_put 180 = .ok (.i2l, 1) := by decide +kernel
theorem dM_put_181 : decode bM_put 181 = .ok (.lastore, 1) := by decide +kernel
theorem dM_put_182 : decode bM_put 182 = .ok (.aload_n 0, 1) := by decide +kernel
theorem dM_put_183 : decode bM_put 183 = .ok (.iload_n 1, 1) := by decide +kernel
theorem dM_put_184 : decode bM_put 184 = .ok (.invokevirtual 169, 3) := by decide +kernel
theorem dM_put_187 : decode bM_put 187 = .ok (.ireturn, 1) := by decide +kernel
theorem dM_find_0 : decode bM_find 0 = .ok (.aload_n 0, 1) := by decide +kernel
theorem dM_find_1 : decode bM_find 1 = .ok (.iload_n 1, 1) := by decide +kernel
theorem dM_find_2 : decode bM_find 2 = .ok (.iload_n 2, 1) := by decide +kernel
theorem dM_find_3 : decode bM_find 3 = .ok (.invokevirtual 160, 3) := by decide +kernel
theorem dM_find_6 : decode bM_find 6 = .ok (.istore_n 3, 1) := by decide +kernel
theorem dM_find_7 : decode bM_find 7 = .ok (.iload_n 3, 1) := by decide +kernel
theorem dM_find_8 : decode bM_find 8 = .ok (.aload_n 0, 1) := by decide +kernel
theorem dM_find_9 : decode bM_find 9 = .ok (.getfield 15, 3) := by decide +kernel
theorem dM_find_12 : decode bM_find 12 = .ok (.iload_n 1, 1) := by decide +kernel
theorem dM_find_13 : decode bM_find 13 = .ok (.iaload, 1) := by decide +kernel
theorem dM_find_14 : decode bM_find 14 = .ok (.if_icmp .ge 19, 3) := by decide +kernel
theorem dM_find_17 : decode bM_find 17 = .ok (.aload_n 0, 1) := by decide +kernel
theorem dM_find_18 : decode bM_find 18 = .ok (.getfield 20, 3) := by decide +kernel
theorem dM_find_21 : decode bM_find 21 = .ok (.iload_n 1, 1) := by decide +kernel
theorem dM_find_22 : decode bM_find 22 = .ok (.aaload, 1) := by decide +kernel
theorem dM_find_23 : decode bM_find 23 = .ok (.iload_n 3, 1) := by decide +kernel
theorem dM_find_24 : decode bM_find 24 = .ok (.iaload, 1) := by decide +kernel
theorem dM_find_25 : decode bM_find 25 = .ok (.iload_n 2, 1) := by decide +kernel
theorem dM_find_26 : decode bM_find 26 = .ok (.if_icmp .ne 7, 3) := by decide +kernel
theorem dM_find_29 : decode bM_find 29 = .ok (.iload_n 3, 1) := by decide +kernel
theorem dM_find_30 : decode bM_find 30 = .ok (.goto 4, 3) := by decide +kernel
theorem dM_find_33 : decode bM_find 33 = .ok (.iconst (-1), 1) := by decide +kernel
theorem dM_find_34 : decode bM_find 34 = .ok (.ireturn, 1) := by decide +kernel
theorem dM_placeOf_0 : decode bM_placeOf 0 = .ok (.iconst 0, 1) := by decide +kernel
theorem dM_placeOf_1 : decode bM_placeOf 1 = .ok (.istore_n 3, 1) := by decide +kernel
theorem dM_placeOf_2 : decode bM_placeOf 2 = .ok (.iload_n 3, 1) := by decide +kernel
theorem dM_placeOf_3 : decode bM_placeOf 3 = .ok (.aload_n 0, 1) := by decide +kernel
theorem dM_placeOf_4 : decode bM_placeOf 4 = .ok (.getfield 15, 3) := by decide +kernel
theorem dM_placeOf_7 : decode bM_placeOf 7 = .ok (.iload_n 1, 1) := by decide +kernel
theorem dM_placeOf_8 : decode bM_placeOf 8 = .ok (.iaload, 1) := by decide +kernel
theorem dM_placeOf_9 : decode bM_placeOf 9 = .ok (.if_icmp .ge 21, 3) := by decide +kernel
theorem dM_placeOf_12 : decode bM_placeOf 12 = .ok (.aload_n 0, 1) := by decide +kernel
theorem dM_placeOf_13 : decode bM_placeOf 13 = .ok (.getfield 20, 3) := by decide +kernel
theorem dM_placeOf_16 : decode bM_placeOf 16 = .ok (.iload_n 1, 1) := by decide +kernel
theorem dM_placeOf_17 : decode bM_placeOf 17 = .ok (.aaload, 1) := by decide +kernel
theorem dM_placeOf_18 : decode bM_placeOf 18 = .ok (.iload_n 3, 1) := by decide +kernel
theorem dM_placeOf_19 : decode bM_placeOf 19 = .ok (.iaload, 1) := by decide +kernel
theorem dM_placeOf_20 : decode bM_placeOf 20 = .ok (.iload_n 2, 1) := by decide +kernel
theorem dM_placeOf_21 : decode bM_placeOf 21 = .ok (.if_icmp .ge 9, 3) := by decide +kernel
theorem dM_placeOf_24 : decode bM_placeOf 24 = .ok (.iinc 3 1, 3) := by decide +kernel
theorem dM_placeOf_27 : decode bM_placeOf 27 = .ok (.goto (-25), 3) := by decide +kernel
theorem dM_placeOf_30 : decode bM_placeOf 30 = .ok (.iload_n 3, 1) := by decide +kernel
theorem dM_placeOf_31 : decode bM_placeOf 31 = .ok (.ireturn, 1) := by decide +kernel
theorem dM_move_0 : decode bM_move 0 = .ok (.aload_n 0, 1) := by decide +kernel
theorem dM_move_1 : decode bM_move 1 = .ok (.getfield 20, 3) := by decide +kernel
theorem dM_move_4 : decode bM_move 4 = .ok (.iload_n 1, 1) := by decide +kernel
theorem dM_move_5 : decode bM_move 5 = .ok (.aaload, 1) := by decide +kernel
theorem dM_move_6 : decode bM_move 6 = .ok (.iload_n 3, 1) := by decide +kernel
theorem dM_move_7 : decode bM_move 7 = .ok (.aload_n 0, 1) := by decide +kernel
theorem dM_move_8 : decode bM_move 8 = .ok (.getfield 20, 3) := by decide +kernel
theorem dM_move_11 : decode bM_move 11 = .ok (.iload_n 1, 1) := by decide +kernel
theorem dM_move_12 : decode bM_move 12 = .ok (.aaload, 1) := by decide +kernel
theorem dM_move_13 : decode bM_move 13 = .ok (.iload_n 2, 1) := by decide +kernel
theorem dM_move_14 : decode bM_move 14 = .ok (.iaload, 1) := by decide +kernel
theorem dM_move_15 : decode bM_move 15 = .ok (.iastore, 1) := by decide +kernel
theorem dM_move_16 : decode bM_move 16 = .ok (.iconst 0, 1) := by decide +kernel
theorem dM_move_17 : decode bM_move 17 = .ok (.istore 4, 2) := by decide +kernel
theorem dM_move_19 : decode bM_move 19 = .ok (.iload 4, 2) := by decide +kernel
theorem dM_move_21 : decode bM_move 21 = .ok (.bipush 6, 2) := by decide +kernel
theorem dM_move_23 : decode bM_move 23 = .ok (.if_icmp .ge 37, 3) := by decide +kernel
theorem dM_move_26 : decode bM_move 26 = .ok (.aload_n 0, 1) := by decide +kernel
theorem dM_move_27 : decode bM_move 27 = .ok (.getfield 25, 3) := by decide +kernel
theorem dM_move_30 : decode bM_move 30 = .ok (.iload_n 1, 1) := by decide +kernel
theorem dM_move_31 : decode bM_move 31 = .ok (.aaload, 1) := by decide +kernel
theorem dM_move_32 : decode bM_move 32 = .ok (.bipush 6, 2) := by decide +kernel
theorem dM_move_34 : decode bM_move 34 = .ok (.iload_n 3, 1) := by decide +kernel
theorem dM_move_35 : decode bM_move 35 = .ok (.imul, 1) := by decide +kernel
theorem dM_move_36 : decode bM_move 36 = .ok (.iload 4, 2) := by decide +kernel
theorem dM_move_38 : decode bM_move 38 = .ok (.iadd, 1) := by decide +kernel
theorem dM_move_39 : decode bM_move 39 = .ok (.aload_n 0, 1) := by decide +kernel
theorem dM_move_40 : decode bM_move 40 = .ok (.getfield 25, 3) := by decide +kernel
theorem dM_move_43 : decode bM_move 43 = .ok (.iload_n 1, 1) := by decide +kernel
theorem dM_move_44 : decode bM_move 44 = .ok (.aaload, 1) := by decide +kernel
theorem dM_move_45 : decode bM_move 45 = .ok (.bipush 6, 2) := by decide +kernel
theorem dM_move_47 : decode bM_move 47 = .ok (.iload_n 2, 1) := by decide +kernel
theorem dM_move_48 : decode bM_move 48 = .ok (.imul, 1) := by decide +kernel
theorem dM_move_49 : decode bM_move 49 = .ok (.iload 4, 2) := by decide +kernel
theorem dM_move_51 : decode bM_move 51 = .ok (.iadd, 1) := by decide +kernel
theorem dM_move_52 : decode bM_move 52 = .ok (.laload, 1) := by decide +kernel
theorem dM_move_53 : decode bM_move 53 = .ok (.lastore, 1) := by decide +kernel
theorem dM_move_54 : decode bM_move 54 = .ok (.iinc 4 1, 3) := by decide +kernel
theorem dM_move_57 : decode bM_move 57 = .ok (.goto (-38), 3) := by decide +kernel
theorem dM_move_60 : decode bM_move 60 = .ok (.return_, 1) := by decide +kernel
theorem dM_remove_0 : decode bM_remove 0 = .ok (.iload_n 1, 1) := by decide +kernel
theorem dM_remove_1 : decode bM_remove 1 = .ok (.iconst 0, 1) := by decide +kernel
theorem dM_remove_2 : decode bM_remove 2 = .ok (.iconst 5, 1) := by decide +kernel
theorem dM_remove_3 : decode bM_remove 3 = .ok (.invokestatic 163, 3) := by decide +kernel
theorem dM_remove_6 : decode bM_remove 6 = .ok (.ifCond .ne 5, 3) := by decide +kernel
theorem dM_remove_9 : decode bM_remove 9 = .ok (.iconst (-1), 1) := by decide +kernel
theorem dM_remove_10 : decode bM_remove 10 = .ok (.ireturn, 1) := by decide +kernel
theorem dM_remove_11 : decode bM_remove 11 = .ok (.aload_n 0, 1) := by decide +kernel
theorem dM_remove_12 : decode bM_remove 12 = .ok (.iload_n 1, 1) := by decide +kernel
theorem dM_remove_13 : decode bM_remove 13 = .ok (.iload_n 2, 1) := by decide +kernel
theorem dM_remove_14 : decode bM_remove 14 = .ok (.invokevirtual 172, 3) := by decide +kernel
theorem dM_remove_17 : decode bM_remove 17 = .ok (.istore_n 3, 1) := by decide +kernel
theorem dM_remove_18 : decode bM_remove 18 = .ok (.iload_n 3, 1) := by decide +kernel
theorem dM_remove_19 : decode bM_remove 19 = .ok (.ifCond .ge 6, 3) := by decide +kernel
theorem dM_remove_22 : decode bM_remove 22 = .ok (.bipush (-2), 2) := by decide +kernel
theorem dM_remove_24 : decode bM_remove 24 = .ok (.ireturn, 1) := by decide +kernel
theorem dM_remove_25 : decode bM_remove 25 = .ok (.aload_n 0, 1) := by decide +kernel
theorem dM_remove_26 : decode bM_remove 26 = .ok (.iload_n 1, 1) := by decide +kernel
theorem dM_remove_27 : decode bM_remove 27 = .ok (.invokevirtual 166, 3) := by decide +kernel
theorem dM_remove_30 : decode bM_remove 30 = .ok (.iload_n 3, 1) := by decide +kernel
theorem dM_remove_31 : decode bM_remove 31 = .ok (.iconst 1, 1) := by decide +kernel
theorem dM_remove_32 : decode bM_remove 32 = .ok (.iadd, 1) := by decide +kernel
theorem dM_remove_33 : decode bM_remove 33 = .ok (.istore 4, 2) := by decide +kernel
theorem dM_remove_35 : decode bM_remove 35 = .ok (.iload 4, 2) := by decide +kernel
theorem dM_remove_37 : decode bM_remove 37 = .ok (.aload_n 0, 1) := by decide +kernel
theorem dM_remove_38 : decode bM_remove 38 = .ok (.getfield 15, 3) := by decide +kernel
theorem dM_remove_41 : decode bM_remove 41 = .ok (.iload_n 1, 1) := by decide +kernel
theorem dM_remove_42 : decode bM_remove 42 = .ok (.iaload, 1) := by decide +kernel
theorem dM_remove_43 : decode bM_remove 43 = .ok (.if_icmp .ge 20, 3) := by decide +kernel
theorem dM_remove_46 : decode bM_remove 46 = .ok (.aload_n 0, 1) := by decide +kernel
theorem dM_remove_47 : decode bM_remove 47 = .ok (.iload_n 1, 1) := by decide +kernel
theorem dM_remove_48 : decode bM_remove 48 = .ok (.iload 4, 2) := by decide +kernel
theorem dM_remove_50 : decode bM_remove 50 = .ok (.iload 4, 2) := by decide +kernel
theorem dM_remove_52 : decode bM_remove 52 = .ok (.iconst 1, 1) := by decide +kernel
theorem dM_remove_53 : decode bM_remove 53 = .ok (.isub, 1) := by decide +kernel
theorem dM_remove_54 : decode bM_remove 54 = .ok (.invokevirtual 175, 3) := by decide +kernel
theorem dM_remove_57 : decode bM_remove 57 = .ok (.iinc 4 1, 3) := by decide +kernel
theorem dM_remove_60 : decode bM_remove 60 = .ok (.goto (-25), 3) := by decide +kernel
theorem dM_remove_63 : decode bM_remove 63 = .ok (.aload_n 0, 1) := by decide +kernel
theorem dM_remove_64 : decode bM_remove 64 = .ok (.getfield 15, 3) := by decide +kernel
theorem dM_remove_67 : decode bM_remove 67 = .ok (.iload_n 1, 1) := by decide +kernel
theorem dM_remove_68 : decode bM_remove 68 = .ok (.dup2, 1) := by decide +kernel
theorem dM_remove_69 : decode bM_remove 69 = .ok (.iaload, 1) := by decide +kernel
theorem dM_remove_70 : decode bM_remove 70 = .ok (.iconst 1, 1) := by decide +kernel
theorem dM_remove_71 : decode bM_remove 71 = .ok (.isub, 1) := by decide +kernel
theorem dM_remove_72 : decode bM_remove 72 = .ok (.iastore, 1) := by decide +kernel
theorem dM_remove_73 : decode bM_remove 73 = .ok (.aload_n 0, 1) := by decide +kernel
theorem dM_remove_74 : decode bM_remove 74 = .ok (.iload_n 1, 1) := by decide +kernel
theorem dM_remove_75 : decode bM_remove 75 = .ok (.invokevirtual 169, 3) := by decide +kernel
theorem dM_remove_78 : decode bM_remove 78 = .ok (.ireturn, 1) := by decide +kernel
theorem dM_copy_0 : decode bM_copy 0 = .ok (.iload_n 1, 1) := by decide +kernel
theorem dM_copy_1 : decode bM_copy 1 = .ok (.iconst 0, 1) := by decide +kernel
theorem dM_copy_2 : decode bM_copy 2 = .ok (.iconst 5, 1) := by decide +kernel
theorem dM_copy_3 : decode bM_copy 3 = .ok (.invokestatic 163, 3) := by decide +kernel
theorem dM_copy_6 : decode bM_copy 6 = .ok (.ifCond .eq 12, 3) := by decide +kernel
theorem dM_copy_9 : decode bM_copy 9 = .ok (.iload_n 2, 1) := by decide +kernel
theorem dM_copy_10 : decode bM_copy 10 = .ok (.iconst 0, 1) := by decide +kernel
theorem dM_copy_11 : decode bM_copy 11 = .ok (.iconst 5, 1) := by decide +kernel
theorem dM_copy_12 : decode bM_copy 12 = .ok (.invokestatic 163, 3) := by decide +kernel
theorem dM_copy_15 : decode bM_copy 15 = .ok (.ifCond .ne 5, 3) := by decide +kernel
theorem dM_copy_18 : decode bM_copy 18 = .ok (.iconst (-1), 1) := by decide +kernel
theorem dM_copy_19 : decode bM_copy 19 = .ok (.ireturn, 1) := by decide +kernel
theorem dM_copy_20 : decode bM_copy 20 = .ok (.aload_n 0, 1) := by decide +kernel
theorem dM_copy_21 : decode bM_copy 21 = .ok (.getfield 11, 3) := by decide +kernel
theorem dM_copy_24 : decode bM_copy 24 = .ok (.iload_n 1, 1) := by decide +kernel
theorem dM_copy_25 : decode bM_copy 25 = .ok (.aload_n 0, 1) := by decide +kernel
theorem dM_copy_26 : decode bM_copy 26 = .ok (.getfield 11, 3) := by decide +kernel
theorem dM_copy_29 : decode bM_copy 29 = .ok (.iload_n 2, 1) := by decide +kernel
theorem dM_copy_30 : decode bM_copy 30 = .ok (.iaload, 1) := by decide +kernel
theorem dM_copy_31 : decode bM_copy 31 = .ok (.iastore, 1) := by decide +kernel
theorem dM_copy_32 : decode bM_copy 32 = .ok (.aload_n 0, 1) := by decide +kernel
theorem dM_copy_33 : decode bM_copy 33 = .ok (.getfield 15, 3) := by decide +kernel
theorem dM_copy_36 : decode bM_copy 36 = .ok (.iload_n 1, 1) := by decide +kernel
theorem dM_copy_37 : decode bM_copy 37 = .ok (.aload_n 0, 1) := by decide +kernel
theorem dM_copy_38 : decode bM_copy 38 = .ok (.getfield 15, 3) := by decide +kernel
theorem dM_copy_41 : decode bM_copy 41 = .ok (.iload_n 2, 1) := by decide +kernel
theorem dM_copy_42 : decode bM_copy 42 = .ok (.iaload, 1) := by decide +kernel
theorem dM_copy_43 : decode bM_copy 43 = .ok (.iastore, 1) := by decide +kernel
theorem dM_copy_44 : decode bM_copy 44 = .ok (.aload_n 0, 1) := by decide +kernel
theorem dM_copy_45 : decode bM_copy 45 = .ok (.getfield 20, 3) := by decide +kernel
theorem dM_copy_48 : decode bM_copy 48 = .ok (.iload_n 2, 1) := by decide +kernel
theorem dM_copy_49 : decode bM_copy 49 = .ok (.aaload, 1) := by decide +kernel
theorem dM_copy_50 : decode bM_copy 50 = .ok (.iconst 0, 1) := by decide +kernel
theorem dM_copy_51 : decode bM_copy 51 = .ok (.aload_n 0, 1) := by decide +kernel
theorem dM_copy_52 : decode bM_copy 52 = .ok (.getfield 20, 3) := by decide +kernel
theorem dM_copy_55 : decode bM_copy 55 = .ok (.iload_n 1, 1) := by decide +kernel
theorem dM_copy_56 : decode bM_copy 56 = .ok (.aaload, 1) := by decide +kernel
theorem dM_copy_57 : decode bM_copy 57 = .ok (.iconst 0, 1) := by decide +kernel
theorem dM_copy_58 : decode bM_copy 58 = .ok (.aload_n 0, 1) := by decide +kernel
theorem dM_copy_59 : decode bM_copy 59 = .ok (.getfield 15, 3) := by decide +kernel
theorem dM_copy_62 : decode bM_copy 62 = .ok (.iload_n 1, 1) := by decide +kernel
theorem dM_copy_63 : decode bM_copy 63 = .ok (.iaload, 1) := by decide +kernel
theorem dM_copy_64 : decode bM_copy 64 = .ok (.invokestatic 108, 3) := by decide +kernel
theorem dM_copy_67 : decode bM_copy 67 = .ok (.aload_n 0, 1) := by decide +kernel
theorem dM_copy_68 : decode bM_copy 68 = .ok (.getfield 25, 3) := by decide +kernel
theorem dM_copy_71 : decode bM_copy 71 = .ok (.iload_n 2, 1) := by decide +kernel
theorem dM_copy_72 : decode bM_copy 72 = .ok (.aaload, 1) := by decide +kernel
theorem dM_copy_73 : decode bM_copy 73 = .ok (.iconst 0, 1) := by decide +kernel
theorem dM_copy_74 : decode bM_copy 74 = .ok (.aload_n 0, 1) := by decide +kernel
theorem dM_copy_75 : decode bM_copy 75 = .ok (.getfield 25, 3) := by decide +kernel
theorem dM_copy_78 : decode bM_copy 78 = .ok (.iload_n 1, 1) := by decide +kernel
theorem dM_copy_79 : decode bM_copy 79 = .ok (.aaload, 1) := by decide +kernel
theorem dM_copy_80 : decode bM_copy 80 = .ok (.iconst 0, 1) := by decide +kernel
theorem dM_copy_81 : decode bM_copy 81 = .ok (.bipush 6, 2) := by decide +kernel
theorem dM_copy_83 : decode bM_copy 83 = .ok (.aload_n 0, 1) := by decide +kernel
theorem dM_copy_84 : decode bM_copy 84 = .ok (.getfield 15, 3) := by decide +kernel
theorem dM_copy_87 : decode bM_copy 87 = .ok (.iload_n 1, 1) := by decide +kernel
theorem dM_copy_88 : decode bM_copy 88 = .ok (.iaload, 1) := by decide +kernel
theorem dM_copy_89 : decode bM_copy 89 = .ok (.imul, 1) := by decide +kernel
theorem dM_copy_90 : decode bM_copy 90 = .ok (.invokestatic 108, 3) := by decide +kernel
theorem dM_copy_93 : decode bM_copy 93 = .ok (.iconst 0, 1) := by decide +kernel
theorem dM_copy_94 : decode bM_copy 94 = .ok (.ireturn, 1) := by decide +kernel
theorem dM_get_0 : decode bM_get 0 = .ok (.iload_n 1, 1) := by decide +kernel
theorem dM_get_1 : decode bM_get 1 = .ok (.iconst 0, 1) := by decide +kernel
theorem dM_get_2 : decode bM_get 2 = .ok (.iconst 5, 1) := by decide +kernel
theorem dM_get_3 : decode bM_get 3 = .ok (.invokestatic 163, 3) := by decide +kernel
theorem dM_get_6 : decode bM_get 6 = .ok (.ifCond .eq 19, 3) := by decide +kernel
theorem dM_get_9 : decode bM_get 9 = .ok (.iload_n 3, 1) := by decide +kernel
theorem dM_get_10 : decode bM_get 10 = .ok (.iconst 0, 1) := by decide +kernel
theorem dM_get_11 : decode bM_get 11 = .ok (.aload_n 0, 1) := by decide +kernel
theorem dM_get_12 : decode bM_get 12 = .ok (.getfield 11, 3) := by decide +kernel
theorem dM_get_15 : decode bM_get 15 = .ok (.iload_n 1, 1) := by decide +kernel
theorem dM_get_16 : decode bM_get 16 = .ok (.iaload, 1) := by decide +kernel
theorem dM_get_17 : decode bM_get 17 = .ok (.iconst 1, 1) := by decide +kernel
theorem dM_get_18 : decode bM_get 18 = .ok (.isub, 1) := by decide +kernel
theorem dM_get_19 : decode bM_get 19 = .ok (.invokestatic 163, 3) := by decide +kernel
theorem dM_get_22 : decode bM_get 22 = .ok (.ifCond .ne 7, 3) := by decide +kernel
theorem dM_get_25 : decode bM_get 25 = .ok (.ldc2_w 179, 3) := by decide +kernel
theorem dM_get_28 : decode bM_get 28 = .ok (.lreturn, 1) := by decide +kernel
theorem dM_get_29 : decode bM_get 29 = .ok (.aload_n 0, 1) := by decide +kernel
theorem dM_get_30 : decode bM_get 30 = .ok (.iload_n 1, 1) := by decide +kernel
theorem dM_get_31 : decode bM_get 31 = .ok (.iload_n 2, 1) := by decide +kernel
theorem dM_get_32 : decode bM_get 32 = .ok (.invokevirtual 172, 3) := by decide +kernel
theorem dM_get_35 : decode bM_get 35 = .ok (.istore 4, 2) := by decide +kernel
theorem dM_get_37 : decode bM_get 37 = .ok (.iload 4, 2) := by decide +kernel
theorem dM_get_39 : decode bM_get 39 = .ok (.ifCond .ge 7, 3) := by decide +kernel
theorem dM_get_42 : decode bM_get 42 = .ok (.ldc2_w 181, 3) := by decide +kernel
theorem dM_get_45 : decode bM_get 45 = .ok (.lreturn, 1) := by decide +kernel
theorem dM_get_46 : decode bM_get 46 = .ok (.aload_n 0, 1) := by decide +kernel
theorem dM_get_47 : decode bM_get 47 = .ok (.getfield 25, 3) := by decide +kernel
theorem dM_get_50 : decode bM_get 50 = .ok (.iload_n 1, 1) := by decide +kernel
theorem dM_get_51 : decode bM_get 51 = .ok (.aaload, 1) := by decide +kernel
theorem dM_get_52 : decode bM_get 52 = .ok (.bipush 6, 2) := by decide +kernel
theorem dM_get_54 : decode bM_get 54 = .ok (.iload 4, 2) := by decide +kernel
theorem dM_get_56 : decode bM_get 56 = .ok (.imul, 1) := by decide +kernel
theorem dM_get_57 : decode bM_get 57 = .ok (.iload_n 3, 1) := by decide +kernel
theorem dM_get_58 : decode bM_get 58 = .ok (.iadd, 1) := by decide +kernel
theorem dM_get_59 : decode bM_get 59 = .ok (.laload, 1) := by decide +kernel
theorem dM_get_60 : decode bM_get 60 = .ok (.lstore 5, 2) := by decide +kernel
theorem dM_get_62 : decode bM_get 62 = .ok (.lload 5, 2) := by decide +kernel
theorem dM_get_64 : decode bM_get 64 = .ok (.ldc2_w 146, 3) := by decide +kernel
theorem dM_get_67 : decode bM_get 67 = .ok (.lcmp, 1) := by decide +kernel
theorem dM_get_68 : decode bM_get 68 = .ok (.ifCond .ne 9, 3) := by decide +kernel
theorem dM_get_71 : decode bM_get 71 = .ok (.ldc2_w 183, 3) := by decide +kernel
theorem dM_get_74 : decode bM_get 74 = .ok (.goto 5, 3) := by decide +kernel
theorem dM_get_77 : decode bM_get 77 = .ok (.lload 5, 2) := by decide +kernel
theorem dM_get_79 : decode bM_get 79 = .ok (.lreturn, 1) := by decide +kernel
theorem dM_measure_0 : decode bM_measure 0 = .ok (.iload_n 1, 1) := by decide +kernel
theorem dM_measure_1 : decode bM_measure 1 = .ok (.iconst 0, 1) := by decide +kernel
theorem dM_measure_2 : decode bM_measure 2 = .ok (.iconst 5, 1) := by decide +kernel
theorem dM_measure_3 : decode bM_measure 3 = .ok (.invokestatic 163, 3) := by decide +kernel
theorem dM_measure_6 : decode bM_measure 6 = .ok (.ifCond .eq 12, 3) := by decide +kernel
theorem dM_measure_9 : decode bM_measure 9 = .ok (.iload_n 2, 1) := by decide +kernel
theorem dM_measure_10 : decode bM_measure 10 = .ok (.iconst 0, 1) := by decide +kernel
theorem dM_measure_11 : decode bM_measure 11 = .ok (.iconst 3, 1) := by decide +kernel
theorem dM_measure_12 : decode bM_measure 12 = .ok (.invokestatic 163, 3) := by decide +kernel
theorem dM_measure_15 : decode bM_measure 15 = .ok (.ifCond .ne 5, 3) := by decide +kernel
theorem dM_measure_18 : decode bM_measure 18 = .ok (.iconst (-1), 1) := by decide +kernel
theorem dM_measure_19 : decode bM_measure 19 = .ok (.ireturn, 1) := by decide +kernel
theorem dM_measure_20 : decode bM_measure 20 = .ok (.aload_n 0, 1) := by decide +kernel
theorem dM_measure_21 : decode bM_measure 21 = .ok (.iload_n 1, 1) := by decide +kernel
theorem dM_measure_22 : decode bM_measure 22 = .ok (.invokevirtual 75, 3) := by decide +kernel
theorem dM_measure_25 : decode bM_measure 25 = .ok (.pop, 1) := by decide +kernel
theorem dM_measure_26 : decode bM_measure 26 = .ok (.iload_n 2, 1) := by decide +kernel
theorem dM_measure_27 : decode bM_measure 27 = .ok (.ifCond .ne 12, 3) := by decide +kernel
theorem dM_measure_30 : decode bM_measure 30 = .ok (.aload_n 0, 1) := by decide +kernel
theorem dM_measure_31 : decode bM_measure 31 = .ok (.getfield 15, 3) := by decide +kernel
theorem dM_measure_34 : decode bM_measure 34 = .ok (.iload_n 1, 1) := by decide +kernel
theorem dM_measure_35 : decode bM_measure 35 = .ok (.iaload, 1) := by decide +kernel
theorem dM_measure_36 : decode bM_measure 36 = .ok (.goto 33, 3) := by decide +kernel
theorem dM_measure_39 : decode bM_measure 39 = .ok (.iload_n 2, 1) := by decide +kernel
theorem dM_measure_40 : decode bM_measure 40 = .ok (.iconst 1, 1) := by decide +kernel
theorem dM_measure_41 : decode bM_measure 41 = .ok (.if_icmp .ne 12, 3) := by decide +kernel
theorem dM_measure_44 : decode bM_measure 44 = .ok (.aload_n 0, 1) := by decide +kernel
theorem dM_measure_45 : decode bM_measure 45 = .ok (.getfield 11, 3) := by decide +kernel
theorem dM_measure_48 : decode bM_measure 48 = .ok (.iload_n 1, 1) := by decide +kernel
theorem dM_measure_49 : decode bM_measure 49 = .ok (.iaload, 1) := by decide +kernel
theorem dM_measure_50 : decode bM_measure 50 = .ok (.goto 19, 3) := by decide +kernel
theorem dM_measure_53 : decode bM_measure 53 = .ok (.iload_n 2, 1) := by decide +kernel
theorem dM_measure_54 : decode bM_measure 54 = .ok (.iconst 2, 1) := by decide +kernel
theorem dM_measure_55 : decode bM_measure 55 = .ok (.if_icmp .ne 10, 3) := by decide +kernel
theorem dM_measure_58 : decode bM_measure 58 = .ok (.aload_n 0, 1) := by decide +kernel
theorem dM_measure_59 : decode bM_measure 59 = .ok (.getfield 117, 3) := by decide +kernel
theorem dM_measure_62 : decode bM_measure 62 = .ok (.goto 7, 3) := by decide +kernel
theorem dM_measure_65 : decode bM_measure 65 = .ok (.aload_n 0, 1) := by decide +kernel
theorem dM_measure_66 : decode bM_measure 66 = .ok (.getfield 120, 3) := by decide +kernel
theorem dM_measure_69 : decode bM_measure 69 = .ok (.ireturn, 1) := by decide +kernel
theorem dM_address_0 : decode bM_address 0 = .ok (.iload_n 1, 1) := by decide +kernel
theorem dM_address_1 : decode bM_address 1 = .ok (.iconst 0, 1) := by decide +kernel
theorem dM_address_2 : decode bM_address 2 = .ok (.iconst 5, 1) := by decide +kernel
theorem dM_address_3 : decode bM_address 3 = .ok (.invokestatic 163, 3) := by decide +kernel
theorem dM_address_6 : decode bM_address 6 = .ok (.ifCond .ne 5, 3) := by decide +kernel
theorem dM_address_9 : decode bM_address 9 = .ok (.lconst 0, 1) := by decide +kernel
theorem dM_address_10 : decode bM_address 10 = .ok (.lreturn, 1) := by decide +kernel
theorem dM_address_11 : decode bM_address 11 = .ok (.aload_n 0, 1) := by decide +kernel
theorem dM_address_12 : decode bM_address 12 = .ok (.iload_n 1, 1) := by decide +kernel
theorem dM_address_13 : decode bM_address 13 = .ok (.invokevirtual 75, 3) := by decide +kernel
theorem dM_address_16 : decode bM_address 16 = .ok (.pop, 1) := by decide +kernel
theorem dM_address_17 : decode bM_address 17 = .ok (.aload_n 0, 1) := by decide +kernel
theorem dM_address_18 : decode bM_address 18 = .ok (.aload_n 0, 1) := by decide +kernel
theorem dM_address_19 : decode bM_address 19 = .ok (.getfield 66, 3) := by decide +kernel
theorem dM_address_22 : decode bM_address 22 = .ok (.iconst 0, 1) := by decide +kernel
theorem dM_address_23 : decode bM_address 23 = .ok (.iaload, 1) := by decide +kernel
theorem dM_address_24 : decode bM_address 24 = .ok (.invokevirtual 142, 3) := by decide +kernel
theorem dM_address_27 : decode bM_address 27 = .ok (.lreturn, 1) := by decide +kernel
theorem dM_addressOf_0 : decode bM_addressOf 0 = .ok (.ldc2_w 136, 3) := by decide +kernel
theorem dM_addressOf_3 : decode bM_addressOf 3 = .ok (.aload_n 0, 1) := by decide +kernel
theorem dM_addressOf_4 : decode bM_addressOf 4 = .ok (.getfield 45, 3) := by decide +kernel
theorem dM_addressOf_7 : decode bM_addressOf 7 = .ok (.iload_n 1, 1) := by decide +kernel
theorem dM_addressOf_8 : decode bM_addressOf 8 = .ok (.iaload, 1) := by decide +kernel
theorem dM_addressOf_9 : decode bM_addressOf 9 = .ok (.i2l, 1) := by decide +kernel
theorem dM_addressOf_10 : decode bM_addressOf 10 = .ok (.invokestatic 138, 3) := by decide +kernel
theorem dM_addressOf_13 : decode bM_addressOf 13 = .ok (.lstore_n 2, 1) := by decide +kernel
theorem dM_addressOf_14 : decode bM_addressOf 14 = .ok (.aload_n 0, 1) := by decide +kernel
theorem dM_addressOf_15 : decode bM_addressOf 15 = .ok (.getfield 45, 3) := by decide +kernel
theorem dM_addressOf_18 : decode bM_addressOf 18 = .ok (.iload_n 1, 1) := by decide +kernel
theorem dM_addressOf_19 : decode bM_addressOf 19 = .ok (.iaload, 1) := by decide +kernel
theorem dM_addressOf_20 : decode bM_addressOf 20 = .ok (.ifCond .le 49, 3) := by decide +kernel
theorem dM_addressOf_23 : decode bM_addressOf 23 = .ok (.iconst 0, 1) := by decide +kernel
theorem dM_addressOf_24 : decode bM_addressOf 24 = .ok (.istore 4, 2) := by decide +kernel
theorem dM_addressOf_26 : decode bM_addressOf 26 = .ok (.iload 4, 2) := by decide +kernel
theorem dM_addressOf_28 : decode bM_addressOf 28 = .ok (.aload_n 0, 1) := by decide +kernel
theorem dM_addressOf_29 : decode bM_addressOf 29 = .ok (.getfield 51, 3) := by decide +kernel
theorem dM_addressOf_32 : decode bM_addressOf 32 = .ok (.iload_n 1, 1) := by decide +kernel
theorem dM_addressOf_33 : decode bM_addressOf 33 = .ok (.iaload, 1) := by decide +kernel
theorem dM_addressOf_34 : decode bM_addressOf 34 = .ok (.if_icmp .ge 33, 3) := by decide +kernel
theorem dM_addressOf_37 : decode bM_addressOf 37 = .ok (.lload_n 2, 1) := by decide +kernel
theorem dM_addressOf_38 : decode bM_addressOf 38 = .ok (.aload_n 0, 1) := by decide +kernel
theorem dM_addressOf_39 : decode bM_addressOf 39 = .ok (.aload_n 0, 1) := by decide +kernel
theorem dM_addressOf_40 : decode bM_addressOf 40 = .ok (.getfield 60, 3) := by decide +kernel
theorem dM_addressOf_43 : decode bM_addressOf 43 = .ok (.aload_n 0, 1) := by decide +kernel
theorem dM_addressOf_44 : decode bM_addressOf 44 = .ok (.getfield 48, 3) := by decide +kernel
theorem dM_addressOf_47 : decode bM_addressOf 47 = .ok (.iload_n 1, 1) := by decide +kernel
theorem dM_addressOf_48 : decode bM_addressOf 48 = .ok (.iaload, 1) := by decide +kernel
theorem dM_addressOf_49 : decode bM_addressOf 49 = .ok (.iload 4, 2) := by decide +kernel
theorem dM_addressOf_51 : decode bM_addressOf 51 = .ok (.iadd, 1) := by decide +kernel
theorem dM_addressOf_52 : decode bM_addressOf 52 = .ok (.laload, 1) := by decide +kernel
theorem dM_addressOf_53 : decode bM_addressOf 53 = .ok (.l2i, 1) := by decide +kernel
theorem dM_addressOf_54 : decode bM_addressOf 54 = .ok (.invokevirtual 142, 3) := by decide +kernel
theorem dM_addressOf_57 : decode bM_addressOf 57 = .ok (.invokestatic 138, 3) := by decide +kernel
theorem dM_addressOf_60 : decode bM_addressOf 60 = .ok (.lstore_n 2, 1) := by decide +kernel
theorem dM_addressOf_61 : decode bM_addressOf 61 = .ok (.iinc 4 1, 3) := by decide +kernel
theorem dM_addressOf_64 : decode bM_addressOf 64 = .ok (.goto (-38), 3) := by decide +kernel
theorem dM_addressOf_67 : decode bM_addressOf 67 = .ok (.lload_n 2, 1) := by decide +kernel
theorem dM_addressOf_68 : decode bM_addressOf 68 = .ok (.lreturn, 1) := by decide +kernel
theorem dM_addressOf_69 : decode bM_addressOf 69 = .ok (.iconst 0, 1) := by decide +kernel
theorem dM_addressOf_70 : decode bM_addressOf 70 = .ok (.istore 4, 2) := by decide +kernel
theorem dM_addressOf_72 : decode bM_addressOf 72 = .ok (.iload 4, 2) := by decide +kernel
theorem dM_addressOf_74 : decode bM_addressOf 74 = .ok (.aload_n 0, 1) := by decide +kernel
theorem dM_addressOf_75 : decode bM_addressOf 75 = .ok (.getfield 51, 3) := by decide +kernel
theorem dM_addressOf_78 : decode bM_addressOf 78 = .ok (.iload_n 1, 1) := by decide +kernel
theorem dM_addressOf_79 : decode bM_addressOf 79 = .ok (.iaload, 1) := by decide +kernel
theorem dM_addressOf_80 : decode bM_addressOf 80 = .ok (.if_icmp .ge 112, 3) := by decide +kernel
theorem dM_addressOf_83 : decode bM_addressOf 83 = .ok (.lload_n 2, 1) := by decide +kernel
theorem dM_addressOf_84 : decode bM_addressOf 84 = .ok (.aload_n 0, 1) := by decide +kernel
theorem dM_addressOf_85 : decode bM_addressOf 85 = .ok (.getfield 60, 3) := by decide +kernel
theorem dM_addressOf_88 : decode bM_addressOf 88 = .ok (.aload_n 0, 1) := by decide +kernel
theorem dM_addressOf_89 : decode bM_addressOf 89 = .ok (.getfield 48, 3) := by decide +kernel
theorem dM_addressOf_92 : decode bM_addressOf 92 = .ok (.iload_n 1, 1) := by decide +kernel
theorem dM_addressOf_93 : decode bM_addressOf 93 = .ok (.iaload, 1) := by decide +kernel
theorem dM_addressOf_94 : decode bM_addressOf 94 = .ok (.iload 4, 2) := by decide +kernel
theorem dM_addressOf_96 : decode bM_addressOf 96 = .ok (.iadd, 1) := by decide +kernel
theorem dM_addressOf_97 : decode bM_addressOf 97 = .ok (.laload, 1) := by decide +kernel
theorem dM_addressOf_98 : decode bM_addressOf 98 = .ok (.invokestatic 138, 3) := by decide +kernel
theorem dM_addressOf_101 : decode bM_addressOf 101 = .ok (.lstore_n 2, 1) := by decide +kernel
theorem dM_addressOf_102 : decode bM_addressOf 102 = .ok (.iconst 1, 1) := by decide +kernel
theorem dM_addressOf_103 : decode bM_addressOf 103 = .ok (.istore 5, 2) := by decide +kernel
theorem dM_addressOf_105 : decode bM_addressOf 105 = .ok (.iload 5, 2) := by decide +kernel
theorem dM_addressOf_107 : decode bM_addressOf 107 = .ok (.aload_n 0, 1) := by decide +kernel
theorem dM_addressOf_108 : decode bM_addressOf 108 = .ok (.getfield 54, 3) := by decide +kernel
theorem dM_addressOf_111 : decode bM_addressOf 111 = .ok (.iload_n 1, 1) := by decide +kernel
theorem dM_addressOf_112 : decode bM_addressOf 112 = .ok (.iaload, 1) := by decide +kernel
theorem dM_addressOf_113 : decode bM_addressOf 113 = .ok (.if_icmp .gt 63, 3) := by decide +kernel
theorem dM_addressOf_116 : decode bM_addressOf 116 = .ok (.aload_n 0, 1) := by decide +kernel
theorem dM_addressOf_117 : decode bM_addressOf 117 = .ok (.getfield 60, 3) := by decide +kernel
theorem dM_addressOf_120 : decode bM_addressOf 120 = .ok (.aload_n 0, 1) := by decide +kernel
theorem dM_addressOf_121 : decode bM_addressOf 121 = .ok (.getfield 48, 3) := by decide +kernel
theorem dM_addressOf_124 : decode bM_addressOf 124 = .ok (.iload_n 1, 1) := by decide +kernel
theorem dM_addressOf_125 : decode bM_addressOf 125 = .ok (.iaload, 1) := by decide +kernel
theorem dM_addressOf_126 : decode bM_addressOf 126 = .ok (.iload 4, 2) := by decide +kernel
theorem dM_addressOf_128 : decode bM_addressOf 128 = .ok (.iadd, 1) := by decide +kernel
theorem dM_addressOf_129 : decode bM_addressOf 129 = .ok (.iload 5, 2) := by decide +kernel
theorem dM_addressOf_131 : decode bM_addressOf 131 = .ok (.iadd, 1) := by decide +kernel
theorem dM_addressOf_132 : decode bM_addressOf 132 = .ok (.laload, 1) := by decide +kernel
theorem dM_addressOf_133 : decode bM_addressOf 133 = .ok (.lstore 6, 2) := by decide +kernel
theorem dM_addressOf_135 : decode bM_addressOf 135 = .ok (.lload_n 2, 1) := by decide +kernel
theorem dM_addressOf_136 : decode bM_addressOf 136 = .ok (.lload 6, 2) := by decide +kernel
theorem dM_addressOf_138 : decode bM_addressOf 138 = .ok (.ldc2_w 146, 3) := by decide +kernel
theorem dM_addressOf_141 : decode bM_addressOf 141 = .ok (.lcmp, 1) := by decide +kernel
theorem dM_addressOf_142 : decode bM_addressOf 142 = .ok (.ifCond .ne 7, 3) := by decide +kernel
theorem dM_addressOf_145 : decode bM_addressOf 145 = .ok (.lconst 0, 1) := by decide +kernel
theorem dM_addressOf_146 : decode bM_addressOf 146 = .ok (.goto 4, 3) := by decide +kernel
theorem dM_addressOf_149 : decode bM_addressOf 149 = .ok (.lconst 1, 1) := by decide +kernel
theorem dM_addressOf_150 : decode bM_addressOf 150 = .ok (.invokestatic 138, 3) := by decide +kernel
theorem dM_addressOf_153 : decode bM_addressOf 153 = .ok (.lstore_n 2, 1) := by decide +kernel
theorem dM_addressOf_154 : decode bM_addressOf 154 = .ok (.lload 6, 2) := by decide +kernel
theorem dM_addressOf_156 : decode bM_addressOf 156 = .ok (.ldc2_w 146, 3) := by decide +kernel
theorem dM_addressOf_159 : decode bM_addressOf 159 = .ok (.lcmp, 1) := by decide +kernel
theorem dM_addressOf_160 : decode bM_addressOf 160 = .ok (.ifCond .eq 10, 3) := by decide +kernel
theorem dM_addressOf_163 : decode bM_addressOf 163 = .ok (.lload_n 2, 1) := by decide +kernel
theorem dM_addressOf_164 : decode bM_addressOf 164 = .ok (.lload 6, 2) := by decide +kernel
theorem dM_addressOf_166 : decode bM_addressOf 166 = .ok (.invokestatic 138, 3) := by decide +kernel
theorem dM_addressOf_169 : decode bM_addressOf 169 = .ok (.lstore_n 2, 1) := by decide +kernel
theorem dM_addressOf_170 : decode bM_addressOf 170 = .ok (.iinc 5 1, 3) := by decide +kernel
theorem dM_addressOf_173 : decode bM_addressOf 173 = .ok (.goto (-68), 3) := by decide +kernel
theorem dM_addressOf_176 : decode bM_addressOf 176 = .ok (.iload 4, 2) := by decide +kernel
theorem dM_addressOf_178 : decode bM_addressOf 178 = .ok (.iconst 1, 1) := by decide +kernel
theorem dM_addressOf_179 : decode bM_addressOf 179 = .ok (.aload_n 0, 1) := by decide +kernel
theorem dM_addressOf_180 : decode bM_addressOf 180 = .ok (.getfield 54, 3) := by decide +kernel
theorem dM_addressOf_183 : decode bM_addressOf 183 = .ok (.iload_n 1, 1) := by decide +kernel
theorem dM_addressOf_184 : decode bM_addressOf 184 = .ok (.iaload, 1) := by decide +kernel
theorem dM_addressOf_185 : decode bM_addressOf 185 = .ok (.iadd, 1) := by decide +kernel
theorem dM_addressOf_186 : decode bM_addressOf 186 = .ok (.iadd, 1) := by decide +kernel
theorem dM_addressOf_187 : decode bM_addressOf 187 = .ok (.istore 4, 2) := by decide +kernel
theorem dM_addressOf_189 : decode bM_addressOf 189 = .ok (.goto (-117), 3) := by decide +kernel
theorem dM_addressOf_192 : decode bM_addressOf 192 = .ok (.lload_n 2, 1) := by decide +kernel
theorem dM_addressOf_193 : decode bM_addressOf 193 = .ok (.lreturn, 1) := by decide +kernel
theorem dM_step_0 : decode bM_step 0 = .ok (.lload_n 0, 1) := by decide +kernel
theorem dM_step_1 : decode bM_step 1 = .ok (.lload_n 2, 1) := by decide +kernel
theorem dM_step_2 : decode bM_step 2 = .ok (.lxor, 1) := by decide +kernel
theorem dM_step_3 : decode bM_step 3 = .ok (.ldc2_w 148, 3) := by decide +kernel
theorem dM_step_6 : decode bM_step 6 = .ok (.lmul, 1) := by decide +kernel
theorem dM_step_7 : decode bM_step 7 = .ok (.lreturn, 1) := by decide +kernel
theorem dM_row_0 : decode bM_row 0 = .ok (.iload_n 1, 1) := by decide +kernel
theorem dM_row_1 : decode bM_row 1 = .ok (.iconst 0, 1) := by decide +kernel
theorem dM_row_2 : decode bM_row 2 = .ok (.iconst 5, 1) := by decide +kernel
theorem dM_row_3 : decode bM_row 3 = .ok (.invokestatic 163, 3) := by decide +kernel
theorem dM_row_6 : decode bM_row 6 = .ok (.ifCond .eq 31, 3) := by decide +kernel
theorem dM_row_9 : decode bM_row 9 = .ok (.iload_n 2, 1) := by decide +kernel
theorem dM_row_10 : decode bM_row 10 = .ok (.iconst 0, 1) := by decide +kernel
theorem dM_row_11 : decode bM_row 11 = .ok (.aload_n 0, 1) := by decide +kernel
theorem dM_row_12 : decode bM_row 12 = .ok (.getfield 15, 3) := by decide +kernel
theorem dM_row_15 : decode bM_row 15 = .ok (.iload_n 1, 1) := by decide +kernel
theorem dM_row_16 : decode bM_row 16 = .ok (.iaload, 1) := by decide +kernel
theorem dM_row_17 : decode bM_row 17 = .ok (.iconst 1, 1) := by decide +kernel
theorem dM_row_18 : decode bM_row 18 = .ok (.isub, 1) := by decide +kernel
theorem dM_row_19 : decode bM_row 19 = .ok (.invokestatic 163, 3) := by decide +kernel
theorem dM_row_22 : decode bM_row 22 = .ok (.ifCond .eq 15, 3) := by decide +kernel
theorem dM_row_25 : decode bM_row 25 = .ok (.aload_n 0, 1) := by decide +kernel
theorem dM_row_26 : decode bM_row 26 = .ok (.getfield 20, 3) := by decide +kernel
theorem dM_row_29 : decode bM_row 29 = .ok (.iload_n 1, 1) := by decide +kernel
theorem dM_row_30 : decode bM_row 30 = .ok (.aaload, 1) := by decide +kernel
theorem dM_row_31 : decode bM_row 31 = .ok (.iload_n 2, 1) := by decide +kernel
theorem dM_row_32 : decode bM_row 32 = .ok (.iaload, 1) := by decide +kernel
theorem dM_row_33 : decode bM_row 33 = .ok (.i2l, 1) := by decide +kernel
theorem dM_row_34 : decode bM_row 34 = .ok (.goto 6, 3) := by decide +kernel
theorem dM_row_37 : decode bM_row 37 = .ok (.ldc2_w 183, 3) := by decide +kernel
theorem dM_row_40 : decode bM_row 40 = .ok (.lreturn, 1) := by decide +kernel
theorem dM_compare_0 : decode bM_compare 0 = .ok (.iload_n 1, 1) := by decide +kernel
theorem dM_compare_1 : decode bM_compare 1 = .ok (.iconst 0, 1) := by decide +kernel
theorem dM_compare_2 : decode bM_compare 2 = .ok (.iconst 5, 1) := by decide +kernel
theorem dM_compare_3 : decode bM_compare 3 = .ok (.invokestatic 163, 3) := by decide +kernel
theorem dM_compare_6 : decode bM_compare 6 = .ok (.ifCond .eq 27, 3) := by decide +kernel
theorem dM_compare_9 : decode bM_compare 9 = .ok (.iload_n 2, 1) := by decide +kernel
theorem dM_compare_10 : decode bM_compare 10 = .ok (.iconst 0, 1) := by decide +kernel
theorem dM_compare_11 : decode bM_compare 11 = .ok (.iconst 5, 1) := by decide +kernel
theorem dM_compare_12 : decode bM_compare 12 = .ok (.invokestatic 163, 3) := by decide +kernel
theorem dM_compare_15 : decode bM_compare 15 = .ok (.ifCond .eq 18, 3) := by decide +kernel
theorem dM_compare_18 : decode bM_compare 18 = .ok (.aload_n 0, 1) := by decide +kernel
theorem dM_compare_19 : decode bM_compare 19 = .ok (.getfield 11, 3) := by decide +kernel
theorem dM_compare_22 : decode bM_compare 22 = .ok (.iload_n 1, 1) := by decide +kernel
theorem dM_compare_23 : decode bM_compare 23 = .ok (.iaload, 1) := by decide +kernel
theorem dM_compare_24 : decode bM_compare 24 = .ok (.aload_n 0, 1) := by decide +kernel
theorem dM_compare_25 : decode bM_compare 25 = .ok (.getfield 11, 3) := by decide +kernel
theorem dM_compare_28 : decode bM_compare 28 = .ok (.iload_n 2, 1) := by decide +kernel
theorem dM_compare_29 : decode bM_compare 29 = .ok (.iaload, 1) := by decide +kernel
theorem dM_compare_30 : decode bM_compare 30 = .ok (.if_icmp .eq 5, 3) := by decide +kernel
theorem dM_compare_33 : decode bM_compare 33 = .ok (.iconst (-1), 1) := by decide +kernel
theorem dM_compare_34 : decode bM_compare 34 = .ok (.ireturn, 1) := by decide +kernel
theorem dM_compare_35 : decode bM_compare 35 = .ok (.iconst 0, 1) := by decide +kernel
theorem dM_compare_36 : decode bM_compare 36 = .ok (.istore_n 3, 1) := by decide +kernel
theorem dM_compare_37 : decode bM_compare 37 = .ok (.iconst 0, 1) := by decide +kernel
theorem dM_compare_38 : decode bM_compare 38 = .ok (.istore 4, 2) := by decide +kernel
theorem dM_compare_40 : decode bM_compare 40 = .ok (.iconst 0, 1) := by decide +kernel
theorem dM_compare_41 : decode bM_compare 41 = .ok (.istore 5, 2) := by decide +kernel
theorem dM_compare_43 : decode bM_compare 43 = .ok (.iload_n 3, 1) := by decide +kernel
theorem dM_compare_44 : decode bM_compare 44 = .ok (.aload_n 0, 1) := by decide +kernel
theorem dM_compare_45 : decode bM_compare 45 = .ok (.getfield 15, 3) := by decide +kernel
theorem dM_compare_48 : decode bM_compare 48 = .ok (.iload_n 1, 1) := by decide +kernel
theorem dM_compare_49 : decode bM_compare 49 = .ok (.iaload, 1) := by decide +kernel
theorem dM_compare_50 : decode bM_compare 50 = .ok (.if_icmp .lt 14, 3) := by decide +kernel
theorem dM_compare_53 : decode bM_compare 53 = .ok (.iload 4, 2) := by decide +kernel
theorem dM_compare_55 : decode bM_compare 55 = .ok (.aload_n 0, 1) := by decide +kernel
theorem dM_compare_56 : decode bM_compare 56 = .ok (.getfield 15, 3) := by decide +kernel
theorem dM_compare_59 : decode bM_compare 59 = .ok (.iload_n 2, 1) := by decide +kernel
theorem dM_compare_60 : decode bM_compare 60 = .ok (.iaload, 1) := by decide +kernel
theorem dM_compare_61 : decode bM_compare 61 = .ok (.if_icmp .ge 283, 3) := by decide +kernel
theorem dM_compare_64 : decode bM_compare 64 = .ok (.iload_n 3, 1) := by decide +kernel
theorem dM_compare_65 : decode bM_compare 65 = .ok (.aload_n 0, 1) := by decide +kernel
theorem dM_compare_66 : decode bM_compare 66 = .ok (.getfield 15, 3) := by decide +kernel
theorem dM_compare_69 : decode bM_compare 69 = .ok (.iload_n 1, 1) := by decide +kernel
theorem dM_compare_70 : decode bM_compare 70 = .ok (.iaload, 1) := by decide +kernel
theorem dM_compare_71 : decode bM_compare 71 = .ok (.if_icmp .ge 38, 3) := by decide +kernel
theorem dM_compare_74 : decode bM_compare 74 = .ok (.iload 4, 2) := by decide +kernel
theorem dM_compare_76 : decode bM_compare 76 = .ok (.aload_n 0, 1) := by decide +kernel
theorem dM_compare_77 : decode bM_compare 77 = .ok (.getfield 15, 3) := by decide +kernel
theorem dM_compare_80 : decode bM_compare 80 = .ok (.iload_n 2, 1) := by decide +kernel
theorem dM_compare_81 : decode bM_compare 81 = .ok (.iaload, 1) := by decide +kernel
theorem dM_compare_82 : decode bM_compare 82 = .ok (.if_icmp .eq 23, 3) := by decide +kernel
theorem dM_compare_85 : decode bM_compare 85 = .ok (.aload_n 0, 1) := by decide +kernel
theorem dM_compare_86 : decode bM_compare 86 = .ok (.getfield 20, 3) := by decide +kernel
theorem dM_compare_89 : decode bM_compare 89 = .ok (.iload_n 1, 1) := by decide +kernel
theorem dM_compare_90 : decode bM_compare 90 = .ok (.aaload, 1) := by decide +kernel
theorem dM_compare_91 : decode bM_compare 91 = .ok (.iload_n 3, 1) := by decide +kernel
theorem dM_compare_92 : decode bM_compare 92 = .ok (.iaload, 1) := by decide +kernel
theorem dM_compare_93 : decode bM_compare 93 = .ok (.aload_n 0, 1) := by decide +kernel
theorem dM_compare_94 : decode bM_compare 94 = .ok (.getfield 20, 3) := by decide +kernel
theorem dM_compare_97 : decode bM_compare 97 = .ok (.iload_n 2, 1) := by decide +kernel
theorem dM_compare_98 : decode bM_compare 98 = .ok (.aaload, 1) := by decide +kernel
theorem dM_compare_99 : decode bM_compare 99 = .ok (.iload 4, 2) := by decide +kernel
theorem dM_compare_101 : decode bM_compare 101 = .ok (.iaload, 1) := by decide +kernel
theorem dM_compare_102 : decode bM_compare 102 = .ok (.if_icmp .gt 7, 3) := by decide +kernel
theorem dM_compare_105 : decode bM_compare 105 = .ok (.iconst 1, 1) := by decide +kernel
theorem dM_compare_106 : decode bM_compare 106 = .ok (.goto 4, 3) := by decide +kernel
theorem dM_compare_109 : decode bM_compare 109 = .ok (.iconst 0, 1) := by decide +kernel
theorem dM_compare_110 : decode bM_compare 110 = .ok (.istore 6, 2) := by decide +kernel
theorem dM_compare_112 : decode bM_compare 112 = .ok (.iload 4, 2) := by decide +kernel
theorem dM_compare_114 : decode bM_compare 114 = .ok (.aload_n 0, 1) := by decide +kernel
theorem dM_compare_115 : decode bM_compare 115 = .ok (.getfield 15, 3) := by decide +kernel
theorem dM_compare_118 : decode bM_compare 118 = .ok (.iload_n 2, 1) := by decide +kernel
theorem dM_compare_119 : decode bM_compare 119 = .ok (.iaload, 1) := by decide +kernel
theorem dM_compare_120 : decode bM_compare 120 = .ok (.if_icmp .ge 37, 3) := by decide +kernel
theorem dM_compare_123 : decode bM_compare 123 = .ok (.iload_n 3, 1) := by decide +kernel
theorem dM_compare_124 : decode bM_compare 124 = .ok (.aload_n 0, 1) := by decide +kernel
theorem dM_compare_125 : decode bM_compare 125 = .ok (.getfield 15, 3) := by decide +kernel
theorem dM_compare_128 : decode bM_compare 128 = .ok (.iload_n 1, 1) := by decide +kernel
theorem dM_compare_129 : decode bM_compare 129 = .ok (.iaload, 1) := by decide +kernel
theorem dM_compare_130 : decode bM_compare 130 = .ok (.if_icmp .eq 23, 3) := by decide +kernel
theorem dM_compare_133 : decode bM_compare 133 = .ok (.aload_n 0, 1) := by decide +kernel
theorem dM_compare_134 : decode bM_compare 134 = .ok (.getfield 20, 3) := by decide +kernel
theorem dM_compare_137 : decode bM_compare 137 = .ok (.iload_n 2, 1) := by decide +kernel
theorem dM_compare_138 : decode bM_compare 138 = .ok (.aaload, 1) := by decide +kernel
theorem dM_compare_139 : decode bM_compare 139 = .ok (.iload 4, 2) := by decide +kernel
theorem dM_compare_141 : decode bM_compare 141 = .ok (.iaload, 1) := by decide +kernel
theorem dM_compare_142 : decode bM_compare 142 = .ok (.aload_n 0, 1) := by decide +kernel
theorem dM_compare_143 : decode bM_compare 143 = .ok (.getfield 20, 3) := by decide +kernel
theorem dM_compare_146 : decode bM_compare 146 = .ok (.iload_n 1, 1) := by decide +kernel
theorem dM_compare_147 : decode bM_compare 147 = .ok (.aaload, 1) := by decide +kernel
theorem dM_compare_148 : decode bM_compare 148 = .ok (.iload_n 3, 1) := by decide +kernel
theorem dM_compare_149 : decode bM_compare 149 = .ok (.iaload, 1) := by decide +kernel
theorem dM_compare_150 : decode bM_compare 150 = .ok (.if_icmp .gt 7, 3) := by decide +kernel
theorem dM_compare_153 : decode bM_compare 153 = .ok (.iconst 1, 1) := by decide +kernel
theorem dM_compare_154 : decode bM_compare 154 = .ok (.goto 4, 3) := by decide +kernel
theorem dM_compare_157 : decode bM_compare 157 = .ok (.iconst 0, 1) := by decide +kernel
theorem dM_compare_158 : decode bM_compare 158 = .ok (.istore 7, 2) := by decide +kernel
theorem dM_compare_160 : decode bM_compare 160 = .ok (.iconst 0, 1) := by decide +kernel
theorem dM_compare_161 : decode bM_compare 161 = .ok (.istore 8, 2) := by decide +kernel
theorem dM_compare_163 : decode bM_compare 163 = .ok (.iconst 0, 1) := by decide +kernel
theorem dM_compare_164 : decode bM_compare 164 = .ok (.istore 9, 2) := by decide +kernel
theorem dM_compare_166 : decode bM_compare 166 = .ok (.iload 9, 2) := by decide +kernel
theorem dM_compare_168 : decode bM_compare 168 = .ok (.aload_n 0, 1) := by decide +kernel
theorem dM_compare_169 : decode bM_compare 169 = .ok (.getfield 11, 3) := by decide +kernel
theorem dM_compare_172 : decode bM_compare 172 = .ok (.iload_n 1, 1) := by decide +kernel
theorem dM_compare_173 : decode bM_compare 173 = .ok (.iaload, 1) := by decide +kernel
theorem dM_compare_174 : decode bM_compare 174 = .ok (.if_icmp .ge 61, 3) := by decide +kernel
theorem dM_compare_177 : decode bM_compare 177 = .ok (.iload 6, 2) := by decide +kernel
theorem dM_compare_179 : decode bM_compare 179 = .ok (.ifCond .eq 56, 3) := by decide +kernel
theorem dM_compare_182 : decode bM_compare 182 = .ok (.iload 7, 2) := by decide +kernel
theorem dM_compare_184 : decode bM_compare 184 = .ok (.ifCond .eq 51, 3) := by decide +kernel
theorem dM_compare_187 : decode bM_compare 187 = .ok (.aload_n 0, 1) := by decide +kernel
theorem dM_compare_188 : decode bM_compare 188 = .ok (.getfield 25, 3) := by decide +kernel
theorem dM_compare_191 : decode bM_compare 191 = .ok (.iload_n 1, 1) := by decide +kernel
theorem dM_compare_192 : decode bM_compare 192 = .ok (.aaload, 1) := by decide +kernel
theorem dM_compare_193 : decode bM_compare 193 = .ok (.bipush 6, 2) := by decide +kernel
theorem dM_compare_195 : decode bM_compare 195 = .ok (.iload_n 3, 1) := by decide +kernel
theorem dM_compare_196 : decode bM_compare 196 = .ok (.imul, 1) := by decide +kernel
theorem dM_compare_197 : decode bM_compare 197 = .ok (.iload 9, 2) := by decide +kernel
theorem dM_compare_199 : decode bM_compare 199 = .ok (.iadd, 1) := by decide +kernel
theorem dM_compare_200 : decode bM_compare 200 = .ok (.laload, 1) := by decide +kernel
theorem dM_compare_201 : decode bM_compare 201 = .ok (.aload_n 0, 1) := by decide +kernel
theorem dM_compare_202 : decode bM_compare 202 = .ok (.getfield 25, 3) := by decide +kernel
theorem dM_compare_205 : decode bM_compare 205 = .ok (.iload_n 2, 1) := by decide +kernel
theorem dM_compare_206 : decode bM_compare 206 = .ok (.aaload, 1) := by decide +kernel
theorem dM_compare_207 : decode bM_compare 207 = .ok (.bipush 6, 2) := by decide +kernel
theorem dM_compare_209 : decode bM_compare 209 = .ok (.iload 4, 2) := by decide +kernel
theorem dM_compare_211 : decode bM_compare 211 = .ok (.imul, 1) := by decide +kernel
theorem dM_compare_212 : decode bM_compare 212 = .ok (.iload 9, 2) := by decide +kernel
theorem dM_compare_214 : decode bM_compare 214 = .ok (.iadd, 1) := by decide +kernel
theorem dM_compare_215 : decode bM_compare 215 = .ok (.laload, 1) := by decide +kernel
theorem dM_compare_216 : decode bM_compare 216 = .ok (.lcmp, 1) := by decide +kernel
theorem dM_compare_217 : decode bM_compare 217 = .ok (.ifCond .eq 12, 3) := by decide +kernel
theorem dM_compare_220 : decode bM_compare 220 = .ok (.iload 8, 2) := by decide +kernel
theorem dM_compare_222 : decode bM_compare 222 = .ok (.iconst 1, 1) := by decide +kernel
theorem dM_compare_223 : decode bM_compare 223 = .ok (.iload 9, 2) := by decide +kernel
theorem dM_compare_225 : decode bM_compare 225 = .ok (.ishl, 1) := by decide +kernel
theorem dM_compare_226 : decode bM_compare 226 = .ok (.ior, 1) := by decide +kernel
theorem dM_compare_227 : decode bM_compare 227 = .ok (.istore 8, 2) := by decide +kernel
theorem dM_compare_229 : decode bM_compare 229 = .ok (.iinc 9 1, 3) := by decide +kernel
theorem dM_compare_232 : decode bM_compare 232 = .ok (.goto (-66), 3) := by decide +kernel
theorem dM_compare_235 : decode bM_compare 235 = .ok (.iload 8, 2) := by decide +kernel
theorem dM_compare_237 : decode bM_compare 237 = .ok (.ifCond .gt 13, 3) := by decide +kernel
theorem dM_compare_240 : decode bM_compare 240 = .ok (.iload 6, 2) := by decide +kernel
theorem dM_compare_242 : decode bM_compare 242 = .ok (.ifCond .eq 8, 3) := by decide +kernel
theorem dM_compare_245 : decode bM_compare 245 = .ok (.iload 7, 2) := by decide +kernel
theorem dM_compare_247 : decode bM_compare 247 = .ok (.ifCond .ne 78, 3) := by decide +kernel
theorem dM_compare_250 : decode bM_compare 250 = .ok (.aload_n 0, 1) := by decide +kernel
theorem dM_compare_251 : decode bM_compare 251 = .ok (.getfield 35, 3) := by decide +kernel
theorem dM_compare_254 : decode bM_compare 254 = .ok (.iload 5, 2) := by decide +kernel
theorem dM_compare_256 : decode bM_compare 256 = .ok (.iload 6, 2) := by decide +kernel
theorem dM_compare_258 : decode bM_compare 258 = .ok (.ifCond .eq 14, 3) := by decide +kernel
theorem dM_compare_261 : decode bM_compare 261 = .ok (.aload_n 0, 1) := by decide +kernel
theorem dM_compare_262 : decode bM_compare 262 = .ok (.getfield 20, 3) := by decide +kernel
theorem dM_compare_265 : decode bM_compare 265 = .ok (.iload_n 1, 1) := by decide +kernel
theorem dM_compare_266 : decode bM_compare 266 = .ok (.aaload, 1) := by decide +kernel
theorem dM_compare_267 : decode bM_compare 267 = .ok (.iload_n 3, 1) := by decide +kernel
theorem dM_compare_268 : decode bM_compare 268 = .ok (.iaload, 1) := by decide +kernel
theorem dM_compare_269 : decode bM_compare 269 = .ok (.goto 12, 3) := by decide +kernel
theorem dM_compare_272 : decode bM_compare 272 = .ok (.aload_n 0, 1) := by decide +kernel
theorem dM_compare_273 : decode bM_compare 273 = .ok (.getfield 20, 3) := by decide +kernel
theorem dM_compare_276 : decode bM_compare 276 = .ok (.iload_n 2, 1) := by decide +kernel
theorem dM_compare_277 : decode bM_compare 277 = .ok (.aaload, 1) := by decide +kernel
theorem dM_compare_278 : decode bM_compare 278 = .ok (.iload 4, 2) := by decide +kernel
theorem dM_compare_280 : decode bM_compare 280 = .ok (.iaload, 1) := by decide +kernel
theorem dM_compare_281 : decode bM_compare 281 = .ok (.iastore, 1) := by decide +kernel
theorem dM_compare_282 : decode bM_compare 282 = .ok (.aload_n 0, 1) := by decide +kernel
theorem dM_compare_283 : decode bM_compare 283 = .ok (.getfield 38, 3) := by decide +kernel
theorem dM_compare_286 : decode bM_compare 286 = .ok (.iload 5, 2) := by decide +kernel
theorem dM_compare_288 : decode bM_compare 288 = .ok (.iload 6, 2) := by decide +kernel
theorem dM_compare_290 : decode bM_compare 290 = .ok (.ifCond .eq 12, 3) := by decide +kernel
theorem dM_compare_293 : decode bM_compare 293 = .ok (.iload 7, 2) := by decide +kernel
theorem dM_compare_295 : decode bM_compare 295 = .ok (.ifCond .eq 7, 3) := by decide +kernel
theorem dM_compare_298 : decode bM_compare 298 = .ok (.iconst 2, 1) := by decide +kernel
theorem dM_compare_299 : decode bM_compare 299 = .ok (.goto 13, 3) := by decide +kernel
theorem dM_compare_302 : decode bM_compare 302 = .ok (.iload 6, 2) := by decide +kernel
theorem dM_compare_304 : decode bM_compare 304 = .ok (.ifCond .eq 7, 3) := by decide +kernel
theorem dM_compare_307 : decode bM_compare 307 = .ok (.iconst 1, 1) := by decide +kernel
theorem dM_compare_308 : decode bM_compare 308 = .ok (.goto 4, 3) := by decide +kernel
theorem dM_compare_311 : decode bM_compare 311 = .ok (.iconst 0, 1) := by decide +kernel
theorem dM_compare_312 : decode bM_compare 312 = .ok (.iastore, 1) := by decide +kernel
theorem dM_compare_313 : decode bM_compare 313 = .ok (.aload_n 0, 1) := by decide +kernel
theorem dM_compare_314 : decode bM_compare 314 = .ok (.getfield 41, 3) := by decide +kernel
theorem dM_compare_317 : decode bM_compare 317 = .ok (.iload 5, 2) := by decide +kernel
theorem dM_compare_319 : decode bM_compare 319 = .ok (.iload 8, 2) := by decide +kernel
theorem dM_compare_321 : decode bM_compare 321 = .ok (.iastore, 1) := by decide +kernel
theorem dM_compare_322 : decode bM_compare 322 = .ok (.iinc 5 1, 3) := by decide +kernel
theorem dM_compare_325 : decode bM_compare 325 = .ok (.iload 6, 2) := by decide +kernel
theorem dM_compare_327 : decode bM_compare 327 = .ok (.ifCond .eq 6, 3) := by decide +kernel
theorem dM_compare_330 : decode bM_compare 330 = .ok (.iinc 3 1, 3) := by decide +kernel
theorem dM_compare_333 : decode bM_compare 333 = .ok (.iload 7, 2) := by decide +kernel
theorem dM_compare_335 : decode bM_compare 335 = .ok (.ifCond .eq 6, 3) := by decide +kernel
theorem dM_compare_338 : decode bM_compare 338 = .ok (.iinc 4 1, 3) := by decide +kernel
theorem dM_compare_341 : decode bM_compare 341 = .ok (.goto (-298), 3) := by decide +kernel
theorem dM_compare_344 : decode bM_compare 344 = .ok (.aload_n 0, 1) := by decide +kernel
theorem dM_compare_345 : decode bM_compare 345 = .ok (.iload 5, 2) := by decide +kernel
theorem dM_compare_347 : decode bM_compare 347 = .ok (.putfield 185, 3) := by decide +kernel
theorem dM_compare_350 : decode bM_compare 350 = .ok (.iload 5, 2) := by decide +kernel
theorem dM_compare_352 : decode bM_compare 352 = .ok (.ireturn, 1) := by decide +kernel
theorem dM_difference_0 : decode bM_difference 0 = .ok (.iload_n 1, 1) := by decide +kernel
theorem dM_difference_1 : decode bM_difference 1 = .ok (.iconst 0, 1) := by decide +kernel
theorem dM_difference_2 : decode bM_difference 2 = .ok (.aload_n 0, 1) := by decide +kernel
theorem dM_difference_3 : decode bM_difference 3 = .ok (.getfield 185, 3) := by decide +kernel
theorem dM_difference_6 : decode bM_difference 6 = .ok (.iconst 1, 1) := by decide +kernel
theorem dM_difference_7 : decode bM_difference 7 = .ok (.isub, 1) := by decide +kernel
theorem dM_difference_8 : decode bM_difference 8 = .ok (.invokestatic 163, 3) := by decide +kernel
theorem dM_difference_11 : decode bM_difference 11 = .ok (.ifCond .eq 12, 3) := by decide +kernel
theorem dM_difference_14 : decode bM_difference 14 = .ok (.iload_n 2, 1) := by decide +kernel
theorem dM_difference_15 : decode bM_difference 15 = .ok (.iconst 0, 1) := by decide +kernel
theorem dM_difference_16 : decode bM_difference 16 = .ok (.iconst 2, 1) := by decide +kernel
theorem dM_difference_17 : decode bM_difference 17 = .ok (.invokestatic 163, 3) := by decide +kernel
theorem dM_difference_20 : decode bM_difference 20 = .ok (.ifCond .ne 7, 3) := by decide +kernel
theorem dM_difference_23 : decode bM_difference 23 = .ok (.ldc2_w 183, 3) := by decide +kernel
theorem dM_difference_26 : decode bM_difference 26 = .ok (.lreturn, 1) := by decide +kernel
theorem dM_difference_27 : decode bM_difference 27 = .ok (.iload_n 2, 1) := by decide +kernel
theorem dM_difference_28 : decode bM_difference 28 = .ok (.ifCond .ne 13, 3) := by decide +kernel
theorem dM_difference_31 : decode bM_difference 31 = .ok (.aload_n 0, 1) := by decide +kernel
theorem dM_difference_32 : decode bM_difference 32 = .ok (.getfield 35, 3) := by decide +kernel
theorem dM_difference_35 : decode bM_difference 35 = .ok (.iload_n 1, 1) := by decide +kernel
theorem dM_difference_36 : decode bM_difference 36 = .ok (.iaload, 1) := by decide +kernel
theorem dM_difference_37 : decode bM_difference 37 = .ok (.i2l, 1) := by decide +kernel
theorem dM_difference_38 : decode bM_difference 38 = .ok (.goto 25, 3) := by decide +kernel
theorem dM_difference_41 : decode bM_difference 41 = .ok (.iload_n 2, 1) := by decide +kernel
theorem dM_difference_42 : decode bM_difference 42 = .ok (.iconst 1, 1) := by decide +kernel
theorem dM_difference_43 : decode bM_difference 43 = .ok (.if_icmp .ne 13, 3) := by decide +kernel
theorem dM_difference_46 : decode bM_difference 46 = .ok (.aload_n 0, 1) := by decide +kernel
theorem dM_difference_47 : decode bM_difference 47 = .ok (.getfield 38, 3) := by decide +kernel
theorem dM_difference_50 : decode bM_difference 50 = .ok (.iload_n 1, 1) := by decide +kernel
theorem dM_difference_51 : decode bM_difference 51 = .ok (.iaload, 1) := by decide +kernel
theorem dM_difference_52 : decode bM_difference 52 = .ok (.i2l, 1) := by decide +kernel
theorem dM_difference_53 : decode bM_difference 53 = .ok (.goto 10, 3) := by decide +kernel
theorem dM_difference_56 : decode bM_difference 56 = .ok (.aload_n 0, 1) := by decide +kernel
theorem dM_difference_57 : decode bM_difference 57 = .ok (.getfield 41, 3) := by decide +kernel
theorem dM_difference_60 : decode bM_difference 60 = .ok (.iload_n 1, 1) := by decide +kernel
theorem dM_difference_61 : decode bM_difference 61 = .ok (.iaload, 1) := by decide +kernel
theorem dM_difference_62 : decode bM_difference 62 = .ok (.i2l, 1) := by decide +kernel
theorem dM_difference_63 : decode bM_difference 63 = .ok (.lreturn, 1) := by decide +kernel
theorem dM_sweep_0 : decode bM_sweep 0 = .ok (.aload_n 0, 1) := by decide +kernel
theorem dM_sweep_1 : decode bM_sweep 1 = .ok (.getfield 105, 3) := by decide +kernel
theorem dM_sweep_4 : decode bM_sweep 4 = .ok (.istore_n 1, 1) := by decide +kernel
theorem dM_sweep_5 : decode bM_sweep 5 = .ok (.aload_n 0, 1) := by decide +kernel
theorem dM_sweep_6 : decode bM_sweep 6 = .ok (.iconst 0, 1) := by decide +kernel
theorem dM_sweep_7 : decode bM_sweep 7 = .ok (.putfield 105, 3) := by decide +kernel
theorem dM_sweep_10 : decode bM_sweep 10 = .ok (.aload_n 0, 1) := by decide +kernel
theorem dM_sweep_11 : decode bM_sweep 11 = .ok (.iconst 0, 1) := by decide +kernel
theorem dM_sweep_12 : decode bM_sweep 12 = .ok (.putfield 102, 3) := by decide +kernel
theorem dM_sweep_15 : decode bM_sweep 15 = .ok (.aload_n 0, 1) := by decide +kernel
theorem dM_sweep_16 : decode bM_sweep 16 = .ok (.getfield 63, 3) := by decide +kernel
theorem dM_sweep_19 : decode bM_sweep 19 = .ok (.iconst 0, 1) := by decide +kernel
theorem dM_sweep_20 : decode bM_sweep 20 = .ok (.invokestatic 188, 3) := by decide +kernel
theorem dM_sweep_23 : decode bM_sweep 23 = .ok (.iconst 0, 1) := by decide +kernel
theorem dM_sweep_24 : decode bM_sweep 24 = .ok (.istore_n 2, 1) := by decide +kernel
theorem dM_sweep_25 : decode bM_sweep 25 = .ok (.iload_n 2, 1) := by decide +kernel
theorem dM_sweep_26 : decode bM_sweep 26 = .ok (.bipush 6, 2) := by decide +kernel
theorem dM_sweep_28 : decode bM_sweep 28 = .ok (.if_icmp .ge 15, 3) := by decide +kernel
theorem dM_sweep_31 : decode bM_sweep 31 = .ok (.aload_n 0, 1) := by decide +kernel
theorem dM_sweep_32 : decode bM_sweep 32 = .ok (.iload_n 2, 1) := by decide +kernel
theorem dM_sweep_33 : decode bM_sweep 33 = .ok (.invokevirtual 75, 3) := by decide +kernel
theorem dM_sweep_36 : decode bM_sweep 36 = .ok (.pop, 1) := by decide +kernel
theorem dM_sweep_37 : decode bM_sweep 37 = .ok (.iinc 2 1, 3) := by decide +kernel
theorem dM_sweep_40 : decode bM_sweep 40 = .ok (.goto (-15), 3) := by decide +kernel
theorem dM_sweep_43 : decode bM_sweep 43 = .ok (.iload_n 1, 1) := by decide +kernel
theorem dM_sweep_44 : decode bM_sweep 44 = .ok (.aload_n 0, 1) := by decide +kernel
theorem dM_sweep_45 : decode bM_sweep 45 = .ok (.getfield 105, 3) := by decide +kernel
theorem dM_sweep_48 : decode bM_sweep 48 = .ok (.isub, 1) := by decide +kernel
theorem dM_sweep_49 : decode bM_sweep 49 = .ok (.ireturn, 1) := by decide +kernel
theorem dM_count_0 : decode bM_count 0 = .ok (.iload_n 1, 1) := by decide +kernel
theorem dM_count_1 : decode bM_count 1 = .ok (.ifCond .ne 10, 3) := by decide +kernel
theorem dM_count_4 : decode bM_count 4 = .ok (.aload_n 0, 1) := by decide +kernel
theorem dM_count_5 : decode bM_count 5 = .ok (.getfield 105, 3) := by decide +kernel
theorem dM_count_8 : decode bM_count 8 = .ok (.goto 16, 3) := by decide +kernel
theorem dM_count_11 : decode bM_count 11 = .ok (.iload_n 1, 1) := by decide +kernel
theorem dM_count_12 : decode bM_count 12 = .ok (.iconst 1, 1) := by decide +kernel
theorem dM_count_13 : decode bM_count 13 = .ok (.if_icmp .ne 10, 3) := by decide +kernel
theorem dM_count_16 : decode bM_count 16 = .ok (.aload_n 0, 1) := by decide +kernel
theorem dM_count_17 : decode bM_count 17 = .ok (.getfield 102, 3) := by decide +kernel
theorem dM_count_20 : decode bM_count 20 = .ok (.goto 4, 3) := by decide +kernel
theorem dM_count_23 : decode bM_count 23 = .ok (.iconst (-1), 1) := by decide +kernel
theorem dM_count_24 : decode bM_count 24 = .ok (.ireturn, 1) := by decide +kernel
end
section
/-! The ghost heap and the judgement J: a walk's state is a ghost heap g, the cells and slots used, pc, named locals, the stack. -/
def ush (x y : Int32) : Int32 := (x.toUInt32 >>> (y.toUInt32 &&& Int32.toUInt32 31)).toInt32
abbrev GH : Type := List Nat × (Nat → va_E)
abbrev ZZ : Type := va_G × List vw_C × List (ClassId × FieldType) × List Cond × (Nat → Prop)
abbrev CX : Type := Program × Launch × Env × Room × State × MethodId × Array Value × List Frame × Method × Code × (State → Prop)
def gAt (g : GH) (a : Nat) (e : va_E) : Prop := a ∈ g.1 ∧ g.2 a = e
def gUp (g : GH) (a : Nat) (e : va_E) : GH := (g.1, va_up g.2 a e)
def gNew (g : GH) (a : Nat) (e : va_E) : GH := (g.1 ++ [a], va_up g.2 a e)
theorem gAt.eq {g : GH} {a : Nat} {e e' : va_E} (h : gAt g a e) (h' : gAt g a e') : e = e' := h.2.symm.trans h'.2
theorem gAt.ne {g : GH} {a b : Nat} {e e' : va_E} (h : gAt g a e) (h' : gAt g b e') (n : e ≠ e') : a ≠ b := fun q => by subst q; exact n (h.eq h')
theorem gUp_self {g : GH} {a : Nat} {e e' : va_E} (h : gAt g a e) : gAt (gUp g a e') a e' := ⟨h.1, va_up_self _ _ _⟩
theorem gUp_ne {g : GH} {a b : Nat} {e e' : va_E} (h : gAt g b e) (n : b ≠ a) : gAt (gUp g a e') b e := ⟨h.1, (va_up_ne _ _ n).trans h.2⟩
theorem gUp_of {g : GH} {a b : Nat} {e e' : va_E} (h : gAt (gUp g a e') b e) (n : b ≠ a) : gAt g b e := ⟨h.1, (va_up_ne _ _ n).symm.trans h.2⟩
theorem gNew_self {g : GH} {a : Nat} {e : va_E} : gAt (gNew g a e) a e := ⟨List.mem_append_right _ List.mem_cons_self, va_up_self _ _ _⟩
theorem gNew_old {g : GH} {a b : Nat} {e e' : va_E} (h : gAt g b e) (n : a ∉ g.1) : gAt (gNew g a e') b e := ⟨List.mem_append_left _ h.1, (va_up_ne _ _ (fun q : b = a => n (q ▸ h.1))).trans h.2⟩
theorem gNew_of {g : GH} {a b : Nat} {e e' : va_E} (h : gAt (gNew g a e') b e) (n : b ≠ a) : gAt g b e := by
  refine ⟨?_, (va_up_ne _ _ n).symm.trans h.2⟩
  rcases List.mem_append.mp h.1 with q | q
  · exact q
  · exact absurd (List.mem_singleton.mp q) n
theorem gAt.nin {g : GH} {a b : Nat} {e : va_E} (h : gAt g b e) (n : a ∉ g.1) : b ≠ a := fun q => n (q ▸ h.1)
theorem gUp_up {g : GH} {a : Nat} {e e' : va_E} : gUp (gUp g a e) a e' = gUp g a e' := by
  simp only [gUp, bx_uu]
theorem gNew_up {g : GH} {a : Nat} {e e' : va_E} : gUp (gNew g a e) a e' = gNew g a e' := by
  simp only [gUp, gNew, bx_uu]
theorem gUp_id {g : GH} {a : Nat} {e : va_E} (h : gAt g a e) : gUp g a e = g := by
  obtain ⟨L, f⟩ := g
  simp only [gUp]
  congr 1
  funext j
  by_cases q : j = a
  · subst q
    rw [va_up_self]
    exact h.2.symm
  · exact va_up_ne _ _ q
def zA (Z : ZZ) : Nat → Prop := Z.2.2.2.2
/-- words that no word list carries: they hold, and go on holding -/
def zN (Z : ZZ) (U : State) : Prop := ∀ w ∈ Z.2.2.2.1, w.onTables = true ∧ (∀ s V : State, s.WarmedH V.vm → va_Nw w s → va_Nw w V) ∧ va_Nw w U
theorem zN.warm {Z : ZZ} {s U : State} (h : zN Z s) (hW : s.WarmedH U.vm) : zN Z U := fun w hw => ⟨(h w hw).1, (h w hw).2.1, (h w hw).2.1 s U hW (h w hw).2.2⟩
def gW (Z : ZZ) (g : GH) (H : Heap) : Prop := va_P Z.1 Z.2.1 (va_pl g.1 g.2) H ∧ va_D (zA Z) (va_pl g.1 g.2)
def gB (Z : ZZ) (g : GH) (U : State) : Prop := gW Z g U.heap ∧ va_K Z.1 Z.2.1 Z.2.2.1 U ∧ (∀ q : Nat, U.heap.size ≤ q → zA Z q) ∧ zN Z U
theorem gB.blind {Z : ZZ} {g : GH} {a : Array Value} {U : State} {fr : JFrame} {mk : MethodId} (h : gB Z g U) : gB Z g (U.calling fr mk a) :=
  ⟨h.1, va_K.moved (u := U) (U := U.calling fr mk a) (Vm.Alike.refl U.vm) h.2.1, h.2.2.1, fun w hw => ⟨(h.2.2.2 w hw).1, (h.2.2.2 w hw).2.1, va_Nw.same (h.2.2.2 w hw).1 (u := U) rfl (h.2.2.2 w hw).2.2⟩⟩
def jQ (Z : ZZ) (post : Option Value → GH → Prop) : Array Value → State → Outcome → State → Prop := fun _ st oc t => (∃ (v : Option Value) (g' : GH), oc = .returned v ∧ post v g' ∧ gW Z g' t.heap) ∧ va_F (zA Z) st t
/-- a method's contract at these arguments and this ghost heap -/
def Ct (l : Launch) (y : MethodName) (ws : List Cond) (rm : Room) (Z : ZZ) (av : List Value) (g : GH) (mc ms : Nat) (post : Option Value → GH → Prop) : Prop := Met l y ws rm (va_Pc av (gB Z g)) (jQ Z post) mc ms (zA Z)
def J (X : CX) (nL : Nat) (Z : ZZ) (g : GH) (k n pc : Nat) (lv : List (Nat × Value)) (st : List Value) : Prop :=
  ∀ (H : Heap) (locs : List Loc) (ls : Array Slot), gW Z g H → va_S (zA Z) X.2.2.2.2.1.heap H locs → lv_has ls nL lv → W X.1 X.2.1 X.2.2.1 X.2.2.2.1 X.2.2.2.2.1 X.2.2.2.2.2.1 X.2.2.2.2.2.2.1 X.2.2.2.2.2.2.2.1 X.2.2.2.2.2.2.2.2.1 X.2.2.2.2.2.2.2.2.2.1 H locs k n X.2.2.2.2.2.2.2.2.2.2 (F0 X.2.2.2.2.2.1 pc ls st)
/-- the walk's surroundings: machine, code, tables' words, classes, room -/
def Ok (X : CX) (cc : ByteArray) (nL : Nat) (own : String) (Z : ZZ) (rm : Room) : Prop :=
  CallFix X.1 X.2.2.2.2.2.1 X.2.2.2.2.2.2.2.2.2.1 cc nL X.2.2.2.2.1 X.2.2.2.2.2.2.1 aw own ∧ va_K Z.1 Z.2.1 Z.2.2.1 X.2.2.2.2.1 ∧ (∀ q : Nat, X.2.2.2.2.1.heap.size ≤ q → zA Z q) ∧ X.2.2.2.1 = rm ∧ zN Z X.2.2.2.2.1
/-- the walk is that of a method with a contract -/
def Om (X : CX) (Z : ZZ) (ret : Option FieldType) (mc ms : Nat) (post : Option Value → GH → Prop) : Prop :=
  X.2.2.2.2.2.2.2.2.1.sig.returnType = ret ∧ X.2.2.2.2.2.2.2.2.1.locks = false ∧ X.2.2.2.2.2.2.2.2.2.2 = MQ X.2.2.2.2.2.2.2.1 (jQ Z post) X.2.2.2.2.2.2.1 X.2.2.2.2.1 mc ms (zA Z)
/-- a constructor: its name -/
def On (X : CX) : Prop := X.2.2.2.2.2.2.2.2.1.name = "<init>"
def jg : List (Nat × Value) → Nat → Option Value
  | [], _ => none
  | q :: r, i => bif Nat.beq q.1 i then some q.2 else jg r i
theorem jg_in : ∀ (lv : List (Nat × Value)) (i : Nat) (v : Value), jg lv i = some v → (i, v) ∈ lv
  | [], _, _, h => by cases h
  | (j, w) :: r, i, v, h => by
    simp only [jg] at h
    cases hb : Nat.beq j i with
    | true =>
      rw [hb, cond_true] at h
      cases h
      rw [Nat.eq_of_beq_eq_true hb]
      exact List.mem_cons_self
    | false =>
      rw [hb, cond_false] at h
      exact List.mem_cons_of_mem _ (jg_in r i v h)
theorem jg_at {ls : Array Slot} {nL : Nat} {lv : List (Nat × Value)} {i : Nat} {v : Value} (h : lv_has ls nL lv) (hv : jg lv i = some v) : ls[i]? = some (.val v) := h.2.2 (i, v) (jg_in lv i v hv)
def jlv1 (lv : List (Nat × Value)) (i : Nat) (v : Value) : List (Nat × Value) := (i, v) :: lv.filter (fun q => !(q.1 == i) && !(q.1 + 1 == i && q.2.category == 2))
def jlv2 (lv : List (Nat × Value)) (i : Nat) (v : Value) : List (Nat × Value) := (i, v) :: lv.filter (fun q => !(q.1 == i) && (!(q.1 == i + 1) && !(q.1 + 1 == i && q.2.category == 2)))
theorem gAt.k {g : GH} {a : Nat} {e : va_E} (h : gAt g a e) : ∃ k : Nat, (va_pl g.1 g.2)[k]? = some (a, e) := by
  obtain ⟨k, hk⟩ := va_pl_get (X := []) (f := g.2) h.1
  rw [h.2] at hk
  exact ⟨k, hk⟩
theorem gSet {Z : ZZ} {g : GH} {a k : Nat} {e e' : va_E} (hD : va_D (zA Z) (va_pl g.1 g.2)) (h : gAt g a e) (hk : (va_pl g.1 g.2)[k]? = some (a, e)) : (va_pl g.1 g.2).set k (a, e') = va_pl (gUp g a e').1 (gUp g a e').2 := by
  have hk' : ([] ++ va_pl g.1 g.2)[k]? = some (a, g.2 a) := by rw [h.2]; exact hk
  exact va_pl_set (X := []) (e := e') hD h.1 hk'
theorem gPush {Z : ZZ} {g : GH} {a : Nat} {e : va_E} (hD : va_D (zA Z) (va_pl g.1 g.2 ++ [(a, e)])) : a ∉ g.1 := by
  intro h
  obtain ⟨k, hk⟩ := (gAt.k (g := g) ⟨h, rfl⟩)
  have hl := (List.getElem?_eq_some_iff.mp hk).1
  have h1 : (va_pl g.1 g.2 ++ [(a, e)])[k]? = some (a, g.2 a) := by rw [List.getElem?_append_left hl]; exact hk
  have h2 : (va_pl g.1 g.2 ++ [(a, e)])[(va_pl g.1 g.2).length]? = some (a, e) := by simp
  have := hD.1 _ _ _ _ h1 h2 rfl
  omega
theorem gWc {c : Cond} (h : c ∈ aw) : GoodIn aw (c :: aw) := fun w hw => (List.mem_cons.mp hw).elim (fun e => by rw [e]; exact aw_all c h) (aw_all w)
theorem gWs {own : String} {index : Nat} {y : MethodName} {c : Cond} (h1 : Cond.methodLink own index y ∈ aw) (h2 : Cond.static y ∈ aw) (h3 : Cond.initialized y.cls ∈ aw) (h4 : c ∈ aw) : GoodIn aw (va_wsS own index y (c :: aw)) := by
  intro w hw
  unfold va_wsS at hw
  rcases List.mem_append.mp hw with q | q
  · simp only [List.mem_cons, List.not_mem_nil, or_false] at q
    rcases q with q | q | q <;> subst q
    · exact aw_all _ h1
    · exact aw_all _ h2
    · exact aw_all _ h3
  · exact gWc h4 w q
theorem gWv {own : String} {index : Nat} {C : String} {y : MethodName} {c : Cond} (h1 : Cond.methodLink own index y ∈ aw) (h2 : Cond.instanceMethod y ∈ aw) (h3 : Cond.selects C y y ∈ aw) (h5 : Cond.initialized C ∈ aw) (h4 : c ∈ aw) : GoodIn aw (wsV own index C y (c :: aw)) := by
  intro w hw
  unfold wsV at hw
  rcases List.mem_append.mp hw with q | q
  · simp only [List.mem_cons, List.not_mem_nil, or_false] at q
    rcases q with q | q | q | q <;> subst q
    · exact aw_all _ h1
    · exact aw_all _ h2
    · exact aw_all _ h3
    · exact aw_all _ h5
  · exact gWc h4 w q
section JR
variable {X : CX} {cc : ByteArray} {nL : Nat} {own : String} {Z : ZZ} {rm : Room} {g : GH} {k n pc : Nat} {lv : List (Nat × Value)} {st : List Value}
theorem Ok.b (O : Ok X cc nL own Z rm) {w : Cond} (h : w ∈ aw) : w.before X.2.2.2.2.2.2.1 X.2.2.2.2.1 = true := O.1.2.2.2.2 w h
theorem Ok.A (O : Ok X cc nL own Z rm) : ∀ q : Nat, X.2.2.2.2.1.heap.size ≤ q → zA Z q := O.2.2.1
theorem J.widen {k' n' : Nat} (h1 : k ≤ k') (h2 : n ≤ n') (kk : J X nL Z g k' n' pc lv st) : J X nL Z g k n pc lv st := fun H locs ls a b c => W.widen h1 h2 (kk H locs ls a b c)
theorem J.sublv {lv' : List (Nat × Value)} (h : ∀ q ∈ lv', q ∈ lv) (kk : J X nL Z g k n pc lv' st) : J X nL Z g k n pc lv st := fun H locs ls a b c => kk H locs ls a b ⟨c.1, c.2.1, fun q hq => c.2.2 q (h q hq)⟩
theorem J.pk (ks : List Nat) {lv' : List (Nat × Value)} (h : lv_pick lv ks = lv') (kk : J X nL Z g k n pc lv' st) : J X nL Z g k n pc lv st := fun H locs ls a b c => kk H locs ls a b (lv_sub c ks h)
theorem J.geq {g' : GH} (h : g = g') (kk : J X nL Z g' k n pc lv st) : J X nL Z g k n pc lv st := h ▸ kk
theorem J.steq {st' : List Value} (h : st = st') (kk : J X nL Z g k n pc lv st') : J X nL Z g k n pc lv st := h ▸ kk
theorem j_iconst (O : Ok X cc nL own Z rm) {i : Int} {v : Int32} (d : decode cc pc = .ok (.iconst i, 1)) (hv : Int32.ofInt i = v) (kk : J X nL Z g k n (pc + 1) lv (.int v :: st)) : J X nL Z g k n (pc) lv (st) := fun H locs ls a b h => lv_iconst O.1.1 O.1.2.1 d hv (kk H locs ls a b h)
theorem j_bipush (O : Ok X cc nL own Z rm) {i : Int} {v : Int32} (d : decode cc pc = .ok (.bipush i, 2)) (hv : (Int8.ofInt i).toInt32 = v) (kk : J X nL Z g k n (pc + 2) lv (.int v :: st)) : J X nL Z g k n (pc) lv (st) := fun H locs ls a b h => lv_bipush O.1.1 O.1.2.1 d hv (kk H locs ls a b h)
theorem j_sipush (O : Ok X cc nL own Z rm) {i : Int} {v : Int32} (d : decode cc pc = .ok (.sipush i, 3)) (hv : (Int16.ofInt i).toInt32 = v) (kk : J X nL Z g k n (pc + 3) lv (.int v :: st)) : J X nL Z g k n (pc) lv (st) := fun H locs ls a b h => lv_sipush O.1.1 O.1.2.1 d hv (kk H locs ls a b h)
theorem j_lconst (O : Ok X cc nL own Z rm) {i : Fin 2} {v : Int64} (d : decode cc pc = .ok (.lconst i, 1)) (hv : Int64.ofNat (i : Nat) = v) (kk : J X nL Z g k n (pc + 1) lv (.long v :: st)) : J X nL Z g k n (pc) lv (st) := fun H locs ls a b h => lv_lconst O.1.1 O.1.2.1 d hv (kk H locs ls a b h)
theorem j_null (O : Ok X cc nL own Z rm)  (d : decode cc pc = .ok (.aconst_null, 1)) (kk : J X nL Z g k n (pc + 1) lv (.null :: st)) : J X nL Z g k n (pc) lv (st) := fun H locs ls a b h => lv_null O.1.1 O.1.2.1 d (kk H locs ls a b h)
theorem j_ldc (O : Ok X cc nL own Z rm) {i : Nat} (v : Int32) (hc : Cond.constant own i v ∈ aw) (d : decode cc pc = .ok (.ldc i, 2)) (kk : J X nL Z g k n (pc + 2) lv (.int v :: st)) : J X nL Z g k n (pc) lv (st) := fun H locs ls a b h => lv_ldc O.1.1 O.1.2.1 O.1.2.2.2.1 (O.b hc) d (kk H locs ls a b h)
theorem j_ldcw (O : Ok X cc nL own Z rm) {i : Nat} (v : Int32) (hc : Cond.constant own i v ∈ aw) (d : decode cc pc = .ok (.ldc_w i, 3)) (kk : J X nL Z g k n (pc + 3) lv (.int v :: st)) : J X nL Z g k n (pc) lv (st) := fun H locs ls a b h => lv_ldcw O.1.1 O.1.2.1 O.1.2.2.2.1 (O.b hc) d (kk H locs ls a b h)
theorem j_ldc2 (O : Ok X cc nL own Z rm) {i : Nat} (v : Int64) (hc : Cond.constantLong own i v ∈ aw) (d : decode cc pc = .ok (.ldc2_w i, 3)) (kk : J X nL Z g k n (pc + 3) lv (.long v :: st)) : J X nL Z g k n (pc) lv (st) := fun H locs ls a b h => lv_ldc2 O.1.1 O.1.2.1 O.1.2.2.2.1 (O.b hc) d (kk H locs ls a b h)
theorem j_iload_n (O : Ok X cc nL own Z rm) {f : Fin 4} (i : Nat) {x : Int32} (d : decode cc pc = .ok (.iload_n f, 1)) (hi : (f : Nat) = i) (hv : jg lv i = some (.int x)) (kk : J X nL Z g k n (pc + 1) lv (.int x :: st)) : J X nL Z g k n (pc) lv (st) := fun H locs ls a b h => lv_iload_n O.1.1 O.1.2.1 d hi (jg_at h hv) (kk H locs ls a b h)
theorem j_iload (O : Ok X cc nL own Z rm) {i : Nat} {x : Int32} (d : decode cc pc = .ok (.iload i, 2)) (hv : jg lv i = some (.int x)) (kk : J X nL Z g k n (pc + 2) lv (.int x :: st)) : J X nL Z g k n (pc) lv (st) := fun H locs ls a b h => lv_iload O.1.1 O.1.2.1 d (jg_at h hv) (kk H locs ls a b h)
theorem j_lload_n (O : Ok X cc nL own Z rm) {f : Fin 4} (i : Nat) {x : Int64} (d : decode cc pc = .ok (.lload_n f, 1)) (hi : (f : Nat) = i) (hv : jg lv i = some (.long x)) (kk : J X nL Z g k n (pc + 1) lv (.long x :: st)) : J X nL Z g k n (pc) lv (st) := fun H locs ls a b h => lv_lload_n O.1.1 O.1.2.1 d hi (jg_at h hv) (kk H locs ls a b h)
theorem j_lload (O : Ok X cc nL own Z rm) {i : Nat} {x : Int64} (d : decode cc pc = .ok (.lload i, 2)) (hv : jg lv i = some (.long x)) (kk : J X nL Z g k n (pc + 2) lv (.long x :: st)) : J X nL Z g k n (pc) lv (st) := fun H locs ls a b h => lv_lload O.1.1 O.1.2.1 d (jg_at h hv) (kk H locs ls a b h)
theorem j_aload_n (O : Ok X cc nL own Z rm) {f : Fin 4} (i : Nat) {x : Nat} (d : decode cc pc = .ok (.aload_n f, 1)) (hi : (f : Nat) = i) (hv : jg lv i = some (.ref x)) (kk : J X nL Z g k n (pc + 1) lv (.ref x :: st)) : J X nL Z g k n (pc) lv (st) := fun H locs ls a b h => lv_aload_n O.1.1 O.1.2.1 d hi (jg_at h hv) (kk H locs ls a b h)
theorem j_aload (O : Ok X cc nL own Z rm) {i : Nat} {x : Nat} (d : decode cc pc = .ok (.aload i, 2)) (hv : jg lv i = some (.ref x)) (kk : J X nL Z g k n (pc + 2) lv (.ref x :: st)) : J X nL Z g k n (pc) lv (st) := fun H locs ls a b h => lv_aload O.1.1 O.1.2.1 d (jg_at h hv) (kk H locs ls a b h)
theorem j_aload_nN (O : Ok X cc nL own Z rm) {f : Fin 4} (i : Nat) (d : decode cc pc = .ok (.aload_n f, 1)) (hi : (f : Nat) = i) (hv : jg lv i = some .null) (kk : J X nL Z g k n (pc + 1) lv (.null :: st)) : J X nL Z g k n (pc) lv (st) := fun H locs ls a b h => lv_aload_nN O.1.1 O.1.2.1 d hi (jg_at h hv) (kk H locs ls a b h)
theorem j_aloadN (O : Ok X cc nL own Z rm) {i : Nat} (d : decode cc pc = .ok (.aload i, 2)) (hv : jg lv i = some .null) (kk : J X nL Z g k n (pc + 2) lv (.null :: st)) : J X nL Z g k n (pc) lv (st) := fun H locs ls a b h => lv_aloadN O.1.1 O.1.2.1 d (jg_at h hv) (kk H locs ls a b h)
theorem j_aload_nO (O : Ok X cc nL own Z rm) {f : Fin 4} (i : Nat) {o : Option Nat} (d : decode cc pc = .ok (.aload_n f, 1)) (hi : (f : Nat) = i) (hv : jg lv i = some (va_rf o)) (kk : J X nL Z g k n (pc + 1) lv (va_rf o :: st)) : J X nL Z g k n (pc) lv (st) := by
  cases o with
  | none => exact j_aload_nN O i d hi hv kk
  | some x => exact j_aload_n O i d hi hv kk
theorem j_aloadO (O : Ok X cc nL own Z rm) {i : Nat} {o : Option Nat} (d : decode cc pc = .ok (.aload i, 2)) (hv : jg lv i = some (va_rf o)) (kk : J X nL Z g k n (pc + 2) lv (va_rf o :: st)) : J X nL Z g k n (pc) lv (st) := by
  cases o with
  | none => exact j_aloadN O d hv kk
  | some x => exact j_aload O d hv kk
theorem j_istore_n (O : Ok X cc nL own Z rm) {f : Fin 4} (i : Nat) {x : Int32} (lw : List (Nat × Value)) (d : decode cc pc = .ok (.istore_n f, 1)) (hi : (f : Nat) = i) (hn : i < nL) (hl : jlv1 lv i (.int x) = lw) (kk : J X nL Z g k n (pc + 1) lw (st)) : J X nL Z g k n (pc) lv (.int x :: st) := fun H locs ls a b h => lv_istore_n O.1.1 O.1.2.1 d hi h hn hl (fun ls2 h2 => kk H locs ls2 a b h2)
theorem j_istore (O : Ok X cc nL own Z rm) {i : Nat} {x : Int32} (lw : List (Nat × Value)) (d : decode cc pc = .ok (.istore i, 2)) (hn : i < nL) (hl : jlv1 lv i (.int x) = lw) (kk : J X nL Z g k n (pc + 2) lw (st)) : J X nL Z g k n (pc) lv (.int x :: st) := fun H locs ls a b h => lv_istore O.1.1 O.1.2.1 d h hn hl (fun ls2 h2 => kk H locs ls2 a b h2)
theorem j_lstore_n (O : Ok X cc nL own Z rm) {f : Fin 4} (i : Nat) {x : Int64} (lw : List (Nat × Value)) (d : decode cc pc = .ok (.lstore_n f, 1)) (hi : (f : Nat) = i) (hn : i + 1 < nL) (hl : jlv2 lv i (.long x) = lw) (kk : J X nL Z g k n (pc + 1) lw (st)) : J X nL Z g k n (pc) lv (.long x :: st) := fun H locs ls a b h => lv_lstore_n O.1.1 O.1.2.1 d hi h hn hl (fun ls2 h2 => kk H locs ls2 a b h2)
theorem j_lstore (O : Ok X cc nL own Z rm) {i : Nat} {x : Int64} (lw : List (Nat × Value)) (d : decode cc pc = .ok (.lstore i, 2)) (hn : i + 1 < nL) (hl : jlv2 lv i (.long x) = lw) (kk : J X nL Z g k n (pc + 2) lw (st)) : J X nL Z g k n (pc) lv (.long x :: st) := fun H locs ls a b h => lv_lstore O.1.1 O.1.2.1 d h hn hl (fun ls2 h2 => kk H locs ls2 a b h2)
theorem j_astore_n (O : Ok X cc nL own Z rm) {f : Fin 4} (i : Nat) {x : Nat} (lw : List (Nat × Value)) (d : decode cc pc = .ok (.astore_n f, 1)) (hi : (f : Nat) = i) (hn : i < nL) (hl : jlv1 lv i (.ref x) = lw) (kk : J X nL Z g k n (pc + 1) lw (st)) : J X nL Z g k n (pc) lv (.ref x :: st) := fun H locs ls a b h => lv_astore_n O.1.1 O.1.2.1 d hi h hn hl (fun ls2 h2 => kk H locs ls2 a b h2)
theorem j_astore (O : Ok X cc nL own Z rm) {i : Nat} {x : Nat} (lw : List (Nat × Value)) (d : decode cc pc = .ok (.astore i, 2)) (hn : i < nL) (hl : jlv1 lv i (.ref x) = lw) (kk : J X nL Z g k n (pc + 2) lw (st)) : J X nL Z g k n (pc) lv (.ref x :: st) := fun H locs ls a b h => lv_astore O.1.1 O.1.2.1 d h hn hl (fun ls2 h2 => kk H locs ls2 a b h2)
theorem j_astore_nN (O : Ok X cc nL own Z rm) {f : Fin 4} (i : Nat) (lw : List (Nat × Value)) (d : decode cc pc = .ok (.astore_n f, 1)) (hi : (f : Nat) = i) (hn : i < nL) (hl : jlv1 lv i .null = lw) (kk : J X nL Z g k n (pc + 1) lw (st)) : J X nL Z g k n (pc) lv (.null :: st) := fun H locs ls a b h => lv_astore_nN O.1.1 O.1.2.1 d hi h hn hl (fun ls2 h2 => kk H locs ls2 a b h2)
theorem j_astoreN (O : Ok X cc nL own Z rm) {i : Nat} (lw : List (Nat × Value)) (d : decode cc pc = .ok (.astore i, 2)) (hn : i < nL) (hl : jlv1 lv i .null = lw) (kk : J X nL Z g k n (pc + 2) lw (st)) : J X nL Z g k n (pc) lv (.null :: st) := fun H locs ls a b h => lv_astoreN O.1.1 O.1.2.1 d h hn hl (fun ls2 h2 => kk H locs ls2 a b h2)
theorem j_astore_nO (O : Ok X cc nL own Z rm) {f : Fin 4} (i : Nat) {o : Option Nat} (lw : List (Nat × Value)) (d : decode cc pc = .ok (.astore_n f, 1)) (hi : (f : Nat) = i) (hn : i < nL) (hl : jlv1 lv i (va_rf o) = lw) (kk : J X nL Z g k n (pc + 1) lw (st)) : J X nL Z g k n (pc) lv (va_rf o :: st) := by
  cases o with
  | none => exact j_astore_nN O i lw d hi hn hl kk
  | some x => exact j_astore_n O i lw d hi hn hl kk
theorem j_astoreO (O : Ok X cc nL own Z rm) {i : Nat} {o : Option Nat} (lw : List (Nat × Value)) (d : decode cc pc = .ok (.astore i, 2)) (hn : i < nL) (hl : jlv1 lv i (va_rf o) = lw) (kk : J X nL Z g k n (pc + 2) lw (st)) : J X nL Z g k n (pc) lv (va_rf o :: st) := by
  cases o with
  | none => exact j_astoreN O lw d hn hl kk
  | some x => exact j_astore O lw d hn hl kk
theorem j_iinc (O : Ok X cc nL own Z rm) {i : Nat} {z : Int} {x : Int32} (v : Int32) (lw : List (Nat × Value)) (d : decode cc pc = .ok (.iinc i z, 3)) (hx : jg lv i = some (.int x)) (hv : x + Int32.ofInt z = v) (hn : i < nL) (hl : jlv1 lv i (.int v) = lw) (kk : J X nL Z g k n (pc + 3) lw (st)) : J X nL Z g k n (pc) lv (st) := by
  intro H locs ls a b h
  obtain ⟨q, hq⟩ := List.getElem?_of_mem (jg_in lv i _ hx)
  exact lv_iinc O.1.1 O.1.2.1 d h hq hv hn hl (fun ls2 h2 => kk H locs ls2 a b h2)
theorem j_iadd (O : Ok X cc nL own Z rm) {x y : Int32} (d : decode cc pc = .ok (.iadd, 1)) (kk : J X nL Z g k n (pc + 1) lv (.int (x + y) :: st)) : J X nL Z g k n (pc) lv (.int y :: .int x :: st) := fun H locs ls a b h => lv_iadd O.1.1 O.1.2.1 d (kk H locs ls a b h)
theorem j_isub (O : Ok X cc nL own Z rm) {x y : Int32} (d : decode cc pc = .ok (.isub, 1)) (kk : J X nL Z g k n (pc + 1) lv (.int (x - y) :: st)) : J X nL Z g k n (pc) lv (.int y :: .int x :: st) := fun H locs ls a b h => lv_isub O.1.1 O.1.2.1 d (kk H locs ls a b h)
theorem j_imul (O : Ok X cc nL own Z rm) {x y : Int32} (d : decode cc pc = .ok (.imul, 1)) (kk : J X nL Z g k n (pc + 1) lv (.int (x * y) :: st)) : J X nL Z g k n (pc) lv (.int y :: .int x :: st) := fun H locs ls a b h => lv_imul O.1.1 O.1.2.1 d (kk H locs ls a b h)
theorem j_iand (O : Ok X cc nL own Z rm) {x y : Int32} (d : decode cc pc = .ok (.iand, 1)) (kk : J X nL Z g k n (pc + 1) lv (.int (x &&& y) :: st)) : J X nL Z g k n (pc) lv (.int y :: .int x :: st) := fun H locs ls a b h => lv_iand O.1.1 O.1.2.1 d (kk H locs ls a b h)
theorem j_ior (O : Ok X cc nL own Z rm) {x y : Int32} (d : decode cc pc = .ok (.ior, 1)) (kk : J X nL Z g k n (pc + 1) lv (.int (x ||| y) :: st)) : J X nL Z g k n (pc) lv (.int y :: .int x :: st) := fun H locs ls a b h => lv_ior O.1.1 O.1.2.1 d (kk H locs ls a b h)
theorem j_ixor (O : Ok X cc nL own Z rm) {x y : Int32} (d : decode cc pc = .ok (.ixor, 1)) (kk : J X nL Z g k n (pc + 1) lv (.int (x ^^^ y) :: st)) : J X nL Z g k n (pc) lv (.int y :: .int x :: st) := fun H locs ls a b h => lv_ixor O.1.1 O.1.2.1 d (kk H locs ls a b h)
theorem j_ishl (O : Ok X cc nL own Z rm) {x y : Int32} (d : decode cc pc = .ok (.ishl, 1)) (kk : J X nL Z g k n (pc + 1) lv (.int (x <<< (y &&& 31)) :: st)) : J X nL Z g k n (pc) lv (.int y :: .int x :: st) := fun H locs ls a b h => lv_ishl O.1.1 O.1.2.1 d (kk H locs ls a b h)
theorem j_ishr (O : Ok X cc nL own Z rm) {x y : Int32} (d : decode cc pc = .ok (.ishr, 1)) (kk : J X nL Z g k n (pc + 1) lv (.int (x >>> (y &&& 31)) :: st)) : J X nL Z g k n (pc) lv (.int y :: .int x :: st) := fun H locs ls a b h => lv_ishr O.1.1 O.1.2.1 d (kk H locs ls a b h)
theorem j_ladd (O : Ok X cc nL own Z rm) {x y : Int64} (d : decode cc pc = .ok (.ladd, 1)) (kk : J X nL Z g k n (pc + 1) lv (.long (x + y) :: st)) : J X nL Z g k n (pc) lv (.long y :: .long x :: st) := fun H locs ls a b h => lv_ladd O.1.1 O.1.2.1 d (kk H locs ls a b h)
theorem j_lsub (O : Ok X cc nL own Z rm) {x y : Int64} (d : decode cc pc = .ok (.lsub, 1)) (kk : J X nL Z g k n (pc + 1) lv (.long (x - y) :: st)) : J X nL Z g k n (pc) lv (.long y :: .long x :: st) := fun H locs ls a b h => lv_lsub O.1.1 O.1.2.1 d (kk H locs ls a b h)
theorem j_lmul (O : Ok X cc nL own Z rm) {x y : Int64} (d : decode cc pc = .ok (.lmul, 1)) (kk : J X nL Z g k n (pc + 1) lv (.long (x * y) :: st)) : J X nL Z g k n (pc) lv (.long y :: .long x :: st) := fun H locs ls a b h => lv_lmul O.1.1 O.1.2.1 d (kk H locs ls a b h)
theorem j_land (O : Ok X cc nL own Z rm) {x y : Int64} (d : decode cc pc = .ok (.land, 1)) (kk : J X nL Z g k n (pc + 1) lv (.long (x &&& y) :: st)) : J X nL Z g k n (pc) lv (.long y :: .long x :: st) := fun H locs ls a b h => lv_land O.1.1 O.1.2.1 d (kk H locs ls a b h)
theorem j_lor (O : Ok X cc nL own Z rm) {x y : Int64} (d : decode cc pc = .ok (.lor, 1)) (kk : J X nL Z g k n (pc + 1) lv (.long (x ||| y) :: st)) : J X nL Z g k n (pc) lv (.long y :: .long x :: st) := fun H locs ls a b h => lv_lor O.1.1 O.1.2.1 d (kk H locs ls a b h)
theorem j_lxor (O : Ok X cc nL own Z rm) {x y : Int64} (d : decode cc pc = .ok (.lxor, 1)) (kk : J X nL Z g k n (pc + 1) lv (.long (x ^^^ y) :: st)) : J X nL Z g k n (pc) lv (.long y :: .long x :: st) := fun H locs ls a b h => lv_lxor O.1.1 O.1.2.1 d (kk H locs ls a b h)
theorem j_ineg (O : Ok X cc nL own Z rm) {x : Int32} (d : decode cc pc = .ok (.ineg, 1)) (kk : J X nL Z g k n (pc + 1) lv (.int (-x) :: st)) : J X nL Z g k n (pc) lv (.int x :: st) := fun H locs ls a b h => lv_ineg O.1.1 O.1.2.1 d (kk H locs ls a b h)
theorem j_iushr (O : Ok X cc nL own Z rm) {x y : Int32} (d : decode cc pc = .ok (.iushr, 1)) (kk : J X nL Z g k n (pc + 1) lv (.int (ush x y) :: st)) : J X nL Z g k n (pc) lv (.int y :: .int x :: st) := fun H locs ls a b h => lv_iushr O.1.1 O.1.2.1 d rfl (kk H locs ls a b h)
theorem j_lushr (O : Ok X cc nL own Z rm) {x : Int64} {y : Int32} (d : decode cc pc = .ok (.lushr, 1)) (kk : J X nL Z g k n (pc + 1) lv (.long ((x.toUInt64 >>> (y.toInt64.toUInt64 &&& Int64.toUInt64 63)).toInt64) :: st)) : J X nL Z g k n (pc) lv (.int y :: .long x :: st) := fun H locs ls a b h => lv_lushr O.1.1 O.1.2.1 d rfl (kk H locs ls a b h)
theorem j_lshl (O : Ok X cc nL own Z rm) {x : Int64} {y : Int32} (d : decode cc pc = .ok (.lshl, 1)) (kk : J X nL Z g k n (pc + 1) lv (.long (x <<< (y.toInt64 &&& 63)) :: st)) : J X nL Z g k n (pc) lv (.int y :: .long x :: st) := fun H locs ls a b h => lv_lshl O.1.1 O.1.2.1 d rfl (kk H locs ls a b h)
theorem j_i2l (O : Ok X cc nL own Z rm) {x : Int32} (d : decode cc pc = .ok (.i2l, 1)) (kk : J X nL Z g k n (pc + 1) lv (.long x.toInt64 :: st)) : J X nL Z g k n (pc) lv (.int x :: st) := fun H locs ls a b h => lv_i2l O.1.1 O.1.2.1 d rfl (kk H locs ls a b h)
theorem j_l2i (O : Ok X cc nL own Z rm) {x : Int64} (d : decode cc pc = .ok (.l2i, 1)) (kk : J X nL Z g k n (pc + 1) lv (.int x.toInt32 :: st)) : J X nL Z g k n (pc) lv (.long x :: st) := fun H locs ls a b h => lv_l2i O.1.1 O.1.2.1 d rfl (kk H locs ls a b h)
theorem j_lcmp (O : Ok X cc nL own Z rm) {x y : Int64} (d : decode cc pc = .ok (.lcmp, 1)) (kk : J X nL Z g k n (pc + 1) lv (.int (lg_cmp x y) :: st)) : J X nL Z g k n (pc) lv (.long y :: .long x :: st) := fun H locs ls a b h => W.lcmp O.1.1 O.1.2.1 d (kk H locs ls a b h)
theorem j_dup (O : Ok X cc nL own Z rm) {va : Value} (d : decode cc pc = .ok (.dup, 1)) (h1 : va.category = 1) (kk : J X nL Z g k n (pc + 1) lv (va :: va :: st)) : J X nL Z g k n (pc) lv (va :: st) := fun H locs ls a b h => lv_dup O.1.1 O.1.2.1 d h1 (kk H locs ls a b h)
theorem j_pop (O : Ok X cc nL own Z rm) {va : Value} (d : decode cc pc = .ok (.pop, 1)) (h1 : va.category = 1) (kk : J X nL Z g k n (pc + 1) lv (st)) : J X nL Z g k n (pc) lv (va :: st) := fun H locs ls a b h => lv_pop O.1.1 O.1.2.1 d h1 (kk H locs ls a b h)
theorem j_pop2 (O : Ok X cc nL own Z rm) {va : Value} (d : decode cc pc = .ok (.pop2, 1)) (h1 : va.category = 2) (kk : J X nL Z g k n (pc + 1) lv (st)) : J X nL Z g k n (pc) lv (va :: st) := fun H locs ls a b h => lv_pop2_2 O.1.1 O.1.2.1 d h1 (kk H locs ls a b h)
theorem j_dup_x1 (O : Ok X cc nL own Z rm) {va vb : Value} (d : decode cc pc = .ok (.dup_x1, 1)) (h1 : va.category = 1) (h2 : vb.category = 1) (kk : J X nL Z g k n (pc + 1) lv (va :: vb :: va :: st)) : J X nL Z g k n (pc) lv (va :: vb :: st) := fun H locs ls a b h => lv_dup_x1 O.1.1 O.1.2.1 d h1 h2 (kk H locs ls a b h)
theorem j_dup2 (O : Ok X cc nL own Z rm) {va vb : Value} (d : decode cc pc = .ok (.dup2, 1)) (h1 : va.category = 1) (h2 : vb.category = 1) (kk : J X nL Z g k n (pc + 1) lv (va :: vb :: va :: vb :: st)) : J X nL Z g k n (pc) lv (va :: vb :: st) := fun H locs ls a b h => lv_dup2_11 O.1.1 O.1.2.1 d h1 h2 (kk H locs ls a b h)
theorem j_if_eq (O : Ok X cc nL own Z rm) {x : Int32} {off : Int} (tgt : Nat) (d : decode cc pc = .ok (.ifCond .eq off, 3)) (ht : (pc : Int) + off = (tgt : Int)) (kt : x = 0 → J X nL Z g k n (tgt) lv (st)) (kf : ¬ x = 0 → J X nL Z g k n (pc + 3) lv (st)) : J X nL Z g k n (pc) lv (.int x :: st) := fun H locs ls a b h => lv_if_eq O.1.1 O.1.2.1 d ht (fun q => kt q H locs ls a b h) (fun q => kf q H locs ls a b h)
theorem j_icmp_eq (O : Ok X cc nL own Z rm) {x y : Int32} {off : Int} (tgt : Nat) (d : decode cc pc = .ok (.if_icmp .eq off, 3)) (ht : (pc : Int) + off = (tgt : Int)) (kt : x = y → J X nL Z g k n (tgt) lv (st)) (kf : ¬ x = y → J X nL Z g k n (pc + 3) lv (st)) : J X nL Z g k n (pc) lv (.int y :: .int x :: st) := fun H locs ls a b h => lv_icmp_eq O.1.1 O.1.2.1 d ht (fun q => kt q H locs ls a b h) (fun q => kf q H locs ls a b h)
theorem j_if_ne (O : Ok X cc nL own Z rm) {x : Int32} {off : Int} (tgt : Nat) (d : decode cc pc = .ok (.ifCond .ne off, 3)) (ht : (pc : Int) + off = (tgt : Int)) (kt : ¬ x = 0 → J X nL Z g k n (tgt) lv (st)) (kf : x = 0 → J X nL Z g k n (pc + 3) lv (st)) : J X nL Z g k n (pc) lv (.int x :: st) := fun H locs ls a b h => lv_if_ne O.1.1 O.1.2.1 d ht (fun q => kt q H locs ls a b h) (fun q => kf q H locs ls a b h)
theorem j_icmp_ne (O : Ok X cc nL own Z rm) {x y : Int32} {off : Int} (tgt : Nat) (d : decode cc pc = .ok (.if_icmp .ne off, 3)) (ht : (pc : Int) + off = (tgt : Int)) (kt : ¬ x = y → J X nL Z g k n (tgt) lv (st)) (kf : x = y → J X nL Z g k n (pc + 3) lv (st)) : J X nL Z g k n (pc) lv (.int y :: .int x :: st) := fun H locs ls a b h => lv_icmp_ne O.1.1 O.1.2.1 d ht (fun q => kt q H locs ls a b h) (fun q => kf q H locs ls a b h)
theorem j_if_lt (O : Ok X cc nL own Z rm) {x : Int32} {off : Int} (tgt : Nat) (d : decode cc pc = .ok (.ifCond .lt off, 3)) (ht : (pc : Int) + off = (tgt : Int)) (kt : x < 0 → J X nL Z g k n (tgt) lv (st)) (kf : ¬ x < 0 → J X nL Z g k n (pc + 3) lv (st)) : J X nL Z g k n (pc) lv (.int x :: st) := fun H locs ls a b h => lv_if_lt O.1.1 O.1.2.1 d ht (fun q => kt q H locs ls a b h) (fun q => kf q H locs ls a b h)
theorem j_icmp_lt (O : Ok X cc nL own Z rm) {x y : Int32} {off : Int} (tgt : Nat) (d : decode cc pc = .ok (.if_icmp .lt off, 3)) (ht : (pc : Int) + off = (tgt : Int)) (kt : x < y → J X nL Z g k n (tgt) lv (st)) (kf : ¬ x < y → J X nL Z g k n (pc + 3) lv (st)) : J X nL Z g k n (pc) lv (.int y :: .int x :: st) := fun H locs ls a b h => lv_icmp_lt O.1.1 O.1.2.1 d ht (fun q => kt q H locs ls a b h) (fun q => kf q H locs ls a b h)
theorem j_if_ge (O : Ok X cc nL own Z rm) {x : Int32} {off : Int} (tgt : Nat) (d : decode cc pc = .ok (.ifCond .ge off, 3)) (ht : (pc : Int) + off = (tgt : Int)) (kt : 0 ≤ x → J X nL Z g k n (tgt) lv (st)) (kf : ¬ 0 ≤ x → J X nL Z g k n (pc + 3) lv (st)) : J X nL Z g k n (pc) lv (.int x :: st) := fun H locs ls a b h => lv_if_ge O.1.1 O.1.2.1 d ht (fun q => kt q H locs ls a b h) (fun q => kf q H locs ls a b h)
theorem j_icmp_ge (O : Ok X cc nL own Z rm) {x y : Int32} {off : Int} (tgt : Nat) (d : decode cc pc = .ok (.if_icmp .ge off, 3)) (ht : (pc : Int) + off = (tgt : Int)) (kt : y ≤ x → J X nL Z g k n (tgt) lv (st)) (kf : ¬ y ≤ x → J X nL Z g k n (pc + 3) lv (st)) : J X nL Z g k n (pc) lv (.int y :: .int x :: st) := fun H locs ls a b h => lv_icmp_ge O.1.1 O.1.2.1 d ht (fun q => kt q H locs ls a b h) (fun q => kf q H locs ls a b h)
theorem j_if_gt (O : Ok X cc nL own Z rm) {x : Int32} {off : Int} (tgt : Nat) (d : decode cc pc = .ok (.ifCond .gt off, 3)) (ht : (pc : Int) + off = (tgt : Int)) (kt : 0 < x → J X nL Z g k n (tgt) lv (st)) (kf : ¬ 0 < x → J X nL Z g k n (pc + 3) lv (st)) : J X nL Z g k n (pc) lv (.int x :: st) := fun H locs ls a b h => lv_if_gt O.1.1 O.1.2.1 d ht (fun q => kt q H locs ls a b h) (fun q => kf q H locs ls a b h)
theorem j_icmp_gt (O : Ok X cc nL own Z rm) {x y : Int32} {off : Int} (tgt : Nat) (d : decode cc pc = .ok (.if_icmp .gt off, 3)) (ht : (pc : Int) + off = (tgt : Int)) (kt : y < x → J X nL Z g k n (tgt) lv (st)) (kf : ¬ y < x → J X nL Z g k n (pc + 3) lv (st)) : J X nL Z g k n (pc) lv (.int y :: .int x :: st) := fun H locs ls a b h => lv_icmp_gt O.1.1 O.1.2.1 d ht (fun q => kt q H locs ls a b h) (fun q => kf q H locs ls a b h)
theorem j_if_le (O : Ok X cc nL own Z rm) {x : Int32} {off : Int} (tgt : Nat) (d : decode cc pc = .ok (.ifCond .le off, 3)) (ht : (pc : Int) + off = (tgt : Int)) (kt : x ≤ 0 → J X nL Z g k n (tgt) lv (st)) (kf : ¬ x ≤ 0 → J X nL Z g k n (pc + 3) lv (st)) : J X nL Z g k n (pc) lv (.int x :: st) := fun H locs ls a b h => lv_if_le O.1.1 O.1.2.1 d ht (fun q => kt q H locs ls a b h) (fun q => kf q H locs ls a b h)
theorem j_icmp_le (O : Ok X cc nL own Z rm) {x y : Int32} {off : Int} (tgt : Nat) (d : decode cc pc = .ok (.if_icmp .le off, 3)) (ht : (pc : Int) + off = (tgt : Int)) (kt : x ≤ y → J X nL Z g k n (tgt) lv (st)) (kf : ¬ x ≤ y → J X nL Z g k n (pc + 3) lv (st)) : J X nL Z g k n (pc) lv (.int y :: .int x :: st) := fun H locs ls a b h => lv_icmp_le O.1.1 O.1.2.1 d ht (fun q => kt q H locs ls a b h) (fun q => kf q H locs ls a b h)
theorem j_goto (O : Ok X cc nL own Z rm) {off : Int} (tgt : Nat) (d : decode cc pc = .ok (.goto off, 3)) (ht : (pc : Int) + off = (tgt : Int)) (kk : J X nL Z g k n (tgt) lv (st)) : J X nL Z g k n (pc) lv (st) := fun H locs ls a b h => lv_goto O.1.1 O.1.2.1 d ht (kk H locs ls a b h)
theorem j_ifnull (O : Ok X cc nL own Z rm) {o : Option Nat} {off : Int} (tgt : Nat) (d : decode cc pc = .ok (.ifnull off, 3)) (ht : (pc : Int) + off = (tgt : Int)) (kt : o = none → J X nL Z g k n (tgt) lv (st)) (kf : ∀ x, o = some x → J X nL Z g k n (pc + 3) lv (st)) : J X nL Z g k n (pc) lv (va_rf o :: st) := by
  intro H locs ls a b h
  cases o with
  | none => exact lv_ifnullN O.1.1 O.1.2.1 d ht (kt rfl H locs ls a b h)
  | some x => exact lv_ifnull O.1.1 O.1.2.1 d (kf x rfl H locs ls a b h)
theorem j_ifnonnull (O : Ok X cc nL own Z rm) {o : Option Nat} {off : Int} (tgt : Nat) (d : decode cc pc = .ok (.ifnonnull off, 3)) (ht : (pc : Int) + off = (tgt : Int)) (kt : ∀ x, o = some x → J X nL Z g k n (tgt) lv (st)) (kf : o = none → J X nL Z g k n (pc + 3) lv (st)) : J X nL Z g k n (pc) lv (va_rf o :: st) := by
  intro H locs ls a b h
  cases o with
  | none => exact lv_ifnonnullN O.1.1 O.1.2.1 d (kf rfl H locs ls a b h)
  | some x => exact lv_ifnonnull O.1.1 O.1.2.1 d ht (kt x rfl H locs ls a b h)
theorem j_acmp_eq (O : Ok X cc nL own Z rm) {rx ry : Option Nat} {off : Int} (tgt : Nat) (d : decode cc pc = .ok (.if_acmp .eq off, 3)) (ht : (pc : Int) + off = (tgt : Int)) (kt : rx = ry → J X nL Z g k n (tgt) lv (st)) (kf : ¬ rx = ry → J X nL Z g k n (pc + 3) lv (st)) : J X nL Z g k n (pc) lv (va_rf ry :: va_rf rx :: st) := fun H locs ls a b h => lv_acmp_eq O.1.1 O.1.2.1 d ht (fun q => kt q H locs ls a b h) (fun q => kf q H locs ls a b h)
theorem j_acmp_ne (O : Ok X cc nL own Z rm) {rx ry : Option Nat} {off : Int} (tgt : Nat) (d : decode cc pc = .ok (.if_acmp .ne off, 3)) (ht : (pc : Int) + off = (tgt : Int)) (kt : ¬ rx = ry → J X nL Z g k n (tgt) lv (st)) (kf : rx = ry → J X nL Z g k n (pc + 3) lv (st)) : J X nL Z g k n (pc) lv (va_rf ry :: va_rf rx :: st) := fun H locs ls a b h => lv_acmp_ne O.1.1 O.1.2.1 d ht (fun q => kt q H locs ls a b h) (fun q => kf q H locs ls a b h)
theorem j_lookup (O : Ok X cc nL own Z rm) {dflt : Int} {ps : Array (Int × Int)} {len : Nat} {x : Int32} {off : Int} (tgt : Nat) (d : decode cc pc = .ok (.lookupswitch dflt ps, len)) (hp : (ps.toList.zip (ps.toList.drop 1)).all (fun (a, next) => a.1 < next.1) = true) (ho : Op.lookupswitch.offset ps.toList dflt x.toInt = off) (ht : (pc : Int) + off = (tgt : Int)) (kk : J X nL Z g k n (tgt) lv (st)) : J X nL Z g k n (pc) lv (.int x :: st) := fun H locs ls a b h => lv_lookup O.1.1 O.1.2.1 d hp ho ht (kk H locs ls a b h)
theorem j_tableOut (O : Ok X cc nL own Z rm) {dflt lo hi : Int} {offs : Array Int} {len : Nat} {x : Int32} (tgt : Nat) (d : decode cc pc = .ok (.tableswitch dflt lo hi offs, len)) (hx : x.toInt < lo ∨ hi < x.toInt) (ht : (pc : Int) + dflt = (tgt : Int)) (kk : J X nL Z g k n (tgt) lv (st)) : J X nL Z g k n (pc) lv (.int x :: st) := fun H locs ls a b h => lv_tableOut O.1.1 O.1.2.1 d hx ht (kk H locs ls a b h)
theorem j_tableIn (O : Ok X cc nL own Z rm) {dflt lo hi : Int} {offs : Array Int} {len : Nat} {x : Int32} {off : Int} (tgt : Nat) (d : decode cc pc = .ok (.tableswitch dflt lo hi offs, len)) (h1 : ¬ x.toInt < lo) (h2 : ¬ hi < x.toInt) (ho : offs[(x.toInt - lo).toNat]? = some off) (ht : (pc : Int) + off = (tgt : Int)) (kk : J X nL Z g k n (tgt) lv (st)) : J X nL Z g k n (pc) lv (.int x :: st) := fun H locs ls a b h => lv_tableIn O.1.1 O.1.2.1 d h1 h2 ho ht (kk H locs ls a b h)
theorem j_topi {x : Int32} (kk : ∀ y : Int32, y = x → J X nL Z g k n (pc) lv (.int y :: st)) : J X nL Z g k n (pc) lv (.int x :: st) := kk x rfl
theorem j_topl {x : Int64} (kk : ∀ y : Int64, y = x → J X nL Z g k n (pc) lv (.long y :: st)) : J X nL Z g k n (pc) lv (.long x :: st) := kk x rfl
theorem j_eqi {x : Int32} (y : Int32) (e : x = y) (kk : J X nL Z g k n (pc) lv (.int y :: st)) : J X nL Z g k n (pc) lv (.int x :: st) := by subst e; exact kk
theorem j_eql {x : Int64} (y : Int64) (e : x = y) (kk : J X nL Z g k n (pc) lv (.long y :: st)) : J X nL Z g k n (pc) lv (.long x :: st) := by subst e; exact kk
theorem j_get (O : Ok X cc nL own Z rm) {ref C : String} {T : u_T} {N ci index : Nat} (hin : ∀ w ∈ u_ws C T N, w ∈ aw) {a : Nat} {fs : List Value} (ha : gAt g a (.inr (ci, fs))) (hc : Z.2.1[ci]? = some (C, T, N)) (f : Nat) (hf : f < N) (hlink : Cond.fieldLink own index ref (T f).2.1 (T f).2.2.1 ∈ aw) (href : (T f).1 = ref) {v : Value} (hv : fs[f]? = some v) (d : decode cc pc = .ok (.getfield index, 3)) (kk : J X nL Z g k n (pc + 3) lv (v :: st)) : J X nL Z g k n (pc) lv (.ref a :: st) := by
  subst href
  intro H locs ls a0 b h
  obtain ⟨q, hq⟩ := ha.k
  exact va_get O.1.1 O.1.2.1 O.1.2.2.2.2 hin O.1.2.2.2.1 O.2.1 a0.1 q hq hc f hf (O.b hlink) (fun _ h9 => h9) hv d (kk H locs ls a0 b h)
theorem j_put (O : Ok X cc nL own Z rm) {ref C : String} {T : u_T} {N ci index : Nat} (hin : ∀ w ∈ u_ws C T N, w ∈ aw) {a : Nat} {fs : List Value} (ha : gAt g a (.inr (ci, fs))) (hc : Z.2.1[ci]? = some (C, T, N)) (f : Nat) (hf : f < N) (hlink : Cond.fieldLink own index ref (T f).2.1 (T f).2.2.1 ∈ aw) (href : (T f).1 = ref) (ty0 : Nat → FieldType) (hty : ∀ k, k < N → parseFieldDescriptor (T k).2.2.1 = some (ty0 k)) (hnm : ∀ a, a < N → ∀ b, b < N → a ≠ b → (T a).2.1 ≠ (T b).2.1) (hfin : (T f).2.2.2 = false) (ty : FieldType) {v : Value} (hd : parseFieldDescriptor (T f).2.2.1 = some ty) (hn : narrow ty v = v) (hfit : fits ty v = true) (hl : f < fs.length) (fs2 : List Value) (hs : fs.set f v = fs2) (d : decode cc pc = .ok (.putfield index, 3)) (kk : ∀ g1 : GH, g1 = gUp g a (.inr (ci, fs2)) → J X nL Z g1 k n (pc + 3) lv (st)) : J X nL Z g k n (pc) lv (v :: .ref a :: st) := by
  subst href
  subst hs
  intro H locs ls a0 b h
  obtain ⟨q, hq⟩ := ha.k
  refine va_put O.1.1 O.1.2.1 O.1.2.2.2.2 hin ty0 hty hnm O.1.2.2.2.1 O.2.1 a0.1 a0.2 b q hq hc f hf (O.b hlink) (fun _ h9 => h9) hfin hd hn hfit hl d (fun H1 locs1 p1 d1 s1 => ?_)
  rw [gSet a0.2 ha hq] at p1 d1
  exact kk _ rfl H1 locs1 ls ⟨p1, d1⟩ s1 h
theorem j_putF (O : Ok X cc nL own Z rm) (hN : On X) {ref C : String} {T : u_T} {N ci index : Nat} (hin : ∀ w ∈ u_ws C T N, w ∈ aw) {a : Nat} {fs : List Value} (ha : gAt g a (.inr (ci, fs))) (hc : Z.2.1[ci]? = some (C, T, N)) (f : Nat) (hf : f < N) (hlink : Cond.fieldLink own index ref (T f).2.1 (T f).2.2.1 ∈ aw) (href : (T f).1 = ref) (ty0 : Nat → FieldType) (hty : ∀ k, k < N → parseFieldDescriptor (T k).2.2.1 = some (ty0 k)) (hnm : ∀ a, a < N → ∀ b, b < N → a ≠ b → (T a).2.1 ≠ (T b).2.1) (hfin : (T f).2.2.2 = true) (hdecl : (T f).1 = own) (ty : FieldType) {v : Value} (hd : parseFieldDescriptor (T f).2.2.1 = some ty) (hn : narrow ty v = v) (hfit : fits ty v = true) (hl : f < fs.length) (fs2 : List Value) (hs : fs.set f v = fs2) (d : decode cc pc = .ok (.putfield index, 3)) (kk : ∀ g1 : GH, g1 = gUp g a (.inr (ci, fs2)) → J X nL Z g1 k n (pc + 3) lv (st)) : J X nL Z g k n (pc) lv (v :: .ref a :: st) := by
  subst href
  subst hs
  intro H locs ls a0 b h
  obtain ⟨q, hq⟩ := ha.k
  refine va_putF O.1.1 O.1.2.1 O.1.2.2.2.2 hin ty0 hty hnm O.1.2.2.2.1 O.2.1 a0.1 a0.2 b q hq hc f hf (O.b hlink) (fun _ h9 => h9) hfin hN hdecl hd hn hfit hl d (fun H1 locs1 p1 d1 s1 => ?_)
  rw [gSet a0.2 ha hq] at p1 d1
  exact kk _ rfl H1 locs1 ls ⟨p1, d1⟩ s1 h
theorem j_new (O : Ok X cc nL own Z rm) {C : String} {T : u_T} {N ci index : Nat} (hin : ∀ w ∈ u_ws C T N, w ∈ aw) (ty : Nat → FieldType) (hty : ∀ k, k < N → parseFieldDescriptor (T k).2.2.1 = some (ty k)) (hcl : Cond.classLink own index C ∈ aw) (hinst : Cond.instantiable C N ∈ aw) (hini : Cond.initialized C ∈ aw) (hc : Z.2.1[ci]? = some (C, T, N)) (fs : List Value) (hfs : ∀ j, j < N → defaultValue (ty j) = vp_V fs j) (hcells : k + 1 ≤ rm.cells) (hslots : n + N ≤ rm.slots) (d : decode cc pc = .ok (.new index, 3)) (kk : ∀ (q : Nat) (g1 : GH), q ∉ g.1 → g1 = gNew g q (.inr (ci, fs)) → J X nL Z g1 (k + 1) (n + N) (pc + 3) lv (.ref q :: st)) : J X nL Z g k n (pc) lv (st) := by
  intro H locs ls a0 b h
  refine va_new O.1.1 O.1.2.1 O.1.2.2.2.2 hin ty hty O.1.2.2.2.1 (O.b hcl) (O.b hinst) (O.b hini) O.2.1 a0.1 a0.2 b O.A hc hfs (by rw [O.2.2.2.1]; exact hcells) (by rw [O.2.2.2.1]; exact hslots) d (fun q H1 p1 d1 s1 => ?_)
  have hq := gPush d1
  rw [va_pl_push hq] at p1 d1
  exact kk q _ hq rfl H1 locs ls ⟨p1, d1⟩ s1 h
theorem j_newa (O : Ok X cc nL own Z rm) {atype : ArrayType} (harr : Cond.arrayClass (newarray.typeOf atype) ∈ aw) (ty : FieldType) (hty : newarray.typeOf atype = ty) (t0 : Nat) {cA : ClassId} (ht : Z.2.2.1[t0]? = some (cA, ty)) (hob : va_RA X.2.2.2.2.1 cA ty = (X.2.2.2.2.1.vm.findClass ("[" ++ ty.toString) = some cA)) {i : Int32} (N : Nat) (a0 : vp_A) (ha : ∀ cA : ClassId, vp_cell cA a0 = arrV cA N (fun _ => defaultValue ty)) (hn : ¬ i < 0) (hN : i.toNatClampNeg = N) (hbytes : N * componentBytes ty ≤ 536870912) (hcells : k + 1 ≤ rm.cells) (hslots : n + N ≤ rm.slots) (d : decode cc pc = .ok (.newarray atype, 2)) (kk : ∀ (q : Nat) (g1 : GH), q ∉ g.1 → g1 = gNew g q (.inl (cA, a0)) → J X nL Z g1 (k + 1) (n + N) (pc + 2) lv (.ref q :: st)) : J X nL Z g k n (pc) lv (.int i :: st) := by
  intro H locs ls a1 b h
  have hK := O.2.1.2 t0 _ ht
  rw [hob] at hK
  refine va_newa O.1.1 O.1.2.1 (O.b harr) hty O.2.1 a1.1 a1.2 b O.A ha hn hN hbytes (by rw [O.2.2.2.1]; exact hcells) (by rw [O.2.2.2.1]; exact hslots) d (fun q c2 H1 k1 p1 d1 s1 => ?_)
  have hk := (k1.2 Z.2.2.1.length (c2, ty) (by simp)).2
  have he : c2 = cA := by
    subst hty
    have hk' : X.2.2.2.2.1.vm.findClass ("[" ++ (newarray.typeOf atype).toString) = some c2 := by cases atype <;> exact hk
    exact Option.some.inj (hk'.symm.trans hK.2)
  subst he
  have hq := gPush d1
  rw [va_pl_push hq] at p1 d1
  exact kk q _ hq rfl H1 locs ls ⟨p1, d1⟩ s1 h
theorem j_newq (O : Ok X cc nL own Z rm) {C : String} {index : Nat} (hcl : Cond.classLink own index C ∈ aw) (hover : Cond.arrayOver (.object C) ∈ Z.2.2.2.1) (t0 : Nat) {cA : ClassId} (ht : Z.2.2.1[t0]? = some (cA, .object C)) {i : Int32} (N : Nat) (hn : ¬ i < 0) (hN : i.toNatClampNeg = N) (hbytes : N * 4 ≤ 536870912) (hcells : k + 1 ≤ rm.cells) (hslots : n + N ≤ rm.slots) (d : decode cc pc = .ok (.anewarray index, 3)) (kk : ∀ (q : Nat) (g1 : GH), q ∉ g.1 → g1 = gNew g q (.inl (cA, N, .inr (.inr (.inr (.inr (fun _ => none)))))) → J X nL Z g1 (k + 1) (n + N) (pc + 3) lv (.ref q :: st)) : J X nL Z g k n (pc) lv (.int i :: st) := by
  intro H locs ls a1 b h
  obtain ⟨kA, comp, -, -, -, hf⟩ := (O.2.1.2 t0 _ ht).2
  refine va_newq O.1.1 O.1.2.1 O.1.2.2.2.1 (O.b hcl) (va_AO.of (O.2.2.2.2 _ hover).2.2) O.2.1 a1.1 a1.2 b O.A hn hN hbytes (by rw [O.2.2.2.1]; exact hcells) (by rw [O.2.2.2.1]; exact hslots) d (fun q c2 H1 k1 p1 d1 s1 => ?_)
  obtain ⟨kB, comp2, -, -, -, hf2⟩ := (k1.2 Z.2.2.1.length (c2, .object C) (by simp)).2
  have he : c2 = cA := Option.some.inj (hf2.symm.trans hf)
  subst he
  have hq := gPush d1
  rw [va_pl_push hq] at p1 d1
  exact kk q _ hq rfl H1 locs ls ⟨p1, d1⟩ s1 h
theorem j_alen (O : Ok X cc nL own Z rm) {a : Nat} {cA : ClassId} {x : vp_A} (ha : gAt g a (.inl (cA, x))) (t0 : Nat) {ty : FieldType} (ht : Z.2.2.1[t0]? = some (cA, ty)) (d : decode cc pc = .ok (.arraylength, 1)) (kk : J X nL Z g k n (pc + 1) lv (.int (nI x.1) :: st)) : J X nL Z g k n (pc) lv (.ref a :: st) := by
  intro H locs ls a0 b h
  obtain ⟨q, hq⟩ := ha.k
  exact va_alen O.1.1 O.1.2.1 O.2.1 a0.1 q t0 hq ht rfl d (kk H locs ls a0 b h)
theorem j_iaload (O : Ok X cc nL own Z rm) {a : Nat} {cA : ClassId} {N : Nat} {f : Nat → Int32} (ha : gAt g a (.inl (cA, N, .inl f))) (t0 : Nat) (ht : Z.2.2.1[t0]? = some (cA, .int)) {i : Int32} (hi : vp_in i N) (d : decode cc pc = .ok (.iaload, 1)) (kk : J X nL Z g k n (pc + 1) lv (.int (f i.toNatClampNeg) :: st)) : J X nL Z g k n (pc) lv (.int i :: .ref a :: st) := by
  intro H locs ls a0 b h
  obtain ⟨q, hq⟩ := ha.k
  exact va_iald O.1.1 O.1.2.1 O.2.1 a0.1 q t0 hq ht hi d (kk H locs ls a0 b h)
theorem j_laload (O : Ok X cc nL own Z rm) {a : Nat} {cA : ClassId} {N : Nat} {f : Nat → Int64} (ha : gAt g a (.inl (cA, N, .inr (.inl f)))) (t0 : Nat) (ht : Z.2.2.1[t0]? = some (cA, .long)) {i : Int32} (hi : vp_in i N) (d : decode cc pc = .ok (.laload, 1)) (kk : J X nL Z g k n (pc + 1) lv (.long (f i.toNatClampNeg) :: st)) : J X nL Z g k n (pc) lv (.int i :: .ref a :: st) := by
  intro H locs ls a0 b h
  obtain ⟨q, hq⟩ := ha.k
  exact va_lald O.1.1 O.1.2.1 O.2.1 a0.1 q t0 hq ht hi d (kk H locs ls a0 b h)
theorem j_zaload (O : Ok X cc nL own Z rm) {a : Nat} {cA : ClassId} {N : Nat} {f : Nat → Int32} (ha : gAt g a (.inl (cA, N, .inl f))) (t0 : Nat) (ht : Z.2.2.1[t0]? = some (cA, .boolean)) {i : Int32} (hi : vp_in i N) (d : decode cc pc = .ok (.baload, 1)) (kk : J X nL Z g k n (pc + 1) lv (.int (f i.toNatClampNeg) :: st)) : J X nL Z g k n (pc) lv (.int i :: .ref a :: st) := by
  intro H locs ls a0 b h
  obtain ⟨q, hq⟩ := ha.k
  exact va_zald O.1.1 O.1.2.1 O.2.1 a0.1 q t0 hq ht hi d (kk H locs ls a0 b h)
theorem j_aaload (O : Ok X cc nL own Z rm) {a : Nat} {cA : ClassId} {C : String} {N : Nat} {f : Nat → Option Nat} (ha : gAt g a (.inl (cA, N, .inr (.inr (.inr (.inr f)))))) (t0 : Nat) (ht : Z.2.2.1[t0]? = some (cA, .object C)) {i : Int32} (hi : vp_in i N) (d : decode cc pc = .ok (.aaload, 1)) (kk : J X nL Z g k n (pc + 1) lv (va_rf (f i.toNatClampNeg) :: st)) : J X nL Z g k n (pc) lv (.int i :: .ref a :: st) := by
  intro H locs ls a0 b h
  obtain ⟨q, hq⟩ := ha.k
  exact va_aldq O.1.1 O.1.2.1 O.2.1 a0.1 q t0 hq ht hi d (kk H locs ls a0 b h)
theorem j_iastore (O : Ok X cc nL own Z rm) {a : Nat} {cA : ClassId} {N : Nat} {f : Nat → Int32} (ha : gAt g a (.inl (cA, N, .inl f))) (t0 : Nat) (ht : Z.2.2.1[t0]? = some (cA, .int)) {i : Int32} {x : Int32} (hi : vp_in i N) (d : decode cc pc = .ok (.iastore, 1)) (kk : ∀ g1 : GH, g1 = gUp g a (.inl (cA, N, .inl (upd f i.toNatClampNeg x))) → J X nL Z g1 k n (pc + 1) lv (st)) : J X nL Z g k n (pc) lv (.int x :: .int i :: .ref a :: st) := by
  intro H locs ls a0 b h
  obtain ⟨q, hq⟩ := ha.k
  refine va_iast O.1.1 O.1.2.1 O.2.1 a0.1 a0.2 b q t0 hq ht hi d (fun H1 locs1 p1 d1 s1 => ?_)
  rw [gSet a0.2 ha hq] at p1 d1
  exact kk _ rfl H1 locs1 ls ⟨p1, d1⟩ s1 h
theorem j_lastore (O : Ok X cc nL own Z rm) {a : Nat} {cA : ClassId} {N : Nat} {f : Nat → Int64} (ha : gAt g a (.inl (cA, N, .inr (.inl f)))) (t0 : Nat) (ht : Z.2.2.1[t0]? = some (cA, .long)) {i : Int32} {x : Int64} (hi : vp_in i N) (d : decode cc pc = .ok (.lastore, 1)) (kk : ∀ g1 : GH, g1 = gUp g a (.inl (cA, N, .inr (.inl (vp_updL f i.toNatClampNeg x)))) → J X nL Z g1 k n (pc + 1) lv (st)) : J X nL Z g k n (pc) lv (.long x :: .int i :: .ref a :: st) := by
  intro H locs ls a0 b h
  obtain ⟨q, hq⟩ := ha.k
  refine va_last O.1.1 O.1.2.1 O.2.1 a0.1 a0.2 b q t0 hq ht hi d (fun H1 locs1 p1 d1 s1 => ?_)
  rw [gSet a0.2 ha hq] at p1 d1
  exact kk _ rfl H1 locs1 ls ⟨p1, d1⟩ s1 h
theorem j_zastore (O : Ok X cc nL own Z rm) {a : Nat} {cA : ClassId} {N : Nat} {f : Nat → Int32} (ha : gAt g a (.inl (cA, N, .inl f))) (t0 : Nat) (ht : Z.2.2.1[t0]? = some (cA, .boolean)) {i : Int32} {x : Int32} (hi : vp_in i N) (d : decode cc pc = .ok (.bastore, 1)) (kk : ∀ g1 : GH, g1 = gUp g a (.inl (cA, N, .inl (upd f i.toNatClampNeg (vp_nar .boolean x)))) → J X nL Z g1 k n (pc + 1) lv (st)) : J X nL Z g k n (pc) lv (.int x :: .int i :: .ref a :: st) := by
  intro H locs ls a0 b h
  obtain ⟨q, hq⟩ := ha.k
  refine va_zast O.1.1 O.1.2.1 O.2.1 a0.1 a0.2 b q t0 hq ht hi d (fun H1 locs1 p1 d1 s1 => ?_)
  rw [gSet a0.2 ha hq] at p1 d1
  exact kk _ rfl H1 locs1 ls ⟨p1, d1⟩ s1 h
theorem j_aastore (O : Ok X cc nL own Z rm) {a : Nat} {cA : ClassId} {N : Nat} {f : Nat → Option Nat} (ha : gAt g a (.inl (cA, N, .inr (.inr (.inr (.inr f)))))) (t0 : Nat) {r : vw_C} (ht : Z.2.2.1[t0]? = some (cA, .object r.1)) {v ci : Nat} {vs : List Value} (hv : gAt g v (.inr (ci, vs))) (hc : Z.2.1[ci]? = some r) {i : Int32} (hi : vp_in i N) (d : decode cc pc = .ok (.aastore, 1)) (kk : ∀ g1 : GH, g1 = gUp g a (.inl (cA, N, .inr (.inr (.inr (.inr (va_up f i.toNatClampNeg (some v))))))) → J X nL Z g1 k n (pc + 1) lv (st)) : J X nL Z g k n (pc) lv (.ref v :: .int i :: .ref a :: st) := by
  intro H locs ls a0 b h
  obtain ⟨q, hq⟩ := ha.k
  obtain ⟨q2, hq2⟩ := hv.k
  refine va_astq O.1.1 O.1.2.1 O.2.1 a0.1 a0.2 b q t0 q2 ci hq ht hq2 hc hi d (fun H1 locs1 p1 d1 s1 => ?_)
  rw [gSet a0.2 ha hq] at p1 d1
  exact kk _ rfl H1 locs1 ls ⟨p1, d1⟩ s1 h
theorem j_aastoreN (O : Ok X cc nL own Z rm) {a : Nat} {cA : ClassId} {N : Nat} {f : Nat → Option Nat} (ha : gAt g a (.inl (cA, N, .inr (.inr (.inr (.inr f)))))) (t0 : Nat) {C : String} (ht : Z.2.2.1[t0]? = some (cA, .object C)) {i : Int32} (hi : vp_in i N) (d : decode cc pc = .ok (.aastore, 1)) (kk : ∀ g1 : GH, g1 = gUp g a (.inl (cA, N, .inr (.inr (.inr (.inr (va_up f i.toNatClampNeg none)))))) → J X nL Z g1 k n (pc + 1) lv (st)) : J X nL Z g k n (pc) lv (.null :: .int i :: .ref a :: st) := by
  intro H locs ls a0 b h
  obtain ⟨q, hq⟩ := ha.k
  refine va_astqN O.1.1 O.1.2.1 O.2.1 a0.1 a0.2 b q t0 hq ht hi d (fun H1 locs1 p1 d1 s1 => ?_)
  rw [gSet a0.2 ha hq] at p1 d1
  exact kk _ rfl H1 locs1 ls ⟨p1, d1⟩ s1 h
theorem j_iald (O : Ok X cc nL own Z rm) {a : Nat} {cA : ClassId} {N : Nat} {f : Nat → Int32} (ha : gAt g a (.inl (cA, N, .inl f))) (t0 : Nat) (ht : Z.2.2.1[t0]? = some (cA, .int)) {i : Nat} (hi : i < N) (hN : N < 2 ^ 31) (d : decode cc pc = .ok (.iaload, 1)) (kk : J X nL Z g k n (pc + 1) lv (.int (f i) :: st)) : J X nL Z g k n (pc) lv (.int (nI i) :: .ref a :: st) := by
  refine j_iaload O ha t0 ht (vp_in_nI hi hN) d ?_
  rw [nI_clamp (by omega)]
  exact kk
theorem j_lald (O : Ok X cc nL own Z rm) {a : Nat} {cA : ClassId} {N : Nat} {f : Nat → Int64} (ha : gAt g a (.inl (cA, N, .inr (.inl f)))) (t0 : Nat) (ht : Z.2.2.1[t0]? = some (cA, .long)) {i : Nat} (hi : i < N) (hN : N < 2 ^ 31) (d : decode cc pc = .ok (.laload, 1)) (kk : J X nL Z g k n (pc + 1) lv (.long (f i) :: st)) : J X nL Z g k n (pc) lv (.int (nI i) :: .ref a :: st) := by
  refine j_laload O ha t0 ht (vp_in_nI hi hN) d ?_
  rw [nI_clamp (by omega)]
  exact kk
theorem j_zald (O : Ok X cc nL own Z rm) {a : Nat} {cA : ClassId} {N : Nat} {f : Nat → Int32} (ha : gAt g a (.inl (cA, N, .inl f))) (t0 : Nat) (ht : Z.2.2.1[t0]? = some (cA, .boolean)) {i : Nat} (hi : i < N) (hN : N < 2 ^ 31) (d : decode cc pc = .ok (.baload, 1)) (kk : J X nL Z g k n (pc + 1) lv (.int (f i) :: st)) : J X nL Z g k n (pc) lv (.int (nI i) :: .ref a :: st) := by
  refine j_zaload O ha t0 ht (vp_in_nI hi hN) d ?_
  rw [nI_clamp (by omega)]
  exact kk
theorem j_aald (O : Ok X cc nL own Z rm) {a : Nat} {cA : ClassId} {C : String} {N : Nat} {f : Nat → Option Nat} (ha : gAt g a (.inl (cA, N, .inr (.inr (.inr (.inr f)))))) (t0 : Nat) (ht : Z.2.2.1[t0]? = some (cA, .object C)) {i : Nat} (hi : i < N) (hN : N < 2 ^ 31) (d : decode cc pc = .ok (.aaload, 1)) (kk : J X nL Z g k n (pc + 1) lv (va_rf (f i) :: st)) : J X nL Z g k n (pc) lv (.int (nI i) :: .ref a :: st) := by
  refine j_aaload O ha t0 ht (vp_in_nI hi hN) d ?_
  rw [nI_clamp (by omega)]
  exact kk
theorem j_iast (O : Ok X cc nL own Z rm) {a : Nat} {cA : ClassId} {N : Nat} {f : Nat → Int32} (ha : gAt g a (.inl (cA, N, .inl f))) (t0 : Nat) (ht : Z.2.2.1[t0]? = some (cA, .int)) {i : Nat} (hi : i < N) (hN : N < 2 ^ 31) {x : Int32} (d : decode cc pc = .ok (.iastore, 1)) (kk : ∀ g1 : GH, g1 = gUp g a (.inl (cA, N, .inl (upd f i x))) → J X nL Z g1 k n (pc + 1) lv (st)) : J X nL Z g k n (pc) lv (.int x :: .int (nI i) :: .ref a :: st) := by
  refine j_iastore O ha t0 ht (vp_in_nI hi hN) d (fun g1 e => kk g1 ?_)
  rw [nI_clamp (by omega)] at e
  exact e
theorem j_last (O : Ok X cc nL own Z rm) {a : Nat} {cA : ClassId} {N : Nat} {f : Nat → Int64} (ha : gAt g a (.inl (cA, N, .inr (.inl f)))) (t0 : Nat) (ht : Z.2.2.1[t0]? = some (cA, .long)) {i : Nat} (hi : i < N) (hN : N < 2 ^ 31) {x : Int64} (d : decode cc pc = .ok (.lastore, 1)) (kk : ∀ g1 : GH, g1 = gUp g a (.inl (cA, N, .inr (.inl (vp_updL f i x)))) → J X nL Z g1 k n (pc + 1) lv (st)) : J X nL Z g k n (pc) lv (.long x :: .int (nI i) :: .ref a :: st) := by
  refine j_lastore O ha t0 ht (vp_in_nI hi hN) d (fun g1 e => kk g1 ?_)
  rw [nI_clamp (by omega)] at e
  exact e
theorem j_aast (O : Ok X cc nL own Z rm) {a : Nat} {cA : ClassId} {N : Nat} {f : Nat → Option Nat} (ha : gAt g a (.inl (cA, N, .inr (.inr (.inr (.inr f)))))) (t0 : Nat) {r : vw_C} (ht : Z.2.2.1[t0]? = some (cA, .object r.1)) {v ci : Nat} {vs : List Value} (hv : gAt g v (.inr (ci, vs))) (hc : Z.2.1[ci]? = some r) {i : Nat} (hi : i < N) (hN : N < 2 ^ 31) (d : decode cc pc = .ok (.aastore, 1)) (kk : ∀ g1 : GH, g1 = gUp g a (.inl (cA, N, .inr (.inr (.inr (.inr (va_up f i (some v))))))) → J X nL Z g1 k n (pc + 1) lv (st)) : J X nL Z g k n (pc) lv (.ref v :: .int (nI i) :: .ref a :: st) := by
  refine j_aastore O ha t0 ht hv hc (vp_in_nI hi hN) d (fun g1 e => kk g1 ?_)
  rw [nI_clamp (by omega)] at e
  exact e
theorem j_aastN (O : Ok X cc nL own Z rm) {a : Nat} {cA : ClassId} {N : Nat} {f : Nat → Option Nat} (ha : gAt g a (.inl (cA, N, .inr (.inr (.inr (.inr f)))))) (t0 : Nat) {C : String} (ht : Z.2.2.1[t0]? = some (cA, .object C)) {i : Nat} (hi : i < N) (hN : N < 2 ^ 31) (d : decode cc pc = .ok (.aastore, 1)) (kk : ∀ g1 : GH, g1 = gUp g a (.inl (cA, N, .inr (.inr (.inr (.inr (va_up f i none)))))) → J X nL Z g1 k n (pc + 1) lv (st)) : J X nL Z g k n (pc) lv (.null :: .int (nI i) :: .ref a :: st) := by
  refine j_aastoreN O ha t0 ht (vp_in_nI hi hN) d (fun g1 e => kk g1 ?_)
  rw [nI_clamp (by omega)] at e
  exact e
theorem j_objInit (O : Ok X cc nL own Z rm) {idx : Nat} (hlink : Cond.methodLink own idx objectInit ∈ aw) (hinst : Cond.instanceMethod objectInit ∈ aw) (hcode : Cond.code objectInit ⟨#[0xb1]⟩ 1 none ∈ aw) {a : Nat} (d : decode cc pc = .ok (.invokespecial idx, 3)) (hfr : 1 ≤ rm.frames) (hlo : (st.map fun v => v.category).sum + 12 ≤ rm.locals) (kk : J X nL Z g k n (pc + 3) lv (st)) : J X nL Z g k n (pc) lv (.ref a :: st) := by
  intro H locs ls a0 b h
  exact W.objInit O.1.1 O.1.2.1 O.1.2.2.2.1 (O.b hlink) (O.b hinst) (O.b hcode) (g := F0 X.2.2.2.2.2.1 pc ls (.ref a :: st)) rfl (h.1.trans O.1.2.2.1.symm) rfl d (by rw [O.2.2.2.1]; exact hfr) (by rw [O.2.2.2.1]; show 2 * 0 + _ + 12 ≤ _; omega) (kk H locs ls a0 b h)
theorem j_run (O : Ok X cc nL own Z rm) {mc ms : Nat} {post : Option Value → GH → Prop} {a : Array Value} {st0 : List Value} (hr : ∀ (H : Heap) (locs : List Loc) (ls : Array Slot), gW Z g H → va_S (zA Z) X.2.2.2.2.1.heap H locs → lv_has ls nL lv → va_Run X.1 X.2.1 X.2.2.1 X.2.2.2.1 X.2.2.2.2.1 X.2.2.2.2.2.1 X.2.2.2.2.2.2.1 X.2.2.2.2.2.2.2.1 X.2.2.2.2.2.2.2.2.1 X.2.2.2.2.2.2.2.2.2.1 H locs k n mc ms (F0 X.2.2.2.2.2.1 pc ls st0) st (jQ Z post a) (zA Z)) (kk : ∀ (v : Option Value) (g' : GH), post v g' → J X nL Z g' (k + mc) (n + ms) (pc + 3) lv (v.toList ++ st)) : J X nL Z g k n (pc) lv (st0) := by
  intro H locs ls a0 b h T hT X0
  obtain ⟨v, s0, t, T', L, h0, X', hL, e1, e2, ⟨⟨v', g', hv, hp, hb⟩, hz, hk⟩, sx⟩ := hr H locs ls a0 b h T hT X0
  cases hv
  rw [h0] at hz hk
  obtain ⟨t2, a1, b1⟩ := kk v g' hp T'.heap (locs ++ L) ls (by rw [e1]; exact hb) ⟨Nat.le_trans b.1 (by rw [e1]; exact hz), fun q h1 h2 => by rw [e1, hk q (Nat.lt_of_lt_of_le h1 b.1) h2]; exact b.2.1 q h1 h2, fun q hq => by
      rcases List.mem_append.mp hq with h | h
      · exact b.2.2 q h
      · exact hL q h⟩ h T' rfl X'
  exact ⟨t2, sx t2 a1, b1⟩
theorem Ok.pre (O : Ok X cc nL own Z rm) {H : Heap} {locs : List Loc} (a0 : gW Z g H) (b : va_S (zA Z) X.2.2.2.2.1.heap H locs) {av : List Value} (U : State) (hU : U.heap = H) (hW : X.2.2.2.2.1.WarmedH U.vm) : va_Pc av (gB Z g) av.toArray U :=
  ⟨rfl, by rw [hU]; exact a0, va_K.moved hW.alike O.2.1, fun q h => O.2.2.1 q (Nat.le_trans b.1 (by rw [← hU]; exact h)), O.2.2.2.2.warm hW⟩
theorem j_callS (O : Ok X cc nL own Z rm) {y : MethodName} {bytes : ByteArray} {maxL mc ms index : Nat} {ret : Option FieldType} {rm2 : Room} {post : Option Value → GH → Prop} (As : List Value) (hM : Ct X.2.1 y (.code y bytes maxL ret :: aw) rm2 Z As g mc ms post) (hml : Cond.methodLink own index y ∈ aw) (hst1 : Cond.static y ∈ aw) (hini : Cond.initialized y.cls ∈ aw) (hcd : Cond.code y bytes maxL ret ∈ aw) (np : Nat) (hnp : As.length = np) (hrc : rm2.cells = mc) (hrs : rm2.slots = ms) (hd : y.cls ≠ "java/lang/invoke/MethodHandle" ∧ y.cls ≠ "java/lang/invoke/VarHandle" ∧ (parseMethodDescriptor y.desc).map (fun d => d.parameters.length) = some np) (hR : rm2.frames + 1 ≤ rm.frames ∧ 8 + (maxL + 11) + rm2.locals ≤ rm.locals) {st0 : List Value} (hst : st0 = As.reverse ++ st) (hs : (st.map fun v => v.category).sum ≤ 8) (d : decode cc pc = .ok (.invokestatic index, 3)) (hcs : k + mc ≤ rm.cells ∧ n + ms ≤ rm.slots) (kk : ∀ (v : Option Value) (g' : GH), post v g' → J X nL Z g' (k + mc) (n + ms) (pc + 3) lv (v.toList ++ st)) : J X nL Z g k n (pc) lv (st0) := by
  subst hnp
  refine j_run O (a := As.toArray) (fun H locs ls a0 b h => ?_) kk
  exact va_runS (As := As) (rest := st) O.1 hM (va_cwS As.length O.1.2.2.2.2 (gWs hml hst1 hini hcd) rfl hrc hrs hd (by rw [O.2.2.2.1]; exact hR)) ⟨fun a U fr mk q => ⟨q.1, q.2.blind⟩, fun U hU hW => O.pre a0 b U hU hW⟩ rfl rfl h.1 hst (lv_room hs) d (by rw [O.2.2.2.1]; exact hcs)
theorem j_callV (O : Ok X cc nL own Z rm) {y : MethodName} {bytes : ByteArray} {maxL mc ms index : Nat} {ret : Option FieldType} {rm2 : Room} {post : Option Value → GH → Prop} {C : String} {b0 ci : Nat} {T : u_T} {N : Nat} {fs : List Value} (As : List Value) (hM : Ct X.2.1 y (.code y bytes maxL ret :: aw) rm2 Z (.ref b0 :: As) g mc ms post) (ha : gAt g b0 (.inr (ci, fs))) (hc : Z.2.1[ci]? = some (C, T, N)) (hml : Cond.methodLink own index y ∈ aw) (him : Cond.instanceMethod y ∈ aw) (hsel : Cond.selects C y y ∈ aw) (hini : Cond.initialized C ∈ aw) (hcd : Cond.code y bytes maxL ret ∈ aw) (np : Nat) (hnp : As.length = np) (hrc : rm2.cells = mc) (hrs : rm2.slots = ms) (hd : y.cls = C ∧ y.cls ≠ "java/lang/invoke/MethodHandle" ∧ y.cls ≠ "java/lang/invoke/VarHandle" ∧ (parseMethodDescriptor y.desc).map (fun d => d.parameters.length) = some np) (hR : rm2.frames + 1 ≤ rm.frames ∧ 8 + (maxL + 11) + rm2.locals ≤ rm.locals) {st0 : List Value} (hst : st0 = As.reverse ++ .ref b0 :: st) (hs : (st.map fun v => v.category).sum ≤ 8) (d : decode cc pc = .ok (.invokevirtual index, 3)) (hcs : k + mc ≤ rm.cells ∧ n + ms ≤ rm.slots) (kk : ∀ (v : Option Value) (g' : GH), post v g' → J X nL Z g' (k + mc) (n + ms) (pc + 3) lv (v.toList ++ st)) : J X nL Z g k n (pc) lv (st0) := by
  subst hnp
  refine j_run O (a := (Value.ref b0 :: As).toArray) (fun H locs ls a0 b h => ?_) kk
  obtain ⟨q, hq⟩ := ha.k
  exact va_runV (As := As) (rest := st) O.1 hM (cwV As.length O.1.2.2.2.2 (gWv hml him hsel hini hcd) rfl hrc hrs hd (by rw [O.2.2.2.1]; exact hR)) ⟨fun a U fr mk q => ⟨q.1, q.2.blind⟩, va_recv O.2.1 a0.1 hc hq, fun U hU hW => O.pre a0 b U hU hW⟩ rfl rfl h.1 hst (lv_room hs) d (by rw [O.2.2.2.1]; exact hcs)
theorem j_callI (O : Ok X cc nL own Z rm) {y : MethodName} {bytes : ByteArray} {maxL mc ms index : Nat} {rm2 : Room} {post : Option Value → GH → Prop} {b0 : Nat} (As : List Value) (hM : Ct X.2.1 y (.code y bytes maxL none :: aw) rm2 Z (.ref b0 :: As) g mc ms post) (hcd : Cond.code y bytes maxL none ∈ aw) (np : Nat) (hnp : As.length = np) (hrc : rm2.cells = mc) (hrs : rm2.slots = ms) (hini : Cond.initialized y.cls ∈ aw) (hml : Cond.methodLink own index y ∈ aw) (him : Cond.instanceMethod y ∈ aw) (hy1 : y.name = "<init>") (hd : y.cls ≠ "java/lang/invoke/MethodHandle" ∧ y.cls ≠ "java/lang/invoke/VarHandle" ∧ (parseMethodDescriptor y.desc).map (fun d => d.parameters.length) = some np) (hR : rm2.frames + 1 ≤ rm.frames ∧ 8 + (maxL + 11) + rm2.locals ≤ rm.locals) {st0 : List Value} (hst : st0 = As.reverse ++ .ref b0 :: st) (hs : (st.map fun v => v.category).sum ≤ 8) (d : decode cc pc = .ok (.invokespecial index, 3)) (hcs : k + mc ≤ rm.cells ∧ n + ms ≤ rm.slots) (kk : ∀ (v : Option Value) (g' : GH), post v g' → J X nL Z g' (k + mc) (n + ms) (pc + 3) lv (v.toList ++ st)) : J X nL Z g k n (pc) lv (st0) := by
  subst hnp
  refine j_run O (a := (Value.ref b0 :: As).toArray) (fun H locs ls a0 b h => ?_) kk
  exact va_runI (As := As) (rest := st) O.1 hM (cwI As.length O.1.2.2.2.2 (gWc hcd) rfl hrc hrs (O.b hini) (O.b hml) (O.b him) hy1 hd (by rw [O.2.2.2.1]; exact hR)) ⟨fun a U fr mk q => ⟨q.1, q.2.blind⟩, fun U hU hW => O.pre a0 b U hU hW⟩ rfl rfl h.1 hst (lv_room hs) d (by rw [O.2.2.2.1]; exact hcs)
theorem j_callSN (O : Ok X cc nL own Z rm) {y : MethodName} {bytes : ByteArray} {maxL mc ms index : Nat} {ret : Option FieldType} {rm2 : Room} {post : Option Value → GH → Prop} {host : String} (As : List Value) (hM : Ct X.2.1 y (.code y bytes maxL ret :: aw) rm2 Z As g mc ms post) (hcd : Cond.code y bytes maxL ret ∈ aw) (np : Nat) (hnp : As.length = np) (hrc : rm2.cells = mc) (hrs : rm2.slots = ms) (hnl : Cond.methodLinkNest own index y host ∈ Z.2.2.2.1) (hini : Cond.initialized y.cls ∈ aw) (hstat : Cond.static y ∈ aw) (hd : y.cls ≠ "java/lang/invoke/MethodHandle" ∧ y.cls ≠ "java/lang/invoke/VarHandle" ∧ (parseMethodDescriptor y.desc).map (fun d => d.parameters.length) = some np) (hR : rm2.frames + 1 ≤ rm.frames ∧ 8 + (maxL + 11) + rm2.locals ≤ rm.locals) {st0 : List Value} (hst : st0 = As.reverse ++ st) (hs : (st.map fun v => v.category).sum ≤ 8) (d : decode cc pc = .ok (.invokestatic index, 3)) (hcs : k + mc ≤ rm.cells ∧ n + ms ≤ rm.slots) (kk : ∀ (v : Option Value) (g' : GH), post v g' → J X nL Z g' (k + mc) (n + ms) (pc + 3) lv (v.toList ++ st)) : J X nL Z g k n (pc) lv (st0) := by
  subst hnp
  refine j_run O (a := As.toArray) (fun H locs ls a0 b h => ?_) kk
  exact va_runSN (As := As) (rest := st) O.1 hM ⟨va_cnB As.length O.1.2.2.2.2 (gWc hcd) rfl hrc hrs (O.2.2.2.2 _ hnl).2.2 (O.b hini) hd (by rw [O.2.2.2.1]; exact hR), O.b hstat, trivial⟩ ⟨fun a U fr mk q => ⟨q.1, q.2.blind⟩, fun U hU hW => O.pre a0 b U hU hW⟩ rfl rfl h.1 hst (lv_room hs) d (by rw [O.2.2.2.1]; exact hcs)
theorem j_callIN (O : Ok X cc nL own Z rm) {y : MethodName} {bytes : ByteArray} {maxL mc ms index : Nat} {rm2 : Room} {post : Option Value → GH → Prop} {host : String} {b0 : Nat} (As : List Value) (hM : Ct X.2.1 y (.code y bytes maxL none :: aw) rm2 Z (.ref b0 :: As) g mc ms post) (hcd : Cond.code y bytes maxL none ∈ aw) (np : Nat) (hnp : As.length = np) (hrc : rm2.cells = mc) (hrs : rm2.slots = ms) (hnl : Cond.methodLinkNest own index y host ∈ Z.2.2.2.1) (hini : Cond.initialized y.cls ∈ aw) (him : Cond.instanceMethod y ∈ aw) (hy1 : y.name = "<init>") (hd : y.cls ≠ "java/lang/invoke/MethodHandle" ∧ y.cls ≠ "java/lang/invoke/VarHandle" ∧ (parseMethodDescriptor y.desc).map (fun d => d.parameters.length) = some np) (hR : rm2.frames + 1 ≤ rm.frames ∧ 8 + (maxL + 11) + rm2.locals ≤ rm.locals) {st0 : List Value} (hst : st0 = As.reverse ++ .ref b0 :: st) (hs : (st.map fun v => v.category).sum ≤ 8) (d : decode cc pc = .ok (.invokespecial index, 3)) (hcs : k + mc ≤ rm.cells ∧ n + ms ≤ rm.slots) (kk : ∀ (v : Option Value) (g' : GH), post v g' → J X nL Z g' (k + mc) (n + ms) (pc + 3) lv (v.toList ++ st)) : J X nL Z g k n (pc) lv (st0) := by
  subst hnp
  refine j_run O (a := (Value.ref b0 :: As).toArray) (fun H locs ls a0 b h => ?_) kk
  exact va_runIN (As := As) (rest := st) O.1 hM ⟨va_cnB As.length O.1.2.2.2.2 (gWc hcd) rfl hrc hrs (O.2.2.2.2 _ hnl).2.2 (O.b hini) hd (by rw [O.2.2.2.1]; exact hR), hy1, O.b him⟩ ⟨fun a U fr mk q => ⟨q.1, q.2.blind⟩, fun U hU hW => O.pre a0 b U hU hW⟩ rfl rfl h.1 hst (lv_room hs) d (by rw [O.2.2.2.1]; exact hcs)
theorem j_iret (O : Ok X cc nL own Z rm) {mc ms : Nat} {post : Option Value → GH → Prop} {v : Int32} (M : Om X Z (some .int) mc ms post) (h1 : k ≤ mc) (h2 : n ≤ ms) (hp : post (some (.int v)) g) (d : decode cc pc = .ok (.ireturn, 1)) : J X nL Z g k n (pc) lv ([.int v]) := by
  intro H locs ls a0 b h
  rw [M.2.2]
  refine W.widen h1 h2 ?_
  exact W.iret O.1.1 O.1.2.1 M.1 (fun t ht hW => ⟨⟨_, g, rfl, hp, by rw [ht]; exact a0⟩, b.F ht⟩) b.2.2 d M.2.1
theorem j_zret (O : Ok X cc nL own Z rm) {mc ms : Nat} {post : Option Value → GH → Prop} {v : Int32} (hz : narrow .boolean (.int v) = .int v) (M : Om X Z (some .boolean) mc ms post) (h1 : k ≤ mc) (h2 : n ≤ ms) (hp : post (some (.int v)) g) (d : decode cc pc = .ok (.ireturn, 1)) : J X nL Z g k n (pc) lv ([.int v]) := by
  intro H locs ls a0 b h
  rw [M.2.2]
  refine W.widen h1 h2 ?_
  exact W.zret O.1.1 O.1.2.1 M.1 hz (fun t ht hW => ⟨⟨_, g, rfl, hp, by rw [ht]; exact a0⟩, b.F ht⟩) b.2.2 d M.2.1
theorem j_lret (O : Ok X cc nL own Z rm) {mc ms : Nat} {post : Option Value → GH → Prop} {v : Int64} (M : Om X Z (some .long) mc ms post) (h1 : k ≤ mc) (h2 : n ≤ ms) (hp : post (some (.long v)) g) (d : decode cc pc = .ok (.lreturn, 1)) : J X nL Z g k n (pc) lv ([.long v]) := by
  intro H locs ls a0 b h
  rw [M.2.2]
  refine W.widen h1 h2 ?_
  exact W.lret O.1.1 O.1.2.1 M.1 (fun t ht hW => ⟨⟨_, g, rfl, hp, by rw [ht]; exact a0⟩, b.F ht⟩) b.2.2 d M.2.1
theorem j_vret (O : Ok X cc nL own Z rm) {mc ms : Nat} {post : Option Value → GH → Prop}  (M : Om X Z none mc ms post) (h1 : k ≤ mc) (h2 : n ≤ ms) (hp : post none g) (d : decode cc pc = .ok (.return_, 1)) : J X nL Z g k n (pc) lv ([]) := by
  intro H locs ls a0 b h
  rw [M.2.2]
  refine W.widen h1 h2 ?_
  exact W.vret O.1.1 O.1.2.1 M.1 (fun t ht hW => ⟨⟨_, g, rfl, hp, by rw [ht]; exact a0⟩, b.F ht⟩) b.2.2 d M.2.1
theorem j_aret (O : Ok X cc nL own Z rm) {mc ms : Nat} {post : Option Value → GH → Prop} {rt : FieldType} {o : Option Nat} (hrt : (∃ n, rt = .object n) ∨ ∃ t, rt = .array t) (M : Om X Z (some rt) mc ms post) (h1 : k ≤ mc) (h2 : n ≤ ms) (hp : post (some (va_rf o)) g) (d : decode cc pc = .ok (.areturn, 1)) : J X nL Z g k n (pc) lv ([va_rf o]) := by
  intro H locs ls a0 b h
  rw [M.2.2]
  refine W.widen h1 h2 ?_
  exact W.aret O.1.1 O.1.2.1 M.1 hrt (by cases o with | none => exact Or.inl rfl | some x => exact Or.inr ⟨x, rfl⟩) (fun t ht hW => ⟨⟨_, g, rfl, hp, by rw [ht]; exact a0⟩, b.F ht⟩) b.2.2 d M.2.1
end JR
theorem Ct.of {l : Launch} {y : MethodName} {rm : Room} {Z : ZZ} {av : List Value} {g : GH} {mc ms : Nat} {post : Option Value → GH → Prop} {cc : ByteArray} {maxL : Nat} {ret : Option FieldType} (hy : plainName y.cls = true) (hlen : (lg_sl av).length ≤ maxL)
    (body : ∀ X : CX, X.2.1 = l → Ok X cc maxL y.cls Z rm → Om X Z ret mc ms post → (y.name = "<init>" → On X) → J X maxL Z g 0 0 0 (lv_args 0 av) []) : Ct l y (.code y cc maxL ret :: aw) rm Z av g mc ms post := by
  refine Met.ofW (cc := cc) (maxL := maxL) (ret := ret) hy rfl ?_
  intro p e s m args below meth c s1 B hml hv
  obtain ⟨rfl, hB⟩ := hv
  have hown : s.vm.findClass y.cls = some m.cls := findClass_of_methodNamed B.named
  have hl := lv_entry av (n := maxL) hlen
  rw [lg_entry_eq]
  exact body (p, l, e, rm, s, m, av.toArray, below, meth, c, MQ below (jQ Z post) av.toArray s mc ms (zA Z)) rfl ⟨⟨B.exec, B.bytes, hml, hown, fun w hw => atoms_spec (ws := .code y cc maxL ret :: aw) B.pre w (List.mem_cons_of_mem _ hw)⟩, hB.2.1, hB.2.2.1, rfl, hB.2.2.2⟩ ⟨B.returns, B.notSynchronized, rfl⟩ (fun hn => (name_of_methodNamed B.named B.method).1.trans hn) s.heap [] _ hB.1 va_S.rf hl
end
section
/-! Two ghost heaps side by side: the law's world is the system's cells and the reference's cells; a call touches one of them. Kp: what a stretch of code keeps. -/
theorem gP_iff {D : va_G} {cl : List vw_C} {L : List Nat} {f : Nat → va_E} {H : Heap} : va_P D cl (va_pl L f) H ↔ ∀ a ∈ L, va_at D cl (a, f a) H := by
  constructor
  · intro h a ha
    obtain ⟨k, hk⟩ := gAt.k (g := (L, f)) ⟨ha, rfl⟩
    exact h k _ hk
  · intro h k q hk
    obtain ⟨a, ha, rfl⟩ := List.mem_map.mp (List.mem_of_getElem? hk)
    exact h a ha
theorem gD_iff {A : Nat → Prop} {L : List Nat} {f : Nat → va_E} : va_D A (va_pl L f) ↔ L.Nodup ∧ ∀ a ∈ L, A a := by
  constructor
  · intro h
    constructor
    · rw [List.Nodup, List.pairwise_iff_getElem]
      intro i j hi hj hij he
      have h1 : (va_pl L f)[i]? = some (L[i], f L[i]) := by simp [va_pl, hi]
      have h2 : (va_pl L f)[j]? = some (L[j], f L[j]) := by simp [va_pl, hj]
      have := h.1 i j _ _ h1 h2 he
      omega
    · intro a ha
      obtain ⟨k, hk⟩ := gAt.k (g := (L, f)) ⟨ha, rfl⟩
      exact h.2 k _ hk
  · intro h
    have hn := h.1
    rw [List.Nodup, List.pairwise_iff_getElem] at hn
    refine ⟨fun i j p q hp hq hpq => ?_, fun k q hk => ?_⟩
    · have hi : i < L.length := by have := (List.getElem?_eq_some_iff.mp hp).1; simpa [va_pl] using this
      have hj : j < L.length := by have := (List.getElem?_eq_some_iff.mp hq).1; simpa [va_pl] using this
      have e1 : L[i] = p.1 := by
        have : (va_pl L f)[i]? = some (L[i], f L[i]) := by simp [va_pl, hi]
        rw [this] at hp
        exact (congrArg Prod.fst (Option.some.inj hp))
      have e2 : L[j] = q.1 := by
        have : (va_pl L f)[j]? = some (L[j], f L[j]) := by simp [va_pl, hj]
        rw [this] at hq
        exact (congrArg Prod.fst (Option.some.inj hq))
      rcases Nat.lt_trichotomy i j with c | c | c
      · exact absurd (e1.trans (hpq.trans e2.symm)) (hn i j hi hj c)
      · exact c
      · exact absurd (e2.trans (hpq.symm.trans e1.symm)) (hn j i hj hi c)
    · obtain ⟨a, ha, rfl⟩ := List.mem_map.mp (List.mem_of_getElem? hk)
      exact h.2 a ha
theorem gW_iff {Z : ZZ} {g : GH} {H : Heap} : gW Z g H ↔ (∀ a ∈ g.1, va_at Z.1 Z.2.1 (a, g.2 a) H) ∧ g.1.Nodup ∧ ∀ a ∈ g.1, zA Z a := by
  unfold gW
  rw [gP_iff, gD_iff]
def gPl (g1 g2 : GH) : GH := (g1.1 ++ g2.1, fun a => if a ∈ g1.1 then g1.2 a else g2.2 a)
/-- what is needed of g1 beside g2 -/
theorem gPl_iff {Z : ZZ} {g1 g2 : GH} {H : Heap} : gW Z (gPl g1 g2) H ↔ gW Z g1 H ∧ gW Z g2 H ∧ ∀ a ∈ g1.1, a ∉ g2.1 := by
  rw [gW_iff, gW_iff, gW_iff]
  constructor
  · rintro ⟨h1, h2, h3⟩
    have h2' := List.nodup_append.mp h2
    have hdis : ∀ a ∈ g1.1, a ∉ g2.1 := fun a ha hb => h2'.2.2 a ha a hb rfl
    refine ⟨⟨fun a ha => ?_, h2'.1, fun a ha => h3 a (List.mem_append_left _ ha)⟩, ⟨fun a ha => ?_, h2'.2.1, fun a ha => h3 a (List.mem_append_right _ ha)⟩, hdis⟩
    · have := h1 a (List.mem_append_left _ ha)
      simp only [gPl, if_pos ha] at this
      exact this
    · have := h1 a (List.mem_append_right _ ha)
      have hn : a ∉ g1.1 := fun q => hdis a q ha
      simp only [gPl, if_neg hn] at this
      exact this
  · rintro ⟨⟨a1, a2, a3⟩, ⟨b1, b2, b3⟩, hdis⟩
    refine ⟨fun a ha => ?_, List.nodup_append.mpr ⟨a2, b2, fun a ha b hb q => hdis a ha (q ▸ hb)⟩, fun a ha => ?_⟩
    · by_cases hq : a ∈ g1.1
      · simp only [gPl, if_pos hq]
        exact a1 a hq
      · simp only [gPl, if_neg hq]
        rcases List.mem_append.mp ha with h | h
        · exact absurd h hq
        · exact b1 a h
    · rcases List.mem_append.mp ha with h | h
      · exact a3 a h
      · exact b3 a h
theorem gPl_comm {Z : ZZ} {g1 g2 : GH} {H : Heap} (h : gW Z (gPl g1 g2) H) : gW Z (gPl g2 g1) H := by
  rw [gPl_iff] at h ⊢
  exact ⟨h.2.1, h.1, fun a ha hb => h.2.2 a hb ha⟩
section JF
variable {X : CX} {cc : ByteArray} {nL : Nat} {own : String} {Z : ZZ} {rm : Room} {g g1 g2 : GH} {k n pc : Nat} {lv : List (Nat × Value)} {st : List Value}
theorem J.comm (kk : J X nL Z (gPl g2 g1) k n pc lv st) : J X nL Z (gPl g1 g2) k n pc lv st := fun H locs ls a b h => kk H locs ls (gPl_comm a) b h
/-- a call beside a frame g2: the callee's contract speaks of g1 alone, whatever may change -/
theorem j_runF (O : Ok X cc nL own Z rm) {mc ms : Nat} {post : Option Value → GH → Prop} {a : Array Value} {st0 : List Value}
    (hr : ∀ (H : Heap) (locs : List Loc) (ls : Array Slot) (A1 : Nat → Prop), A1 = (fun q => q ∈ g1.1 ∨ H.size ≤ q) → gW (Z.1, Z.2.1, Z.2.2.1, Z.2.2.2.1, A1) g1 H → va_S (zA Z) X.2.2.2.2.1.heap H locs → lv_has ls nL lv → va_Run X.1 X.2.1 X.2.2.1 X.2.2.2.1 X.2.2.2.2.1 X.2.2.2.2.2.1 X.2.2.2.2.2.2.1 X.2.2.2.2.2.2.2.1 X.2.2.2.2.2.2.2.2.1 X.2.2.2.2.2.2.2.2.2.1 H locs k n mc ms (F0 X.2.2.2.2.2.1 pc ls st0) st (jQ (Z.1, Z.2.1, Z.2.2.1, Z.2.2.2.1, A1) post a) A1)
    (kk : ∀ (v : Option Value) (g' : GH), post v g' → J X nL Z (gPl g' g2) (k + mc) (n + ms) (pc + 3) lv (v.toList ++ st)) : J X nL Z (gPl g1 g2) k n pc lv st0 := by
  intro H locs ls a0 b h T hT X0
  obtain ⟨w1, w2, hdis⟩ := gPl_iff.mp a0
  have w1' := gW_iff.mp w1
  have w2' := gW_iff.mp w2
  have hW1 : gW (Z.1, Z.2.1, Z.2.2.1, Z.2.2.2.1, fun q => q ∈ g1.1 ∨ H.size ≤ q) g1 H := gW_iff.mpr ⟨w1'.1, w1'.2.1, fun a ha => Or.inl ha⟩
  have hA : ∀ q : Nat, (q ∈ g1.1 ∨ H.size ≤ q) → zA Z q := by
    rintro q (h1 | h1)
    · exact w1'.2.2 q h1
    · exact O.2.2.1 q (Nat.le_trans b.1 h1)
  obtain ⟨v, s0, t, T', L, h0, X', hL, e1, e2, ⟨⟨v', g', hv, hp, hb⟩, hz, hk⟩, sx⟩ := hr H locs ls _ rfl hW1 b h T hT X0
  cases hv
  rw [h0] at hz hk
  have hn2 : ∀ a ∈ g2.1, a < H.size ∧ ¬ (a ∈ g1.1 ∨ H.size ≤ a) := by
    intro a ha
    have hl : a < H.size := (w2'.1 a ha).lt
    exact ⟨hl, fun q => by
      rcases q with q | q
      · exact hdis a q ha
      · omega⟩
  have b1 := gW_iff.mp hb
  have hW' : gW Z (gPl g' g2) T'.heap := by
    rw [gPl_iff, gW_iff, gW_iff, e1]
    refine ⟨⟨b1.1, b1.2.1, fun a ha => hA a (b1.2.2 a ha)⟩, ⟨fun a ha => ?_, w2'.2.1, w2'.2.2⟩, fun a ha hb2 => (hn2 a hb2).2 (b1.2.2 a ha)⟩
    exact (w2'.1 a ha).kept (hk a (hn2 a ha).1 (hn2 a ha).2)
  obtain ⟨t2, a1, c1⟩ := kk v g' hp T'.heap (locs ++ L) ls hW' ⟨Nat.le_trans b.1 (by rw [e1]; exact hz), fun q h1 h2 => by rw [e1, hk q (Nat.lt_of_lt_of_le h1 b.1) (fun z => h2 (hA q z))]; exact b.2.1 q h1 h2, fun q hq => by
      rcases List.mem_append.mp hq with h | h
      · exact b.2.2 q h
      · exact hA _ (hL q h)⟩ h T' rfl X'
  exact ⟨t2, sx t2 a1, c1⟩
theorem j_callVF (O : Ok X cc nL own Z rm) {y : MethodName} {bytes : ByteArray} {maxL mc ms index : Nat} {ret : Option FieldType} {rm2 : Room} {post : Option Value → GH → Prop} {C : String} {b0 ci : Nat} {T : u_T} {N : Nat} {fs : List Value} (As : List Value) (hM : ∀ A1 : Nat → Prop, Ct X.2.1 y (.code y bytes maxL ret :: aw) rm2 (Z.1, Z.2.1, Z.2.2.1, Z.2.2.2.1, A1) (.ref b0 :: As) g1 mc ms post) (ha : gAt g1 b0 (.inr (ci, fs))) (hc : Z.2.1[ci]? = some (C, T, N)) (hml : Cond.methodLink own index y ∈ aw) (him : Cond.instanceMethod y ∈ aw) (hsel : Cond.selects C y y ∈ aw) (hini : Cond.initialized C ∈ aw) (hcd : Cond.code y bytes maxL ret ∈ aw) (np : Nat) (hnp : As.length = np) (hrc : rm2.cells = mc) (hrs : rm2.slots = ms) (hd : y.cls = C ∧ y.cls ≠ "java/lang/invoke/MethodHandle" ∧ y.cls ≠ "java/lang/invoke/VarHandle" ∧ (parseMethodDescriptor y.desc).map (fun d => d.parameters.length) = some np) (hR : rm2.frames + 1 ≤ rm.frames ∧ 8 + (maxL + 11) + rm2.locals ≤ rm.locals) {st0 : List Value} (hst : st0 = As.reverse ++ .ref b0 :: st) (hs : (st.map fun v => v.category).sum ≤ 8) (d : decode cc pc = .ok (.invokevirtual index, 3)) (hcs : k + mc ≤ rm.cells ∧ n + ms ≤ rm.slots) (kk : ∀ (v : Option Value) (g' : GH), post v g' → J X nL Z (gPl g' g2) (k + mc) (n + ms) (pc + 3) lv (v.toList ++ st)) : J X nL Z (gPl g1 g2) k n pc lv st0 := by
  subst hnp
  refine j_runF O (a := (Value.ref b0 :: As).toArray) (fun H locs ls A1 hA1 a0 b h => ?_) kk
  obtain ⟨q, hq⟩ := ha.k
  exact va_runV (As := As) (rest := st) O.1 (hM A1) (cwV As.length O.1.2.2.2.2 (gWv hml him hsel hini hcd) rfl hrc hrs hd (by rw [O.2.2.2.1]; exact hR)) ⟨fun a U fr mk q => ⟨q.1, q.2.blind⟩, va_recv O.2.1 a0.1 hc hq, fun U hU hW => ⟨rfl, by rw [hU]; exact a0, va_K.moved hW.alike O.2.1, fun q h => by rw [hA1]; exact Or.inr (by rw [← hU]; exact h), O.2.2.2.2.warm hW⟩⟩ rfl rfl h.1 hst (lv_room hs) d (by rw [O.2.2.2.1]; exact hcs)
theorem j_callIF (O : Ok X cc nL own Z rm) {y : MethodName} {bytes : ByteArray} {maxL mc ms index : Nat} {rm2 : Room} {post : Option Value → GH → Prop} {b0 : Nat} (As : List Value) (hM : ∀ A1 : Nat → Prop, Ct X.2.1 y (.code y bytes maxL none :: aw) rm2 (Z.1, Z.2.1, Z.2.2.1, Z.2.2.2.1, A1) (.ref b0 :: As) g1 mc ms post) (hcd : Cond.code y bytes maxL none ∈ aw) (np : Nat) (hnp : As.length = np) (hrc : rm2.cells = mc) (hrs : rm2.slots = ms) (hini : Cond.initialized y.cls ∈ aw) (hml : Cond.methodLink own index y ∈ aw) (him : Cond.instanceMethod y ∈ aw) (hy1 : y.name = "<init>") (hd : y.cls ≠ "java/lang/invoke/MethodHandle" ∧ y.cls ≠ "java/lang/invoke/VarHandle" ∧ (parseMethodDescriptor y.desc).map (fun d => d.parameters.length) = some np) (hR : rm2.frames + 1 ≤ rm.frames ∧ 8 + (maxL + 11) + rm2.locals ≤ rm.locals) {st0 : List Value} (hst : st0 = As.reverse ++ .ref b0 :: st) (hs : (st.map fun v => v.category).sum ≤ 8) (d : decode cc pc = .ok (.invokespecial index, 3)) (hcs : k + mc ≤ rm.cells ∧ n + ms ≤ rm.slots) (kk : ∀ (v : Option Value) (g' : GH), post v g' → J X nL Z (gPl g' g2) (k + mc) (n + ms) (pc + 3) lv (v.toList ++ st)) : J X nL Z (gPl g1 g2) k n pc lv st0 := by
  subst hnp
  refine j_runF O (a := (Value.ref b0 :: As).toArray) (fun H locs ls A1 hA1 a0 b h => ?_) kk
  exact va_runI (As := As) (rest := st) O.1 (hM A1) (cwI As.length O.1.2.2.2.2 (gWc hcd) rfl hrc hrs (O.b hini) (O.b hml) (O.b him) hy1 hd (by rw [O.2.2.2.1]; exact hR)) ⟨fun a U fr mk q => ⟨q.1, q.2.blind⟩, fun U hU hW => ⟨rfl, by rw [hU]; exact a0, va_K.moved hW.alike O.2.1, fun q h => by rw [hA1]; exact Or.inr (by rw [← hU]; exact h), O.2.2.2.2.warm hW⟩⟩ rfl rfl h.1 hst (lv_room hs) d (by rw [O.2.2.2.1]; exact hcs)
end JF
/-- what a stretch of code keeps: all that was there stays there; of the cells outside M also what they hold -/
def Kp (M : List Nat) (g g' : GH) : Prop := (∀ b ∈ g.1, b ∈ g'.1) ∧ ∀ (b : Nat) (e : va_E), b ∉ M → gAt g b e → gAt g' b e
theorem Kp.rf {M : List Nat} {g : GH} : Kp M g g := ⟨fun _ h => h, fun _ _ _ h => h⟩
theorem Kp.tr {M : List Nat} {g g1 g2 : GH} (h1 : Kp M g g1) (h2 : Kp M g1 g2) : Kp M g g2 := ⟨fun b h => h2.1 b (h1.1 b h), fun b e n h => h2.2 b e n (h1.2 b e n h)⟩
theorem Kp.mono {M M' : List Nat} {g g' : GH} (h : Kp M g g') (hm : ∀ a ∈ M, a ∈ M') : Kp M' g g' := ⟨h.1, fun b e n q => h.2 b e (fun z => n (hm b z)) q⟩
theorem Kp.up {M : List Nat} {g g1 : GH} {a : Nat} {e : va_E} (h : Kp M g g1) (ha : a ∈ M) : Kp M g (gUp g1 a e) := ⟨h.1, fun b f n q => gUp_ne (h.2 b f n q) (fun z => n (z ▸ ha))⟩
/-- a cell that was not there at the start may be written -/
theorem Kp.upN {M : List Nat} {g g1 : GH} {a : Nat} {e : va_E} (h : Kp M g g1) (ha : a ∉ g.1) : Kp M g (gUp g1 a e) := ⟨h.1, fun b f n q => gUp_ne (h.2 b f n q) (fun z => ha (z ▸ q.1))⟩
theorem Kp.new {M : List Nat} {g g1 : GH} {a : Nat} {e : va_E} (h : Kp M g g1) (ha : a ∉ g1.1) : Kp M g (gNew g1 a e) := ⟨fun b q => List.mem_append_left _ (h.1 b q), fun b f n q => gNew_old (h.2 b f n q) ha⟩
theorem Kp.nin {M : List Nat} {g g1 : GH} {a : Nat} (h : Kp M g g1) (ha : a ∉ g1.1) : a ∉ g.1 := fun q => ha (h.1 a q)
/-- cells made on the way are none of the caller's -/
theorem Kp.sub {M M' : List Nat} {g g1 g2 : GH} (h1 : Kp M g g1) (h2 : Kp M' g1 g2) (hm : ∀ a ∈ M', a ∈ M ∨ a ∉ g.1) : Kp M g g2 := ⟨fun b h => h2.1 b (h1.1 b h), fun b e n h => h2.2 b e (fun z => (hm b z).elim n (fun q => q h.1)) (h1.2 b e n h)⟩
theorem va_rf_cat (o : Option Nat) : (va_rf o).category = 1 := by cases o <;> rfl
end
section
/-! Numbers and lists: levels, prints, runs. A row is (key, cells, bits of the cells that are NULL); a node is (height, rows). -/
abbrev RV : Type := Int32 × List Int32 × Int32
def mixA (k : Int32) : Int32 := (k * (-1640531535)) ^^^ ush (k * (-1640531535)) 15
def mixB (x : Int32) : Int32 := (x * (-2048144777)) ^^^ ush (x * (-2048144777)) 13
def lvG : Nat → Int32 → Nat
  | 0, _ => 0
  | n + 1, x => if x &&& 3 = 0 then lvG n (ush x 2) + 1 else 0
def lvl (k : Int32) : Nat := lvG 5 (mixB (mixA k))
theorem lvG_le : ∀ (n : Nat) (x : Int32), lvG n x ≤ n
  | 0, _ => Nat.le_refl _
  | n + 1, x => by
    unfold lvG
    split
    · exact Nat.succ_le_succ (lvG_le n _)
    · exact Nat.zero_le _
theorem lvl_le (k : Int32) : lvl k ≤ 5 := lvG_le 5 _
def prt (r : RV) : Int32 := r.2.1.foldl (fun m c => m * 31 + c) (r.1 * 31 + r.2.2)
/-- runs of a list, each of which ends with one that p holds of, or with the last -/
def runsP {α : Type} (p : α → Bool) : List α → List (List α)
  | [] => []
  | r :: rs => if p r then [r] :: runsP p rs else match runsP p rs with
    | [] => [[r]]
    | q :: qs => (r :: q) :: qs
theorem runsP_flat {α : Type} (p : α → Bool) : ∀ rs : List α, (runsP p rs).flatten = rs
  | [] => rfl
  | r :: rs => by
    have ih := runsP_flat p rs
    unfold runsP
    split
    · simp [ih]
    · split
      · next h => rw [h] at ih; simp at ih; subst ih; rfl
      · next q qs h => rw [h] at ih; simp at ih; simp [ih]
theorem runsP_ne {α : Type} (p : α → Bool) : ∀ (rs : List α) (q : List α), q ∈ runsP p rs → q ≠ []
  | [], q, h => by cases h
  | r :: rs, q, h => by
    have ih := runsP_ne p rs
    unfold runsP at h
    split at h
    · rcases List.mem_cons.mp h with h | h
      · subst h; simp
      · exact ih q h
    · split at h
      · rw [List.mem_singleton.mp h]; simp
      · next a as e =>
        rcases List.mem_cons.mp h with h | h
        · subst h; simp
        · exact ih q (by rw [e]; exact List.mem_cons_of_mem _ h)
theorem runsP_nil {α : Type} (p : α → Bool) {rs : List α} (h : runsP p rs = []) : rs = [] := by
  have := runsP_flat p rs
  rw [h] at this
  exact this.symm
/-- a stretch where p holds of none, and one of which p holds behind it -/
theorem runsP_low {α : Type} (p : α → Bool) (r : α) (rest : List α) (hr : p r = true) : ∀ xs : List α, (∀ x ∈ xs, p x = false) → runsP p (xs ++ r :: rest) = (xs ++ [r]) :: runsP p rest
  | [], _ => by simp [runsP, hr]
  | x :: xs, h => by
    have ih := runsP_low p r rest hr xs (fun y hy => h y (List.mem_cons_of_mem _ hy))
    have hx := h x List.mem_cons_self
    rw [List.cons_append, runsP, hx, ih]
    simp
theorem runsP_end {α : Type} (p : α → Bool) (r : α) : ∀ xs : List α, (∀ x ∈ xs, p x = false) → runsP p (xs ++ [r]) = [xs ++ [r]]
  | [], _ => by
    cases hr : p r <;> simp [runsP, hr]
  | x :: xs, h => by
    have ih := runsP_end p r xs (fun y hy => h y (List.mem_cons_of_mem _ hy))
    have hx := h x List.mem_cons_self
    rw [List.cons_append, runsP, hx, ih]
    simp
/-- the same by places: what a loop sees that goes through a list with a mark behind the last end -/
theorem runsP_step {α : Type} (p : α → Bool) (rs : List α) (f i : Nat) (hf : f ≤ i) (hi : i < rs.length) (low : ∀ j (hj : j < rs.length), f ≤ j → j < i → p rs[j] = false) (hb : p rs[i] = true ∨ i + 1 = rs.length) :
    runsP p (rs.drop f) = (rs.drop f).take (i + 1 - f) :: runsP p (rs.drop (i + 1)) := by
  have e1 : rs.drop f = (rs.drop f).take (i - f) ++ rs[i] :: rs.drop (i + 1) := by
    have h1 : rs.drop f = (rs.drop f).take (i - f) ++ (rs.drop f).drop (i - f) := (List.take_append_drop _ _).symm
    rw [List.drop_drop, show f + (i - f) = i by omega, List.drop_eq_getElem_cons hi] at h1
    exact h1
  have e2 : (rs.drop f).take (i + 1 - f) = (rs.drop f).take (i - f) ++ [rs[i]] := by
    rw [show i + 1 - f = (i - f) + 1 by omega, List.take_succ, List.getElem?_drop, show f + (i - f) = i by omega, List.getElem?_eq_getElem hi]
    rfl
  have hl : ∀ x ∈ (rs.drop f).take (i - f), p x = false := by
    intro x hx
    obtain ⟨j, hj, rfl⟩ := List.getElem_of_mem hx
    have hj2 : j < i - f := by
      have := hj
      rw [List.length_take] at this
      omega
    rw [List.getElem_take, List.getElem_drop]
    exact low (f + j) (by omega) (by omega) (by omega)
  rw [e2]
  conv => lhs; rw [e1]
  rcases hb with hb | hb
  · exact runsP_low p _ _ hb _ hl
  · have : rs.drop (i + 1) = [] := List.drop_eq_nil_of_le (by omega)
    rw [this]
    exact runsP_end p _ _ hl
def lastP {α : Type} (p : α → Bool) (q : List α) : Bool := match q.getLast? with
  | some r => p r
  | none => false
theorem lastP_cons {α : Type} (p : α → Bool) (r : α) {q : List α} (h : q ≠ []) : lastP p (r :: q) = lastP p q := by
  cases q with
  | nil => exact absurd rfl h
  | cons a as => simp [lastP, List.getLast?_cons_cons]
/-- runs of runs: by a p2 that holds of fewer, the runs of the runs by p1 are the runs by p2 -/
theorem runsP_runs {α : Type} (p1 p2 : α → Bool) (h12 : ∀ r, p2 r = true → p1 r = true) : ∀ rs : List α, (runsP (lastP p2) (runsP p1 rs)).map List.flatten = runsP p2 rs
  | [] => rfl
  | r :: rs => by
    have ih := runsP_runs p1 p2 h12 rs
    cases h1 : p1 r with
    | true =>
      have e1 : runsP p1 (r :: rs) = [r] :: runsP p1 rs := by simp [runsP, h1]
      rw [e1]
      cases h2 : p2 r with
      | true => simp [runsP, lastP, h2, ih]
      | false =>
        have e2 : lastP p2 [r] = false := by simp [lastP, h2]
        rw [runsP, e2]
        rw [show runsP p2 (r :: rs) = (match runsP p2 rs with | [] => [[r]] | q :: qs => (r :: q) :: qs) by simp [runsP, h2]]
        rw [← ih]
        cases runsP (lastP p2) (runsP p1 rs) <;> simp
    | false =>
      have h2 : p2 r = false := by
        cases h : p2 r with
        | false => rfl
        | true => rw [h12 r h] at h1; exact absurd h1 (by simp)
      cases e : runsP p1 rs with
      | nil =>
        have := runsP_nil p1 e
        subst this
        simp [runsP, h1, h2, lastP]
      | cons q qs =>
        have e1 : runsP p1 (r :: rs) = (r :: q) :: qs := by simp [runsP, h1, e]
        rw [e1]
        have hq : q ≠ [] := runsP_ne p1 rs q (by rw [e]; exact List.mem_cons_self)
        rw [e] at ih
        rw [show runsP p2 (r :: rs) = (match runsP p2 rs with | [] => [[r]] | q :: qs => (r :: q) :: qs) by simp [runsP, h2]]
        rw [← ih]
        rw [runsP, runsP, lastP_cons p2 r hq]
        cases lastP p2 q with
        | true => simp
        | false =>
          cases runsP (lastP p2) qs <;> simp
/-- each run of runs is what the runs of its rows are -/
theorem runsP_in {α : Type} (p1 p2 : α → Bool) (h12 : ∀ r, p2 r = true → p1 r = true) : ∀ (rs : List α) (G : List (List α)), G ∈ runsP (lastP p2) (runsP p1 rs) → runsP p1 G.flatten = G
  | [], G, h => by cases h
  | r :: rs, G, h => by
    have ih := runsP_in p1 p2 h12 rs
    cases h1 : p1 r with
    | true =>
      have e1 : runsP p1 (r :: rs) = [r] :: runsP p1 rs := by simp [runsP, h1]
      rw [e1] at h
      cases h2 : p2 r with
      | true =>
        have e2 : lastP p2 [r] = true := by simp [lastP, h2]
        rw [runsP, e2] at h
        simp only [if_true] at h
        rcases List.mem_cons.mp h with h | h
        · subst h; simp [runsP, h1]
        · exact ih G h
      | false =>
        have e2 : lastP p2 [r] = false := by simp [lastP, h2]
        rw [runsP, e2] at h
        simp only [Bool.false_eq_true, if_false] at h
        cases e : runsP (lastP p2) (runsP p1 rs) with
        | nil =>
          rw [e] at h
          rw [List.mem_singleton.mp h]
          simp [runsP, h1]
        | cons q qs =>
          rw [e] at h
          rcases List.mem_cons.mp h with h | h
          · subst h
            have := ih q (by rw [e]; exact List.mem_cons_self)
            simp [runsP, h1, this]
          · exact ih G (by rw [e]; exact List.mem_cons_of_mem _ h)
    | false =>
      have h2 : p2 r = false := by
        cases h : p2 r with
        | false => rfl
        | true => rw [h12 r h] at h1; exact absurd h1 (by simp)
      cases e : runsP p1 rs with
      | nil =>
        have := runsP_nil p1 e
        subst this
        simp [runsP, h1, lastP, h2] at h
        subst h
        simp [runsP, h1]
      | cons q qs =>
        have e1 : runsP p1 (r :: rs) = (r :: q) :: qs := by simp [runsP, h1, e]
        rw [e1] at h
        have hq : q ≠ [] := runsP_ne p1 rs q (by rw [e]; exact List.mem_cons_self)
        rw [e] at ih
        rw [runsP, lastP_cons p2 r hq] at h
        rw [runsP] at ih
        cases hl : lastP p2 q with
        | true =>
          rw [hl] at h ih
          simp only [if_true] at h ih
          rcases List.mem_cons.mp h with h | h
          · subst h
            have := ih [q] List.mem_cons_self
            simp at this
            simp [runsP, h1, this]
          · exact ih G (List.mem_cons_of_mem _ h)
        | false =>
          rw [hl] at h ih
          simp only [Bool.false_eq_true, if_false] at h ih
          cases e3 : runsP (lastP p2) qs with
          | nil =>
            rw [e3] at h ih
            rw [List.mem_singleton.mp h]
            have := ih [q] List.mem_cons_self
            simp at this
            simp [runsP, h1, this]
          | cons a as =>
            rw [e3] at h ih
            rcases List.mem_cons.mp h with h | h
            · subst h
              have := ih (q :: a) List.mem_cons_self
              simp at this
              simp [runsP, h1, this]
            · exact ih G (List.mem_cons_of_mem _ h)
def lvB (t : Nat) (r : RV) : Bool := decide (t ≤ lvl r.1)
/-- the runs that end with a row of level t or above, or with the last -/
def runs (t : Nat) (rs : List RV) : List (List RV) := runsP (lvB t) rs
theorem lvB_mono {t : Nat} (r : RV) (h : lvB (t + 1) r = true) : lvB t r = true := by
  simp only [lvB, decide_eq_true_eq] at h ⊢
  omega
/-- a node's print, size, address: by its height and rows -/
def nprt : Nat → List RV → Int32
  | 0, rs => rs.foldl (fun p r => p * 31 + prt r) 0
  | h + 1, rs => (runs (h + 1) rs).foldl (fun p q => p * 31 + nprt h q) (nI (h + 1))
def nsz : Nat → List RV → Nat
  | 0, rs => rs.foldl (fun n r => n + (1 + r.2.1.length)) 0
  | h + 1, rs => (runs (h + 1) rs).length
/-- is the cell of column i NULL -/
def bitN (m : Int32) (i : Nat) : Bool := decide (¬ (ush m (nI i) &&& 1) = 0)
def adM (h x : Int64) : Int64 := (h ^^^ x) * 1099511628211
def rad (h : Int64) (r : RV) : Int64 := (r.2.1.zipIdx).foldl (fun h c => if bitN r.2.2 c.2 then adM h 0 else adM (adM h 1) c.1.toInt64) (adM h r.1.toInt64)
def nad : Nat → List RV → Int64
  | 0, rs => rs.foldl rad (adM 1469598103934665603 0)
  | h + 1, rs => (runs (h + 1) rs).foldl (fun a q => adM a (nad h q)) (adM 1469598103934665603 (nI (h + 1)).toInt64)
def lastK (rs : List RV) : Int32 := match rs.getLast? with
  | some r => r.1
  | none => 0
def lastL (rs : List RV) : Nat := match rs.getLast? with
  | some r => lvl r.1
  | none => 0
end
section
section JR2
variable {X : CX} {cc : ByteArray} {nL : Nat} {own : String} {Z : ZZ} {rm : Room} {g : GH} {k n pc : Nat} {lv : List (Nat × Value)} {st : List Value}
/-- int[].clone() -/
theorem j_clone (O : Ok X cc nL own Z rm) {index : Nat} (h1 : Cond.methodLink own index ⟨"[I", "clone", "()Ljava/lang/Object;"⟩ ∈ aw) (h2 : Cond.sameMethod "[I" "java/lang/Object" "clone" "()Ljava/lang/Object;" ∈ Z.2.2.2.1) (h3 : Cond.native ⟨"java/lang/Object", "clone", "()Ljava/lang/Object;"⟩ ∈ aw) (h4 : Cond.instanceMethod ⟨"java/lang/Object", "clone", "()Ljava/lang/Object;"⟩ ∈ aw) (h5 : Cond.selects "[I" ⟨"[I", "clone", "()Ljava/lang/Object;"⟩ ⟨"java/lang/Object", "clone", "()Ljava/lang/Object;"⟩ ∈ aw) (h6 : Cond.castable "[I" "java/lang/Cloneable" ∈ Z.2.2.2.1)
    {a : Nat} {cA : ClassId} {N : Nat} {f : Nat → Int32} (ha : gAt g a (.inl (cA, N, .inl f))) (t0 : Nat) (ht : Z.2.2.1[t0]? = some (cA, .int)) (hfr : 1 ≤ rm.frames) (hlo : (st.map fun v => v.category).sum + 14 ≤ rm.locals) (hcells : k + 1 ≤ rm.cells) (hslots : n + N ≤ rm.slots) (d : decode cc pc = .ok (.invokevirtual index, 3))
    (kk : ∀ (q : Nat) (g1 : GH), q ∉ g.1 → g1 = gNew g q (.inl (cA, N, .inl f)) → J X nL Z g1 (k + 1) (n + N) (pc + 3) lv (.ref q :: st)) : J X nL Z g k n pc lv (.ref a :: st) := by
  intro H locs ls a0 b h
  obtain ⟨q, hq⟩ := ha.k
  refine va_clone (x := (N, .inl f)) (ty := .int) O.1.1 O.1.2.1 (O.1.2.2.1.trans h.1.symm) O.1.2.2.2.1 (O.b h1) (va_Nw.use (O.2.2.2.2 _ h2).1 (O.2.2.2.2 _ h2).2.2) (O.b h3) (O.b h4) (O.b h5) (O.2.2.2.2 _ h6).2.2 O.2.1 a0.1 a0.2 b O.A q t0 hq ht (va_nm_int (O.2.1.2 t0 _ ht).2) (fun i v hv => va_fit (F := fun j => .int (f j)) (fun _ _ => rfl) i v hv) (by rw [O.2.2.2.1]; exact hfr) (by rw [O.2.2.2.1]; exact hlo) (by rw [O.2.2.2.1]; exact hcells) (by rw [O.2.2.2.1]; exact hslots) d (fun q H1 k1 p1 d1 s1 => ?_)
  have hq := gPush d1
  rw [va_pl_push hq] at p1 d1
  exact kk q _ hq rfl H1 locs ls ⟨p1, d1⟩ s1 h
theorem j_castI (O : Ok X cc nL own Z rm) {index : Nat} (h1 : Cond.classLink own index "[I" ∈ aw) {a : Nat} {cA : ClassId} {x : vp_A} (ha : gAt g a (.inl (cA, x))) (t0 : Nat) (ht : Z.2.2.1[t0]? = some (cA, .int)) (d : decode cc pc = .ok (.checkcast index, 3)) (kk : J X nL Z g k n (pc + 3) lv (.ref a :: st)) : J X nL Z g k n pc lv (.ref a :: st) := by
  intro H locs ls a0 b h
  obtain ⟨q, hq⟩ := ha.k
  exact va_castA O.1.1 O.1.2.1 O.1.2.2.2.1 (O.b h1) a0.1 q hq (va_nm_int (O.2.1.2 t0 _ ht).2) d (kk H locs ls a0 b h)
end JR2
section JR3
variable {X : CX} {nL : Nat} {Z : ZZ} {g : GH} {k n pc : Nat} {lv : List (Nat × Value)} {st : List Value}
theorem j_some {o : Option Nat} (b : Nat) (h : o = some b) (kk : J X nL Z g k n pc lv (.ref b :: st)) : J X nL Z g k n pc lv (va_rf o :: st) := by
  subst h; exact kk
end JR3
section JR4
variable {X : CX} {nL : Nat} {Z : ZZ} {g : GH} {k n pc : Nat} {lv : List (Nat × Value)} {st : List Value}
theorem j_oeq {o : Option Nat} (o' : Option Nat) (h : o = o') (kk : J X nL Z g k n pc lv (va_rf o' :: st)) : J X nL Z g k n pc lv (va_rf o :: st) := by
  subst h; exact kk
end JR4
end
section
/-! the kinds of cells of the system -/
abbrev nwA : List Cond := [.methodLinkNest "TwinTrees" 21 ⟨"TwinTrees$Store", "<init>", "()V"⟩ "TwinTrees", .methodLinkNest "TwinTrees" 28 ⟨"TwinTrees$Differences", "<init>", "()V"⟩ "TwinTrees", .methodLinkNest "TwinTrees" 35 ⟨"TwinTrees$RowList", "<init>", "()V"⟩ "TwinTrees", .methodLinkNest "TwinTrees$Row" 20 ⟨"TwinTrees", "levelOf", "(I)I"⟩ "TwinTrees", .arrayOver (.object "TwinTrees$Node"), .arrayOver (.object "TwinTrees$Row"), .arrayOver (.array .int), .arrayOver (.array .long), .sameMethod "[I" "java/lang/Object" "clone" "()Ljava/lang/Object;", .castable "[I" "java/lang/Cloneable"]
abbrev tysA (t : Nat → ClassId) : List (ClassId × FieldType) := [(t 0, .int), (t 1, .object "TwinTrees$Row"), (t 2, .object "TwinTrees$Node"), (t 3, .long), (t 4, .array .int), (t 5, .array .long)]
abbrev zz (D : va_G) (t : Nat → ClassId) (A : Nat → Prop) : ZZ := (D, clA, tysA t, nwA, A)
abbrev eI (t : Nat → ClassId) (n : Nat) (f : Nat → Int32) : va_E := .inl (t 0, n, .inl f)
abbrev eL (t : Nat → ClassId) (n : Nat) (f : Nat → Int64) : va_E := .inl (t 3, n, .inr (.inl f))
abbrev eRs (t : Nat → ClassId) (n : Nat) (f : Nat → Option Nat) : va_E := .inl (t 1, n, .inr (.inr (.inr (.inr f))))
abbrev eNs (t : Nat → ClassId) (n : Nat) (f : Nat → Option Nat) : va_E := .inl (t 2, n, .inr (.inr (.inr (.inr f))))
abbrev eTT (w r s d f e l : Nat) (ls : Int32) : va_E := .inr (0, [.ref w, .ref r, .ref s, .ref d, .ref f, .ref e, .ref l, .int ls])
abbrev eDf (k s u : Nat) (n : Int32) : va_E := .inr (1, [.ref k, .ref s, .ref u, .int n])
abbrev eNode (h : Int32) (ra ba : Nat) (rc sz lk ll pr : Int32) (ad : Int64) (ha st : Int32) (nx : Option Nat) : va_E := .inr (2, [.int h, .ref ra, .ref ba, .int rc, .int sz, .int lk, .int ll, .int pr, .long ad, .int ha, .int st, va_rf nx])
abbrev eRow (k : Int32) (c : Nat) (nu lv pr : Int32) : va_E := .inr (3, [.int k, .ref c, .int nu, .int lv, .int pr])
abbrev eRL (b : Nat) (n : Int32) : va_E := .inr (4, [.ref b, .int n])
abbrev eSt (b : Nat) (p : Option Nat) (n s : Int32) : va_E := .inr (5, [.ref b, va_rf p, .int n, .int s])
end
section
set_option maxRecDepth 100000 in
set_option maxHeartbeats 4000000 in
theorem c_mixed (l : Launch) (D : va_G) (t : Nat → ClassId) (A : Nat → Prop) (g : GH) (h x : Int64) : Ct l yT_mixed sT_mixed { frames := 0, cells := 0, slots := 0, locals := 0 } (zz D t A) [.long h, .long x] g 0 0 (fun v g' => v = some (.long (adM h x)) ∧ g' = g) := by
  refine Ct.of (cc := bT_mixed) (maxL := 4) (ret := (some .long)) (by decide) (Nat.le_of_ble_eq_true rfl) (fun X hl O M hN => ?_)
  show J X 4 (zz D t A) g 0 0 0 [(0, .long h), (2, .long x)] []
  refine j_lload_n O 0 dT_mixed_0 rfl rfl ?_
  refine j_lload_n O 2 dT_mixed_1 rfl rfl ?_
  refine j_lxor O dT_mixed_2 ?_
  refine j_ldc2 O 1099511628211 w368 dT_mixed_3 ?_
  refine j_lmul O dT_mixed_6 ?_
  exact j_lret O M (Nat.le_of_ble_eq_true rfl) (Nat.le_of_ble_eq_true rfl) ⟨rfl, rfl⟩ dT_mixed_7
set_option maxRecDepth 100000 in
set_option maxHeartbeats 4000000 in
theorem c_bucketOf (l : Launch) (D : va_G) (t : Nat → ClassId) (A : Nat → Prop) (g : GH) (p : Int32) : Ct l yS_bucketOf sS_bucketOf { frames := 0, cells := 0, slots := 0, locals := 0 } (zz D t A) [.int p] g 0 0 (fun v g' => v = some (.int (ush (p * (-1640531535)) 22)) ∧ g' = g) := by
  refine Ct.of (cc := bS_bucketOf) (maxL := 1) (ret := (some .int)) (by decide) (Nat.le_of_ble_eq_true rfl) (fun X hl O M hN => ?_)
  show J X 1 (zz D t A) g 0 0 0 [(0, .int p)] []
  refine j_iload_n O 0 dS_bucketOf_0 rfl rfl ?_
  refine j_ldc O (-1640531535) w111 dS_bucketOf_1 ?_
  refine j_imul O dS_bucketOf_3 ?_
  refine j_bipush O (v := 22) dS_bucketOf_4 (by decide) ?_
  refine j_iushr O dS_bucketOf_6 ?_
  exact j_iret O M (Nat.le_of_ble_eq_true rfl) (Nat.le_of_ble_eq_true rfl) ⟨rfl, rfl⟩ dS_bucketOf_7
set_option maxRecDepth 100000 in
set_option maxHeartbeats 4000000 in
theorem c_isTable (l : Launch) (D : va_G) (t : Nat → ClassId) (A : Nat → Prop) (g : GH) (x : Int32) : Ct l yT_isTable sT_isTable { frames := 0, cells := 0, slots := 0, locals := 0 } (zz D t A) [.int x] g 0 0 (fun v g' => v = some (.int (if 0 ≤ x ∧ x < 6 then 1 else 0)) ∧ g' = g) := by
  refine Ct.of (cc := bT_isTable) (maxL := 1) (ret := (some .boolean)) (by decide) (Nat.le_of_ble_eq_true rfl) (fun X hl O M hN => ?_)
  show J X 1 (zz D t A) g 0 0 0 [(0, .int x)] []
  refine j_iload_n O 0 dT_isTable_0 rfl rfl ?_
  refine j_if_lt O 14 dT_isTable_1 (by decide) (fun c1 => ?_) (fun c1 => ?_)
  · refine j_iconst O (v := 0) dT_isTable_14 (by decide) ?_
    exact j_zret O (by decide) M (Nat.le_of_ble_eq_true rfl) (Nat.le_of_ble_eq_true rfl) ⟨by rw [if_neg (fun q => Int32.not_le.mpr c1 q.1)], rfl⟩ dT_isTable_15
  · refine j_iload_n O 0 dT_isTable_4 rfl rfl ?_
    refine j_bipush O (v := 6) dT_isTable_5 (by decide) ?_
    refine j_icmp_ge O 14 dT_isTable_7 (by decide) (fun c2 => ?_) (fun c2 => ?_)
    · refine j_iconst O (v := 0) dT_isTable_14 (by decide) ?_
      exact j_zret O (by decide) M (Nat.le_of_ble_eq_true rfl) (Nat.le_of_ble_eq_true rfl) ⟨by rw [if_neg (fun q => Int32.not_lt.mpr c2 q.2)], rfl⟩ dT_isTable_15
    · refine j_iconst O (v := 1) dT_isTable_10 (by decide) ?_
      refine j_goto O 15 dT_isTable_11 (by decide) ?_
      exact j_zret O (by decide) M (Nat.le_of_ble_eq_true rfl) (Nat.le_of_ble_eq_true rfl) ⟨by rw [if_pos ⟨Int32.not_lt.mp c1, Int32.not_le.mp c2⟩], rfl⟩ dT_isTable_15
set_option maxRecDepth 100000 in
set_option maxHeartbeats 4000000 in
theorem levelOf_loop {X : CX} {D : va_G} {t : Nat → ClassId} {A : Nat → Prop} {rm : Room} {g : GH} {key : Int32} {R : Nat} (O : Ok X bT_levelOf 3 "TwinTrees" (zz D t A) rm) (M : Om X (zz D t A) (some .int) 0 0 (fun v g' => v = some (.int (nI R)) ∧ g' = g))  : ∀ (n : Nat) (x : Int32) (lev : Nat), lev + n = 5 → R = lev + lvG n x → J X 3 (zz D t A) g 0 0 26 [(0, .int key), (1, .int x), (2, .int (nI lev))] [] := by
  intro n
  induction n with
  | zero =>
    intro x lev h1 h2
    have h5 : lev = 5 := by omega
    subst h5
    have hR : R = 5 := h2
    subst hR
    refine j_iload_n O 2 dT_levelOf_26 rfl rfl ?_
    refine j_iconst O (v := 5) dT_levelOf_27 (by decide) ?_
    refine j_icmp_ge O 47 dT_levelOf_28 (by decide) (fun c1 => ?_) (fun c1 => ?_)
    · refine j_iload_n O 2 dT_levelOf_47 rfl rfl ?_
      exact j_iret O M (Nat.le_of_ble_eq_true rfl) (Nat.le_of_ble_eq_true rfl) ⟨rfl, rfl⟩ dT_levelOf_48
    · exact absurd (by decide) c1
  | succ n ih =>
    intro x lev h1 h2
    refine j_iload_n O 2 dT_levelOf_26 rfl rfl ?_
    refine j_iconst O (v := 5) dT_levelOf_27 (by decide) ?_
    refine j_icmp_ge O 47 dT_levelOf_28 (by decide) (fun c1 => ?_) (fun c1 => ?_)
    · exact absurd c1 (nI_ge (b := 5) (by omega) (by omega))
    · refine j_iload_n O 1 dT_levelOf_31 rfl rfl ?_
      refine j_iconst O (v := 3) dT_levelOf_32 (by decide) ?_
      refine j_iand O dT_levelOf_33 ?_
      refine j_if_ne O 47 dT_levelOf_34 (by decide) (fun c2 => ?_) (fun c2 => ?_)
      · refine j_iload_n O 2 dT_levelOf_47 rfl rfl ?_
        have hR : R = lev := by rw [h2, lvG, if_neg c2]; rfl
        subst hR
        exact j_iret O M (Nat.le_of_ble_eq_true rfl) (Nat.le_of_ble_eq_true rfl) ⟨rfl, rfl⟩ dT_levelOf_48
      · rw [lvG, if_pos c2] at h2
        refine j_iload_n O 1 dT_levelOf_37 rfl rfl ?_
        refine j_iconst O (v := 2) dT_levelOf_38 (by decide) ?_
        refine j_iushr O dT_levelOf_39 ?_
        refine j_istore_n O 1 [(1, .int (ush x 2)), (0, .int key), (2, .int (nI lev))] dT_levelOf_40 rfl (by decide) rfl ?_
        refine j_iinc O (nI (lev + 1)) [(2, .int (nI (lev + 1))), (1, .int (ush x 2)), (0, .int key)] dT_levelOf_41 rfl (nI_1 _) (by decide) rfl ?_
        refine j_goto O 26 dT_levelOf_44 (by decide) ?_
        refine J.pk [2, 1, 0] rfl ?_
        exact ih _ _ (by omega) (by omega)
set_option maxRecDepth 100000 in
set_option maxHeartbeats 4000000 in
theorem c_levelOf (l : Launch) (D : va_G) (t : Nat → ClassId) (A : Nat → Prop) (g : GH) (key : Int32) : Ct l yT_levelOf sT_levelOf { frames := 0, cells := 0, slots := 0, locals := 0 } (zz D t A) [.int key] g 0 0 (fun v g' => v = some (.int (nI (lvl key))) ∧ g' = g) := by
  refine Ct.of (cc := bT_levelOf) (maxL := 3) (ret := (some .int)) (by decide) (Nat.le_of_ble_eq_true rfl) (fun X hl O M hN => ?_)
  show J X 3 (zz D t A) g 0 0 0 [(0, .int key)] []
  refine j_iload_n O 0 dT_levelOf_0 rfl rfl ?_
  refine j_ldc O (-1640531535) w282 dT_levelOf_1 ?_
  refine j_imul O dT_levelOf_3 ?_
  refine j_istore_n O 1 [(1, .int (key * (-1640531535))), (0, .int key)] dT_levelOf_4 rfl (by decide) rfl ?_
  refine j_iload_n O 1 dT_levelOf_5 rfl rfl ?_
  refine j_iload_n O 1 dT_levelOf_6 rfl rfl ?_
  refine j_bipush O (v := 15) dT_levelOf_7 (by decide) ?_
  refine j_iushr O dT_levelOf_9 ?_
  refine j_ixor O dT_levelOf_10 ?_
  refine j_istore_n O 1 [(1, .int ((key * (-1640531535)) ^^^ (ush (key * (-1640531535)) 15))), (0, .int key)] dT_levelOf_11 rfl (by decide) rfl ?_
  refine j_iload_n O 1 dT_levelOf_12 rfl rfl ?_
  refine j_ldc O (-2048144777) w283 dT_levelOf_13 ?_
  refine j_imul O dT_levelOf_15 ?_
  refine j_istore_n O 1 [(1, .int (((key * (-1640531535)) ^^^ (ush (key * (-1640531535)) 15)) * (-2048144777))), (0, .int key)] dT_levelOf_16 rfl (by decide) rfl ?_
  refine j_iload_n O 1 dT_levelOf_17 rfl rfl ?_
  refine j_iload_n O 1 dT_levelOf_18 rfl rfl ?_
  refine j_bipush O (v := 13) dT_levelOf_19 (by decide) ?_
  refine j_iushr O dT_levelOf_21 ?_
  refine j_ixor O dT_levelOf_22 ?_
  refine j_istore_n O 1 [(1, .int ((((key * (-1640531535)) ^^^ (ush (key * (-1640531535)) 15)) * (-2048144777)) ^^^ (ush (((key * (-1640531535)) ^^^ (ush (key * (-1640531535)) 15)) * (-2048144777)) 13))), (0, .int key)] dT_levelOf_23 rfl (by decide) rfl ?_
  refine j_iconst O (v := 0) dT_levelOf_24 (by decide) ?_
  refine j_istore_n O 2 [(2, .int 0), (1, .int ((((key * (-1640531535)) ^^^ (ush (key * (-1640531535)) 15)) * (-2048144777)) ^^^ (ush (((key * (-1640531535)) ^^^ (ush (key * (-1640531535)) 15)) * (-2048144777)) 13))), (0, .int key)] dT_levelOf_25 rfl (by decide) rfl ?_
  refine J.pk [2, 1, 0] rfl ?_
  exact levelOf_loop O M 5 _ 0 rfl (by rw [lvl, Nat.zero_add]; rfl)
end
section
/-- a fold over an array's first places -/
def prG (f : Nat → Int32) (b : Int32) : Nat → Int32
  | 0 => b
  | i + 1 => prG f b i * 31 + f i
theorem prG_fold (f : Nat → Int32) (b : Int32) : ∀ (cs : List Int32), (∀ i (h : i < cs.length), f i = cs[i]) → prG f b cs.length = cs.foldl (fun m c => m * 31 + c) b := by
  intro cs
  have key : ∀ n, n ≤ cs.length → (∀ i (h : i < cs.length), f i = cs[i]) → prG f b n = (cs.take n).foldl (fun m c => m * 31 + c) b := by
    intro n
    induction n with
    | zero => intro _ _; rfl
    | succ n ih =>
      intro hn hf
      rw [prG, ih (by omega) hf, hf n (by omega), List.take_succ_eq_append_getElem (by omega), List.foldl_append]
      rfl
  intro hf
  rw [key cs.length (Nat.le_refl _) hf, List.take_length]
/-- a row at an address -/
def rowAt (t : Nat → ClassId) (g : GH) (a : Nat) (r : RV) : Prop := ∃ (c : Nat) (f : Nat → Int32), gAt g a (eRow r.1 c r.2.2 (nI (lvl r.1)) (prt r)) ∧ gAt g c (eI t r.2.1.length f) ∧ ∀ i (h : i < r.2.1.length), f i = r.2.1[i]
set_option maxRecDepth 100000 in
set_option maxHeartbeats 4000000 in
theorem Row_init_loop {X : CX} {D : va_G} {t : Nat → ClassId} {A : Nat → Prop} {rm : Room} {g : GH} {a c n : Nat} {f : Nat → Int32} {b key nu lev : Int32} {P : Option Value → GH → Prop} (O : Ok X bR_init 9 "TwinTrees$Row" (zz D t A) rm) (M : Om X (zz D t A) none 0 0 (fun v g' => P v g')) (hN : On X) (ha : gAt g a (.inr (3, [.int key, .ref c, .int nu, .int lev, .int 0]))) (hc : gAt g c (eI t n f)) (hn : n < 2 ^ 31) (hP : P none (gUp g a (eRow key c nu lev (prG f b n)))) : ∀ (k i : Nat), i + k = n → J X 9 (zz D t A) g 0 0 46 [(0, .ref a), (4, .int (prG f b i)), (5, .ref c), (6, .int (nI n)), (7, .int (nI i))] [] := by
  intro k
  induction k with
  | zero =>
    intro i hi
    have hi : i = n := by omega
    subst hi
    refine j_iload O dR_init_46 rfl ?_
    refine j_iload O dR_init_48 rfl ?_
    refine j_icmp_ge O 76 dR_init_50 (by decide) (fun c1 => ?_) (fun c1 => ?_)
    · refine j_aload_n O 0 dR_init_76 rfl rfl ?_
      refine j_iload O dR_init_77 rfl ?_
      refine j_putF O hN uwR ha rfl 4 (by decide) w296 rfl tR ftR fnR rfl rfl (.int) (by decide +kernel) rfl rfl (Nat.le_of_ble_eq_true rfl) [.int key, .ref c, .int nu, .int lev, .int (prG f b i)] rfl dR_init_79 (fun g1 e2 => ?_)
      have h3 := gUp_ne (e' := .inr (3, [.int key, .ref c, .int nu, .int lev, .int (prG f b i)])) hc (hc.ne ha (by simp))
      rw [← e2] at h3
      have h4 := gUp_self (e' := .inr (3, [.int key, .ref c, .int nu, .int lev, .int (prG f b i)])) ha
      rw [← e2] at h4
      exact j_vret O M (Nat.le_of_ble_eq_true rfl) (Nat.le_of_ble_eq_true rfl) (by rw [e2]; exact hP) dR_init_82
    · exact absurd (nI_le (Nat.le_refl _) (by omega)) c1
  | succ k ih =>
    intro i hi
    refine j_iload O dR_init_46 rfl ?_
    refine j_iload O dR_init_48 rfl ?_
    refine j_icmp_ge O 76 dR_init_50 (by decide) (fun c1 => ?_) (fun c1 => ?_)
    · exact absurd c1 (nI_ge (by omega) (by omega))
    · refine j_aload O dR_init_53 rfl ?_
      refine j_iload O dR_init_55 rfl ?_
      refine j_iald O hc 0 rfl (by omega) (by omega) dR_init_57 ?_
      refine j_istore O [(8, .int (f i)), (0, .ref a), (4, .int (prG f b i)), (5, .ref c), (6, .int (nI n)), (7, .int (nI i))] dR_init_58 (by decide) rfl ?_
      refine j_iload O dR_init_60 rfl ?_
      refine j_bipush O (v := 31) dR_init_62 (by decide) ?_
      refine j_imul O dR_init_64 ?_
      refine j_iload O dR_init_65 rfl ?_
      refine j_iadd O dR_init_67 ?_
      refine j_istore O [(4, .int (((prG f b i) * 31) + (f i))), (8, .int (f i)), (0, .ref a), (5, .ref c), (6, .int (nI n)), (7, .int (nI i))] dR_init_68 (by decide) rfl ?_
      refine j_iinc O (nI (i + 1)) [(7, .int (nI (i + 1))), (4, .int (((prG f b i) * 31) + (f i))), (8, .int (f i)), (0, .ref a), (5, .ref c), (6, .int (nI n))] dR_init_70 rfl (nI_1 _) (by decide) rfl ?_
      refine j_goto O 46 dR_init_73 (by decide) ?_
      refine J.pk [3, 1, 4, 5, 0] rfl ?_
      exact ih (i + 1) (by omega)
set_option maxRecDepth 100000 in
set_option maxHeartbeats 4000000 in
theorem c_Row_init (l : Launch) (D : va_G) (t : Nat → ClassId) (A : Nat → Prop) (g : GH) (a c n : Nat) (f : Nat → Int32) (key nu : Int32) (hn : n < 2 ^ 31) (ha : gAt g a (.inr (3, [.int 0, .null, .int 0, .int 0, .int 0]))) (hc : gAt g c (eI t n f)) : Ct l yR_init sR_init { frames := 1, cells := 0, slots := 0, locals := 30 } (zz D t A) [.ref a, .int key, .ref c, .int nu] g 0 0 (fun v g' => v = none ∧ g' = gUp g a (eRow key c nu (nI (lvl key)) (prG f (key * 31 + nu) n))) := by
  refine Ct.of (cc := bR_init) (maxL := 9) (ret := none) (by decide) (Nat.le_of_ble_eq_true rfl) (fun X hl O M hN => ?_)
  have hN := hN rfl
  show J X 9 (zz D t A) g 0 0 0 [(0, .ref a), (1, .int key), (2, .ref c), (3, .int nu)] []
  refine j_aload_n O 0 dR_init_0 rfl rfl ?_
  refine j_objInit O w279 w39 w40 dR_init_1 (Nat.le_of_ble_eq_true rfl) (Nat.le_of_ble_eq_true rfl) ?_
  refine j_aload_n O 0 dR_init_4 rfl rfl ?_
  refine j_iload_n O 1 dR_init_5 rfl rfl ?_
  refine j_putF O hN uwR ha rfl 0 (by decide) w284 rfl tR ftR fnR rfl rfl (.int) (by decide +kernel) rfl rfl (Nat.le_of_ble_eq_true rfl) [.int key, .null, .int 0, .int 0, .int 0] rfl dR_init_6 (fun g5 e6 => ?_)
  have h7 := gUp_ne (e' := .inr (3, [.int key, .null, .int 0, .int 0, .int 0])) hc (hc.ne ha (by simp))
  rw [← e6] at h7
  have h8 := gUp_self (e' := .inr (3, [.int key, .null, .int 0, .int 0, .int 0])) ha
  rw [← e6] at h8
  refine j_aload_n O 0 dR_init_9 rfl rfl ?_
  refine j_aload_n O 2 dR_init_10 rfl rfl ?_
  refine j_putF O hN uwR h8 rfl 1 (by decide) w289 rfl tR ftR fnR rfl rfl (.array .int) (by decide +kernel) rfl rfl (Nat.le_of_ble_eq_true rfl) [.int key, .ref c, .int 0, .int 0, .int 0] rfl dR_init_11 (fun g9 e10 => ?_)
  have h11 := gUp_ne (e' := .inr (3, [.int key, .ref c, .int 0, .int 0, .int 0])) h7 (h7.ne h8 (by simp))
  rw [← e10] at h11
  have h12 := gUp_self (e' := .inr (3, [.int key, .ref c, .int 0, .int 0, .int 0])) h8
  rw [← e10] at h12
  refine j_aload_n O 0 dR_init_14 rfl rfl ?_
  refine j_iload_n O 3 dR_init_15 rfl rfl ?_
  refine j_putF O hN uwR h12 rfl 2 (by decide) w292 rfl tR ftR fnR rfl rfl (.int) (by decide +kernel) rfl rfl (Nat.le_of_ble_eq_true rfl) [.int key, .ref c, .int nu, .int 0, .int 0] rfl dR_init_16 (fun g13 e14 => ?_)
  have h15 := gUp_ne (e' := .inr (3, [.int key, .ref c, .int nu, .int 0, .int 0])) h11 (h11.ne h12 (by simp))
  rw [← e14] at h15
  have h16 := gUp_self (e' := .inr (3, [.int key, .ref c, .int nu, .int 0, .int 0])) h12
  rw [← e14] at h16
  refine j_aload_n O 0 dR_init_19 rfl rfl ?_
  refine j_iload_n O 1 dR_init_20 rfl rfl ?_
  refine j_callSN O [.int key] (c_levelOf X.2.1 D t A g13 key) w281 1 rfl rfl rfl (List.mem_of_getElem? (i := 3) rfl) w23 w280 (by decide +kernel) ⟨(Nat.le_of_ble_eq_true rfl), (Nat.le_of_ble_eq_true rfl)⟩ rfl (Nat.le_of_ble_eq_true rfl) dR_init_21 ⟨(Nat.le_of_ble_eq_true rfl), (Nat.le_of_ble_eq_true rfl)⟩ (fun v17 g18 hp19 => ?_)
  obtain ⟨rfl, hg20⟩ := hp19
  have hg20 := hg20.symm
  subst hg20
  refine j_putF O hN uwR h16 rfl 3 (by decide) w293 rfl tR ftR fnR rfl rfl (.int) (by decide +kernel) rfl rfl (Nat.le_of_ble_eq_true rfl) [.int key, .ref c, .int nu, .int (nI (lvl key)), .int 0] rfl dR_init_24 (fun g21 e22 => ?_)
  have h23 := gUp_ne (e' := .inr (3, [.int key, .ref c, .int nu, .int (nI (lvl key)), .int 0])) h15 (h15.ne h16 (by simp))
  rw [← e22] at h23
  have h24 := gUp_self (e' := .inr (3, [.int key, .ref c, .int nu, .int (nI (lvl key)), .int 0])) h16
  rw [← e22] at h24
  refine j_iload_n O 1 dR_init_27 rfl rfl ?_
  refine j_bipush O (v := 31) dR_init_28 (by decide) ?_
  refine j_imul O dR_init_30 ?_
  refine j_iload_n O 3 dR_init_31 rfl rfl ?_
  refine j_iadd O dR_init_32 ?_
  refine j_istore O [(4, .int ((key * 31) + nu)), (0, .ref a), (1, .int key), (2, .ref c), (3, .int nu)] dR_init_33 (by decide) rfl ?_
  refine j_aload_n O 2 dR_init_35 rfl rfl ?_
  refine j_astore O [(5, .ref c), (4, .int ((key * 31) + nu)), (0, .ref a), (1, .int key), (2, .ref c), (3, .int nu)] dR_init_36 (by decide) rfl ?_
  refine j_aload O dR_init_38 rfl ?_
  refine j_alen O h23 0 rfl dR_init_40 ?_
  refine j_istore O [(6, .int (nI n)), (5, .ref c), (4, .int ((key * 31) + nu)), (0, .ref a), (1, .int key), (2, .ref c), (3, .int nu)] dR_init_41 (by decide) rfl ?_
  refine j_iconst O (v := 0) dR_init_43 (by decide) ?_
  refine j_istore O [(7, .int 0), (6, .int (nI n)), (5, .ref c), (4, .int ((key * 31) + nu)), (0, .ref a), (1, .int key), (2, .ref c), (3, .int nu)] dR_init_44 (by decide) rfl ?_
  refine J.pk [4, 3, 2, 1, 0] rfl ?_
  refine Row_init_loop O M hN h24 h23 hn ⟨rfl, ?_⟩ n 0 (by omega)
  rw [e22, e14, e10, e6, gUp_up, gUp_up, gUp_up, gUp_up]
theorem bitN_01 (m j : Int32) : (if ush m j &&& 1 = 0 then (0 : Int32) else 1) = 0 ∨ (if ush m j &&& 1 = 0 then (0 : Int32) else 1) = 1 := by split <;> simp
set_option maxRecDepth 100000 in
set_option maxHeartbeats 4000000 in
theorem c_isNull (l : Launch) (D : va_G) (t : Nat → ClassId) (A : Nat → Prop) (g : GH) (a : Nat) (j : Int32) (r : RV) (ha : rowAt t g a r) : Ct l yR_isNull sR_isNull { frames := 0, cells := 0, slots := 0, locals := 0 } (zz D t A) [.ref a, .int j] g 0 0 (fun v g' => v = some (.int (if ush r.2.2 j &&& 1 = 0 then 0 else 1)) ∧ g' = g) := by
  obtain ⟨c, f, ha, hc, hf⟩ := ha
  refine Ct.of (cc := bR_isNull) (maxL := 2) (ret := (some .boolean)) (by decide) (Nat.le_of_ble_eq_true rfl) (fun X hl O M hN => ?_)
  show J X 2 (zz D t A) g 0 0 0 [(0, .ref a), (1, .int j)] []
  refine j_aload_n O 0 dR_isNull_0 rfl rfl ?_
  refine j_get O uwR ha rfl 2 (by decide) w292 rfl rfl dR_isNull_1 ?_
  refine j_iload_n O 1 dR_isNull_4 rfl rfl ?_
  refine j_iushr O dR_isNull_5 ?_
  refine j_iconst O (v := 1) dR_isNull_6 (by decide) ?_
  refine j_iand O dR_isNull_7 ?_
  refine j_if_eq O 15 dR_isNull_8 (by decide) (fun c1 => ?_) (fun c1 => ?_)
  · refine j_iconst O (v := 0) dR_isNull_15 (by decide) ?_
    exact j_zret O (by decide) M (Nat.le_of_ble_eq_true rfl) (Nat.le_of_ble_eq_true rfl) ⟨by rw [if_pos c1], rfl⟩ dR_isNull_16
  · refine j_iconst O (v := 1) dR_isNull_11 (by decide) ?_
    refine j_goto O 16 dR_isNull_12 (by decide) ?_
    exact j_zret O (by decide) M (Nat.le_of_ble_eq_true rfl) (Nat.le_of_ble_eq_true rfl) ⟨by rw [if_neg c1], rfl⟩ dR_isNull_16
/-- the columns in which two rows differ, bit by bit, up to column i -/
def unG (f1 f2 : Nat → Int32) (b : Int32) : Nat → Int32
  | 0 => b
  | i + 1 => if f1 i = f2 i then unG f1 f2 b i else unG f1 f2 b i ||| ((1 : Int32) <<< (nI i &&& 31))
def unl (r s : RV) : Int32 := unG (fun i => r.2.1.getD i 0) (fun i => s.2.1.getD i 0) (r.2.2 ^^^ s.2.2) (min r.2.1.length s.2.1.length)
theorem unG_congr {f1 f2 h1 h2 : Nat → Int32} {b : Int32} : ∀ n : Nat, (∀ i, i < n → f1 i = h1 i ∧ f2 i = h2 i) → unG f1 f2 b n = unG h1 h2 b n
  | 0, _ => rfl
  | n + 1, h => by
    rw [unG, unG, unG_congr n (fun i hi => h i (by omega)), (h n (by omega)).1, (h n (by omega)).2]
set_option maxRecDepth 100000 in
set_option maxHeartbeats 4000000 in
theorem unlike_loop {X : CX} {D : va_G} {t : Nat → ClassId} {A : Nat → Prop} {rm : Room} {g : GH} {a b ca cb n1 n2 : Nat} {f1 f2 : Nat → Int32} {u0 : Int32} {r s : RV} (O : Ok X bR_unlikeCells 4 "TwinTrees$Row" (zz D t A) rm) (M : Om X (zz D t A) (some .int) 0 0 (fun v g' => v = some (.int (unG f1 f2 u0 (min n1 n2))) ∧ g' = g)) (ha : gAt g a (eRow r.1 ca r.2.2 (nI (lvl r.1)) (prt r))) (hca : gAt g ca (eI t n1 f1)) (hb : gAt g b (eRow s.1 cb s.2.2 (nI (lvl s.1)) (prt s))) (hcb : gAt g cb (eI t n2 f2)) (h1 : n1 < 2 ^ 31) (h2 : n2 < 2 ^ 31) : ∀ (k i : Nat), i + k = min n1 n2 → J X 4 (zz D t A) g 0 0 12 [(0, .ref a), (1, .ref b), (2, .int (unG f1 f2 u0 i)), (3, .int (nI i))] [] := by
  intro k
  induction k with
  | zero =>
    intro i hi
    refine j_iload_n O 3 dR_unlikeCells_12 rfl rfl ?_
    refine j_aload_n O 0 dR_unlikeCells_13 rfl rfl ?_
    refine j_get O uwR ha rfl 1 (by decide) w289 rfl rfl dR_unlikeCells_14 ?_
    refine j_alen O hca 0 rfl dR_unlikeCells_17 ?_
    refine j_icmp_ge O 57 dR_unlikeCells_18 (by decide) (fun c1 => ?_) (fun c1 => ?_)
    · refine j_iload_n O 2 dR_unlikeCells_57 rfl rfl ?_
      have he : i = min n1 n2 := by omega
      subst he
      exact j_iret O M (Nat.le_of_ble_eq_true rfl) (Nat.le_of_ble_eq_true rfl) ⟨rfl, rfl⟩ dR_unlikeCells_58
    · refine j_iload_n O 3 dR_unlikeCells_21 rfl rfl ?_
      refine j_aload_n O 1 dR_unlikeCells_22 rfl rfl ?_
      refine j_get O uwR hb rfl 1 (by decide) w289 rfl rfl dR_unlikeCells_23 ?_
      refine j_alen O hcb 0 rfl dR_unlikeCells_26 ?_
      refine j_icmp_ge O 57 dR_unlikeCells_27 (by decide) (fun c2 => ?_) (fun c2 => ?_)
      · refine j_iload_n O 2 dR_unlikeCells_57 rfl rfl ?_
        have he : i = min n1 n2 := by omega
        subst he
        exact j_iret O M (Nat.le_of_ble_eq_true rfl) (Nat.le_of_ble_eq_true rfl) ⟨rfl, rfl⟩ dR_unlikeCells_58
      · have q1 : i < n1 := by
          rcases Nat.lt_or_ge i n1 with q | q
          · exact q
          · exact absurd (nI_le q (by omega)) c1
        have q2 : i < n2 := by
          rcases Nat.lt_or_ge i n2 with q | q
          · exact q
          · exact absurd (nI_le q (by omega)) c2
        omega
  | succ k ih =>
    intro i hi
    have hi1 : i < n1 := by omega
    have hi2 : i < n2 := by omega
    refine j_iload_n O 3 dR_unlikeCells_12 rfl rfl ?_
    refine j_aload_n O 0 dR_unlikeCells_13 rfl rfl ?_
    refine j_get O uwR ha rfl 1 (by decide) w289 rfl rfl dR_unlikeCells_14 ?_
    refine j_alen O hca 0 rfl dR_unlikeCells_17 ?_
    refine j_icmp_ge O 57 dR_unlikeCells_18 (by decide) (fun c1 => ?_) (fun c1 => ?_)
    · exact absurd c1 (nI_ge hi1 h1)
    · refine j_iload_n O 3 dR_unlikeCells_21 rfl rfl ?_
      refine j_aload_n O 1 dR_unlikeCells_22 rfl rfl ?_
      refine j_get O uwR hb rfl 1 (by decide) w289 rfl rfl dR_unlikeCells_23 ?_
      refine j_alen O hcb 0 rfl dR_unlikeCells_26 ?_
      refine j_icmp_ge O 57 dR_unlikeCells_27 (by decide) (fun c2 => ?_) (fun c2 => ?_)
      · exact absurd c2 (nI_ge hi2 h2)
      · refine j_aload_n O 0 dR_unlikeCells_30 rfl rfl ?_
        refine j_get O uwR ha rfl 1 (by decide) w289 rfl rfl dR_unlikeCells_31 ?_
        refine j_iload_n O 3 dR_unlikeCells_34 rfl rfl ?_
        refine j_iald O hca 0 rfl (by omega) (by omega) dR_unlikeCells_35 ?_
        refine j_aload_n O 1 dR_unlikeCells_36 rfl rfl ?_
        refine j_get O uwR hb rfl 1 (by decide) w289 rfl rfl dR_unlikeCells_37 ?_
        refine j_iload_n O 3 dR_unlikeCells_40 rfl rfl ?_
        refine j_iald O hcb 0 rfl (by omega) (by omega) dR_unlikeCells_41 ?_
        refine j_icmp_eq O 51 dR_unlikeCells_42 (by decide) (fun c3 => ?_) (fun c3 => ?_)
        · refine j_iinc O (nI (i + 1)) [(3, .int (nI (i + 1))), (0, .ref a), (1, .ref b), (2, .int (unG f1 f2 u0 i))] dR_unlikeCells_51 rfl (nI_1 _) (by decide) rfl ?_
          refine j_goto O 12 dR_unlikeCells_54 (by decide) ?_
          refine J.pk [1, 2, 3, 0] rfl ?_
          have e : unG f1 f2 u0 i = unG f1 f2 u0 (i + 1) := by rw [unG, if_pos c3]
          rw [e]
          exact ih (i + 1) (by omega)
        · refine j_iload_n O 2 dR_unlikeCells_45 rfl rfl ?_
          refine j_iconst O (v := 1) dR_unlikeCells_46 (by decide) ?_
          refine j_iload_n O 3 dR_unlikeCells_47 rfl rfl ?_
          refine j_ishl O dR_unlikeCells_48 ?_
          refine j_ior O dR_unlikeCells_49 ?_
          refine j_istore_n O 2 [(2, .int ((unG f1 f2 u0 i) ||| ((1 : Int32) <<< ((nI i) &&& 31)))), (0, .ref a), (1, .ref b), (3, .int (nI i))] dR_unlikeCells_50 rfl (by decide) rfl ?_
          refine j_iinc O (nI (i + 1)) [(3, .int (nI (i + 1))), (2, .int ((unG f1 f2 u0 i) ||| ((1 : Int32) <<< ((nI i) &&& 31)))), (0, .ref a), (1, .ref b)] dR_unlikeCells_51 rfl (nI_1 _) (by decide) rfl ?_
          refine j_goto O 12 dR_unlikeCells_54 (by decide) ?_
          refine J.pk [2, 3, 1, 0] rfl ?_
          have e : unG f1 f2 u0 i ||| ((1 : Int32) <<< (nI i &&& 31)) = unG f1 f2 u0 (i + 1) := by rw [unG, if_neg c3]
          rw [e]
          exact ih (i + 1) (by omega)
set_option maxRecDepth 100000 in
set_option maxHeartbeats 4000000 in
theorem c_unlikeCells (l : Launch) (D : va_G) (t : Nat → ClassId) (A : Nat → Prop) (g : GH) (a b : Nat) (r s : RV) (ha : rowAt t g a r) (hb : rowAt t g b s) (h1 : r.2.1.length < 2 ^ 31) (h2 : s.2.1.length < 2 ^ 31) : Ct l yR_unlikeCells sR_unlikeCells { frames := 0, cells := 0, slots := 0, locals := 0 } (zz D t A) [.ref a, .ref b] g 0 0 (fun v g' => v = some (.int (unl r s)) ∧ g' = g) := by
  obtain ⟨ca, f1, ha, hca, hf1⟩ := ha
  obtain ⟨cb, f2, hb, hcb, hf2⟩ := hb
  have hu : unl r s = unG f1 f2 (r.2.2 ^^^ s.2.2) (min r.2.1.length s.2.1.length) := by
    refine unG_congr _ (fun i hi => ⟨?_, ?_⟩)
    · rw [hf1 i (by omega)]; simp [List.getD, List.getElem?_eq_getElem (show i < r.2.1.length by omega)]
    · rw [hf2 i (by omega)]; simp [List.getD, List.getElem?_eq_getElem (show i < s.2.1.length by omega)]
  rw [hu]
  refine Ct.of (cc := bR_unlikeCells) (maxL := 4) (ret := (some .int)) (by decide) (Nat.le_of_ble_eq_true rfl) (fun X hl O M hN => ?_)
  show J X 4 (zz D t A) g 0 0 0 [(0, .ref a), (1, .ref b)] []
  refine j_aload_n O 0 dR_unlikeCells_0 rfl rfl ?_
  refine j_get O uwR ha rfl 2 (by decide) w292 rfl rfl dR_unlikeCells_1 ?_
  refine j_aload_n O 1 dR_unlikeCells_4 rfl rfl ?_
  refine j_get O uwR hb rfl 2 (by decide) w292 rfl rfl dR_unlikeCells_5 ?_
  refine j_ixor O dR_unlikeCells_8 ?_
  refine j_istore_n O 2 [(2, .int (r.2.2 ^^^ s.2.2)), (0, .ref a), (1, .ref b)] dR_unlikeCells_9 rfl (by decide) rfl ?_
  refine j_iconst O (v := 0) dR_unlikeCells_10 (by decide) ?_
  refine j_istore_n O 3 [(3, .int 0), (2, .int (r.2.2 ^^^ s.2.2)), (0, .ref a), (1, .ref b)] dR_unlikeCells_11 rfl (by decide) rfl ?_
  refine J.pk [2, 3, 1, 0] rfl ?_
  exact unlike_loop O M ha hca hb hcb h1 h2 _ 0 (Nat.zero_add _)
end
section
theorem rowAt_of {t : Nat → ClassId} {g : GH} {a c : Nat} {k nu : Int32} {cs : List Int32} {f : Nat → Int32} (ha : gAt g a (eRow k c nu (nI (lvl k)) (prG f (k * 31 + nu) cs.length))) (hc : gAt g c (eI t cs.length f)) (hf : ∀ i (h : i < cs.length), f i = cs[i]) : rowAt t g a (k, cs, nu) := by
  rw [prG_fold f _ cs hf] at ha
  exact ⟨c, f, ha, hc, hf⟩
/-- a row whose cells are all among I -/
def rowI (t : Nat → ClassId) (g : GH) (I : Nat → Prop) (a : Nat) (r : RV) : Prop := ∃ (c : Nat) (f : Nat → Int32), I a ∧ I c ∧ gAt g a (eRow r.1 c r.2.2 (nI (lvl r.1)) (prt r)) ∧ gAt g c (eI t r.2.1.length f) ∧ ∀ i (h : i < r.2.1.length), f i = r.2.1[i]
theorem rowI.at {t : Nat → ClassId} {g : GH} {I : Nat → Prop} {a : Nat} {r : RV} (h : rowI t g I a r) : rowAt t g a r := by
  obtain ⟨c, f, -, -, h1, h2, h3⟩ := h
  exact ⟨c, f, h1, h2, h3⟩
theorem rowI.keep {t : Nat → ClassId} {g g' : GH} {I I' : Nat → Prop} {a : Nat} {r : RV} (h : rowI t g I a r) (hI : ∀ x, I x → I' x) (hk : ∀ (x : Nat) (e : va_E), I x → gAt g x e → gAt g' x e) : rowI t g' I' a r := by
  obtain ⟨c, f, i1, i2, h1, h2, h3⟩ := h
  exact ⟨c, f, hI _ i1, hI _ i2, hk _ _ i1 h1, hk _ _ i2 h2, h3⟩
theorem rowI_of {t : Nat → ClassId} {g : GH} {I : Nat → Prop} {a c : Nat} {k nu : Int32} {cs : List Int32} {f : Nat → Int32} (i1 : I a) (i2 : I c) (ha : gAt g a (eRow k c nu (nI (lvl k)) (prG f (k * 31 + nu) cs.length))) (hc : gAt g c (eI t cs.length f)) (hf : ∀ i (h : i < cs.length), f i = cs[i]) : rowI t g I a (k, cs, nu) := by
  rw [prG_fold f _ cs hf] at ha
  exact ⟨c, f, i1, i2, ha, hc, hf⟩
theorem rowAt.keep {t : Nat → ClassId} {g g' : GH} {a : Nat} {r : RV} {M : List Nat} (h : rowAt t g a r) (hk : Kp M g g') (hM : ∀ (x : Nat) (e : va_E), x ∈ M → gAt g x e → (∀ k c nu lv pr, e ≠ eRow k c nu lv pr) ∧ ∀ n f, e ≠ eI t n f) : rowAt t g' a r := by
  obtain ⟨c, f, ha, hc, hf⟩ := h
  exact ⟨c, f, hk.2 _ _ (fun q => (hM _ _ q ha).1 _ _ _ _ _ rfl) ha, hk.2 _ _ (fun q => (hM _ _ q hc).2 _ _ rfl) hc, hf⟩
theorem rowAt.keep0 {t : Nat → ClassId} {g g' : GH} {a : Nat} {r : RV} (h : rowAt t g a r) (hk : Kp [] g g') : rowAt t g' a r := h.keep hk (fun x e q _ => absurd q List.not_mem_nil)
theorem rowAt.inj {t : Nat → ClassId} {g : GH} {a : Nat} {r s : RV} (h : rowAt t g a r) (h' : rowAt t g a s) : r = s := by
  obtain ⟨c, f, ha, hc, hf⟩ := h
  obtain ⟨c', f', ha', hc', hf'⟩ := h'
  have e := ha.eq ha'
  simp only [Sum.inr.injEq, Prod.mk.injEq, List.cons.injEq, Value.int.injEq, Value.ref.injEq, true_and, and_true] at e
  obtain ⟨e1, e2, e3, -, -⟩ := e
  subst e2
  have e4 := hc.eq hc'
  simp only [Sum.inl.injEq, Prod.mk.injEq, true_and] at e4
  obtain ⟨e5, e6⟩ := e4
  subst e6
  obtain ⟨k, cs, nu⟩ := r
  obtain ⟨k', cs', nu'⟩ := s
  dsimp only at *
  subst e1; subst e3
  congr 1
  congr 1
  exact List.ext_getElem e5 (fun i h1 h2 => (hf i h1).symm.trans (hf' i h2))
/-- a row with another cell -/
def setC (r : RV) (j : Nat) (x z : Int32) : RV := (r.1, r.2.1.set j (if z = 0 then x else 0), if z = 0 then r.2.2 &&& (((1 : Int32) <<< (nI j &&& 31)) ^^^ (-1)) else r.2.2 ||| ((1 : Int32) <<< (nI j &&& 31)))
def blankR (k : Int32) (w : Nat) : RV := (k, List.replicate w 0, ((1 : Int32) <<< (nI w &&& 31)) - 1)
theorem shl1_ne : ∀ l : Nat, l < 32 → ¬ ((1 : Int32) <<< (nI l &&& 31)) = 0 := by decide
theorem unG_or {f1 f2 : Nat → Int32} {b : Int32} : ∀ n : Nat, n ≤ 32 → unG f1 f2 b n = 0 → b = 0 ∧ ∀ i, i < n → f1 i = f2 i
  | 0, _, h => ⟨h, fun i hi => by omega⟩
  | n + 1, hn, h => by
    rw [unG] at h
    split at h
    · next e =>
      obtain ⟨h1, h2⟩ := unG_or n (by omega) h
      exact ⟨h1, fun i hi => by
        rcases Nat.lt_or_ge i n with q | q
        · exact h2 i q
        · rw [show i = n by omega]; exact e⟩
    · exfalso
      have h0 : (unG f1 f2 b n ||| ((1 : Int32) <<< (nI n &&& 31))).toBitVec = 0#32 := by rw [h]; rfl
      rw [Int32.toBitVec_or, BitVec.or_eq_zero_iff] at h0
      exact shl1_ne n (by omega) (Int32.toBitVec_inj.mp h0.2)
theorem unG_same (f1 f2 : Nat → Int32) : ∀ n : Nat, (∀ i, i < n → f1 i = f2 i) → unG f1 f2 0 n = 0
  | 0, _ => rfl
  | n + 1, h => by rw [unG, if_pos (h n (by omega)), unG_same f1 f2 n (fun i hi => h i (by omega))]
theorem unl_self (r : RV) : unl r r = 0 := by
  unfold unl
  rw [Int32.xor_self]
  exact unG_same _ _ _ (fun _ _ => rfl)
theorem unl_eq {r s : RV} (h0 : r.2.1.length ≤ 32) (h1 : r.1 = s.1) (h2 : r.2.1.length = s.2.1.length) (h3 : unl r s = 0) : r = s := by
  obtain ⟨h4, h5⟩ := unG_or _ (by omega) h3
  obtain ⟨k, cs, nu⟩ := r
  obtain ⟨k', cs', nu'⟩ := s
  dsimp only at *
  subst h1
  have h6 : nu = nu' := by
    have e : (nu ^^^ nu').toBitVec = 0#32 := by rw [h4]; rfl
    rw [Int32.toBitVec_xor] at e
    exact Int32.toBitVec_inj.mp (BitVec.xor_eq_zero_iff.mp e)
  subst h6
  congr 1
  congr 1
  refine List.ext_getElem h2 (fun i q1 q2 => ?_)
  have := h5 i (by omega)
  simpa [List.getD, List.getElem?_eq_getElem q1, List.getElem?_eq_getElem q2] using this
set_option maxRecDepth 100000 in
set_option maxHeartbeats 4000000 in
theorem c_isLike (l : Launch) (D : va_G) (t : Nat → ClassId) (A : Nat → Prop) (g : GH) (a b : Nat) (r s : RV) (ha0 : rowAt t g a r) (hb0 : rowAt t g b s) (h1 : r.2.1.length ≤ 32) (h2 : s.2.1.length ≤ 32) : Ct l yR_isLike sR_isLike { frames := 1, cells := 0, slots := 0, locals := 30 } (zz D t A) [.ref a, .ref b] g 0 0 (fun v g' => v = some (.int (if r = s then 1 else 0)) ∧ g' = g) := by
  obtain ⟨ca, f1, ha, hca, hf1⟩ := id ha0
  obtain ⟨cb, f2, hb, hcb, hf2⟩ := id hb0
  refine Ct.of (cc := bR_isLike) (maxL := 2) (ret := (some .boolean)) (by decide) (Nat.le_of_ble_eq_true rfl) (fun X hl O M hN => ?_)
  show J X 2 (zz D t A) g 0 0 0 [(0, .ref a), (1, .ref b)] []
  refine j_aload_n O 0 dR_isLike_0 rfl rfl ?_
  refine j_aload_n O 1 dR_isLike_1 rfl rfl ?_
  refine j_acmp_eq (rx := (some a)) (ry := (some b)) O 37 dR_isLike_2 (by decide) (fun c1 => ?_) (fun c1 => ?_)
  · refine j_iconst O (v := 1) dR_isLike_37 (by decide) ?_
    refine j_goto O 42 dR_isLike_38 (by decide) ?_
    have e : a = b := Option.some.inj c1
    have e2 : r = s := rowAt.inj ha0 (e ▸ hb0)
    exact j_zret O (by decide) M (Nat.le_of_ble_eq_true rfl) (Nat.le_of_ble_eq_true rfl) ⟨by rw [if_pos e2], rfl⟩ dR_isLike_42
  · refine j_aload_n O 0 dR_isLike_5 rfl rfl ?_
    refine j_get O uwR ha rfl 0 (by decide) w284 rfl rfl dR_isLike_6 ?_
    refine j_aload_n O 1 dR_isLike_9 rfl rfl ?_
    refine j_get O uwR hb rfl 0 (by decide) w284 rfl rfl dR_isLike_10 ?_
    refine j_icmp_ne O 41 dR_isLike_13 (by decide) (fun c2 => ?_) (fun c2 => ?_)
    · refine j_iconst O (v := 0) dR_isLike_41 (by decide) ?_
      exact j_zret O (by decide) M (Nat.le_of_ble_eq_true rfl) (Nat.le_of_ble_eq_true rfl) ⟨by rw [if_neg (fun q => c2 (by rw [q]))], rfl⟩ dR_isLike_42
    · refine j_aload_n O 0 dR_isLike_16 rfl rfl ?_
      refine j_get O uwR ha rfl 1 (by decide) w289 rfl rfl dR_isLike_17 ?_
      refine j_alen O hca 0 rfl dR_isLike_20 ?_
      refine j_aload_n O 1 dR_isLike_21 rfl rfl ?_
      refine j_get O uwR hb rfl 1 (by decide) w289 rfl rfl dR_isLike_22 ?_
      refine j_alen O hcb 0 rfl dR_isLike_25 ?_
      refine j_icmp_ne O 41 dR_isLike_26 (by decide) (fun c3 => ?_) (fun c3 => ?_)
      · refine j_iconst O (v := 0) dR_isLike_41 (by decide) ?_
        exact j_zret O (by decide) M (Nat.le_of_ble_eq_true rfl) (Nat.le_of_ble_eq_true rfl) ⟨by rw [if_neg (fun q => c3 (by rw [q]))], rfl⟩ dR_isLike_42
      · refine j_aload_n O 0 dR_isLike_29 rfl rfl ?_
        refine j_aload_n O 1 dR_isLike_30 rfl rfl ?_
        refine j_callV O [.ref b] (c_unlikeCells X.2.1 D t A g a b r s ha0 hb0 (by omega) (by omega)) ha rfl w120 w121 w122 w31 w123 1 rfl rfl rfl (by decide +kernel) ⟨(Nat.le_of_ble_eq_true rfl), (Nat.le_of_ble_eq_true rfl)⟩ rfl (Nat.le_of_ble_eq_true rfl) dR_isLike_31 ⟨(Nat.le_of_ble_eq_true rfl), (Nat.le_of_ble_eq_true rfl)⟩ (fun v1 g2 hp3 => ?_)
        obtain ⟨rfl, hg4⟩ := hp3
        have hg4 := hg4.symm
        subst hg4
        refine j_if_ne O 41 dR_isLike_34 (by decide) (fun c4 => ?_) (fun c4 => ?_)
        · refine j_iconst O (v := 0) dR_isLike_41 (by decide) ?_
          exact j_zret O (by decide) M (Nat.le_of_ble_eq_true rfl) (Nat.le_of_ble_eq_true rfl) ⟨by rw [if_neg (fun q => c4 (by rw [q]; exact unl_self s))], rfl⟩ dR_isLike_42
        · refine j_iconst O (v := 1) dR_isLike_37 (by decide) ?_
          refine j_goto O 42 dR_isLike_38 (by decide) ?_
          exact j_zret O (by decide) M (Nat.le_of_ble_eq_true rfl) (Nat.le_of_ble_eq_true rfl) ⟨by rw [if_pos (unl_eq h1 c2 ((nI_eq (by omega) (by omega)).mp c3) c4)], rfl⟩ dR_isLike_42
set_option maxRecDepth 100000 in
set_option maxHeartbeats 4000000 in
theorem c_blankRow (l : Launch) (D : va_G) (t : Nat → ClassId) (A : Nat → Prop) (g : GH) (key : Int32) (w : Nat) (hw : w < 32) : Ct l yT_blankRow sT_blankRow { frames := 2, cells := 2, slots := w + 5, locals := 60 } (zz D t A) [.int key, .int (nI w)] g 2 (w + 5) (fun v g' => ∃ q, v = some (.ref q) ∧ q ∉ g.1 ∧ rowI t g' (fun x => x ∉ g.1) q (blankR key w) ∧ Kp [] g g') := by
  refine Ct.of (cc := bT_blankRow) (maxL := 2) (ret := (some (.object "TwinTrees$Row"))) (by decide) (Nat.le_of_ble_eq_true rfl) (fun X hl O M hN => ?_)
  show J X 2 (zz D t A) g 0 0 0 [(0, .int key), (1, .int (nI w))] []
  have kp0 : Kp [] g g := Kp.rf
  refine j_new (ci := 3) O uwR tR ftR w103 w275 w31 rfl [.int 0, .null, .int 0, .int 0, .int 0] (fun j hj => by rcases (show j = 0 ∨ j = 1 ∨ j = 2 ∨ j = 3 ∨ j = 4 by omega) with rfl | rfl | rfl | rfl | rfl <;> rfl) (Nat.le_of_ble_eq_true rfl) (by show _ ≤ w + 5; omega) dT_blankRow_0 (fun q5 g6 hq7 e8 => ?_)
  have h9 := gNew_self (g := g) (a := q5) (e := .inr (3, [.int 0, .null, .int 0, .int 0, .int 0]))
  rw [← e8] at h9
  have kp10 := kp0.new (e := .inr (3, [.int 0, .null, .int 0, .int 0, .int 0])) hq7
  rw [← e8] at kp10
  refine j_dup O dT_blankRow_3 rfl ?_
  refine j_iload_n O 0 dT_blankRow_4 rfl rfl ?_
  refine j_iload_n O 1 dT_blankRow_5 rfl rfl ?_
  refine j_newa (atype := .int) O w63 (.int) rfl 0 rfl rfl w (w, .inl (fun _ => 0)) (fun _ => rfl) (nI_pos (by omega)) (nI_clamp (by omega)) (by show w * 4 ≤ _; omega) (Nat.le_of_ble_eq_true rfl) (by show _ ≤ w + 5; omega) dT_blankRow_6 (fun q11 g12 hq13 e14 => ?_)
  have h15 := gNew_old (e' := .inl (t 0, w, .inl (fun _ => 0))) h9 hq13
  rw [← e14] at h15
  have h16 := gNew_self (g := g6) (a := q11) (e := .inl (t 0, w, .inl (fun _ => 0)))
  rw [← e14] at h16
  have kp17 := kp10.new (e := .inl (t 0, w, .inl (fun _ => 0))) hq13
  rw [← e14] at kp17
  refine j_iconst O (v := 1) dT_blankRow_8 (by decide) ?_
  refine j_iload_n O 1 dT_blankRow_9 rfl rfl ?_
  refine j_ishl O dT_blankRow_10 ?_
  refine j_iconst O (v := 1) dT_blankRow_11 (by decide) ?_
  refine j_isub O dT_blankRow_12 ?_
  refine j_callI O [.int key, .ref q11, .int (((1 : Int32) <<< ((nI w) &&& 31)) - 1)] (c_Row_init X.2.1 D t A g12 q5 q11 w (fun _ => 0) key _ (by omega) h15 h16) w278 3 rfl rfl rfl w31 w276 w277 rfl (by decide +kernel) ⟨(Nat.le_of_ble_eq_true rfl), (Nat.le_of_ble_eq_true rfl)⟩ rfl (Nat.le_of_ble_eq_true rfl) dT_blankRow_13 ⟨(Nat.le_of_ble_eq_true rfl), (by show _ ≤ w + 5; omega)⟩ (fun v18 g19 hp20 => ?_)
  obtain ⟨rfl, rfl⟩ := hp20
  have hr : rowI t (gUp g12 q5 (eRow key q11 (((1 : Int32) <<< (nI w &&& 31)) - 1) (nI (lvl key)) (prG (fun _ => 0) (key * 31 + (((1 : Int32) <<< (nI w &&& 31)) - 1)) w))) (fun x => x ∉ g.1) q5 (blankR key w) := by
    refine rowI_of hq7 (kp10.nin hq13) (cs := List.replicate w 0) (c := q11) (f := fun _ => 0) ?_ ?_ (fun i h => by simp)
    · rw [List.length_replicate]; exact gUp_self h15
    · rw [List.length_replicate]; exact gUp_ne h16 ((h16).ne h15 (by simp))
  have kpz := kp17.upN (a := q5) (e := (eRow key q11 (((1 : Int32) <<< (nI w &&& 31)) - 1) (nI (lvl key)) (prG (fun _ => 0) (key * 31 + (((1 : Int32) <<< (nI w &&& 31)) - 1)) w))) (kp0.nin hq7)
  exact j_aret (o := (some q5)) O (Or.inl ⟨_, rfl⟩) M (Nat.le_of_ble_eq_true rfl) (by show _ ≤ w + 5; omega) ⟨q5, rfl, hq7, hr, kpz⟩ dT_blankRow_16
set_option maxRecDepth 100000 in
set_option maxHeartbeats 4000000 in
theorem c_withCell (l : Launch) (D : va_G) (t : Nat → ClassId) (A : Nat → Prop) (g : GH) (a j : Nat) (x z : Int32) (r : RV) (ha0 : rowAt t g a r) (hj : j < r.2.1.length) (hl : r.2.1.length ≤ 32) : Ct l yR_withCell sR_withCell { frames := 2, cells := 2, slots := r.2.1.length + 5, locals := 60 } (zz D t A) [.ref a, .int (nI j), .int x, .int z] g 2 (r.2.1.length + 5) (fun v g' => ∃ q, v = some (.ref q) ∧ q ∉ g.1 ∧ rowI t g' (fun x => x ∉ g.1) q (setC r j x z) ∧ Kp [] g g') := by
  obtain ⟨c, f, ha, hc, hf⟩ := id ha0
  refine Ct.of (cc := bR_withCell) (maxL := 6) (ret := (some (.object "TwinTrees$Row"))) (by decide) (Nat.le_of_ble_eq_true rfl) (fun X hlx O M hN => ?_)
  show J X 6 (zz D t A) g 0 0 0 [(0, .ref a), (1, .int (nI j)), (2, .int x), (3, .int z)] []
  have kp0 : Kp [] g g := Kp.rf
  refine j_aload_n O 0 dR_withCell_0 rfl rfl ?_
  refine j_get O uwR ha rfl 1 (by decide) w289 rfl rfl dR_withCell_1 ?_
  refine j_clone O w317 (List.mem_of_getElem? (i := 8) rfl) w318 w319 w320 (List.mem_of_getElem? (i := 9) rfl) hc 0 rfl (Nat.le_of_ble_eq_true rfl) (Nat.le_of_ble_eq_true rfl) (Nat.le_of_ble_eq_true rfl) (by show _ ≤ r.2.1.length + 5; omega) dR_withCell_4 (fun qc gc hqc ec => ?_)
  have h21 := gNew_old (e' := .inl (t 0, r.2.1.length, .inl f)) ha hqc
  rw [← ec] at h21
  have h22 := gNew_old (e' := .inl (t 0, r.2.1.length, .inl f)) hc hqc
  rw [← ec] at h22
  have hcc := gNew_self (g := g) (a := qc) (e := .inl (t 0, r.2.1.length, .inl f))
  rw [← ec] at hcc
  have kp23 := kp0.new (e := .inl (t 0, r.2.1.length, .inl f)) hqc
  rw [← ec] at kp23
  refine j_castI O w321 hcc 0 rfl dR_withCell_7 ?_
  refine j_astore O [(4, .ref qc), (0, .ref a), (1, .int (nI j)), (2, .int x), (3, .int z)] dR_withCell_10 (by decide) rfl ?_
  refine j_aload O dR_withCell_12 rfl ?_
  refine j_iload_n O 1 dR_withCell_14 rfl rfl ?_
  refine j_iload_n O 3 dR_withCell_15 rfl rfl ?_
  refine j_if_eq O 23 dR_withCell_16 (by decide) (fun c1 => ?_) (fun c1 => ?_)
  · refine j_iload_n O 2 dR_withCell_23 rfl rfl ?_
    refine j_iast O hcc 0 rfl hj (by omega) dR_withCell_24 (fun g24 e25 => ?_)
    have h26 := gUp_ne (e' := .inl (t 0, r.2.1.length, .inl (upd f j x))) h21 (ha.nin hqc)
    rw [← e25] at h26
    have h27 := gUp_ne (e' := .inl (t 0, r.2.1.length, .inl (upd f j x))) h22 (hc.nin hqc)
    rw [← e25] at h27
    have h28 := gUp_self (e' := .inl (t 0, r.2.1.length, .inl (upd f j x))) hcc
    rw [← e25] at h28
    have kp29 := kp23.upN (a := qc) (e := .inl (t 0, r.2.1.length, .inl (upd f j x))) (kp0.nin hqc)
    rw [← e25] at kp29
    refine j_iconst O (v := 1) dR_withCell_25 (by decide) ?_
    refine j_iload_n O 1 dR_withCell_26 rfl rfl ?_
    refine j_ishl O dR_withCell_27 ?_
    refine j_istore O [(5, .int ((1 : Int32) <<< ((nI j) &&& 31))), (4, .ref qc), (0, .ref a), (1, .int (nI j)), (2, .int x), (3, .int z)] dR_withCell_28 (by decide) rfl ?_
    refine j_new (ci := 3) O uwR tR ftR w322 w275 w31 rfl [.int 0, .null, .int 0, .int 0, .int 0] (fun j hj => by rcases (show j = 0 ∨ j = 1 ∨ j = 2 ∨ j = 3 ∨ j = 4 by omega) with rfl | rfl | rfl | rfl | rfl <;> rfl) (Nat.le_of_ble_eq_true rfl) (by show _ ≤ r.2.1.length + 5; omega) dR_withCell_30 (fun q30 g31 hq32 e33 => ?_)
    have h34 := gNew_old (e' := .inr (3, [.int 0, .null, .int 0, .int 0, .int 0])) h26 hq32
    rw [← e33] at h34
    have h35 := gNew_old (e' := .inr (3, [.int 0, .null, .int 0, .int 0, .int 0])) h27 hq32
    rw [← e33] at h35
    have h36 := gNew_old (e' := .inr (3, [.int 0, .null, .int 0, .int 0, .int 0])) h28 hq32
    rw [← e33] at h36
    have h37 := gNew_self (g := g24) (a := q30) (e := .inr (3, [.int 0, .null, .int 0, .int 0, .int 0]))
    rw [← e33] at h37
    have kp38 := kp29.new (e := .inr (3, [.int 0, .null, .int 0, .int 0, .int 0])) hq32
    rw [← e33] at kp38
    refine j_dup O dR_withCell_33 rfl ?_
    refine j_aload_n O 0 dR_withCell_34 rfl rfl ?_
    refine j_get O uwR h34 rfl 0 (by decide) w284 rfl rfl dR_withCell_35 ?_
    refine j_aload O dR_withCell_38 rfl ?_
    refine j_iload_n O 3 dR_withCell_40 rfl rfl ?_
    refine j_if_eq O 54 dR_withCell_41 (by decide) (fun c2 => ?_) (fun c2 => ?_)
    · refine j_aload_n O 0 dR_withCell_54 rfl rfl ?_
      refine j_get O uwR h34 rfl 2 (by decide) w292 rfl rfl dR_withCell_55 ?_
      refine j_iload O dR_withCell_58 rfl ?_
      refine j_iconst O (v := -1) dR_withCell_60 (by decide) ?_
      refine j_ixor O dR_withCell_61 ?_
      refine j_iand O dR_withCell_62 ?_
      refine j_callI O [.int r.1, .ref qc, .int (r.2.2 &&& (((1 : Int32) <<< ((nI j) &&& 31)) ^^^ (-1)))] (c_Row_init X.2.1 D t A g31 q30 qc r.2.1.length (upd f j x) r.1 _ (by omega) h37 h36) w278 3 rfl rfl rfl w31 w323 w277 rfl (by decide +kernel) ⟨(Nat.le_of_ble_eq_true rfl), (Nat.le_of_ble_eq_true rfl)⟩ rfl (Nat.le_of_ble_eq_true rfl) dR_withCell_63 ⟨(Nat.le_of_ble_eq_true rfl), (by show _ ≤ r.2.1.length + 5; omega)⟩ (fun v39 g40 hp41 => ?_)
      obtain ⟨rfl, rfl⟩ := hp41
      have hset : setC r j x z = (r.1, r.2.1.set j (x), r.2.2 &&& (((1 : Int32) <<< ((nI j) &&& 31)) ^^^ (-1))) := by simp only [setC, if_pos c1]
      have hr : rowI t (gUp g31 q30 (eRow r.1 qc (r.2.2 &&& (((1 : Int32) <<< ((nI j) &&& 31)) ^^^ (-1))) (nI (lvl r.1)) (prG (upd f j x) (r.1 * 31 + (r.2.2 &&& (((1 : Int32) <<< ((nI j) &&& 31)) ^^^ (-1)))) r.2.1.length))) (fun x => x ∉ g.1) q30 (setC r j x z) := by
        rw [hset]
        refine rowI_of (kp29.nin hq32) (kp0.nin hqc) (cs := r.2.1.set j (x)) (c := qc) (f := upd f j x) ?_ ?_ (fun i h => ?_)
        · rw [List.length_set]; exact gUp_self h37
        · rw [List.length_set]; exact gUp_ne h36 ((h36).ne h37 (by simp))
        · rw [List.length_set] at h
          rw [List.getElem_set]
          by_cases hij : j = i
          · subst hij; rw [if_pos rfl, pk_us]
          · rw [if_neg hij, pk_un (fun q => hij q.symm)]; exact hf i h
      have kpz := kp38.upN (a := q30) (e := (eRow r.1 qc (r.2.2 &&& (((1 : Int32) <<< ((nI j) &&& 31)) ^^^ (-1))) (nI (lvl r.1)) (prG (upd f j x) (r.1 * 31 + (r.2.2 &&& (((1 : Int32) <<< ((nI j) &&& 31)) ^^^ (-1)))) r.2.1.length))) (kp29.nin hq32)
      exact j_aret (o := (some q30)) O (Or.inl ⟨_, rfl⟩) M (Nat.le_of_ble_eq_true rfl) (by show _ ≤ r.2.1.length + 5; omega) ⟨q30, rfl, (kp29.nin hq32), hr, kpz⟩ dR_withCell_66
    · exact absurd c1 c2
  · refine j_iconst O (v := 0) dR_withCell_19 (by decide) ?_
    refine j_goto O 24 dR_withCell_20 (by decide) ?_
    refine j_iast O hcc 0 rfl hj (by omega) dR_withCell_24 (fun g42 e43 => ?_)
    have h44 := gUp_ne (e' := .inl (t 0, r.2.1.length, .inl (upd f j 0))) h21 (ha.nin hqc)
    rw [← e43] at h44
    have h45 := gUp_ne (e' := .inl (t 0, r.2.1.length, .inl (upd f j 0))) h22 (hc.nin hqc)
    rw [← e43] at h45
    have h46 := gUp_self (e' := .inl (t 0, r.2.1.length, .inl (upd f j 0))) hcc
    rw [← e43] at h46
    have kp47 := kp23.upN (a := qc) (e := .inl (t 0, r.2.1.length, .inl (upd f j 0))) (kp0.nin hqc)
    rw [← e43] at kp47
    refine j_iconst O (v := 1) dR_withCell_25 (by decide) ?_
    refine j_iload_n O 1 dR_withCell_26 rfl rfl ?_
    refine j_ishl O dR_withCell_27 ?_
    refine j_istore O [(5, .int ((1 : Int32) <<< ((nI j) &&& 31))), (4, .ref qc), (0, .ref a), (1, .int (nI j)), (2, .int x), (3, .int z)] dR_withCell_28 (by decide) rfl ?_
    refine j_new (ci := 3) O uwR tR ftR w322 w275 w31 rfl [.int 0, .null, .int 0, .int 0, .int 0] (fun j hj => by rcases (show j = 0 ∨ j = 1 ∨ j = 2 ∨ j = 3 ∨ j = 4 by omega) with rfl | rfl | rfl | rfl | rfl <;> rfl) (Nat.le_of_ble_eq_true rfl) (by show _ ≤ r.2.1.length + 5; omega) dR_withCell_30 (fun q48 g49 hq50 e51 => ?_)
    have h52 := gNew_old (e' := .inr (3, [.int 0, .null, .int 0, .int 0, .int 0])) h44 hq50
    rw [← e51] at h52
    have h53 := gNew_old (e' := .inr (3, [.int 0, .null, .int 0, .int 0, .int 0])) h45 hq50
    rw [← e51] at h53
    have h54 := gNew_old (e' := .inr (3, [.int 0, .null, .int 0, .int 0, .int 0])) h46 hq50
    rw [← e51] at h54
    have h55 := gNew_self (g := g42) (a := q48) (e := .inr (3, [.int 0, .null, .int 0, .int 0, .int 0]))
    rw [← e51] at h55
    have kp56 := kp47.new (e := .inr (3, [.int 0, .null, .int 0, .int 0, .int 0])) hq50
    rw [← e51] at kp56
    refine j_dup O dR_withCell_33 rfl ?_
    refine j_aload_n O 0 dR_withCell_34 rfl rfl ?_
    refine j_get O uwR h52 rfl 0 (by decide) w284 rfl rfl dR_withCell_35 ?_
    refine j_aload O dR_withCell_38 rfl ?_
    refine j_iload_n O 3 dR_withCell_40 rfl rfl ?_
    refine j_if_eq O 54 dR_withCell_41 (by decide) (fun c2 => ?_) (fun c2 => ?_)
    · exact absurd c2 c1
    · refine j_aload_n O 0 dR_withCell_44 rfl rfl ?_
      refine j_get O uwR h52 rfl 2 (by decide) w292 rfl rfl dR_withCell_45 ?_
      refine j_iload O dR_withCell_48 rfl ?_
      refine j_ior O dR_withCell_50 ?_
      refine j_goto O 63 dR_withCell_51 (by decide) ?_
      refine j_callI O [.int r.1, .ref qc, .int (r.2.2 ||| ((1 : Int32) <<< ((nI j) &&& 31)))] (c_Row_init X.2.1 D t A g49 q48 qc r.2.1.length (upd f j 0) r.1 _ (by omega) h55 h54) w278 3 rfl rfl rfl w31 w323 w277 rfl (by decide +kernel) ⟨(Nat.le_of_ble_eq_true rfl), (Nat.le_of_ble_eq_true rfl)⟩ rfl (Nat.le_of_ble_eq_true rfl) dR_withCell_63 ⟨(Nat.le_of_ble_eq_true rfl), (by show _ ≤ r.2.1.length + 5; omega)⟩ (fun v57 g58 hp59 => ?_)
      obtain ⟨rfl, rfl⟩ := hp59
      have hset : setC r j x z = (r.1, r.2.1.set j (0), r.2.2 ||| ((1 : Int32) <<< ((nI j) &&& 31))) := by simp only [setC, if_neg c1]
      have hr : rowI t (gUp g49 q48 (eRow r.1 qc (r.2.2 ||| ((1 : Int32) <<< ((nI j) &&& 31))) (nI (lvl r.1)) (prG (upd f j 0) (r.1 * 31 + (r.2.2 ||| ((1 : Int32) <<< ((nI j) &&& 31)))) r.2.1.length))) (fun x => x ∉ g.1) q48 (setC r j x z) := by
        rw [hset]
        refine rowI_of (kp47.nin hq50) (kp0.nin hqc) (cs := r.2.1.set j (0)) (c := qc) (f := upd f j 0) ?_ ?_ (fun i h => ?_)
        · rw [List.length_set]; exact gUp_self h55
        · rw [List.length_set]; exact gUp_ne h54 ((h54).ne h55 (by simp))
        · rw [List.length_set] at h
          rw [List.getElem_set]
          by_cases hij : j = i
          · subst hij; rw [if_pos rfl, pk_us]
          · rw [if_neg hij, pk_un (fun q => hij q.symm)]; exact hf i h
      have kpz := kp56.upN (a := q48) (e := (eRow r.1 qc (r.2.2 ||| ((1 : Int32) <<< ((nI j) &&& 31))) (nI (lvl r.1)) (prG (upd f j 0) (r.1 * 31 + (r.2.2 ||| ((1 : Int32) <<< ((nI j) &&& 31)))) r.2.1.length))) (kp47.nin hq50)
      exact j_aret (o := (some q48)) O (Or.inl ⟨_, rfl⟩) M (Nat.le_of_ble_eq_true rfl) (by show _ ≤ r.2.1.length + 5; omega) ⟨q48, rfl, (kp47.nin hq50), hr, kpz⟩ dR_withCell_66
/-- a row's part of an address -/
def radG (r : RV) (b : Int64) : Nat → Int64
  | 0 => b
  | i + 1 => if bitN r.2.2 i then adM (radG r b i) 0 else adM (adM (radG r b i) 1) (r.2.1.getD i 0).toInt64
theorem radG_rad (h : Int64) (r : RV) : radG r (adM h r.1.toInt64) r.2.1.length = rad h r := by
  have key : ∀ n, n ≤ r.2.1.length → radG r (adM h r.1.toInt64) n = ((r.2.1.take n).zipIdx).foldl (fun h c => if bitN r.2.2 c.2 then adM h 0 else adM (adM h 1) c.1.toInt64) (adM h r.1.toInt64) := by
    intro n
    induction n with
    | zero => intro _; rfl
    | succ n ih =>
      intro hn
      rw [radG, ih (by omega), List.take_succ_eq_append_getElem (by omega), List.zipIdx_append, List.foldl_append]
      have e : (r.2.1.take n).length = n := by rw [List.length_take]; omega
      simp [e, List.getD, List.getElem?_eq_getElem (show n < r.2.1.length by omega)]
  rw [key _ (Nat.le_refl _), List.take_length]
  rfl
set_option maxRecDepth 100000 in
set_option maxHeartbeats 4000000 in
theorem mixedRow_loop {X : CX} {D : va_G} {t : Nat → ClassId} {A : Nat → Prop} {rm : Room} {g : GH} {a c : Nat} {f : Nat → Int32} {r : RV} {h b : Int64} (O : Ok X bT_mixedRow 6 "TwinTrees" (zz D t A) rm) (M : Om X (zz D t A) (some .long) 0 0 (fun v g' => v = some (.long (radG r b r.2.1.length)) ∧ g' = g)) (ha0 : rowAt t g a r) (ha : gAt g a (eRow r.1 c r.2.2 (nI (lvl r.1)) (prt r))) (hc : gAt g c (eI t r.2.1.length f)) (hf : ∀ i (h : i < r.2.1.length), f i = r.2.1[i]) (hl : r.2.1.length ≤ 32) (hrm : 1 ≤ rm.frames ∧ 30 ≤ rm.locals) : ∀ (k i : Nat), i + k = r.2.1.length → J X 6 (zz D t A) g 0 0 13 [(0, .long h), (2, .ref a), (3, .long (radG r b i)), (5, .int (nI i))] [] := by
  intro k
  induction k with
  | zero =>
    intro i hi
    have hi : i = r.2.1.length := by omega
    subst hi
    refine j_iload O dT_mixedRow_13 rfl ?_
    refine j_aload_n O 2 dT_mixedRow_15 rfl rfl ?_
    refine j_get O uwR ha rfl 1 (by decide) w291 rfl rfl dT_mixedRow_16 ?_
    refine j_alen O hc 0 rfl dT_mixedRow_19 ?_
    refine j_icmp_ge O 63 dT_mixedRow_20 (by decide) (fun c1 => ?_) (fun c1 => ?_)
    · refine j_lload_n O 3 dT_mixedRow_63 rfl rfl ?_
      exact j_lret O M (Nat.le_of_ble_eq_true rfl) (Nat.le_of_ble_eq_true rfl) ⟨rfl, rfl⟩ dT_mixedRow_64
    · exact absurd (nI_le (Nat.le_refl _) (by omega)) c1
  | succ k ih =>
    intro i hi
    have hi1 : i < r.2.1.length := by omega
    have hgd : r.2.1.getD i 0 = f i := by rw [hf i hi1]; simp [List.getD, List.getElem?_eq_getElem hi1]
    refine j_iload O dT_mixedRow_13 rfl ?_
    refine j_aload_n O 2 dT_mixedRow_15 rfl rfl ?_
    refine j_get O uwR ha rfl 1 (by decide) w291 rfl rfl dT_mixedRow_16 ?_
    refine j_alen O hc 0 rfl dT_mixedRow_19 ?_
    refine j_icmp_ge O 63 dT_mixedRow_20 (by decide) (fun c1 => ?_) (fun c1 => ?_)
    · exact absurd c1 (nI_ge hi1 (by omega))
    · refine j_aload_n O 2 dT_mixedRow_23 rfl rfl ?_
      refine j_iload O dT_mixedRow_24 rfl ?_
      refine j_callV O [.int (nI i)] (c_isNull X.2.1 D t A g a (nI i) r ha0) ha rfl w345 w346 w347 w31 w348 1 rfl rfl rfl (by decide +kernel) ⟨(by show 0 + 1 ≤ _; omega), (by show 8 + (_ + 11) + 0 ≤ _; omega)⟩ rfl (Nat.le_of_ble_eq_true rfl) dT_mixedRow_26 ⟨(by show 0 + 0 ≤ _; omega), (by show 0 + 0 ≤ _; omega)⟩ (fun v60 g61 hp62 => ?_)
      obtain ⟨rfl, hg63⟩ := hp62
      have hg63 := hg63.symm
      subst hg63
      refine j_if_eq O 40 dT_mixedRow_29 (by decide) (fun c2 => ?_) (fun c2 => ?_)
      · have c3 : ush r.2.2 (nI i) &&& 1 = 0 := by
          rcases Decidable.em (ush r.2.2 (nI i) &&& 1 = 0) with q | q
          · exact q
          · rw [if_neg q] at c2; exact absurd c2 (by decide)
        have c4 : bitN r.2.2 i = false := by simp [bitN, c3]
        refine j_lload_n O 3 dT_mixedRow_40 rfl rfl ?_
        refine j_lconst O (v := 1) dT_mixedRow_41 (by decide) ?_
        refine j_callS O [.long (radG r b i), .long 1] (c_mixed X.2.1 D t A g _ _) w365 w366 w23 w367 2 rfl rfl rfl (by decide +kernel) ⟨(by show 0 + 1 ≤ _; omega), (by show 8 + (_ + 11) + 0 ≤ _; omega)⟩ rfl (Nat.le_of_ble_eq_true rfl) dT_mixedRow_42 ⟨(by show 0 + 0 ≤ _; omega), (by show 0 + 0 ≤ _; omega)⟩ (fun v64 g65 hp66 => ?_)
        obtain ⟨rfl, hg67⟩ := hp66
        have hg67 := hg67.symm
        subst hg67
        refine j_aload_n O 2 dT_mixedRow_45 rfl rfl ?_
        refine j_get O uwR ha rfl 1 (by decide) w291 rfl rfl dT_mixedRow_46 ?_
        refine j_iload O dT_mixedRow_49 rfl ?_
        refine j_iald O hc 0 rfl (by omega) (by omega) dT_mixedRow_51 ?_
        refine j_i2l O dT_mixedRow_52 ?_
        refine j_callS O [.long (adM (radG r b i) 1), .long ((f i).toInt64)] (c_mixed X.2.1 D t A g _ _) w365 w366 w23 w367 2 rfl rfl rfl (by decide +kernel) ⟨(by show 0 + 1 ≤ _; omega), (by show 8 + (_ + 11) + 0 ≤ _; omega)⟩ rfl (Nat.le_of_ble_eq_true rfl) dT_mixedRow_53 ⟨(by show 0 + 0 ≤ _; omega), (by show 0 + 0 ≤ _; omega)⟩ (fun v68 g69 hp70 => ?_)
        obtain ⟨rfl, hg71⟩ := hp70
        have hg71 := hg71.symm
        subst hg71
        refine j_lstore_n O 3 [(3, .long (adM (adM (radG r b i) 1) (f i).toInt64)), (0, .long h), (2, .ref a), (5, .int (nI i))] dT_mixedRow_56 rfl (by decide) rfl ?_
        refine j_iinc O (nI (i + 1)) [(5, .int (nI (i + 1))), (3, .long (adM (adM (radG r b i) 1) (f i).toInt64)), (0, .long h), (2, .ref a)] dT_mixedRow_57 rfl (nI_1 _) (by decide) rfl ?_
        refine j_goto O 13 dT_mixedRow_60 (by decide) ?_
        refine J.pk [2, 3, 1, 0] rfl ?_
        have e : adM (adM (radG r b i) 1) (f i).toInt64 = radG r b (i + 1) := by rw [radG, c4, hgd]; rfl
        rw [e]
        exact ih (i + 1) (by omega)
      · have c3 : ¬ ush r.2.2 (nI i) &&& 1 = 0 := by
          intro q
          rw [if_pos q] at c2
          exact c2 rfl
        have c4 : bitN r.2.2 i = true := by simp [bitN, c3]
        refine j_lload_n O 3 dT_mixedRow_32 rfl rfl ?_
        refine j_lconst O (v := 0) dT_mixedRow_33 (by decide) ?_
        refine j_callS O [.long (radG r b i), .long 0] (c_mixed X.2.1 D t A g _ _) w365 w366 w23 w367 2 rfl rfl rfl (by decide +kernel) ⟨(by show 0 + 1 ≤ _; omega), (by show 8 + (_ + 11) + 0 ≤ _; omega)⟩ rfl (Nat.le_of_ble_eq_true rfl) dT_mixedRow_34 ⟨(by show 0 + 0 ≤ _; omega), (by show 0 + 0 ≤ _; omega)⟩ (fun v72 g73 hp74 => ?_)
        obtain ⟨rfl, hg75⟩ := hp74
        have hg75 := hg75.symm
        subst hg75
        refine j_goto O 56 dT_mixedRow_37 (by decide) ?_
        refine j_lstore_n O 3 [(3, .long (adM (radG r b i) 0)), (0, .long h), (2, .ref a), (5, .int (nI i))] dT_mixedRow_56 rfl (by decide) rfl ?_
        refine j_iinc O (nI (i + 1)) [(5, .int (nI (i + 1))), (3, .long (adM (radG r b i) 0)), (0, .long h), (2, .ref a)] dT_mixedRow_57 rfl (nI_1 _) (by decide) rfl ?_
        refine j_goto O 13 dT_mixedRow_60 (by decide) ?_
        refine J.pk [2, 3, 1, 0] rfl ?_
        have e : adM (radG r b i) 0 = radG r b (i + 1) := by rw [radG, c4]; rfl
        rw [e]
        exact ih (i + 1) (by omega)
set_option maxRecDepth 100000 in
set_option maxHeartbeats 4000000 in
theorem c_mixedRow (l : Launch) (D : va_G) (t : Nat → ClassId) (A : Nat → Prop) (g : GH) (h : Int64) (a : Nat) (r : RV) (ha0 : rowAt t g a r) (hl : r.2.1.length ≤ 32) : Ct l yT_mixedRow sT_mixedRow { frames := 1, cells := 0, slots := 0, locals := 30 } (zz D t A) [.long h, .ref a] g 0 0 (fun v g' => v = some (.long (rad h r)) ∧ g' = g) := by
  obtain ⟨c, f, ha, hc, hf⟩ := id ha0
  rw [← radG_rad]
  refine Ct.of (cc := bT_mixedRow) (maxL := 6) (ret := (some .long)) (by decide) (Nat.le_of_ble_eq_true rfl) (fun X hlx O M hN => ?_)
  show J X 6 (zz D t A) g 0 0 0 [(0, .long h), (2, .ref a)] []
  refine j_lload_n O 0 dT_mixedRow_0 rfl rfl ?_
  refine j_aload_n O 2 dT_mixedRow_1 rfl rfl ?_
  refine j_get O uwR ha rfl 0 (by decide) w288 rfl rfl dT_mixedRow_2 ?_
  refine j_i2l O dT_mixedRow_5 ?_
  refine j_callS O [.long h, .long r.1.toInt64] (c_mixed X.2.1 D t A g _ _) w365 w366 w23 w367 2 rfl rfl rfl (by decide +kernel) ⟨(Nat.le_of_ble_eq_true rfl), (Nat.le_of_ble_eq_true rfl)⟩ rfl (Nat.le_of_ble_eq_true rfl) dT_mixedRow_6 ⟨(Nat.le_of_ble_eq_true rfl), (Nat.le_of_ble_eq_true rfl)⟩ (fun v76 g77 hp78 => ?_)
  obtain ⟨rfl, hg79⟩ := hp78
  have hg79 := hg79.symm
  subst hg79
  refine j_lstore_n O 3 [(3, .long (adM h r.1.toInt64)), (0, .long h), (2, .ref a)] dT_mixedRow_9 rfl (by decide) rfl ?_
  refine j_iconst O (v := 0) dT_mixedRow_10 (by decide) ?_
  refine j_istore O [(5, .int 0), (3, .long (adM h r.1.toInt64)), (0, .long h), (2, .ref a)] dT_mixedRow_11 (by decide) rfl ?_
  refine J.pk [2, 3, 1, 0] rfl ?_
  exact mixedRow_loop O M ha0 ha hc hf hl ⟨by decide, by decide⟩ _ 0 (Nat.zero_add _)
end
section
def isRow (g : GH) (x : Nat) : Prop := ∃ (k : Int32) (c : Nat) (nu lv pr : Int32), gAt g x (eRow k c nu lv pr)
theorem rowAt.isRow {t : Nat → ClassId} {g : GH} {a : Nat} {r : RV} (h : rowAt t g a r) : isRow g a := by
  obtain ⟨c, f, ha, -, -⟩ := h
  exact ⟨_, _, _, _, _, ha⟩
theorem isRow.upA {t : Nat → ClassId} {g : GH} {x b n : Nat} {f f' : Nat → Option Nat} (h : isRow g x) (hb : gAt g b (eRs t n f)) : isRow (gUp g b (eRs t n f')) x := by
  obtain ⟨k, c, nu, lv, pr, hx⟩ := h
  exact ⟨k, c, nu, lv, pr, gUp_ne hx (hx.ne hb (by simp))⟩
/-- rows by references, from place o on -/
def rowsIn (t : Nat → ClassId) (g : GH) (f : Nat → Option Nat) (o : Nat) (rs : List RV) : Prop := ∀ i (h : i < rs.length), ∃ a, f (o + i) = some a ∧ rowAt t g a rs[i]
/-- how many rows at the front have a lesser key -/
def plc (key : Int32) : List RV → Nat
  | [] => 0
  | r :: rs => if r.1 < key then plc key rs + 1 else 0
theorem plc_of (key : Int32) : ∀ (rs : List RV) (i : Nat), i ≤ rs.length → (∀ j (h : j < rs.length), j < i → rs[j].1 < key) → (∀ h : i < rs.length, ¬ rs[i].1 < key) → plc key rs = i
  | [], i, h, _, _ => by simp at h; subst h; rfl
  | r :: rs, 0, _, _, h3 => by rw [plc, if_neg (show ¬ r.1 < key from h3 (by simp))]
  | r :: rs, i + 1, h1, h2, h3 => by
    rw [plc, if_pos (show r.1 < key from h2 0 (by simp) (by omega)), plc_of key rs i (by simp at h1; omega) (fun j h q => h2 (j + 1) (by simp; omega) (by omega)) (fun h => h3 (by simp; omega))]
theorem plc_le (key : Int32) : ∀ rs : List RV, plc key rs ≤ rs.length
  | [] => Nat.le_refl _
  | r :: rs => by
    rw [plc]
    split
    · simp [plc_le key rs]
    · exact Nat.zero_le _
set_option maxRecDepth 100000 in
set_option maxHeartbeats 4000000 in
theorem c_RL_init (l : Launch) (D : va_G) (t : Nat → ClassId) (A : Nat → Prop) (g : GH) (a : Nat) (ha : gAt g a (.inr (4, [.null, .int 0]))) : Ct l yQ_init sQ_init { frames := 1, cells := 1, slots := 300, locals := 20 } (zz D t A) [.ref a] g 1 300 (fun v g' => v = none ∧ ∃ b, b ∉ g.1 ∧ gAt g' a (eRL b 0) ∧ gAt g' b (eRs t 300 (fun _ => none)) ∧ Kp [a] g g') := by
  refine Ct.of (cc := bQ_init) (maxL := 1) (ret := none) (by decide) (Nat.le_of_ble_eq_true rfl) (fun X hl O M hN => ?_)
  have hN := hN rfl
  show J X 1 (zz D t A) g 0 0 0 [(0, .ref a)] []
  have kp0 : Kp [a] g g := Kp.rf
  refine j_aload_n O 0 dQ_init_0 rfl rfl ?_
  refine j_objInit O w90 w39 w40 dQ_init_1 (Nat.le_of_ble_eq_true rfl) (Nat.le_of_ble_eq_true rfl) ?_
  refine j_aload_n O 0 dQ_init_4 rfl rfl ?_
  refine j_sipush O (v := 300) dQ_init_5 (by decide) ?_
  refine j_newq O w91 (List.mem_of_getElem? (i := 5) rfl) 1 rfl 300 (by decide) (by decide) (by decide) (Nat.le_of_ble_eq_true rfl) (Nat.le_of_ble_eq_true rfl) dQ_init_8 (fun q1 g2 hq3 e4 => ?_)
  have h5 := gNew_old (e' := .inl (t 1, 300, .inr (.inr (.inr (.inr (fun _ => none)))))) ha hq3
  rw [← e4] at h5
  have h6 := gNew_self (g := g) (a := q1) (e := .inl (t 1, 300, .inr (.inr (.inr (.inr (fun _ => none))))))
  rw [← e4] at h6
  have kp7 := kp0.new (e := .inl (t 1, 300, .inr (.inr (.inr (.inr (fun _ => none)))))) hq3
  rw [← e4] at kp7
  refine j_putF O hN uwQ h5 rfl 0 (by decide) w92 rfl tQ ftQ fnQ rfl rfl (.array (.object "TwinTrees$Row")) (by decide +kernel) rfl rfl (Nat.le_of_ble_eq_true rfl) [.ref q1, .int 0] rfl dQ_init_11 (fun g8 e9 => ?_)
  have h10 := gUp_ne (e' := .inr (4, [.ref q1, .int 0])) h6 (Ne.symm (ha.nin hq3))
  rw [← e9] at h10
  have h11 := gUp_self (e' := .inr (4, [.ref q1, .int 0])) h5
  rw [← e9] at h11
  have kp12 := kp7.up (a := a) (e := .inr (4, [.ref q1, .int 0])) (by simp)
  rw [← e9] at kp12
  refine j_aload_n O 0 dQ_init_14 rfl rfl ?_
  refine j_iconst O (v := 0) dQ_init_15 (by decide) ?_
  refine j_put O uwQ h11 rfl 1 (by decide) w95 rfl tQ ftQ fnQ rfl (.int) (by decide +kernel) rfl rfl (Nat.le_of_ble_eq_true rfl) [.ref q1, .int 0] rfl dQ_init_16 (fun g13 e14 => ?_)
  have h15 := gUp_ne (e' := .inr (4, [.ref q1, .int 0])) h10 (Ne.symm (ha.nin hq3))
  rw [← e14] at h15
  have h16 := gUp_self (e' := .inr (4, [.ref q1, .int 0])) h11
  rw [← e14] at h16
  have kp17 := kp12.up (a := a) (e := .inr (4, [.ref q1, .int 0])) (by simp)
  rw [← e14] at kp17
  exact j_vret O M (Nat.le_of_ble_eq_true rfl) (Nat.le_of_ble_eq_true rfl) ⟨rfl, q1, (kp0.nin hq3), h16, h15, kp17⟩ dQ_init_19
set_option maxRecDepth 100000 in
set_option maxHeartbeats 4000000 in
theorem c_append (l : Launch) (D : va_G) (t : Nat → ClassId) (A : Nat → Prop) (g : GH) (q x b len : Nat) (f : Nat → Option Nat) (hq : gAt g q (eRL b (nI len))) (hb : gAt g b (eRs t 300 f)) (hx : isRow g x) (hl : len < 300) : Ct l yQ_append sQ_append { frames := 0, cells := 0, slots := 0, locals := 0 } (zz D t A) [.ref q, .ref x] g 0 0 (fun v g' => v = none ∧ gAt g' q (eRL b (nI (len + 1))) ∧ gAt g' b (eRs t 300 (va_up f len (some x))) ∧ Kp [q, b] g g') := by
  obtain ⟨rk, rc, rn, rl, rp, hx⟩ := hx
  refine Ct.of (cc := bQ_append) (maxL := 2) (ret := none) (by decide) (Nat.le_of_ble_eq_true rfl) (fun X hlx O M hN => ?_)
  show J X 2 (zz D t A) g 0 0 0 [(0, .ref q), (1, .ref x)] []
  have kp0 : Kp [q, b] g g := Kp.rf
  refine j_aload_n O 0 dQ_append_0 rfl rfl ?_
  refine j_get O uwQ hq rfl 1 (by decide) w95 rfl rfl dQ_append_1 ?_
  refine j_sipush O (v := 300) dQ_append_4 (by decide) ?_
  refine j_icmp_ge O 30 dQ_append_7 (by decide) (fun c1 => ?_) (fun c1 => ?_)
  · exact absurd c1 (nI_ge (b := 300) hl (by omega))
  · refine j_aload_n O 0 dQ_append_10 rfl rfl ?_
    refine j_get O uwQ hq rfl 0 (by decide) w92 rfl rfl dQ_append_11 ?_
    refine j_aload_n O 0 dQ_append_14 rfl rfl ?_
    refine j_get O uwQ hq rfl 1 (by decide) w95 rfl rfl dQ_append_15 ?_
    refine j_aload_n O 1 dQ_append_18 rfl rfl ?_
    refine j_aast O hb 1 rfl hx rfl hl (by omega) dQ_append_19 (fun g18 e19 => ?_)
    have h20 := gUp_ne (e' := .inl (t 1, 300, .inr (.inr (.inr (.inr (va_up f len (some x))))))) hq (hq.ne hb (by simp))
    rw [← e19] at h20
    have h21 := gUp_ne (e' := .inl (t 1, 300, .inr (.inr (.inr (.inr (va_up f len (some x))))))) hx (hx.ne hb (by simp))
    rw [← e19] at h21
    have h22 := gUp_self (e' := .inl (t 1, 300, .inr (.inr (.inr (.inr (va_up f len (some x))))))) hb
    rw [← e19] at h22
    have kp23 := kp0.up (a := b) (e := .inl (t 1, 300, .inr (.inr (.inr (.inr (va_up f len (some x))))))) (by simp)
    rw [← e19] at kp23
    refine j_aload_n O 0 dQ_append_20 rfl rfl ?_
    refine j_dup O dQ_append_21 rfl ?_
    refine j_get O uwQ h20 rfl 1 (by decide) w95 rfl rfl dQ_append_22 ?_
    refine j_iconst O (v := 1) dQ_append_25 (by decide) ?_
    refine j_iadd O dQ_append_26 ?_
    refine j_eqi (nI (len + 1)) (nI_1 _) ?_
    refine j_put O uwQ h20 rfl 1 (by decide) w95 rfl tQ ftQ fnQ rfl (.int) (by decide +kernel) rfl rfl (Nat.le_of_ble_eq_true rfl) [.ref b, .int (nI (len + 1))] rfl dQ_append_27 (fun g24 e25 => ?_)
    have h26 := gUp_ne (e' := .inr (4, [.ref b, .int (nI (len + 1))])) h22 (h22.ne h20 (by simp))
    rw [← e25] at h26
    have h27 := gUp_ne (e' := .inr (4, [.ref b, .int (nI (len + 1))])) h21 (h21.ne h20 (by simp))
    rw [← e25] at h27
    have h28 := gUp_self (e' := .inr (4, [.ref b, .int (nI (len + 1))])) h20
    rw [← e25] at h28
    have kp29 := kp23.up (a := q) (e := .inr (4, [.ref b, .int (nI (len + 1))])) (by simp)
    rw [← e25] at kp29
    exact j_vret O M (Nat.le_of_ble_eq_true rfl) (Nat.le_of_ble_eq_true rfl) ⟨rfl, h28, h26, kp29⟩ dQ_append_30
set_option maxRecDepth 100000 in
set_option maxHeartbeats 4000000 in
theorem placeOf_loop {X : CX} {D : va_G} {t : Nat → ClassId} {A : Nat → Prop} {rm : Room} {g : GH} {q b : Nat} {f : Nat → Option Nat} {rs : List RV} {key : Int32} (O : Ok X bQ_placeOf 3 "TwinTrees$RowList" (zz D t A) rm) (M : Om X (zz D t A) (some .int) 0 0 (fun v g' => v = some (.int (nI (plc key rs))) ∧ g' = g)) (hq : gAt g q (eRL b (nI rs.length))) (hb : gAt g b (eRs t 300 f)) (hr : rowsIn t g f 0 rs) (hl : rs.length ≤ 300) : ∀ (k i : Nat), i + k = rs.length → (∀ j (h : j < rs.length), j < i → rs[j].1 < key) → J X 3 (zz D t A) g 0 0 2 [(0, .ref q), (1, .int key), (2, .int (nI i))] [] := by
  intro k
  induction k with
  | zero =>
    intro i hi hlow
    have hp : plc key rs = i := plc_of key rs i (by omega) hlow (fun h => by omega)
    rw [hp] at M
    have hi : i = rs.length := by omega
    subst hi
    refine j_iload_n O 2 dQ_placeOf_2 rfl rfl ?_
    refine j_aload_n O 0 dQ_placeOf_3 rfl rfl ?_
    refine j_get O uwQ hq rfl 1 (by decide) w95 rfl rfl dQ_placeOf_4 ?_
    refine j_icmp_ge O 29 dQ_placeOf_7 (by decide) (fun c1 => ?_) (fun c1 => ?_)
    · refine j_iload_n O 2 dQ_placeOf_29 rfl rfl ?_
      exact j_iret O M (Nat.le_of_ble_eq_true rfl) (Nat.le_of_ble_eq_true rfl) ⟨rfl, rfl⟩ dQ_placeOf_30
    · exact absurd (nI_le (Nat.le_refl _) (by omega)) c1
  | succ k ih =>
    intro i hi hlow
    have hi1 : i < rs.length := by omega
    obtain ⟨x, hfx, hx⟩ := hr i hi1
    rw [Nat.zero_add] at hfx
    obtain ⟨c, fc, hxc, -, -⟩ := hx
    refine j_iload_n O 2 dQ_placeOf_2 rfl rfl ?_
    refine j_aload_n O 0 dQ_placeOf_3 rfl rfl ?_
    refine j_get O uwQ hq rfl 1 (by decide) w95 rfl rfl dQ_placeOf_4 ?_
    refine j_icmp_ge O 29 dQ_placeOf_7 (by decide) (fun c1 => ?_) (fun c1 => ?_)
    · exact absurd c1 (nI_ge hi1 (by omega))
    · refine j_aload_n O 0 dQ_placeOf_10 rfl rfl ?_
      refine j_get O uwQ hq rfl 0 (by decide) w92 rfl rfl dQ_placeOf_11 ?_
      refine j_iload_n O 2 dQ_placeOf_14 rfl rfl ?_
      refine j_aald O hb 1 rfl (by omega) (by omega) dQ_placeOf_15 ?_
      refine j_some x hfx ?_
      refine j_get O uwR hxc rfl 0 (by decide) w287 rfl rfl dQ_placeOf_16 ?_
      refine j_iload_n O 1 dQ_placeOf_19 rfl rfl ?_
      refine j_icmp_ge O 29 dQ_placeOf_20 (by decide) (fun c2 => ?_) (fun c2 => ?_)
      · refine j_iload_n O 2 dQ_placeOf_29 rfl rfl ?_
        have hp : plc key rs = i := plc_of key rs i (by omega) hlow (fun h => Int32.not_lt.mpr c2)
        rw [hp] at M
        exact j_iret O M (Nat.le_of_ble_eq_true rfl) (Nat.le_of_ble_eq_true rfl) ⟨rfl, rfl⟩ dQ_placeOf_30
      · refine j_iinc O (nI (i + 1)) [(2, .int (nI (i + 1))), (0, .ref q), (1, .int key)] dQ_placeOf_23 rfl (nI_1 _) (by decide) rfl ?_
        refine j_goto O 2 dQ_placeOf_26 (by decide) ?_
        refine J.pk [1, 2, 0] rfl ?_
        refine ih (i + 1) (by omega) (fun j h q => ?_)
        rcases Nat.lt_or_ge j i with z | z
        · exact hlow j h z
        · have hj : j = i := by omega
          subst hj
          exact Int32.not_le.mp c2
set_option maxRecDepth 100000 in
set_option maxHeartbeats 4000000 in
theorem c_placeOf (l : Launch) (D : va_G) (t : Nat → ClassId) (A : Nat → Prop) (g : GH) (q b : Nat) (f : Nat → Option Nat) (rs : List RV) (key : Int32) (hq : gAt g q (eRL b (nI rs.length))) (hb : gAt g b (eRs t 300 f)) (hr : rowsIn t g f 0 rs) (hl : rs.length ≤ 300) : Ct l yQ_placeOf sQ_placeOf { frames := 0, cells := 0, slots := 0, locals := 0 } (zz D t A) [.ref q, .int key] g 0 0 (fun v g' => v = some (.int (nI (plc key rs))) ∧ g' = g) := by
  refine Ct.of (cc := bQ_placeOf) (maxL := 3) (ret := (some .int)) (by decide) (Nat.le_of_ble_eq_true rfl) (fun X hlx O M hN => ?_)
  show J X 3 (zz D t A) g 0 0 0 [(0, .ref q), (1, .int key)] []
  refine j_iconst O (v := 0) dQ_placeOf_0 (by decide) ?_
  refine j_istore_n O 2 [(2, .int 0), (0, .ref q), (1, .int key)] dQ_placeOf_1 rfl (by decide) rfl ?_
  refine J.pk [1, 2, 0] rfl ?_
  exact placeOf_loop O M hq hb hr hl _ 0 (Nat.zero_add _) (fun j h q => by omega)
set_option maxRecDepth 100000 in
set_option maxHeartbeats 4000000 in
theorem c_hasKeyAt (l : Launch) (D : va_G) (t : Nat → ClassId) (A : Nat → Prop) (g : GH) (q b p : Nat) (f : Nat → Option Nat) (rs : List RV) (key : Int32) (hp : p ≤ rs.length) (hq : gAt g q (eRL b (nI rs.length))) (hb : gAt g b (eRs t 300 f)) (hr : rowsIn t g f 0 rs) (hl : rs.length ≤ 300) : Ct l yQ_hasKeyAt sQ_hasKeyAt { frames := 0, cells := 0, slots := 0, locals := 0 } (zz D t A) [.ref q, .int (nI p), .int key] g 0 0 (fun v g' => v = some (.int (if ∃ h : p < rs.length, rs[p].1 = key then 1 else 0)) ∧ g' = g) := by
  refine Ct.of (cc := bQ_hasKeyAt) (maxL := 3) (ret := (some .boolean)) (by decide) (Nat.le_of_ble_eq_true rfl) (fun X hlx O M hN => ?_)
  show J X 3 (zz D t A) g 0 0 0 [(0, .ref q), (1, .int (nI p)), (2, .int key)] []
  refine j_iload_n O 1 dQ_hasKeyAt_0 rfl rfl ?_
  refine j_aload_n O 0 dQ_hasKeyAt_1 rfl rfl ?_
  refine j_get O uwQ hq rfl 1 (by decide) w95 rfl rfl dQ_hasKeyAt_2 ?_
  refine j_icmp_ge O 25 dQ_hasKeyAt_5 (by decide) (fun c1 => ?_) (fun c1 => ?_)
  · refine j_iconst O (v := 0) dQ_hasKeyAt_25 (by decide) ?_
    exact j_zret O (by decide) M (Nat.le_of_ble_eq_true rfl) (Nat.le_of_ble_eq_true rfl) ⟨by rw [if_neg (fun q => absurd c1 (nI_ge q.choose (by omega)))], rfl⟩ dQ_hasKeyAt_26
  · have hp1 : p < rs.length := by
      rcases Nat.lt_or_ge p rs.length with z | z
      · exact z
      · exact absurd (nI_le z (by omega)) c1
    obtain ⟨x, hfx, hx⟩ := hr p hp1
    rw [Nat.zero_add] at hfx
    obtain ⟨c, fc, hxc, -, -⟩ := hx
    refine j_aload_n O 0 dQ_hasKeyAt_8 rfl rfl ?_
    refine j_get O uwQ hq rfl 0 (by decide) w92 rfl rfl dQ_hasKeyAt_9 ?_
    refine j_iload_n O 1 dQ_hasKeyAt_12 rfl rfl ?_
    refine j_aald O hb 1 rfl (by omega) (by omega) dQ_hasKeyAt_13 ?_
    refine j_some x hfx ?_
    refine j_get O uwR hxc rfl 0 (by decide) w287 rfl rfl dQ_hasKeyAt_14 ?_
    refine j_iload_n O 2 dQ_hasKeyAt_17 rfl rfl ?_
    refine j_icmp_ne O 25 dQ_hasKeyAt_18 (by decide) (fun c2 => ?_) (fun c2 => ?_)
    · refine j_iconst O (v := 0) dQ_hasKeyAt_25 (by decide) ?_
      exact j_zret O (by decide) M (Nat.le_of_ble_eq_true rfl) (Nat.le_of_ble_eq_true rfl) ⟨by rw [if_neg (fun q => c2 q.choose_spec)], rfl⟩ dQ_hasKeyAt_26
    · refine j_iconst O (v := 1) dQ_hasKeyAt_21 (by decide) ?_
      refine j_goto O 26 dQ_hasKeyAt_22 (by decide) ?_
      exact j_zret O (by decide) M (Nat.le_of_ble_eq_true rfl) (Nat.le_of_ble_eq_true rfl) ⟨by rw [if_pos ⟨hp1, c2⟩], rfl⟩ dQ_hasKeyAt_26
set_option maxRecDepth 100000 in
set_option maxHeartbeats 4000000 in
theorem insertAt_loop {X : CX} {D : va_G} {t : Nat → ClassId} {A : Nat → Prop} {rm : Room} {g : GH} {q b p x len : Nat} {f : Nat → Option Nat} (O : Ok X bQ_insertAt 4 "TwinTrees$RowList" (zz D t A) rm) (M : Om X (zz D t A) none 0 0 (fun v g' => v = none ∧ gAt g' q (eRL b (nI (len + 1))) ∧ ∃ f', gAt g' b (eRs t 300 f') ∧ (∀ j, j < p → f' j = f j) ∧ f' p = some x ∧ (∀ j, p < j → j ≤ len → f' j = f (j - 1)) ∧ Kp [q, b] g g')) (hx0 : ∀ j, j < len → ∃ y, f j = some y) (hpl : p ≤ len) (hl : len < 300) : ∀ (k : Nat) (g1 : GH) (fc : Nat → Option Nat), p + k ≤ len → gAt g1 q (eRL b (nI len)) → gAt g1 b (eRs t 300 fc) → isRow g1 x → (∀ j, j < len → ∀ y, f j = some y → isRow g1 y) → (∀ j, j < p + k → fc j = f j) → (∀ j, p + k < j → j ≤ len → fc j = f (j - 1)) → Kp [q, b] g g1 → J X 4 (zz D t A) g1 0 0 5 [(0, .ref q), (1, .int (nI p)), (2, .ref x), (3, .int (nI (p + k)))] [] := by
  intro k
  induction k with
  | zero =>
    intro g1 fc hk hq hb hx hrw h1 h2 kp0
    obtain ⟨rk, rc, rn, rl, rp, hx⟩ := hx
    rw [Nat.add_zero] at *
    refine j_iload_n O 3 dQ_insertAt_5 rfl rfl ?_
    refine j_iload_n O 1 dQ_insertAt_6 rfl rfl ?_
    refine j_icmp_le O 30 dQ_insertAt_7 (by decide) (fun c1 => ?_) (fun c1 => ?_)
    · refine j_aload_n O 0 dQ_insertAt_30 rfl rfl ?_
      refine j_get O uwQ hq rfl 0 (by decide) w92 rfl rfl dQ_insertAt_31 ?_
      refine j_iload_n O 1 dQ_insertAt_34 rfl rfl ?_
      refine j_aload_n O 2 dQ_insertAt_35 rfl rfl ?_
      refine j_aast O hb 1 rfl hx rfl (by omega) (by omega) dQ_insertAt_36 (fun g30 e31 => ?_)
      have h32 := gUp_ne (e' := .inl (t 1, 300, .inr (.inr (.inr (.inr (va_up fc p (some x))))))) hq (hq.ne hb (by simp))
      rw [← e31] at h32
      have h33 := gUp_ne (e' := .inl (t 1, 300, .inr (.inr (.inr (.inr (va_up fc p (some x))))))) hx (hx.ne hb (by simp))
      rw [← e31] at h33
      have h34 := gUp_self (e' := .inl (t 1, 300, .inr (.inr (.inr (.inr (va_up fc p (some x))))))) hb
      rw [← e31] at h34
      have kp35 := kp0.up (a := b) (e := .inl (t 1, 300, .inr (.inr (.inr (.inr (va_up fc p (some x))))))) (by simp)
      rw [← e31] at kp35
      refine j_aload_n O 0 dQ_insertAt_37 rfl rfl ?_
      refine j_dup O dQ_insertAt_38 rfl ?_
      refine j_get O uwQ h32 rfl 1 (by decide) w95 rfl rfl dQ_insertAt_39 ?_
      refine j_iconst O (v := 1) dQ_insertAt_42 (by decide) ?_
      refine j_iadd O dQ_insertAt_43 ?_
      refine j_eqi (nI (len + 1)) (nI_1 _) ?_
      refine j_put O uwQ h32 rfl 1 (by decide) w95 rfl tQ ftQ fnQ rfl (.int) (by decide +kernel) rfl rfl (Nat.le_of_ble_eq_true rfl) [.ref b, .int (nI (len + 1))] rfl dQ_insertAt_44 (fun g36 e37 => ?_)
      have h38 := gUp_ne (e' := .inr (4, [.ref b, .int (nI (len + 1))])) h34 (h34.ne h32 (by simp))
      rw [← e37] at h38
      have h39 := gUp_ne (e' := .inr (4, [.ref b, .int (nI (len + 1))])) h33 (h33.ne h32 (by simp))
      rw [← e37] at h39
      have h40 := gUp_self (e' := .inr (4, [.ref b, .int (nI (len + 1))])) h32
      rw [← e37] at h40
      have kp41 := kp35.up (a := q) (e := .inr (4, [.ref b, .int (nI (len + 1))])) (by simp)
      rw [← e37] at kp41
      exact j_vret O M (Nat.le_of_ble_eq_true rfl) (Nat.le_of_ble_eq_true rfl) ⟨rfl, h40, _, h38, fun j hj => by rw [va_up_ne _ _ (by omega)]; exact h1 j hj, va_up_self _ _ _, fun j h3 h4 => by rw [va_up_ne _ _ (by omega)]; exact h2 j h3 h4, kp41⟩ dQ_insertAt_47
    · exact absurd (nI_le (Nat.le_refl _) (by omega)) c1
  | succ k ih =>
    intro g1 fc hk hq hb hx hrw h1 h2 kp0
    obtain ⟨y, hy⟩ := hx0 (p + k) (by omega)
    obtain ⟨rk, rc, rn, rl, rp, hyc⟩ := hrw (p + k) (by omega) y hy
    have hfy : fc (p + (k + 1) - 1) = some y := by rw [show p + (k + 1) - 1 = p + k by omega, h1 (p + k) (by omega)]; exact hy
    refine j_iload_n O 3 dQ_insertAt_5 rfl rfl ?_
    refine j_iload_n O 1 dQ_insertAt_6 rfl rfl ?_
    refine j_icmp_le O 30 dQ_insertAt_7 (by decide) (fun c1 => ?_) (fun c1 => ?_)
    · exact absurd c1 (nI_ge (by omega) (by omega))
    · refine j_aload_n O 0 dQ_insertAt_10 rfl rfl ?_
      refine j_get O uwQ hq rfl 0 (by decide) w92 rfl rfl dQ_insertAt_11 ?_
      refine j_iload_n O 3 dQ_insertAt_14 rfl rfl ?_
      refine j_aload_n O 0 dQ_insertAt_15 rfl rfl ?_
      refine j_get O uwQ hq rfl 0 (by decide) w92 rfl rfl dQ_insertAt_16 ?_
      refine j_iload_n O 3 dQ_insertAt_19 rfl rfl ?_
      refine j_iconst O (v := 1) dQ_insertAt_20 (by decide) ?_
      refine j_isub O dQ_insertAt_21 ?_
      refine j_eqi (nI (p + (k + 1) - 1)) (pk_sub (b := 1) (by omega)) ?_
      refine j_aald O hb 1 rfl (by omega) (by omega) dQ_insertAt_22 ?_
      refine j_some y hfy ?_
      refine j_aast O hb 1 rfl hyc rfl (by omega) (by omega) dQ_insertAt_23 (fun g42 e43 => ?_)
      have h44 := gUp_ne (e' := .inl (t 1, 300, .inr (.inr (.inr (.inr (va_up fc (p + (k + 1)) (some y))))))) hq (hq.ne hb (by simp))
      rw [← e43] at h44
      have h45 := gUp_ne (e' := .inl (t 1, 300, .inr (.inr (.inr (.inr (va_up fc (p + (k + 1)) (some y))))))) hyc (hyc.ne hb (by simp))
      rw [← e43] at h45
      have h46 := gUp_self (e' := .inl (t 1, 300, .inr (.inr (.inr (.inr (va_up fc (p + (k + 1)) (some y))))))) hb
      rw [← e43] at h46
      have kp47 := kp0.up (a := b) (e := .inl (t 1, 300, .inr (.inr (.inr (.inr (va_up fc (p + (k + 1)) (some y))))))) (by simp)
      rw [← e43] at kp47
      have e0 := e43
      refine j_iinc O (nI (p + (k + 1) - 1)) [(3, .int (nI (p + (k + 1) - 1))), (0, .ref q), (1, .int (nI p)), (2, .ref x)] dQ_insertAt_24 rfl (sb_m1 (by omega)) (by decide) rfl ?_
      refine j_goto O 5 dQ_insertAt_27 (by decide) ?_
      refine J.pk [1, 2, 3, 0] rfl ?_
      have ek : p + (k + 1) - 1 = p + k := by omega
      rw [ek]
      refine ih _ _ (by omega) h44 h46 (by rw [e0]; exact hx.upA hb) (fun j hj z hz => by rw [e0]; exact (hrw j hj z hz).upA hb) (fun j hj => ?_) (fun j h3 h4 => ?_) kp47
      · rw [va_up_ne _ _ (by omega)]; exact h1 j (by omega)
      · rcases Nat.lt_or_ge (p + (k + 1)) j with z | z
        · rw [va_up_ne _ _ (by omega)]; exact h2 j z h4
        · have hj : j = p + (k + 1) := by omega
          rw [hj, va_up_self, ek]; exact hy.symm
set_option maxRecDepth 100000 in
set_option maxHeartbeats 4000000 in
theorem c_insertAt (l : Launch) (D : va_G) (t : Nat → ClassId) (A : Nat → Prop) (g : GH) (q b p x len : Nat) (f : Nat → Option Nat) (hq : gAt g q (eRL b (nI len))) (hb : gAt g b (eRs t 300 f)) (hx : isRow g x) (hrw : ∀ j, j < len → ∃ y, f j = some y ∧ isRow g y) (hpl : p ≤ len) (hl : len < 300) : Ct l yQ_insertAt sQ_insertAt { frames := 0, cells := 0, slots := 0, locals := 0 } (zz D t A) [.ref q, .int (nI p), .ref x] g 0 0 (fun v g' => v = none ∧ gAt g' q (eRL b (nI (len + 1))) ∧ ∃ f', gAt g' b (eRs t 300 f') ∧ (∀ j, j < p → f' j = f j) ∧ f' p = some x ∧ (∀ j, p < j → j ≤ len → f' j = f (j - 1)) ∧ Kp [q, b] g g') := by
  refine Ct.of (cc := bQ_insertAt) (maxL := 4) (ret := none) (by decide) (Nat.le_of_ble_eq_true rfl) (fun X hlx O M hN => ?_)
  show J X 4 (zz D t A) g 0 0 0 [(0, .ref q), (1, .int (nI p)), (2, .ref x)] []
  refine j_aload_n O 0 dQ_insertAt_0 rfl rfl ?_
  refine j_get O uwQ hq rfl 1 (by decide) w95 rfl rfl dQ_insertAt_1 ?_
  refine j_istore_n O 3 [(3, .int (nI len)), (0, .ref q), (1, .int (nI p)), (2, .ref x)] dQ_insertAt_4 rfl (by decide) rfl ?_
  refine J.pk [1, 2, 3, 0] rfl ?_
  have ek : len = p + (len - p) := by omega
  have K := insertAt_loop O M (fun j hj => (hrw j hj).elim (fun y h => ⟨y, h.1⟩)) hpl hl (len - p) g f (by omega) hq hb hx (fun j hj y hy => by
    obtain ⟨z, h1, h2⟩ := hrw j hj
    rw [hy] at h1
    cases h1
    exact h2) (fun j _ => rfl) (fun j h1 h2 => by omega) Kp.rf
  rw [← ek] at K
  exact K
set_option maxRecDepth 100000 in
set_option maxHeartbeats 4000000 in
theorem takeAt_loop {X : CX} {D : va_G} {t : Nat → ClassId} {A : Nat → Prop} {rm : Room} {g : GH} {q b p len : Nat} {f : Nat → Option Nat} (O : Ok X bQ_takeAt 3 "TwinTrees$RowList" (zz D t A) rm) (M : Om X (zz D t A) none 0 0 (fun v g' => v = none ∧ gAt g' q (eRL b (nI len)) ∧ ∃ f', gAt g' b (eRs t 300 f') ∧ (∀ j, j < p → f' j = f j) ∧ (∀ j, p ≤ j → j < len → f' j = f (j + 1)) ∧ Kp [q, b] g g')) (hx0 : ∀ j, j ≤ len → ∃ y, f j = some y) (hl : len < 300) : ∀ (k i : Nat) (g1 : GH) (fc : Nat → Option Nat), i + k = len → p ≤ i → gAt g1 q (eRL b (nI len)) → gAt g1 b (eRs t 300 fc) → (∀ j, j ≤ len → ∀ y, f j = some y → isRow g1 y) → (∀ j, j < p → fc j = f j) → (∀ j, p ≤ j → j < i → fc j = f (j + 1)) → (∀ j, i ≤ j → fc j = f j) → Kp [q, b] g g1 → J X 3 (zz D t A) g1 0 0 12 [(0, .ref q), (1, .int (nI p)), (2, .int (nI i))] [] := by
  intro k
  induction k with
  | zero =>
    intro i g1 fc hk hpi hq hb hrw h1 h2 h3 kp0
    have hi : i = len := by omega
    subst hi
    refine j_iload_n O 2 dQ_takeAt_12 rfl rfl ?_
    refine j_aload_n O 0 dQ_takeAt_13 rfl rfl ?_
    refine j_get O uwQ hq rfl 1 (by decide) w95 rfl rfl dQ_takeAt_14 ?_
    refine j_icmp_ge O 40 dQ_takeAt_17 (by decide) (fun c1 => ?_) (fun c1 => ?_)
    · exact j_vret O M (Nat.le_of_ble_eq_true rfl) (Nat.le_of_ble_eq_true rfl) ⟨rfl, hq, fc, hb, h1, h2, kp0⟩ dQ_takeAt_40
    · exact absurd (nI_le (Nat.le_refl _) (by omega)) c1
  | succ k ih =>
    intro i g1 fc hk hpi hq hb hrw h1 h2 h3 kp0
    obtain ⟨y, hy⟩ := hx0 (i + 1) (by omega)
    obtain ⟨rk, rc, rn, rl, rp, hyc⟩ := hrw (i + 1) (by omega) y hy
    have hfy : fc (i + 1) = some y := by rw [h3 (i + 1) (by omega)]; exact hy
    refine j_iload_n O 2 dQ_takeAt_12 rfl rfl ?_
    refine j_aload_n O 0 dQ_takeAt_13 rfl rfl ?_
    refine j_get O uwQ hq rfl 1 (by decide) w95 rfl rfl dQ_takeAt_14 ?_
    refine j_icmp_ge O 40 dQ_takeAt_17 (by decide) (fun c1 => ?_) (fun c1 => ?_)
    · exact absurd c1 (nI_ge (by omega) (by omega))
    · refine j_aload_n O 0 dQ_takeAt_20 rfl rfl ?_
      refine j_get O uwQ hq rfl 0 (by decide) w92 rfl rfl dQ_takeAt_21 ?_
      refine j_iload_n O 2 dQ_takeAt_24 rfl rfl ?_
      refine j_aload_n O 0 dQ_takeAt_25 rfl rfl ?_
      refine j_get O uwQ hq rfl 0 (by decide) w92 rfl rfl dQ_takeAt_26 ?_
      refine j_iload_n O 2 dQ_takeAt_29 rfl rfl ?_
      refine j_iconst O (v := 1) dQ_takeAt_30 (by decide) ?_
      refine j_iadd O dQ_takeAt_31 ?_
      refine j_eqi (nI (i + 1)) (nI_1 _) ?_
      refine j_aald O hb 1 rfl (by omega) (by omega) dQ_takeAt_32 ?_
      refine j_some y hfy ?_
      refine j_aast O hb 1 rfl hyc rfl (by omega) (by omega) dQ_takeAt_33 (fun g48 e49 => ?_)
      have h50 := gUp_ne (e' := .inl (t 1, 300, .inr (.inr (.inr (.inr (va_up fc i (some y))))))) hq (hq.ne hb (by simp))
      rw [← e49] at h50
      have h51 := gUp_ne (e' := .inl (t 1, 300, .inr (.inr (.inr (.inr (va_up fc i (some y))))))) hyc (hyc.ne hb (by simp))
      rw [← e49] at h51
      have h52 := gUp_self (e' := .inl (t 1, 300, .inr (.inr (.inr (.inr (va_up fc i (some y))))))) hb
      rw [← e49] at h52
      have kp53 := kp0.up (a := b) (e := .inl (t 1, 300, .inr (.inr (.inr (.inr (va_up fc i (some y))))))) (by simp)
      rw [← e49] at kp53
      have e0 := e49
      refine j_iinc O (nI (i + 1)) [(2, .int (nI (i + 1))), (0, .ref q), (1, .int (nI p))] dQ_takeAt_34 rfl (nI_1 _) (by decide) rfl ?_
      refine j_goto O 12 dQ_takeAt_37 (by decide) ?_
      refine J.pk [1, 2, 0] rfl ?_
      refine ih (i + 1) _ _ (by omega) (by omega) h50 h52 (fun j hj z hz => by rw [e0]; exact (hrw j hj z hz).upA hb) (fun j hj => ?_) (fun j h4 h5 => ?_) (fun j hj => ?_) kp53
      · rw [va_up_ne _ _ (by omega)]; exact h1 j hj
      · rcases Nat.lt_or_ge j i with z | z
        · rw [va_up_ne _ _ (by omega)]; exact h2 j h4 z
        · have hj : j = i := by omega
          rw [hj, va_up_self]; exact hy.symm
      · rw [va_up_ne _ _ (by omega)]; exact h3 j (by omega)
set_option maxRecDepth 100000 in
set_option maxHeartbeats 4000000 in
theorem c_takeAt (l : Launch) (D : va_G) (t : Nat → ClassId) (A : Nat → Prop) (g : GH) (q b p len : Nat) (f : Nat → Option Nat) (hq : gAt g q (eRL b (nI (len + 1)))) (hb : gAt g b (eRs t 300 f)) (hrw : ∀ j, j ≤ len → ∃ y, f j = some y ∧ isRow g y) (hpl : p ≤ len) (hl : len < 300) : Ct l yQ_takeAt sQ_takeAt { frames := 0, cells := 0, slots := 0, locals := 0 } (zz D t A) [.ref q, .int (nI p)] g 0 0 (fun v g' => v = none ∧ gAt g' q (eRL b (nI len)) ∧ ∃ f', gAt g' b (eRs t 300 f') ∧ (∀ j, j < p → f' j = f j) ∧ (∀ j, p ≤ j → j < len → f' j = f (j + 1)) ∧ Kp [q, b] g g') := by
  refine Ct.of (cc := bQ_takeAt) (maxL := 3) (ret := none) (by decide) (Nat.le_of_ble_eq_true rfl) (fun X hlx O M hN => ?_)
  show J X 3 (zz D t A) g 0 0 0 [(0, .ref q), (1, .int (nI p))] []
  have kp0 : Kp [q, b] g g := Kp.rf
  refine j_aload_n O 0 dQ_takeAt_0 rfl rfl ?_
  refine j_dup O dQ_takeAt_1 rfl ?_
  refine j_get O uwQ hq rfl 1 (by decide) w95 rfl rfl dQ_takeAt_2 ?_
  refine j_iconst O (v := 1) dQ_takeAt_5 (by decide) ?_
  refine j_isub O dQ_takeAt_6 ?_
  refine j_eqi (nI (len + 1 - 1)) (pk_sub (b := 1) (by omega)) ?_
  refine j_eqi (nI len) (by rw [show len + 1 - 1 = len by omega]) ?_
  refine j_put O uwQ hq rfl 1 (by decide) w95 rfl tQ ftQ fnQ rfl (.int) (by decide +kernel) rfl rfl (Nat.le_of_ble_eq_true rfl) [.ref b, .int (nI len)] rfl dQ_takeAt_7 (fun g54 e55 => ?_)
  have h56 := gUp_ne (e' := .inr (4, [.ref b, .int (nI len)])) hb (hb.ne hq (by simp))
  rw [← e55] at h56
  have h57 := gUp_self (e' := .inr (4, [.ref b, .int (nI len)])) hq
  rw [← e55] at h57
  have kp58 := kp0.up (a := q) (e := .inr (4, [.ref b, .int (nI len)])) (by simp)
  rw [← e55] at kp58
  refine j_iload_n O 1 dQ_takeAt_10 rfl rfl ?_
  refine j_istore_n O 2 [(2, .int (nI p)), (0, .ref q), (1, .int (nI p))] dQ_takeAt_11 rfl (by decide) rfl ?_
  refine J.pk [1, 2, 0] rfl ?_
  exact takeAt_loop O M (fun j hj => (hrw j hj).elim (fun y h => ⟨y, h.1⟩)) hl (len - p) p _ f (by omega) (Nat.le_refl _) h57 h56 (fun j hj y hy => by
    obtain ⟨z, h1, h2⟩ := hrw j hj
    rw [hy] at h1
    cases h1
    obtain ⟨a1, a2, a3, a4, a5, h3⟩ := h2
    rw [e55]
    exact ⟨a1, a2, a3, a4, a5, gUp_ne h3 (h3.ne hq (by simp))⟩) (fun j _ => rfl) (fun j h1 h2 => by omega) (fun j _ => rfl) kp58
end
section
abbrev NV : Type := Nat × List RV
abbrev NM : Type := Nat → Option NV
abbrev MU : Type := Int64 × Int32 × Int32 × Option Nat
abbrev nCell (h : Nat) (rs : List RV) (ra ba : Nat) (mu : MU) : va_E := eNode (nI h) ra ba (nI rs.length) (nI (nsz h rs)) (lastK rs) (nI (lastL rs)) (nprt h rs) mu.1 mu.2.1 mu.2.2.1 mu.2.2.2
theorem nsz0_take (rs : List RV) (i : Nat) (h : i < rs.length) : nsz 0 (rs.take (i + 1)) = nsz 0 (rs.take i) + (1 + rs[i].2.1.length) := by
  show List.foldl _ 0 _ = List.foldl _ 0 _ + _
  rw [List.take_succ_eq_append_getElem h, List.foldl_append]
  rfl
theorem lastK_at {rs : List RV} {n : Nat} (h : rs.length = n + 1) : lastK rs = (rs[n]'(by omega)).1 := by
  have e : rs[rs.length - 1]? = some (rs[n]'(by omega)) := by rw [show rs.length - 1 = n by omega]; exact List.getElem?_eq_getElem _
  simp only [lastK, List.getLast?_eq_getElem?, e]
theorem lastL_at {rs : List RV} {n : Nat} (h : rs.length = n + 1) : lastL rs = lvl (rs[n]'(by omega)).1 := by
  have e : rs[rs.length - 1]? = some (rs[n]'(by omega)) := by rw [show rs.length - 1 = n by omega]; exact List.getElem?_eq_getElem _
  simp only [lastL, List.getLast?_eq_getElem?, e]
set_option maxRecDepth 100000 in
set_option maxHeartbeats 4000000 in
theorem Node_init_loop {X : CX} {D : va_G} {t : Nat → ClassId} {A : Nat → Prop} {rm : Room} {g : GH} {a s ra ba fr ns : Nat} {fs : Nat → Option Nat} {rs : List RV} {pr : Int32} (O : Ok X bN_init 7 "TwinTrees$Node" (zz D t A) rm) (M : Om X (zz D t A) none 2 rs.length (fun v g' => v = none ∧ ∃ ra ba f', ra ∉ g.1 ∧ ba ∉ g.1 ∧ gAt g' a (eNode 0 ra ba (nI rs.length) (nI (nsz 0 rs)) (lastK rs) (nI (lastL rs)) pr 0 0 0 none) ∧ gAt g' ra (eRs t rs.length f') ∧ (∀ i, i < rs.length → f' i = fs (fr + i)) ∧ gAt g' ba (eNs t 0 (fun _ => none)) ∧ Kp [a] g g')) (hN : On X) (hra : ra ∉ g.1) (hba : ba ∉ g.1) (hns : fr + rs.length ≤ ns) (hn31 : ns < 2 ^ 31) (hsz : nsz 0 rs < 2 ^ 31) : ∀ (k i : Nat) (g1 : GH) (fc : Nat → Option Nat), i + k = rs.length → gAt g1 a (.inr (2, [.int 0, .ref ra, .ref ba, .int 0, .int 0, .int 0, .int 0, .int 0, .long 0, .int 0, .int 0, .null])) → gAt g1 s (eRs t ns fs) → gAt g1 ra (eRs t rs.length fc) → gAt g1 ba (eNs t 0 (fun _ => none)) → s ≠ ra → ba ≠ ra → rowsIn t g1 fs fr rs → (∀ j, j < i → fc j = fs (fr + j)) → Kp [a] g g1 → J X 7 (zz D t A) g1 2 rs.length 53 [(0, .ref a), (1, .ref s), (2, .int (nI fr)), (3, .int (nI (fr + rs.length))), (4, .int pr), (5, .int (nI (nsz 0 (rs.take i)))), (6, .int (nI (fr + i)))] [] := by
  intro k
  induction k with
  | zero =>
    intro i g1 fc hi ha hs hra1 hba1 hne hne2 hr hfc kp0
    have hi : i = rs.length := by omega
    subst hi
    refine j_iload O dN_init_53 rfl ?_
    refine j_iload_n O 3 dN_init_55 rfl rfl ?_
    refine j_icmp_ge O 93 dN_init_56 (by decide) (fun c1 => ?_) (fun c1 => ?_)
    · rcases Nat.eq_zero_or_pos rs.length with hz | hz
      · have hem : rs = [] := List.eq_nil_of_length_eq_zero hz
        refine j_aload_n O 0 dN_init_93 rfl rfl ?_
        refine j_iload_n O 3 dN_init_94 rfl rfl ?_
        refine j_iload_n O 2 dN_init_95 rfl rfl ?_
        refine j_isub O dN_init_96 ?_
        refine j_eqi (nI (fr + rs.length - fr)) (pk_sub (by omega)) ?_
        refine j_eqi (nI rs.length) (by rw [show fr + rs.length - fr = rs.length by omega]) ?_
        refine j_putF O hN uwN ha rfl 3 (by decide) w137 rfl tN ftN fnN rfl rfl (.int) (by decide +kernel) rfl rfl (Nat.le_of_ble_eq_true rfl) [.int 0, .ref ra, .ref ba, .int (nI rs.length), .int 0, .int 0, .int 0, .int 0, .long 0, .int 0, .int 0, .null] rfl dN_init_97 (fun g1 e2 => ?_)
        have h3 := gUp_ne (e' := .inr (2, [.int 0, .ref ra, .ref ba, .int (nI rs.length), .int 0, .int 0, .int 0, .int 0, .long 0, .int 0, .int 0, .null])) hs (hs.ne ha (by simp))
        rw [← e2] at h3
        have h4 := gUp_ne (e' := .inr (2, [.int 0, .ref ra, .ref ba, .int (nI rs.length), .int 0, .int 0, .int 0, .int 0, .long 0, .int 0, .int 0, .null])) hra1 (hra1.ne ha (by simp))
        rw [← e2] at h4
        have h5 := gUp_ne (e' := .inr (2, [.int 0, .ref ra, .ref ba, .int (nI rs.length), .int 0, .int 0, .int 0, .int 0, .long 0, .int 0, .int 0, .null])) hba1 (hba1.ne ha (by simp))
        rw [← e2] at h5
        have h6 := gUp_self (e' := .inr (2, [.int 0, .ref ra, .ref ba, .int (nI rs.length), .int 0, .int 0, .int 0, .int 0, .long 0, .int 0, .int 0, .null])) ha
        rw [← e2] at h6
        have kp7 := kp0.up (a := a) (e := .inr (2, [.int 0, .ref ra, .ref ba, .int (nI rs.length), .int 0, .int 0, .int 0, .int 0, .long 0, .int 0, .int 0, .null])) (by simp)
        rw [← e2] at kp7
        refine j_aload_n O 0 dN_init_100 rfl rfl ?_
        refine j_iload O dN_init_101 rfl ?_
        refine j_eqi (nI (nsz 0 rs)) (by rw [List.take_length]) ?_
        refine j_putF O hN uwN h6 rfl 4 (by decide) w139 rfl tN ftN fnN rfl rfl (.int) (by decide +kernel) rfl rfl (Nat.le_of_ble_eq_true rfl) [.int 0, .ref ra, .ref ba, .int (nI rs.length), .int (nI (nsz 0 rs)), .int 0, .int 0, .int 0, .long 0, .int 0, .int 0, .null] rfl dN_init_103 (fun g8 e9 => ?_)
        have h10 := gUp_ne (e' := .inr (2, [.int 0, .ref ra, .ref ba, .int (nI rs.length), .int (nI (nsz 0 rs)), .int 0, .int 0, .int 0, .long 0, .int 0, .int 0, .null])) h3 (h3.ne h6 (by simp))
        rw [← e9] at h10
        have h11 := gUp_ne (e' := .inr (2, [.int 0, .ref ra, .ref ba, .int (nI rs.length), .int (nI (nsz 0 rs)), .int 0, .int 0, .int 0, .long 0, .int 0, .int 0, .null])) h4 (h4.ne h6 (by simp))
        rw [← e9] at h11
        have h12 := gUp_ne (e' := .inr (2, [.int 0, .ref ra, .ref ba, .int (nI rs.length), .int (nI (nsz 0 rs)), .int 0, .int 0, .int 0, .long 0, .int 0, .int 0, .null])) h5 (h5.ne h6 (by simp))
        rw [← e9] at h12
        have h13 := gUp_self (e' := .inr (2, [.int 0, .ref ra, .ref ba, .int (nI rs.length), .int (nI (nsz 0 rs)), .int 0, .int 0, .int 0, .long 0, .int 0, .int 0, .null])) h6
        rw [← e9] at h13
        have kp14 := kp7.up (a := a) (e := .inr (2, [.int 0, .ref ra, .ref ba, .int (nI rs.length), .int (nI (nsz 0 rs)), .int 0, .int 0, .int 0, .long 0, .int 0, .int 0, .null])) (by simp)
        rw [← e9] at kp14
        refine j_aload_n O 0 dN_init_106 rfl rfl ?_
        refine j_iload_n O 2 dN_init_107 rfl rfl ?_
        refine j_iload_n O 3 dN_init_108 rfl rfl ?_
        refine j_icmp_ge O 123 dN_init_109 (by decide) (fun c2 => ?_) (fun c2 => ?_)
        · refine j_iconst O (v := 0) dN_init_123 (by decide) ?_
          refine j_eqi (lastK rs) (by rw [hem]; rfl) ?_
          refine j_putF O hN uwN h13 rfl 5 (by decide) w141 rfl tN ftN fnN rfl rfl (.int) (by decide +kernel) rfl rfl (Nat.le_of_ble_eq_true rfl) [.int 0, .ref ra, .ref ba, .int (nI rs.length), .int (nI (nsz 0 rs)), .int (lastK rs), .int 0, .int 0, .long 0, .int 0, .int 0, .null] rfl dN_init_124 (fun g15 e16 => ?_)
          have h17 := gUp_ne (e' := .inr (2, [.int 0, .ref ra, .ref ba, .int (nI rs.length), .int (nI (nsz 0 rs)), .int (lastK rs), .int 0, .int 0, .long 0, .int 0, .int 0, .null])) h10 (h10.ne h13 (by simp))
          rw [← e16] at h17
          have h18 := gUp_ne (e' := .inr (2, [.int 0, .ref ra, .ref ba, .int (nI rs.length), .int (nI (nsz 0 rs)), .int (lastK rs), .int 0, .int 0, .long 0, .int 0, .int 0, .null])) h11 (h11.ne h13 (by simp))
          rw [← e16] at h18
          have h19 := gUp_ne (e' := .inr (2, [.int 0, .ref ra, .ref ba, .int (nI rs.length), .int (nI (nsz 0 rs)), .int (lastK rs), .int 0, .int 0, .long 0, .int 0, .int 0, .null])) h12 (h12.ne h13 (by simp))
          rw [← e16] at h19
          have h20 := gUp_self (e' := .inr (2, [.int 0, .ref ra, .ref ba, .int (nI rs.length), .int (nI (nsz 0 rs)), .int (lastK rs), .int 0, .int 0, .long 0, .int 0, .int 0, .null])) h13
          rw [← e16] at h20
          have kp21 := kp14.up (a := a) (e := .inr (2, [.int 0, .ref ra, .ref ba, .int (nI rs.length), .int (nI (nsz 0 rs)), .int (lastK rs), .int 0, .int 0, .long 0, .int 0, .int 0, .null])) (by simp)
          rw [← e16] at kp21
          refine j_aload_n O 0 dN_init_127 rfl rfl ?_
          refine j_iload_n O 2 dN_init_128 rfl rfl ?_
          refine j_iload_n O 3 dN_init_129 rfl rfl ?_
          refine j_icmp_ge O 144 dN_init_130 (by decide) (fun c3 => ?_) (fun c3 => ?_)
          · refine j_iconst O (v := 0) dN_init_144 (by decide) ?_
            refine j_eqi (nI (lastL rs)) (by rw [hem]; rfl) ?_
            refine j_putF O hN uwN h20 rfl 6 (by decide) w143 rfl tN ftN fnN rfl rfl (.int) (by decide +kernel) rfl rfl (Nat.le_of_ble_eq_true rfl) [.int 0, .ref ra, .ref ba, .int (nI rs.length), .int (nI (nsz 0 rs)), .int (lastK rs), .int (nI (lastL rs)), .int 0, .long 0, .int 0, .int 0, .null] rfl dN_init_145 (fun g22 e23 => ?_)
            have h24 := gUp_ne (e' := .inr (2, [.int 0, .ref ra, .ref ba, .int (nI rs.length), .int (nI (nsz 0 rs)), .int (lastK rs), .int (nI (lastL rs)), .int 0, .long 0, .int 0, .int 0, .null])) h17 (h17.ne h20 (by simp))
            rw [← e23] at h24
            have h25 := gUp_ne (e' := .inr (2, [.int 0, .ref ra, .ref ba, .int (nI rs.length), .int (nI (nsz 0 rs)), .int (lastK rs), .int (nI (lastL rs)), .int 0, .long 0, .int 0, .int 0, .null])) h18 (h18.ne h20 (by simp))
            rw [← e23] at h25
            have h26 := gUp_ne (e' := .inr (2, [.int 0, .ref ra, .ref ba, .int (nI rs.length), .int (nI (nsz 0 rs)), .int (lastK rs), .int (nI (lastL rs)), .int 0, .long 0, .int 0, .int 0, .null])) h19 (h19.ne h20 (by simp))
            rw [← e23] at h26
            have h27 := gUp_self (e' := .inr (2, [.int 0, .ref ra, .ref ba, .int (nI rs.length), .int (nI (nsz 0 rs)), .int (lastK rs), .int (nI (lastL rs)), .int 0, .long 0, .int 0, .int 0, .null])) h20
            rw [← e23] at h27
            have kp28 := kp21.up (a := a) (e := .inr (2, [.int 0, .ref ra, .ref ba, .int (nI rs.length), .int (nI (nsz 0 rs)), .int (lastK rs), .int (nI (lastL rs)), .int 0, .long 0, .int 0, .int 0, .null])) (by simp)
            rw [← e23] at kp28
            refine j_aload_n O 0 dN_init_148 rfl rfl ?_
            refine j_iload O dN_init_149 rfl ?_
            refine j_putF O hN uwN h27 rfl 7 (by decide) w145 rfl tN ftN fnN rfl rfl (.int) (by decide +kernel) rfl rfl (Nat.le_of_ble_eq_true rfl) [.int 0, .ref ra, .ref ba, .int (nI rs.length), .int (nI (nsz 0 rs)), .int (lastK rs), .int (nI (lastL rs)), .int pr, .long 0, .int 0, .int 0, .null] rfl dN_init_151 (fun g29 e30 => ?_)
            have h31 := gUp_ne (e' := .inr (2, [.int 0, .ref ra, .ref ba, .int (nI rs.length), .int (nI (nsz 0 rs)), .int (lastK rs), .int (nI (lastL rs)), .int pr, .long 0, .int 0, .int 0, .null])) h24 (h24.ne h27 (by simp))
            rw [← e30] at h31
            have h32 := gUp_ne (e' := .inr (2, [.int 0, .ref ra, .ref ba, .int (nI rs.length), .int (nI (nsz 0 rs)), .int (lastK rs), .int (nI (lastL rs)), .int pr, .long 0, .int 0, .int 0, .null])) h25 (h25.ne h27 (by simp))
            rw [← e30] at h32
            have h33 := gUp_ne (e' := .inr (2, [.int 0, .ref ra, .ref ba, .int (nI rs.length), .int (nI (nsz 0 rs)), .int (lastK rs), .int (nI (lastL rs)), .int pr, .long 0, .int 0, .int 0, .null])) h26 (h26.ne h27 (by simp))
            rw [← e30] at h33
            have h34 := gUp_self (e' := .inr (2, [.int 0, .ref ra, .ref ba, .int (nI rs.length), .int (nI (nsz 0 rs)), .int (lastK rs), .int (nI (lastL rs)), .int pr, .long 0, .int 0, .int 0, .null])) h27
            rw [← e30] at h34
            have kp35 := kp28.up (a := a) (e := .inr (2, [.int 0, .ref ra, .ref ba, .int (nI rs.length), .int (nI (nsz 0 rs)), .int (lastK rs), .int (nI (lastL rs)), .int pr, .long 0, .int 0, .int 0, .null])) (by simp)
            rw [← e30] at kp35
            exact j_vret O M (Nat.le_of_ble_eq_true rfl) (Nat.le_refl _) ⟨rfl, ra, ba, fc, hra, hba, h34, h32, hfc, h33, kp35⟩ dN_init_154
          · exact absurd (nI_le (by omega) (by omega)) c3
        · exact absurd (nI_le (by omega) (by omega)) c2
      · have kx0 : Kp [a] g1 g1 := Kp.rf
        refine j_aload_n O 0 dN_init_93 rfl rfl ?_
        refine j_iload_n O 3 dN_init_94 rfl rfl ?_
        refine j_iload_n O 2 dN_init_95 rfl rfl ?_
        refine j_isub O dN_init_96 ?_
        refine j_eqi (nI (fr + rs.length - fr)) (pk_sub (by omega)) ?_
        refine j_eqi (nI rs.length) (by rw [show fr + rs.length - fr = rs.length by omega]) ?_
        refine j_putF O hN uwN ha rfl 3 (by decide) w137 rfl tN ftN fnN rfl rfl (.int) (by decide +kernel) rfl rfl (Nat.le_of_ble_eq_true rfl) [.int 0, .ref ra, .ref ba, .int (nI rs.length), .int 0, .int 0, .int 0, .int 0, .long 0, .int 0, .int 0, .null] rfl dN_init_97 (fun g36 e37 => ?_)
        have h38 := gUp_ne (e' := .inr (2, [.int 0, .ref ra, .ref ba, .int (nI rs.length), .int 0, .int 0, .int 0, .int 0, .long 0, .int 0, .int 0, .null])) hs (hs.ne ha (by simp))
        rw [← e37] at h38
        have h39 := gUp_ne (e' := .inr (2, [.int 0, .ref ra, .ref ba, .int (nI rs.length), .int 0, .int 0, .int 0, .int 0, .long 0, .int 0, .int 0, .null])) hra1 (hra1.ne ha (by simp))
        rw [← e37] at h39
        have h40 := gUp_ne (e' := .inr (2, [.int 0, .ref ra, .ref ba, .int (nI rs.length), .int 0, .int 0, .int 0, .int 0, .long 0, .int 0, .int 0, .null])) hba1 (hba1.ne ha (by simp))
        rw [← e37] at h40
        have h41 := gUp_self (e' := .inr (2, [.int 0, .ref ra, .ref ba, .int (nI rs.length), .int 0, .int 0, .int 0, .int 0, .long 0, .int 0, .int 0, .null])) ha
        rw [← e37] at h41
        have kp42 := kp0.up (a := a) (e := .inr (2, [.int 0, .ref ra, .ref ba, .int (nI rs.length), .int 0, .int 0, .int 0, .int 0, .long 0, .int 0, .int 0, .null])) (by simp)
        rw [← e37] at kp42
        have kx43 := kx0.up (a := a) (e := .inr (2, [.int 0, .ref ra, .ref ba, .int (nI rs.length), .int 0, .int 0, .int 0, .int 0, .long 0, .int 0, .int 0, .null])) (by simp)
        rw [← e37] at kx43
        refine j_aload_n O 0 dN_init_100 rfl rfl ?_
        refine j_iload O dN_init_101 rfl ?_
        refine j_eqi (nI (nsz 0 rs)) (by rw [List.take_length]) ?_
        refine j_putF O hN uwN h41 rfl 4 (by decide) w139 rfl tN ftN fnN rfl rfl (.int) (by decide +kernel) rfl rfl (Nat.le_of_ble_eq_true rfl) [.int 0, .ref ra, .ref ba, .int (nI rs.length), .int (nI (nsz 0 rs)), .int 0, .int 0, .int 0, .long 0, .int 0, .int 0, .null] rfl dN_init_103 (fun g44 e45 => ?_)
        have h46 := gUp_ne (e' := .inr (2, [.int 0, .ref ra, .ref ba, .int (nI rs.length), .int (nI (nsz 0 rs)), .int 0, .int 0, .int 0, .long 0, .int 0, .int 0, .null])) h38 (h38.ne h41 (by simp))
        rw [← e45] at h46
        have h47 := gUp_ne (e' := .inr (2, [.int 0, .ref ra, .ref ba, .int (nI rs.length), .int (nI (nsz 0 rs)), .int 0, .int 0, .int 0, .long 0, .int 0, .int 0, .null])) h39 (h39.ne h41 (by simp))
        rw [← e45] at h47
        have h48 := gUp_ne (e' := .inr (2, [.int 0, .ref ra, .ref ba, .int (nI rs.length), .int (nI (nsz 0 rs)), .int 0, .int 0, .int 0, .long 0, .int 0, .int 0, .null])) h40 (h40.ne h41 (by simp))
        rw [← e45] at h48
        have h49 := gUp_self (e' := .inr (2, [.int 0, .ref ra, .ref ba, .int (nI rs.length), .int (nI (nsz 0 rs)), .int 0, .int 0, .int 0, .long 0, .int 0, .int 0, .null])) h41
        rw [← e45] at h49
        have kp50 := kp42.up (a := a) (e := .inr (2, [.int 0, .ref ra, .ref ba, .int (nI rs.length), .int (nI (nsz 0 rs)), .int 0, .int 0, .int 0, .long 0, .int 0, .int 0, .null])) (by simp)
        rw [← e45] at kp50
        have kx51 := kx43.up (a := a) (e := .inr (2, [.int 0, .ref ra, .ref ba, .int (nI rs.length), .int (nI (nsz 0 rs)), .int 0, .int 0, .int 0, .long 0, .int 0, .int 0, .null])) (by simp)
        rw [← e45] at kx51
        refine j_aload_n O 0 dN_init_106 rfl rfl ?_
        refine j_iload_n O 2 dN_init_107 rfl rfl ?_
        refine j_iload_n O 3 dN_init_108 rfl rfl ?_
        refine j_icmp_ge O 123 dN_init_109 (by decide) (fun c2 => ?_) (fun c2 => ?_)
        · exact absurd c2 (nI_ge (by omega) (by omega))
        · obtain ⟨m, hm⟩ : ∃ m, rs.length = m + 1 := ⟨rs.length - 1, by omega⟩
          obtain ⟨x, hfx, hx⟩ := hr m (by omega)
          have hfx2 : fs (fr + rs.length - 1) = some x := by rw [show fr + rs.length - 1 = fr + m by omega]; exact hfx
          obtain ⟨c, fc2, hxc, -, -⟩ := hx
          refine j_aload_n O 1 dN_init_112 rfl rfl ?_
          refine j_iload_n O 3 dN_init_113 rfl rfl ?_
          refine j_iconst O (v := 1) dN_init_114 (by decide) ?_
          refine j_isub O dN_init_115 ?_
          refine j_eqi (nI (fr + rs.length - 1)) (pk_sub (b := 1) (by omega)) ?_
          have hxg := kx51.2 x _ (fun q => by simp only [List.mem_cons, List.not_mem_nil, or_false] at q; subst q; exact absurd (hxc.eq ha) (by simp)) hxc
          refine j_aald O h46 1 rfl (by omega) (by omega) dN_init_116 ?_
          refine j_some x hfx2 ?_
          refine j_get O uwR hxg rfl 0 (by decide) w285 rfl rfl dN_init_117 ?_
          refine j_goto O 124 dN_init_120 (by decide) ?_
          refine j_eqi (lastK rs) (lastK_at hm).symm ?_
          refine j_putF O hN uwN h49 rfl 5 (by decide) w141 rfl tN ftN fnN rfl rfl (.int) (by decide +kernel) rfl rfl (Nat.le_of_ble_eq_true rfl) [.int 0, .ref ra, .ref ba, .int (nI rs.length), .int (nI (nsz 0 rs)), .int (lastK rs), .int 0, .int 0, .long 0, .int 0, .int 0, .null] rfl dN_init_124 (fun g52 e53 => ?_)
          have h54 := gUp_ne (e' := .inr (2, [.int 0, .ref ra, .ref ba, .int (nI rs.length), .int (nI (nsz 0 rs)), .int (lastK rs), .int 0, .int 0, .long 0, .int 0, .int 0, .null])) h46 (h46.ne h49 (by simp))
          rw [← e53] at h54
          have h55 := gUp_ne (e' := .inr (2, [.int 0, .ref ra, .ref ba, .int (nI rs.length), .int (nI (nsz 0 rs)), .int (lastK rs), .int 0, .int 0, .long 0, .int 0, .int 0, .null])) h47 (h47.ne h49 (by simp))
          rw [← e53] at h55
          have h56 := gUp_ne (e' := .inr (2, [.int 0, .ref ra, .ref ba, .int (nI rs.length), .int (nI (nsz 0 rs)), .int (lastK rs), .int 0, .int 0, .long 0, .int 0, .int 0, .null])) h48 (h48.ne h49 (by simp))
          rw [← e53] at h56
          have h57 := gUp_ne (e' := .inr (2, [.int 0, .ref ra, .ref ba, .int (nI rs.length), .int (nI (nsz 0 rs)), .int (lastK rs), .int 0, .int 0, .long 0, .int 0, .int 0, .null])) hxg (hxg.ne h49 (by simp))
          rw [← e53] at h57
          have h58 := gUp_self (e' := .inr (2, [.int 0, .ref ra, .ref ba, .int (nI rs.length), .int (nI (nsz 0 rs)), .int (lastK rs), .int 0, .int 0, .long 0, .int 0, .int 0, .null])) h49
          rw [← e53] at h58
          have kp59 := kp50.up (a := a) (e := .inr (2, [.int 0, .ref ra, .ref ba, .int (nI rs.length), .int (nI (nsz 0 rs)), .int (lastK rs), .int 0, .int 0, .long 0, .int 0, .int 0, .null])) (by simp)
          rw [← e53] at kp59
          have kx60 := kx51.up (a := a) (e := .inr (2, [.int 0, .ref ra, .ref ba, .int (nI rs.length), .int (nI (nsz 0 rs)), .int (lastK rs), .int 0, .int 0, .long 0, .int 0, .int 0, .null])) (by simp)
          rw [← e53] at kx60
          refine j_aload_n O 0 dN_init_127 rfl rfl ?_
          refine j_iload_n O 2 dN_init_128 rfl rfl ?_
          refine j_iload_n O 3 dN_init_129 rfl rfl ?_
          refine j_icmp_ge O 144 dN_init_130 (by decide) (fun c3 => ?_) (fun c3 => ?_)
          · exact absurd c3 (nI_ge (by omega) (by omega))
          · refine j_aload_n O 1 dN_init_133 rfl rfl ?_
            refine j_iload_n O 3 dN_init_134 rfl rfl ?_
            refine j_iconst O (v := 1) dN_init_135 (by decide) ?_
            refine j_isub O dN_init_136 ?_
            refine j_eqi (nI (fr + rs.length - 1)) (pk_sub (b := 1) (by omega)) ?_
            refine j_aald O h54 1 rfl (by omega) (by omega) dN_init_137 ?_
            refine j_some x hfx2 ?_
            refine j_get O uwR h57 rfl 3 (by decide) w294 rfl rfl dN_init_138 ?_
            refine j_goto O 145 dN_init_141 (by decide) ?_
            refine j_eqi (nI (lastL rs)) (by rw [lastL_at hm]) ?_
            refine j_putF O hN uwN h58 rfl 6 (by decide) w143 rfl tN ftN fnN rfl rfl (.int) (by decide +kernel) rfl rfl (Nat.le_of_ble_eq_true rfl) [.int 0, .ref ra, .ref ba, .int (nI rs.length), .int (nI (nsz 0 rs)), .int (lastK rs), .int (nI (lastL rs)), .int 0, .long 0, .int 0, .int 0, .null] rfl dN_init_145 (fun g61 e62 => ?_)
            have h63 := gUp_ne (e' := .inr (2, [.int 0, .ref ra, .ref ba, .int (nI rs.length), .int (nI (nsz 0 rs)), .int (lastK rs), .int (nI (lastL rs)), .int 0, .long 0, .int 0, .int 0, .null])) h54 (h54.ne h58 (by simp))
            rw [← e62] at h63
            have h64 := gUp_ne (e' := .inr (2, [.int 0, .ref ra, .ref ba, .int (nI rs.length), .int (nI (nsz 0 rs)), .int (lastK rs), .int (nI (lastL rs)), .int 0, .long 0, .int 0, .int 0, .null])) h55 (h55.ne h58 (by simp))
            rw [← e62] at h64
            have h65 := gUp_ne (e' := .inr (2, [.int 0, .ref ra, .ref ba, .int (nI rs.length), .int (nI (nsz 0 rs)), .int (lastK rs), .int (nI (lastL rs)), .int 0, .long 0, .int 0, .int 0, .null])) h56 (h56.ne h58 (by simp))
            rw [← e62] at h65
            have h66 := gUp_ne (e' := .inr (2, [.int 0, .ref ra, .ref ba, .int (nI rs.length), .int (nI (nsz 0 rs)), .int (lastK rs), .int (nI (lastL rs)), .int 0, .long 0, .int 0, .int 0, .null])) h57 (h57.ne h58 (by simp))
            rw [← e62] at h66
            have h67 := gUp_self (e' := .inr (2, [.int 0, .ref ra, .ref ba, .int (nI rs.length), .int (nI (nsz 0 rs)), .int (lastK rs), .int (nI (lastL rs)), .int 0, .long 0, .int 0, .int 0, .null])) h58
            rw [← e62] at h67
            have kp68 := kp59.up (a := a) (e := .inr (2, [.int 0, .ref ra, .ref ba, .int (nI rs.length), .int (nI (nsz 0 rs)), .int (lastK rs), .int (nI (lastL rs)), .int 0, .long 0, .int 0, .int 0, .null])) (by simp)
            rw [← e62] at kp68
            have kx69 := kx60.up (a := a) (e := .inr (2, [.int 0, .ref ra, .ref ba, .int (nI rs.length), .int (nI (nsz 0 rs)), .int (lastK rs), .int (nI (lastL rs)), .int 0, .long 0, .int 0, .int 0, .null])) (by simp)
            rw [← e62] at kx69
            refine j_aload_n O 0 dN_init_148 rfl rfl ?_
            refine j_iload O dN_init_149 rfl ?_
            refine j_putF O hN uwN h67 rfl 7 (by decide) w145 rfl tN ftN fnN rfl rfl (.int) (by decide +kernel) rfl rfl (Nat.le_of_ble_eq_true rfl) [.int 0, .ref ra, .ref ba, .int (nI rs.length), .int (nI (nsz 0 rs)), .int (lastK rs), .int (nI (lastL rs)), .int pr, .long 0, .int 0, .int 0, .null] rfl dN_init_151 (fun g70 e71 => ?_)
            have h72 := gUp_ne (e' := .inr (2, [.int 0, .ref ra, .ref ba, .int (nI rs.length), .int (nI (nsz 0 rs)), .int (lastK rs), .int (nI (lastL rs)), .int pr, .long 0, .int 0, .int 0, .null])) h63 (h63.ne h67 (by simp))
            rw [← e71] at h72
            have h73 := gUp_ne (e' := .inr (2, [.int 0, .ref ra, .ref ba, .int (nI rs.length), .int (nI (nsz 0 rs)), .int (lastK rs), .int (nI (lastL rs)), .int pr, .long 0, .int 0, .int 0, .null])) h64 (h64.ne h67 (by simp))
            rw [← e71] at h73
            have h74 := gUp_ne (e' := .inr (2, [.int 0, .ref ra, .ref ba, .int (nI rs.length), .int (nI (nsz 0 rs)), .int (lastK rs), .int (nI (lastL rs)), .int pr, .long 0, .int 0, .int 0, .null])) h65 (h65.ne h67 (by simp))
            rw [← e71] at h74
            have h75 := gUp_ne (e' := .inr (2, [.int 0, .ref ra, .ref ba, .int (nI rs.length), .int (nI (nsz 0 rs)), .int (lastK rs), .int (nI (lastL rs)), .int pr, .long 0, .int 0, .int 0, .null])) h66 (h66.ne h67 (by simp))
            rw [← e71] at h75
            have h76 := gUp_self (e' := .inr (2, [.int 0, .ref ra, .ref ba, .int (nI rs.length), .int (nI (nsz 0 rs)), .int (lastK rs), .int (nI (lastL rs)), .int pr, .long 0, .int 0, .int 0, .null])) h67
            rw [← e71] at h76
            have kp77 := kp68.up (a := a) (e := .inr (2, [.int 0, .ref ra, .ref ba, .int (nI rs.length), .int (nI (nsz 0 rs)), .int (lastK rs), .int (nI (lastL rs)), .int pr, .long 0, .int 0, .int 0, .null])) (by simp)
            rw [← e71] at kp77
            have kx78 := kx69.up (a := a) (e := .inr (2, [.int 0, .ref ra, .ref ba, .int (nI rs.length), .int (nI (nsz 0 rs)), .int (lastK rs), .int (nI (lastL rs)), .int pr, .long 0, .int 0, .int 0, .null])) (by simp)
            rw [← e71] at kx78
            exact j_vret O M (Nat.le_of_ble_eq_true rfl) (Nat.le_refl _) ⟨rfl, ra, ba, fc, hra, hba, h76, h73, hfc, h74, kp77⟩ dN_init_154
    · exact absurd (nI_le (Nat.le_refl _) (by omega)) c1
  | succ k ih =>
    intro i g1 fc hi ha hs hra1 hba1 hne hne2 hr hfc kp0
    have hi1 : i < rs.length := by omega
    obtain ⟨x, hfx, hx⟩ := hr i hi1
    obtain ⟨c, fc2, hxc, hcc, -⟩ := id hx
    refine j_iload O dN_init_53 rfl ?_
    refine j_iload_n O 3 dN_init_55 rfl rfl ?_
    refine j_icmp_ge O 93 dN_init_56 (by decide) (fun c1 => ?_) (fun c1 => ?_)
    · exact absurd c1 (nI_ge (by omega) (by omega))
    · refine j_aload_n O 0 dN_init_59 rfl rfl ?_
      refine j_get O uwN ha rfl 1 (by decide) w133 rfl rfl dN_init_60 ?_
      refine j_iload O dN_init_63 rfl ?_
      refine j_iload_n O 2 dN_init_65 rfl rfl ?_
      refine j_isub O dN_init_66 ?_
      refine j_eqi (nI (fr + i - fr)) (pk_sub (by omega)) ?_
      refine j_eqi (nI i) (by rw [show fr + i - fr = i by omega]) ?_
      refine j_aload_n O 1 dN_init_67 rfl rfl ?_
      refine j_iload O dN_init_68 rfl ?_
      refine j_aald O hs 1 rfl (by omega) (by omega) dN_init_70 ?_
      refine j_some x hfx ?_
      refine j_aast O hra1 1 rfl hxc rfl hi1 (by omega) dN_init_71 (fun g79 e80 => ?_)
      have h81 := gUp_ne (e' := .inl (t 1, rs.length, .inr (.inr (.inr (.inr (va_up fc i (some x))))))) ha (ha.ne hra1 (by simp))
      rw [← e80] at h81
      have h82 := gUp_ne (e' := .inl (t 1, rs.length, .inr (.inr (.inr (.inr (va_up fc i (some x))))))) hs hne
      rw [← e80] at h82
      have h83 := gUp_ne (e' := .inl (t 1, rs.length, .inr (.inr (.inr (.inr (va_up fc i (some x))))))) hba1 hne2
      rw [← e80] at h83
      have h84 := gUp_ne (e' := .inl (t 1, rs.length, .inr (.inr (.inr (.inr (va_up fc i (some x))))))) hxc (hxc.ne hra1 (by simp))
      rw [← e80] at h84
      have h85 := gUp_ne (e' := .inl (t 1, rs.length, .inr (.inr (.inr (.inr (va_up fc i (some x))))))) hcc (hcc.ne hra1 (by simp))
      rw [← e80] at h85
      have h86 := gUp_self (e' := .inl (t 1, rs.length, .inr (.inr (.inr (.inr (va_up fc i (some x))))))) hra1
      rw [← e80] at h86
      have kp87 := kp0.upN (a := ra) (e := .inl (t 1, rs.length, .inr (.inr (.inr (.inr (va_up fc i (some x))))))) hra
      rw [← e80] at kp87
      refine j_iload O dN_init_72 rfl ?_
      refine j_iconst O (v := 1) dN_init_74 (by decide) ?_
      refine j_aload_n O 1 dN_init_75 rfl rfl ?_
      refine j_iload O dN_init_76 rfl ?_
      refine j_aald O h82 1 rfl (by omega) (by omega) dN_init_78 ?_
      refine j_some x hfx ?_
      refine j_get O uwR h84 rfl 1 (by decide) w290 rfl rfl dN_init_79 ?_
      refine j_alen O h85 0 rfl dN_init_82 ?_
      refine j_iadd O dN_init_83 ?_
      refine j_eqi (nI (1 + rs[i].2.1.length)) (nI_add 1 _) ?_
      refine j_iadd O dN_init_84 ?_
      refine j_eqi (nI (nsz 0 (rs.take i) + (1 + rs[i].2.1.length))) (nI_add _ _) ?_
      refine j_eqi (nI (nsz 0 (rs.take (i + 1)))) (by rw [nsz0_take rs i hi1]) ?_
      refine j_istore O [(5, .int (nI (nsz 0 (rs.take (i + 1))))), (0, .ref a), (1, .ref s), (2, .int (nI fr)), (3, .int (nI (fr + rs.length))), (4, .int pr), (6, .int (nI (fr + i)))] dN_init_85 (by decide) rfl ?_
      refine j_iinc O (nI (fr + i + 1)) [(6, .int (nI (fr + i + 1))), (5, .int (nI (nsz 0 (rs.take (i + 1))))), (0, .ref a), (1, .ref s), (2, .int (nI fr)), (3, .int (nI (fr + rs.length))), (4, .int pr)] dN_init_87 rfl (nI_1 _) (by decide) rfl ?_
      refine j_goto O 53 dN_init_90 (by decide) ?_
      rw [Nat.add_assoc fr i 1]
      refine J.pk [2, 3, 4, 5, 6, 1, 0] rfl ?_
      refine ih (i + 1) _ _ (by omega) h81 h82 h86 h83 hne hne2 (fun j hj => ?_) (fun j hj => ?_) kp87
      · obtain ⟨y, h1, h2⟩ := hr j hj
        refine ⟨y, h1, ?_⟩
        rw [e80]
        obtain ⟨c3, f3, a1, a2, a3⟩ := h2
        exact ⟨c3, f3, gUp_ne a1 (a1.ne hra1 (by simp)), gUp_ne a2 (a2.ne hra1 (by simp)), a3⟩
      · rcases Nat.lt_or_ge j i with z | z
        · rw [va_up_ne _ _ (by omega)]; exact hfc j z
        · have hj : j = i := by omega
          rw [hj, va_up_self]; exact hfx.symm
set_option maxRecDepth 100000 in
set_option maxHeartbeats 4000000 in
theorem c_Node_init (l : Launch) (D : va_G) (t : Nat → ClassId) (A : Nat → Prop) (g : GH) (a s fr ns : Nat) (fs : Nat → Option Nat) (rs : List RV) (pr : Int32) (ha : gAt g a (.inr (2, [.int 0, .null, .null, .int 0, .int 0, .int 0, .int 0, .int 0, .long 0, .int 0, .int 0, .null]))) (hs : gAt g s (eRs t ns fs)) (hr : rowsIn t g fs fr rs) (hns : fr + rs.length ≤ ns) (hn31 : ns < 2 ^ 27) (hsz : nsz 0 rs < 2 ^ 31) : Ct l yN_init sN_init { frames := 1, cells := 2, slots := rs.length, locals := 20 } (zz D t A) [.ref a, .ref s, .int (nI fr), .int (nI (fr + rs.length)), .int pr] g 2 rs.length (fun v g' => v = none ∧ ∃ ra ba f', ra ∉ g.1 ∧ ba ∉ g.1 ∧ gAt g' a (eNode 0 ra ba (nI rs.length) (nI (nsz 0 rs)) (lastK rs) (nI (lastL rs)) pr 0 0 0 none) ∧ gAt g' ra (eRs t rs.length f') ∧ (∀ i, i < rs.length → f' i = fs (fr + i)) ∧ gAt g' ba (eNs t 0 (fun _ => none)) ∧ Kp [a] g g') := by
  refine Ct.of (cc := bN_init) (maxL := 7) (ret := none) (by decide) (Nat.le_of_ble_eq_true rfl) (fun X hl O M hN => ?_)
  have hN := hN rfl
  show J X 7 (zz D t A) g 0 0 0 [(0, .ref a), (1, .ref s), (2, .int (nI fr)), (3, .int (nI (fr + rs.length))), (4, .int pr)] []
  have kp0 : Kp [a] g g := Kp.rf
  refine j_aload_n O 0 dN_init_0 rfl rfl ?_
  refine j_objInit O w128 w39 w40 dN_init_1 (Nat.le_of_ble_eq_true rfl) (Nat.le_of_ble_eq_true rfl) ?_
  refine j_aload_n O 0 dN_init_4 rfl rfl ?_
  refine j_lconst O (v := 0) dN_init_5 (by decide) ?_
  refine j_put O uwN ha rfl 8 (by decide) w147 rfl tN ftN fnN rfl (.long) (by decide +kernel) rfl rfl (Nat.le_of_ble_eq_true rfl) [.int 0, .null, .null, .int 0, .int 0, .int 0, .int 0, .int 0, .long 0, .int 0, .int 0, .null] rfl dN_init_6 (fun g88 e89 => ?_)
  have h90 := gUp_ne (e' := .inr (2, [.int 0, .null, .null, .int 0, .int 0, .int 0, .int 0, .int 0, .long 0, .int 0, .int 0, .null])) hs (hs.ne ha (by simp))
  rw [← e89] at h90
  have h91 := gUp_self (e' := .inr (2, [.int 0, .null, .null, .int 0, .int 0, .int 0, .int 0, .int 0, .long 0, .int 0, .int 0, .null])) ha
  rw [← e89] at h91
  have kp92 := kp0.up (a := a) (e := .inr (2, [.int 0, .null, .null, .int 0, .int 0, .int 0, .int 0, .int 0, .long 0, .int 0, .int 0, .null])) (by simp)
  rw [← e89] at kp92
  refine j_aload_n O 0 dN_init_9 rfl rfl ?_
  refine j_iconst O (v := 0) dN_init_10 (by decide) ?_
  refine j_put O uwN h91 rfl 9 (by decide) w149 rfl tN ftN fnN rfl (.boolean) (by decide +kernel) rfl rfl (Nat.le_of_ble_eq_true rfl) [.int 0, .null, .null, .int 0, .int 0, .int 0, .int 0, .int 0, .long 0, .int 0, .int 0, .null] rfl dN_init_11 (fun g93 e94 => ?_)
  have h95 := gUp_ne (e' := .inr (2, [.int 0, .null, .null, .int 0, .int 0, .int 0, .int 0, .int 0, .long 0, .int 0, .int 0, .null])) h90 (h90.ne h91 (by simp))
  rw [← e94] at h95
  have h96 := gUp_self (e' := .inr (2, [.int 0, .null, .null, .int 0, .int 0, .int 0, .int 0, .int 0, .long 0, .int 0, .int 0, .null])) h91
  rw [← e94] at h96
  have kp97 := kp92.up (a := a) (e := .inr (2, [.int 0, .null, .null, .int 0, .int 0, .int 0, .int 0, .int 0, .long 0, .int 0, .int 0, .null])) (by simp)
  rw [← e94] at kp97
  refine j_aload_n O 0 dN_init_14 rfl rfl ?_
  refine j_iconst O (v := 0) dN_init_15 (by decide) ?_
  refine j_put O uwN h96 rfl 10 (by decide) w151 rfl tN ftN fnN rfl (.int) (by decide +kernel) rfl rfl (Nat.le_of_ble_eq_true rfl) [.int 0, .null, .null, .int 0, .int 0, .int 0, .int 0, .int 0, .long 0, .int 0, .int 0, .null] rfl dN_init_16 (fun g98 e99 => ?_)
  have h100 := gUp_ne (e' := .inr (2, [.int 0, .null, .null, .int 0, .int 0, .int 0, .int 0, .int 0, .long 0, .int 0, .int 0, .null])) h95 (h95.ne h96 (by simp))
  rw [← e99] at h100
  have h101 := gUp_self (e' := .inr (2, [.int 0, .null, .null, .int 0, .int 0, .int 0, .int 0, .int 0, .long 0, .int 0, .int 0, .null])) h96
  rw [← e99] at h101
  have kp102 := kp97.up (a := a) (e := .inr (2, [.int 0, .null, .null, .int 0, .int 0, .int 0, .int 0, .int 0, .long 0, .int 0, .int 0, .null])) (by simp)
  rw [← e99] at kp102
  refine j_aload_n O 0 dN_init_19 rfl rfl ?_
  refine j_null O dN_init_20 ?_
  refine j_put O uwN h101 rfl 11 (by decide) w154 rfl tN ftN fnN rfl (.object "TwinTrees$Node") (by decide +kernel) rfl rfl (Nat.le_of_ble_eq_true rfl) [.int 0, .null, .null, .int 0, .int 0, .int 0, .int 0, .int 0, .long 0, .int 0, .int 0, .null] rfl dN_init_21 (fun g103 e104 => ?_)
  have h105 := gUp_ne (e' := .inr (2, [.int 0, .null, .null, .int 0, .int 0, .int 0, .int 0, .int 0, .long 0, .int 0, .int 0, .null])) h100 (h100.ne h101 (by simp))
  rw [← e104] at h105
  have h106 := gUp_self (e' := .inr (2, [.int 0, .null, .null, .int 0, .int 0, .int 0, .int 0, .int 0, .long 0, .int 0, .int 0, .null])) h101
  rw [← e104] at h106
  have kp107 := kp102.up (a := a) (e := .inr (2, [.int 0, .null, .null, .int 0, .int 0, .int 0, .int 0, .int 0, .long 0, .int 0, .int 0, .null])) (by simp)
  rw [← e104] at kp107
  refine j_aload_n O 0 dN_init_24 rfl rfl ?_
  refine j_iconst O (v := 0) dN_init_25 (by decide) ?_
  refine j_putF O hN uwN h106 rfl 0 (by decide) w131 rfl tN ftN fnN rfl rfl (.int) (by decide +kernel) rfl rfl (Nat.le_of_ble_eq_true rfl) [.int 0, .null, .null, .int 0, .int 0, .int 0, .int 0, .int 0, .long 0, .int 0, .int 0, .null] rfl dN_init_26 (fun g108 e109 => ?_)
  have h110 := gUp_ne (e' := .inr (2, [.int 0, .null, .null, .int 0, .int 0, .int 0, .int 0, .int 0, .long 0, .int 0, .int 0, .null])) h105 (h105.ne h106 (by simp))
  rw [← e109] at h110
  have h111 := gUp_self (e' := .inr (2, [.int 0, .null, .null, .int 0, .int 0, .int 0, .int 0, .int 0, .long 0, .int 0, .int 0, .null])) h106
  rw [← e109] at h111
  have kp112 := kp107.up (a := a) (e := .inr (2, [.int 0, .null, .null, .int 0, .int 0, .int 0, .int 0, .int 0, .long 0, .int 0, .int 0, .null])) (by simp)
  rw [← e109] at kp112
  refine j_aload_n O 0 dN_init_29 rfl rfl ?_
  refine j_iload_n O 3 dN_init_30 rfl rfl ?_
  refine j_iload_n O 2 dN_init_31 rfl rfl ?_
  refine j_isub O dN_init_32 ?_
  refine j_eqi (nI (fr + rs.length - fr)) (pk_sub (by omega)) ?_
  refine j_eqi (nI rs.length) (by rw [show fr + rs.length - fr = rs.length by omega]) ?_
  refine j_newq O w129 (List.mem_of_getElem? (i := 5) rfl) 1 rfl rs.length (nI_pos (by omega)) (nI_clamp (by omega)) (by omega) (Nat.le_of_ble_eq_true rfl) (by show _ ≤ rs.length; omega) dN_init_33 (fun q113 g114 hq115 e116 => ?_)
  have h117 := gNew_old (e' := .inl (t 1, rs.length, .inr (.inr (.inr (.inr (fun _ => none)))))) h111 hq115
  rw [← e116] at h117
  have h118 := gNew_old (e' := .inl (t 1, rs.length, .inr (.inr (.inr (.inr (fun _ => none)))))) h110 hq115
  rw [← e116] at h118
  have h119 := gNew_self (g := g108) (a := q113) (e := .inl (t 1, rs.length, .inr (.inr (.inr (.inr (fun _ => none))))))
  rw [← e116] at h119
  have kp120 := kp112.new (e := .inl (t 1, rs.length, .inr (.inr (.inr (.inr (fun _ => none)))))) hq115
  rw [← e116] at kp120
  refine j_putF O hN uwN h117 rfl 1 (by decide) w133 rfl tN ftN fnN rfl rfl (.array (.object "TwinTrees$Row")) (by decide +kernel) rfl rfl (Nat.le_of_ble_eq_true rfl) [.int 0, .ref q113, .null, .int 0, .int 0, .int 0, .int 0, .int 0, .long 0, .int 0, .int 0, .null] rfl dN_init_36 (fun g121 e122 => ?_)
  have h123 := gUp_ne (e' := .inr (2, [.int 0, .ref q113, .null, .int 0, .int 0, .int 0, .int 0, .int 0, .long 0, .int 0, .int 0, .null])) h118 (h118.ne h117 (by simp))
  rw [← e122] at h123
  have h124 := gUp_ne (e' := .inr (2, [.int 0, .ref q113, .null, .int 0, .int 0, .int 0, .int 0, .int 0, .long 0, .int 0, .int 0, .null])) h119 (Ne.symm (h111.nin hq115))
  rw [← e122] at h124
  have h125 := gUp_self (e' := .inr (2, [.int 0, .ref q113, .null, .int 0, .int 0, .int 0, .int 0, .int 0, .long 0, .int 0, .int 0, .null])) h117
  rw [← e122] at h125
  have kp126 := kp120.up (a := a) (e := .inr (2, [.int 0, .ref q113, .null, .int 0, .int 0, .int 0, .int 0, .int 0, .long 0, .int 0, .int 0, .null])) (by simp)
  rw [← e122] at kp126
  refine j_aload_n O 0 dN_init_39 rfl rfl ?_
  refine j_iconst O (v := 0) dN_init_40 (by decide) ?_
  refine j_newq O w130 (List.mem_of_getElem? (i := 4) rfl) 2 rfl 0 (by decide) (by decide) (by decide) (Nat.le_of_ble_eq_true rfl) (by show _ ≤ rs.length; omega) dN_init_41 (fun q127 g128 hq129 e130 => ?_)
  have h131 := gNew_old (e' := .inl (t 2, 0, .inr (.inr (.inr (.inr (fun _ => none)))))) h125 hq129
  rw [← e130] at h131
  have h132 := gNew_old (e' := .inl (t 2, 0, .inr (.inr (.inr (.inr (fun _ => none)))))) h123 hq129
  rw [← e130] at h132
  have h133 := gNew_old (e' := .inl (t 2, 0, .inr (.inr (.inr (.inr (fun _ => none)))))) h124 hq129
  rw [← e130] at h133
  have h134 := gNew_self (g := g121) (a := q127) (e := .inl (t 2, 0, .inr (.inr (.inr (.inr (fun _ => none))))))
  rw [← e130] at h134
  have kp135 := kp126.new (e := .inl (t 2, 0, .inr (.inr (.inr (.inr (fun _ => none)))))) hq129
  rw [← e130] at kp135
  refine j_putF O hN uwN h131 rfl 2 (by decide) w135 rfl tN ftN fnN rfl rfl (.array (.object "TwinTrees$Node")) (by decide +kernel) rfl rfl (Nat.le_of_ble_eq_true rfl) [.int 0, .ref q113, .ref q127, .int 0, .int 0, .int 0, .int 0, .int 0, .long 0, .int 0, .int 0, .null] rfl dN_init_44 (fun g136 e137 => ?_)
  have h138 := gUp_ne (e' := .inr (2, [.int 0, .ref q113, .ref q127, .int 0, .int 0, .int 0, .int 0, .int 0, .long 0, .int 0, .int 0, .null])) h132 (h132.ne h131 (by simp))
  rw [← e137] at h138
  have h139 := gUp_ne (e' := .inr (2, [.int 0, .ref q113, .ref q127, .int 0, .int 0, .int 0, .int 0, .int 0, .long 0, .int 0, .int 0, .null])) h133 (Ne.symm (h111.nin hq115))
  rw [← e137] at h139
  have h140 := gUp_ne (e' := .inr (2, [.int 0, .ref q113, .ref q127, .int 0, .int 0, .int 0, .int 0, .int 0, .long 0, .int 0, .int 0, .null])) h134 (Ne.symm (h125.nin hq129))
  rw [← e137] at h140
  have h141 := gUp_self (e' := .inr (2, [.int 0, .ref q113, .ref q127, .int 0, .int 0, .int 0, .int 0, .int 0, .long 0, .int 0, .int 0, .null])) h131
  rw [← e137] at h141
  have kp142 := kp135.up (a := a) (e := .inr (2, [.int 0, .ref q113, .ref q127, .int 0, .int 0, .int 0, .int 0, .int 0, .long 0, .int 0, .int 0, .null])) (by simp)
  rw [← e137] at kp142
  refine j_iconst O (v := 0) dN_init_47 (by decide) ?_
  refine j_istore O [(5, .int 0), (0, .ref a), (1, .ref s), (2, .int (nI fr)), (3, .int (nI (fr + rs.length))), (4, .int pr)] dN_init_48 (by decide) rfl ?_
  refine j_iload_n O 2 dN_init_50 rfl rfl ?_
  refine j_istore O [(6, .int (nI fr)), (5, .int 0), (0, .ref a), (1, .ref s), (2, .int (nI fr)), (3, .int (nI (fr + rs.length))), (4, .int pr)] dN_init_51 (by decide) rfl ?_
  refine J.pk [2, 3, 4, 5, 6, 1, 0] rfl ?_
  refine J.widen (k' := 2) (n' := rs.length) (Nat.le_of_ble_eq_true rfl) (by omega) ?_
  refine Node_init_loop O M hN (kp112.nin hq115) (kp126.nin hq129) hns (by omega) hsz _ 0 _ _ (Nat.zero_add _) h141 h138 h139 h140 (h110.nin hq115) (Ne.symm (h124.nin hq129)) (fun j hj => ?_) (fun j hj => by omega) kp142
  obtain ⟨y, h1, c3, f3, a1, a2, a3⟩ := hr j hj
  exact ⟨y, h1, c3, f3, kp142.2 _ _ (fun q => by simp only [List.mem_cons, List.not_mem_nil, or_false] at q; subst q; exact absurd (a1.eq ha) (by simp)) a1, kp142.2 _ _ (fun q => by simp only [List.mem_cons, List.not_mem_nil, or_false] at q; subst q; exact absurd (a2.eq ha) (by simp)) a2, a3⟩
/-- a node's cell, whatever its mutable part -/
def nodeC (g : GH) (b : Nat) (h : Nat) (rs : List RV) : Prop := ∃ (ra ba : Nat) (mu : MU), gAt g b (nCell h rs ra ba mu)
def nodesIn (g : GH) (f : Nat → Option Nat) (o h : Nat) (qs : List (List RV)) : Prop := ∀ i (hi : i < qs.length), ∃ b, f (o + i) = some b ∧ nodeC g b h qs[i]
theorem flat_take (qs : List (List RV)) (i : Nat) (h : i < qs.length) : (qs.take (i + 1)).flatten.length = (qs.take i).flatten.length + qs[i].length := by
  rw [List.take_succ_eq_append_getElem h, List.flatten_append, List.length_append]
  simp
theorem flat_last {qs : List (List RV)} {n : Nat} (h : qs.length = n + 1) (hn : qs[n]'(by omega) ≠ []) : qs.flatten.getLast? = (qs[n]'(by omega)).getLast? := by
  have e : qs = qs.take n ++ [qs[n]'(by omega)] := by
    rw [← List.take_succ_eq_append_getElem (by omega), ← h, List.take_length]
  conv => lhs; rw [e]
  rw [List.flatten_append, List.flatten_singleton, List.getLast?_append]
  cases hc : (qs[n]'(by omega)).getLast? with
  | none => rw [List.getLast?_eq_none_iff] at hc; exact absurd hc hn
  | some x => rfl
set_option maxRecDepth 100000 in
set_option maxHeartbeats 4000000 in
theorem Node_init2_loop {X : CX} {D : va_G} {t : Nat → ClassId} {A : Nat → Prop} {rm : Room} {g : GH} {a s ra ba fr ns h : Nat} {fs : Nat → Option Nat} {qs : List (List RV)} {pr hh : Int32} (O : Ok X bN_init2 8 "TwinTrees$Node" (zz D t A) rm) (M : Om X (zz D t A) none 2 qs.length (fun v g' => v = none ∧ ∃ ra ba f', ra ∉ g.1 ∧ ba ∉ g.1 ∧ gAt g' a (eNode hh ra ba (nI qs.flatten.length) (nI qs.length) (lastK qs.flatten) (nI (lastL qs.flatten)) pr 0 0 0 none) ∧ gAt g' ra (eRs t 0 (fun _ => none)) ∧ gAt g' ba (eNs t qs.length f') ∧ (∀ i, i < qs.length → f' i = fs (fr + i)) ∧ Kp [a] g g')) (hN : On X) (hra : ra ∉ g.1) (hba : ba ∉ g.1) (hns : fr + qs.length ≤ ns) (hn31 : ns < 2 ^ 31) (hq0 : ∃ m, qs.length = m + 1) (hqn : ∀ q ∈ qs, q ≠ []) (hsz : qs.flatten.length < 2 ^ 31) (hag : a ∈ g.1) : ∀ (k i : Nat) (g1 : GH) (fc : Nat → Option Nat), i + k = qs.length → gAt g1 a (.inr (2, [.int hh, .ref ra, .ref ba, .int 0, .int 0, .int 0, .int 0, .int 0, .long 0, .int 0, .int 0, .null])) → gAt g1 s (eNs t ns fs) → gAt g1 ra (eRs t 0 (fun _ => none)) → gAt g1 ba (eNs t qs.length fc) → s ≠ ba → ra ≠ ba → nodesIn g1 fs fr h qs → (∀ j (hj : j < qs.length), fs (fr + j) ≠ some a) → (∀ j, j < i → fc j = fs (fr + j)) → Kp [a] g g1 → J X 8 (zz D t A) g1 2 qs.length 54 [(0, .ref a), (2, .ref s), (3, .int (nI fr)), (4, .int (nI (fr + qs.length))), (5, .int pr), (6, .int (nI (qs.take i).flatten.length)), (7, .int (nI (fr + i)))] [] := by
  intro k
  induction k with
  | zero =>
    intro i g1 fc hi ha hs hra1 hba1 hne hne2 hr hxa hfc kp0
    have hi : i = qs.length := by omega
    subst hi
    obtain ⟨m, hm⟩ := hq0
    obtain ⟨x, hfx, xra, xba, xmu, hxc⟩ := hr m (by omega)
    have hxa2 : x ≠ a := fun q => hxa m (by omega) (by rw [hfx, q])
    have hfx2 : fs (fr + qs.length - 1) = some x := by rw [show fr + qs.length - 1 = fr + m by omega]; exact hfx
    have hmn : qs[m] ≠ [] := hqn _ (List.getElem_mem _)
    have hlk : lastK qs[m] = lastK qs.flatten := by unfold lastK; rw [flat_last hm hmn]
    have hll : lastL qs[m] = lastL qs.flatten := by unfold lastL; rw [flat_last hm hmn]
    refine j_iload O dN_init2_54 rfl ?_
    refine j_iload O dN_init2_56 rfl ?_
    refine j_icmp_ge O 92 dN_init2_58 (by decide) (fun c1 => ?_) (fun c1 => ?_)
    · refine j_aload_n O 0 dN_init2_92 rfl rfl ?_
      refine j_iload O dN_init2_93 rfl ?_
      refine j_eqi (nI qs.flatten.length) (by rw [List.take_length]) ?_
      refine j_putF O hN uwN ha rfl 3 (by decide) w137 rfl tN ftN fnN rfl rfl (.int) (by decide +kernel) rfl rfl (Nat.le_of_ble_eq_true rfl) [.int hh, .ref ra, .ref ba, .int (nI qs.flatten.length), .int 0, .int 0, .int 0, .int 0, .long 0, .int 0, .int 0, .null] rfl dN_init2_95 (fun g143 e144 => ?_)
      have h145 := gUp_ne (e' := .inr (2, [.int hh, .ref ra, .ref ba, .int (nI qs.flatten.length), .int 0, .int 0, .int 0, .int 0, .long 0, .int 0, .int 0, .null])) hs (hs.ne ha (by simp))
      rw [← e144] at h145
      have h146 := gUp_ne (e' := .inr (2, [.int hh, .ref ra, .ref ba, .int (nI qs.flatten.length), .int 0, .int 0, .int 0, .int 0, .long 0, .int 0, .int 0, .null])) hra1 (hra1.ne ha (by simp))
      rw [← e144] at h146
      have h147 := gUp_ne (e' := .inr (2, [.int hh, .ref ra, .ref ba, .int (nI qs.flatten.length), .int 0, .int 0, .int 0, .int 0, .long 0, .int 0, .int 0, .null])) hba1 (hba1.ne ha (by simp))
      rw [← e144] at h147
      have h148 := gUp_ne (e' := .inr (2, [.int hh, .ref ra, .ref ba, .int (nI qs.flatten.length), .int 0, .int 0, .int 0, .int 0, .long 0, .int 0, .int 0, .null])) hxc hxa2
      rw [← e144] at h148
      have h149 := gUp_self (e' := .inr (2, [.int hh, .ref ra, .ref ba, .int (nI qs.flatten.length), .int 0, .int 0, .int 0, .int 0, .long 0, .int 0, .int 0, .null])) ha
      rw [← e144] at h149
      have kp150 := kp0.up (a := a) (e := .inr (2, [.int hh, .ref ra, .ref ba, .int (nI qs.flatten.length), .int 0, .int 0, .int 0, .int 0, .long 0, .int 0, .int 0, .null])) (by simp)
      rw [← e144] at kp150
      refine j_aload_n O 0 dN_init2_98 rfl rfl ?_
      refine j_iload O dN_init2_99 rfl ?_
      refine j_iload_n O 3 dN_init2_101 rfl rfl ?_
      refine j_isub O dN_init2_102 ?_
      refine j_eqi (nI (fr + qs.length - fr)) (pk_sub (by omega)) ?_
      refine j_eqi (nI qs.length) (by rw [show fr + qs.length - fr = qs.length by omega]) ?_
      refine j_putF O hN uwN h149 rfl 4 (by decide) w139 rfl tN ftN fnN rfl rfl (.int) (by decide +kernel) rfl rfl (Nat.le_of_ble_eq_true rfl) [.int hh, .ref ra, .ref ba, .int (nI qs.flatten.length), .int (nI qs.length), .int 0, .int 0, .int 0, .long 0, .int 0, .int 0, .null] rfl dN_init2_103 (fun g151 e152 => ?_)
      have h153 := gUp_ne (e' := .inr (2, [.int hh, .ref ra, .ref ba, .int (nI qs.flatten.length), .int (nI qs.length), .int 0, .int 0, .int 0, .long 0, .int 0, .int 0, .null])) h145 (h145.ne h149 (by simp))
      rw [← e152] at h153
      have h154 := gUp_ne (e' := .inr (2, [.int hh, .ref ra, .ref ba, .int (nI qs.flatten.length), .int (nI qs.length), .int 0, .int 0, .int 0, .long 0, .int 0, .int 0, .null])) h146 (h146.ne h149 (by simp))
      rw [← e152] at h154
      have h155 := gUp_ne (e' := .inr (2, [.int hh, .ref ra, .ref ba, .int (nI qs.flatten.length), .int (nI qs.length), .int 0, .int 0, .int 0, .long 0, .int 0, .int 0, .null])) h147 (h147.ne h149 (by simp))
      rw [← e152] at h155
      have h156 := gUp_ne (e' := .inr (2, [.int hh, .ref ra, .ref ba, .int (nI qs.flatten.length), .int (nI qs.length), .int 0, .int 0, .int 0, .long 0, .int 0, .int 0, .null])) h148 hxa2
      rw [← e152] at h156
      have h157 := gUp_self (e' := .inr (2, [.int hh, .ref ra, .ref ba, .int (nI qs.flatten.length), .int (nI qs.length), .int 0, .int 0, .int 0, .long 0, .int 0, .int 0, .null])) h149
      rw [← e152] at h157
      have kp158 := kp150.up (a := a) (e := .inr (2, [.int hh, .ref ra, .ref ba, .int (nI qs.flatten.length), .int (nI qs.length), .int 0, .int 0, .int 0, .long 0, .int 0, .int 0, .null])) (by simp)
      rw [← e152] at kp158
      refine j_aload_n O 0 dN_init2_106 rfl rfl ?_
      refine j_iload_n O 3 dN_init2_107 rfl rfl ?_
      refine j_iload O dN_init2_108 rfl ?_
      refine j_icmp_ge O 125 dN_init2_110 (by decide) (fun c2 => ?_) (fun c2 => ?_)
      · exact absurd c2 (nI_ge (by omega) (by omega))
      · refine j_aload_n O 2 dN_init2_113 rfl rfl ?_
        refine j_iload O dN_init2_114 rfl ?_
        refine j_iconst O (v := 1) dN_init2_116 (by decide) ?_
        refine j_isub O dN_init2_117 ?_
        refine j_eqi (nI (fr + qs.length - 1)) (pk_sub (b := 1) (by omega)) ?_
        refine j_aald O h153 2 rfl (by omega) (by omega) dN_init2_118 ?_
        refine j_some x hfx2 ?_
        refine j_get O uwN h156 rfl 5 (by decide) w141 rfl rfl dN_init2_119 ?_
        refine j_goto O 126 dN_init2_122 (by decide) ?_
        refine j_eqi (lastK qs.flatten) hlk ?_
        refine j_putF O hN uwN h157 rfl 5 (by decide) w141 rfl tN ftN fnN rfl rfl (.int) (by decide +kernel) rfl rfl (Nat.le_of_ble_eq_true rfl) [.int hh, .ref ra, .ref ba, .int (nI qs.flatten.length), .int (nI qs.length), .int (lastK qs.flatten), .int 0, .int 0, .long 0, .int 0, .int 0, .null] rfl dN_init2_126 (fun g159 e160 => ?_)
        have h161 := gUp_ne (e' := .inr (2, [.int hh, .ref ra, .ref ba, .int (nI qs.flatten.length), .int (nI qs.length), .int (lastK qs.flatten), .int 0, .int 0, .long 0, .int 0, .int 0, .null])) h153 (h153.ne h157 (by simp))
        rw [← e160] at h161
        have h162 := gUp_ne (e' := .inr (2, [.int hh, .ref ra, .ref ba, .int (nI qs.flatten.length), .int (nI qs.length), .int (lastK qs.flatten), .int 0, .int 0, .long 0, .int 0, .int 0, .null])) h154 (h154.ne h157 (by simp))
        rw [← e160] at h162
        have h163 := gUp_ne (e' := .inr (2, [.int hh, .ref ra, .ref ba, .int (nI qs.flatten.length), .int (nI qs.length), .int (lastK qs.flatten), .int 0, .int 0, .long 0, .int 0, .int 0, .null])) h155 (h155.ne h157 (by simp))
        rw [← e160] at h163
        have h164 := gUp_ne (e' := .inr (2, [.int hh, .ref ra, .ref ba, .int (nI qs.flatten.length), .int (nI qs.length), .int (lastK qs.flatten), .int 0, .int 0, .long 0, .int 0, .int 0, .null])) h156 hxa2
        rw [← e160] at h164
        have h165 := gUp_self (e' := .inr (2, [.int hh, .ref ra, .ref ba, .int (nI qs.flatten.length), .int (nI qs.length), .int (lastK qs.flatten), .int 0, .int 0, .long 0, .int 0, .int 0, .null])) h157
        rw [← e160] at h165
        have kp166 := kp158.up (a := a) (e := .inr (2, [.int hh, .ref ra, .ref ba, .int (nI qs.flatten.length), .int (nI qs.length), .int (lastK qs.flatten), .int 0, .int 0, .long 0, .int 0, .int 0, .null])) (by simp)
        rw [← e160] at kp166
        refine j_aload_n O 0 dN_init2_129 rfl rfl ?_
        refine j_iload_n O 3 dN_init2_130 rfl rfl ?_
        refine j_iload O dN_init2_131 rfl ?_
        refine j_icmp_ge O 148 dN_init2_133 (by decide) (fun c3 => ?_) (fun c3 => ?_)
        · exact absurd c3 (nI_ge (by omega) (by omega))
        · refine j_aload_n O 2 dN_init2_136 rfl rfl ?_
          refine j_iload O dN_init2_137 rfl ?_
          refine j_iconst O (v := 1) dN_init2_139 (by decide) ?_
          refine j_isub O dN_init2_140 ?_
          refine j_eqi (nI (fr + qs.length - 1)) (pk_sub (b := 1) (by omega)) ?_
          refine j_aald O h161 2 rfl (by omega) (by omega) dN_init2_141 ?_
          refine j_some x hfx2 ?_
          refine j_get O uwN h164 rfl 6 (by decide) w143 rfl rfl dN_init2_142 ?_
          refine j_goto O 149 dN_init2_145 (by decide) ?_
          refine j_eqi (nI (lastL qs.flatten)) (by rw [hll]) ?_
          refine j_putF O hN uwN h165 rfl 6 (by decide) w143 rfl tN ftN fnN rfl rfl (.int) (by decide +kernel) rfl rfl (Nat.le_of_ble_eq_true rfl) [.int hh, .ref ra, .ref ba, .int (nI qs.flatten.length), .int (nI qs.length), .int (lastK qs.flatten), .int (nI (lastL qs.flatten)), .int 0, .long 0, .int 0, .int 0, .null] rfl dN_init2_149 (fun g167 e168 => ?_)
          have h169 := gUp_ne (e' := .inr (2, [.int hh, .ref ra, .ref ba, .int (nI qs.flatten.length), .int (nI qs.length), .int (lastK qs.flatten), .int (nI (lastL qs.flatten)), .int 0, .long 0, .int 0, .int 0, .null])) h161 (h161.ne h165 (by simp))
          rw [← e168] at h169
          have h170 := gUp_ne (e' := .inr (2, [.int hh, .ref ra, .ref ba, .int (nI qs.flatten.length), .int (nI qs.length), .int (lastK qs.flatten), .int (nI (lastL qs.flatten)), .int 0, .long 0, .int 0, .int 0, .null])) h162 (h162.ne h165 (by simp))
          rw [← e168] at h170
          have h171 := gUp_ne (e' := .inr (2, [.int hh, .ref ra, .ref ba, .int (nI qs.flatten.length), .int (nI qs.length), .int (lastK qs.flatten), .int (nI (lastL qs.flatten)), .int 0, .long 0, .int 0, .int 0, .null])) h163 (h163.ne h165 (by simp))
          rw [← e168] at h171
          have h172 := gUp_ne (e' := .inr (2, [.int hh, .ref ra, .ref ba, .int (nI qs.flatten.length), .int (nI qs.length), .int (lastK qs.flatten), .int (nI (lastL qs.flatten)), .int 0, .long 0, .int 0, .int 0, .null])) h164 hxa2
          rw [← e168] at h172
          have h173 := gUp_self (e' := .inr (2, [.int hh, .ref ra, .ref ba, .int (nI qs.flatten.length), .int (nI qs.length), .int (lastK qs.flatten), .int (nI (lastL qs.flatten)), .int 0, .long 0, .int 0, .int 0, .null])) h165
          rw [← e168] at h173
          have kp174 := kp166.up (a := a) (e := .inr (2, [.int hh, .ref ra, .ref ba, .int (nI qs.flatten.length), .int (nI qs.length), .int (lastK qs.flatten), .int (nI (lastL qs.flatten)), .int 0, .long 0, .int 0, .int 0, .null])) (by simp)
          rw [← e168] at kp174
          refine j_aload_n O 0 dN_init2_152 rfl rfl ?_
          refine j_iload O dN_init2_153 rfl ?_
          refine j_putF O hN uwN h173 rfl 7 (by decide) w145 rfl tN ftN fnN rfl rfl (.int) (by decide +kernel) rfl rfl (Nat.le_of_ble_eq_true rfl) [.int hh, .ref ra, .ref ba, .int (nI qs.flatten.length), .int (nI qs.length), .int (lastK qs.flatten), .int (nI (lastL qs.flatten)), .int pr, .long 0, .int 0, .int 0, .null] rfl dN_init2_155 (fun g175 e176 => ?_)
          have h177 := gUp_ne (e' := .inr (2, [.int hh, .ref ra, .ref ba, .int (nI qs.flatten.length), .int (nI qs.length), .int (lastK qs.flatten), .int (nI (lastL qs.flatten)), .int pr, .long 0, .int 0, .int 0, .null])) h169 (h169.ne h173 (by simp))
          rw [← e176] at h177
          have h178 := gUp_ne (e' := .inr (2, [.int hh, .ref ra, .ref ba, .int (nI qs.flatten.length), .int (nI qs.length), .int (lastK qs.flatten), .int (nI (lastL qs.flatten)), .int pr, .long 0, .int 0, .int 0, .null])) h170 (h170.ne h173 (by simp))
          rw [← e176] at h178
          have h179 := gUp_ne (e' := .inr (2, [.int hh, .ref ra, .ref ba, .int (nI qs.flatten.length), .int (nI qs.length), .int (lastK qs.flatten), .int (nI (lastL qs.flatten)), .int pr, .long 0, .int 0, .int 0, .null])) h171 (h171.ne h173 (by simp))
          rw [← e176] at h179
          have h180 := gUp_ne (e' := .inr (2, [.int hh, .ref ra, .ref ba, .int (nI qs.flatten.length), .int (nI qs.length), .int (lastK qs.flatten), .int (nI (lastL qs.flatten)), .int pr, .long 0, .int 0, .int 0, .null])) h172 hxa2
          rw [← e176] at h180
          have h181 := gUp_self (e' := .inr (2, [.int hh, .ref ra, .ref ba, .int (nI qs.flatten.length), .int (nI qs.length), .int (lastK qs.flatten), .int (nI (lastL qs.flatten)), .int pr, .long 0, .int 0, .int 0, .null])) h173
          rw [← e176] at h181
          have kp182 := kp174.up (a := a) (e := .inr (2, [.int hh, .ref ra, .ref ba, .int (nI qs.flatten.length), .int (nI qs.length), .int (lastK qs.flatten), .int (nI (lastL qs.flatten)), .int pr, .long 0, .int 0, .int 0, .null])) (by simp)
          rw [← e176] at kp182
          exact j_vret O M (Nat.le_of_ble_eq_true rfl) (Nat.le_refl _) ⟨rfl, ra, ba, fc, hra, hba, h181, h178, h179, hfc, kp182⟩ dN_init2_158
    · exact absurd (nI_le (Nat.le_refl _) (by omega)) c1
  | succ k ih =>
    intro i g1 fc hi ha hs hra1 hba1 hne hne2 hr hxa hfc kp0
    have hi1 : i < qs.length := by omega
    obtain ⟨x, hfx, xra, xba, xmu, hxc⟩ := hr i hi1
    have hxa2 : x ≠ a := fun q => hxa i hi1 (by rw [hfx, q])
    refine j_iload O dN_init2_54 rfl ?_
    refine j_iload O dN_init2_56 rfl ?_
    refine j_icmp_ge O 92 dN_init2_58 (by decide) (fun c1 => ?_) (fun c1 => ?_)
    · exact absurd c1 (nI_ge (by omega) (by omega))
    · refine j_aload_n O 0 dN_init2_61 rfl rfl ?_
      refine j_get O uwN ha rfl 2 (by decide) w135 rfl rfl dN_init2_62 ?_
      refine j_iload O dN_init2_65 rfl ?_
      refine j_iload_n O 3 dN_init2_67 rfl rfl ?_
      refine j_isub O dN_init2_68 ?_
      refine j_eqi (nI (fr + i - fr)) (pk_sub (by omega)) ?_
      refine j_eqi (nI i) (by rw [show fr + i - fr = i by omega]) ?_
      refine j_aload_n O 2 dN_init2_69 rfl rfl ?_
      refine j_iload O dN_init2_70 rfl ?_
      refine j_aald O hs 2 rfl (by omega) (by omega) dN_init2_72 ?_
      refine j_some x hfx ?_
      refine j_aast O hba1 2 rfl hxc rfl hi1 (by omega) dN_init2_73 (fun g183 e184 => ?_)
      have h185 := gUp_ne (e' := .inl (t 2, qs.length, .inr (.inr (.inr (.inr (va_up fc i (some x))))))) ha (ha.ne hba1 (by simp))
      rw [← e184] at h185
      have h186 := gUp_ne (e' := .inl (t 2, qs.length, .inr (.inr (.inr (.inr (va_up fc i (some x))))))) hs hne
      rw [← e184] at h186
      have h187 := gUp_ne (e' := .inl (t 2, qs.length, .inr (.inr (.inr (.inr (va_up fc i (some x))))))) hra1 hne2
      rw [← e184] at h187
      have h188 := gUp_ne (e' := .inl (t 2, qs.length, .inr (.inr (.inr (.inr (va_up fc i (some x))))))) hxc (hxc.ne hba1 (by simp))
      rw [← e184] at h188
      have h189 := gUp_self (e' := .inl (t 2, qs.length, .inr (.inr (.inr (.inr (va_up fc i (some x))))))) hba1
      rw [← e184] at h189
      have kp190 := kp0.upN (a := ba) (e := .inl (t 2, qs.length, .inr (.inr (.inr (.inr (va_up fc i (some x))))))) hba
      rw [← e184] at kp190
      refine j_iload O dN_init2_74 rfl ?_
      refine j_aload_n O 2 dN_init2_76 rfl rfl ?_
      refine j_iload O dN_init2_77 rfl ?_
      refine j_aald O h186 2 rfl (by omega) (by omega) dN_init2_79 ?_
      refine j_some x hfx ?_
      refine j_get O uwN h188 rfl 3 (by decide) w137 rfl rfl dN_init2_80 ?_
      refine j_iadd O dN_init2_83 ?_
      refine j_eqi (nI ((qs.take i).flatten.length + (qs[i].length))) (nI_add _ _) ?_
      refine j_eqi (nI (qs.take (i + 1)).flatten.length) (by rw [flat_take qs i hi1]) ?_
      refine j_istore O [(6, .int (nI (qs.take (i + 1)).flatten.length)), (0, .ref a), (2, .ref s), (3, .int (nI fr)), (4, .int (nI (fr + qs.length))), (5, .int pr), (7, .int (nI (fr + i)))] dN_init2_84 (by decide) rfl ?_
      refine j_iinc O (nI (fr + i + 1)) [(7, .int (nI (fr + i + 1))), (6, .int (nI (qs.take (i + 1)).flatten.length)), (0, .ref a), (2, .ref s), (3, .int (nI fr)), (4, .int (nI (fr + qs.length))), (5, .int pr)] dN_init2_86 rfl (nI_1 _) (by decide) rfl ?_
      refine j_goto O 54 dN_init2_89 (by decide) ?_
      rw [Nat.add_assoc fr i 1]
      refine J.pk [2, 3, 4, 5, 6, 1, 0] rfl ?_
      refine ih (i + 1) _ _ (by omega) h185 h186 h187 h189 hne hne2 (fun j hj => ?_) hxa (fun j hj => ?_) kp190
      · obtain ⟨y, h1, yra, yba, ymu, h2⟩ := hr j hj
        refine ⟨y, h1, yra, yba, ymu, ?_⟩
        rw [e184]
        exact gUp_ne h2 (h2.ne hba1 (by simp))
      · rcases Nat.lt_or_ge j i with z | z
        · rw [va_up_ne _ _ (by omega)]; exact hfc j z
        · have hj : j = i := by omega
          rw [hj, va_up_self]; exact hfx.symm
set_option maxRecDepth 100000 in
set_option maxHeartbeats 4000000 in
theorem c_Node_init2 (l : Launch) (D : va_G) (t : Nat → ClassId) (A : Nat → Prop) (g : GH) (a s fr ns h : Nat) (fs : Nat → Option Nat) (qs : List (List RV)) (pr hh : Int32) (ha : gAt g a (.inr (2, [.int 0, .null, .null, .int 0, .int 0, .int 0, .int 0, .int 0, .long 0, .int 0, .int 0, .null]))) (hs : gAt g s (eNs t ns fs)) (hr : nodesIn g fs fr h qs) (hxa : ∀ j (hj : j < qs.length), fs (fr + j) ≠ some a) (hns : fr + qs.length ≤ ns) (hn31 : ns < 2 ^ 27) (hq0 : ∃ m, qs.length = m + 1) (hqn : ∀ q ∈ qs, q ≠ []) (hsz : qs.flatten.length < 2 ^ 31) : Ct l yN_init2 sN_init2 { frames := 1, cells := 2, slots := qs.length, locals := 20 } (zz D t A) [.ref a, .int hh, .ref s, .int (nI fr), .int (nI (fr + qs.length)), .int pr] g 2 qs.length (fun v g' => v = none ∧ ∃ ra ba f', ra ∉ g.1 ∧ ba ∉ g.1 ∧ gAt g' a (eNode hh ra ba (nI qs.flatten.length) (nI qs.length) (lastK qs.flatten) (nI (lastL qs.flatten)) pr 0 0 0 none) ∧ gAt g' ra (eRs t 0 (fun _ => none)) ∧ gAt g' ba (eNs t qs.length f') ∧ (∀ i, i < qs.length → f' i = fs (fr + i)) ∧ Kp [a] g g') := by
  refine Ct.of (cc := bN_init2) (maxL := 8) (ret := none) (by decide) (Nat.le_of_ble_eq_true rfl) (fun X hl O M hN => ?_)
  have hN := hN rfl
  show J X 8 (zz D t A) g 0 0 0 [(0, .ref a), (1, .int hh), (2, .ref s), (3, .int (nI fr)), (4, .int (nI (fr + qs.length))), (5, .int pr)] []
  have kp0 : Kp [a] g g := Kp.rf
  refine j_aload_n O 0 dN_init2_0 rfl rfl ?_
  refine j_objInit O w128 w39 w40 dN_init2_1 (Nat.le_of_ble_eq_true rfl) (Nat.le_of_ble_eq_true rfl) ?_
  refine j_aload_n O 0 dN_init2_4 rfl rfl ?_
  refine j_lconst O (v := 0) dN_init2_5 (by decide) ?_
  refine j_put O uwN ha rfl 8 (by decide) w147 rfl tN ftN fnN rfl (.long) (by decide +kernel) rfl rfl (Nat.le_of_ble_eq_true rfl) [.int 0, .null, .null, .int 0, .int 0, .int 0, .int 0, .int 0, .long 0, .int 0, .int 0, .null] rfl dN_init2_6 (fun g191 e192 => ?_)
  have h193 := gUp_ne (e' := .inr (2, [.int 0, .null, .null, .int 0, .int 0, .int 0, .int 0, .int 0, .long 0, .int 0, .int 0, .null])) hs (hs.ne ha (by simp))
  rw [← e192] at h193
  have h194 := gUp_self (e' := .inr (2, [.int 0, .null, .null, .int 0, .int 0, .int 0, .int 0, .int 0, .long 0, .int 0, .int 0, .null])) ha
  rw [← e192] at h194
  have kp195 := kp0.up (a := a) (e := .inr (2, [.int 0, .null, .null, .int 0, .int 0, .int 0, .int 0, .int 0, .long 0, .int 0, .int 0, .null])) (by simp)
  rw [← e192] at kp195
  refine j_aload_n O 0 dN_init2_9 rfl rfl ?_
  refine j_iconst O (v := 0) dN_init2_10 (by decide) ?_
  refine j_put O uwN h194 rfl 9 (by decide) w149 rfl tN ftN fnN rfl (.boolean) (by decide +kernel) rfl rfl (Nat.le_of_ble_eq_true rfl) [.int 0, .null, .null, .int 0, .int 0, .int 0, .int 0, .int 0, .long 0, .int 0, .int 0, .null] rfl dN_init2_11 (fun g196 e197 => ?_)
  have h198 := gUp_ne (e' := .inr (2, [.int 0, .null, .null, .int 0, .int 0, .int 0, .int 0, .int 0, .long 0, .int 0, .int 0, .null])) h193 (h193.ne h194 (by simp))
  rw [← e197] at h198
  have h199 := gUp_self (e' := .inr (2, [.int 0, .null, .null, .int 0, .int 0, .int 0, .int 0, .int 0, .long 0, .int 0, .int 0, .null])) h194
  rw [← e197] at h199
  have kp200 := kp195.up (a := a) (e := .inr (2, [.int 0, .null, .null, .int 0, .int 0, .int 0, .int 0, .int 0, .long 0, .int 0, .int 0, .null])) (by simp)
  rw [← e197] at kp200
  refine j_aload_n O 0 dN_init2_14 rfl rfl ?_
  refine j_iconst O (v := 0) dN_init2_15 (by decide) ?_
  refine j_put O uwN h199 rfl 10 (by decide) w151 rfl tN ftN fnN rfl (.int) (by decide +kernel) rfl rfl (Nat.le_of_ble_eq_true rfl) [.int 0, .null, .null, .int 0, .int 0, .int 0, .int 0, .int 0, .long 0, .int 0, .int 0, .null] rfl dN_init2_16 (fun g201 e202 => ?_)
  have h203 := gUp_ne (e' := .inr (2, [.int 0, .null, .null, .int 0, .int 0, .int 0, .int 0, .int 0, .long 0, .int 0, .int 0, .null])) h198 (h198.ne h199 (by simp))
  rw [← e202] at h203
  have h204 := gUp_self (e' := .inr (2, [.int 0, .null, .null, .int 0, .int 0, .int 0, .int 0, .int 0, .long 0, .int 0, .int 0, .null])) h199
  rw [← e202] at h204
  have kp205 := kp200.up (a := a) (e := .inr (2, [.int 0, .null, .null, .int 0, .int 0, .int 0, .int 0, .int 0, .long 0, .int 0, .int 0, .null])) (by simp)
  rw [← e202] at kp205
  refine j_aload_n O 0 dN_init2_19 rfl rfl ?_
  refine j_null O dN_init2_20 ?_
  refine j_put O uwN h204 rfl 11 (by decide) w154 rfl tN ftN fnN rfl (.object "TwinTrees$Node") (by decide +kernel) rfl rfl (Nat.le_of_ble_eq_true rfl) [.int 0, .null, .null, .int 0, .int 0, .int 0, .int 0, .int 0, .long 0, .int 0, .int 0, .null] rfl dN_init2_21 (fun g206 e207 => ?_)
  have h208 := gUp_ne (e' := .inr (2, [.int 0, .null, .null, .int 0, .int 0, .int 0, .int 0, .int 0, .long 0, .int 0, .int 0, .null])) h203 (h203.ne h204 (by simp))
  rw [← e207] at h208
  have h209 := gUp_self (e' := .inr (2, [.int 0, .null, .null, .int 0, .int 0, .int 0, .int 0, .int 0, .long 0, .int 0, .int 0, .null])) h204
  rw [← e207] at h209
  have kp210 := kp205.up (a := a) (e := .inr (2, [.int 0, .null, .null, .int 0, .int 0, .int 0, .int 0, .int 0, .long 0, .int 0, .int 0, .null])) (by simp)
  rw [← e207] at kp210
  refine j_aload_n O 0 dN_init2_24 rfl rfl ?_
  refine j_iload_n O 1 dN_init2_25 rfl rfl ?_
  refine j_putF O hN uwN h209 rfl 0 (by decide) w131 rfl tN ftN fnN rfl rfl (.int) (by decide +kernel) rfl rfl (Nat.le_of_ble_eq_true rfl) [.int hh, .null, .null, .int 0, .int 0, .int 0, .int 0, .int 0, .long 0, .int 0, .int 0, .null] rfl dN_init2_26 (fun g211 e212 => ?_)
  have h213 := gUp_ne (e' := .inr (2, [.int hh, .null, .null, .int 0, .int 0, .int 0, .int 0, .int 0, .long 0, .int 0, .int 0, .null])) h208 (h208.ne h209 (by simp))
  rw [← e212] at h213
  have h214 := gUp_self (e' := .inr (2, [.int hh, .null, .null, .int 0, .int 0, .int 0, .int 0, .int 0, .long 0, .int 0, .int 0, .null])) h209
  rw [← e212] at h214
  have kp215 := kp210.up (a := a) (e := .inr (2, [.int hh, .null, .null, .int 0, .int 0, .int 0, .int 0, .int 0, .long 0, .int 0, .int 0, .null])) (by simp)
  rw [← e212] at kp215
  refine j_aload_n O 0 dN_init2_29 rfl rfl ?_
  refine j_iconst O (v := 0) dN_init2_30 (by decide) ?_
  refine j_newq O w129 (List.mem_of_getElem? (i := 5) rfl) 1 rfl 0 (by decide) (by decide) (by decide) (Nat.le_of_ble_eq_true rfl) (by show _ ≤ qs.length; omega) dN_init2_31 (fun q216 g217 hq218 e219 => ?_)
  have h220 := gNew_old (e' := .inl (t 1, 0, .inr (.inr (.inr (.inr (fun _ => none)))))) h214 hq218
  rw [← e219] at h220
  have h221 := gNew_old (e' := .inl (t 1, 0, .inr (.inr (.inr (.inr (fun _ => none)))))) h213 hq218
  rw [← e219] at h221
  have h222 := gNew_self (g := g211) (a := q216) (e := .inl (t 1, 0, .inr (.inr (.inr (.inr (fun _ => none))))))
  rw [← e219] at h222
  have kp223 := kp215.new (e := .inl (t 1, 0, .inr (.inr (.inr (.inr (fun _ => none)))))) hq218
  rw [← e219] at kp223
  refine j_putF O hN uwN h220 rfl 1 (by decide) w133 rfl tN ftN fnN rfl rfl (.array (.object "TwinTrees$Row")) (by decide +kernel) rfl rfl (Nat.le_of_ble_eq_true rfl) [.int hh, .ref q216, .null, .int 0, .int 0, .int 0, .int 0, .int 0, .long 0, .int 0, .int 0, .null] rfl dN_init2_34 (fun g224 e225 => ?_)
  have h226 := gUp_ne (e' := .inr (2, [.int hh, .ref q216, .null, .int 0, .int 0, .int 0, .int 0, .int 0, .long 0, .int 0, .int 0, .null])) h221 (h221.ne h220 (by simp))
  rw [← e225] at h226
  have h227 := gUp_ne (e' := .inr (2, [.int hh, .ref q216, .null, .int 0, .int 0, .int 0, .int 0, .int 0, .long 0, .int 0, .int 0, .null])) h222 (Ne.symm (h214.nin hq218))
  rw [← e225] at h227
  have h228 := gUp_self (e' := .inr (2, [.int hh, .ref q216, .null, .int 0, .int 0, .int 0, .int 0, .int 0, .long 0, .int 0, .int 0, .null])) h220
  rw [← e225] at h228
  have kp229 := kp223.up (a := a) (e := .inr (2, [.int hh, .ref q216, .null, .int 0, .int 0, .int 0, .int 0, .int 0, .long 0, .int 0, .int 0, .null])) (by simp)
  rw [← e225] at kp229
  refine j_aload_n O 0 dN_init2_37 rfl rfl ?_
  refine j_iload O dN_init2_38 rfl ?_
  refine j_iload_n O 3 dN_init2_40 rfl rfl ?_
  refine j_isub O dN_init2_41 ?_
  refine j_eqi (nI (fr + qs.length - fr)) (pk_sub (by omega)) ?_
  refine j_eqi (nI qs.length) (by rw [show fr + qs.length - fr = qs.length by omega]) ?_
  refine j_newq O w130 (List.mem_of_getElem? (i := 4) rfl) 2 rfl qs.length (nI_pos (by omega)) (nI_clamp (by omega)) (by omega) (Nat.le_of_ble_eq_true rfl) (by show _ ≤ qs.length; omega) dN_init2_42 (fun q230 g231 hq232 e233 => ?_)
  have h234 := gNew_old (e' := .inl (t 2, qs.length, .inr (.inr (.inr (.inr (fun _ => none)))))) h228 hq232
  rw [← e233] at h234
  have h235 := gNew_old (e' := .inl (t 2, qs.length, .inr (.inr (.inr (.inr (fun _ => none)))))) h226 hq232
  rw [← e233] at h235
  have h236 := gNew_old (e' := .inl (t 2, qs.length, .inr (.inr (.inr (.inr (fun _ => none)))))) h227 hq232
  rw [← e233] at h236
  have h237 := gNew_self (g := g224) (a := q230) (e := .inl (t 2, qs.length, .inr (.inr (.inr (.inr (fun _ => none))))))
  rw [← e233] at h237
  have kp238 := kp229.new (e := .inl (t 2, qs.length, .inr (.inr (.inr (.inr (fun _ => none)))))) hq232
  rw [← e233] at kp238
  refine j_putF O hN uwN h234 rfl 2 (by decide) w135 rfl tN ftN fnN rfl rfl (.array (.object "TwinTrees$Node")) (by decide +kernel) rfl rfl (Nat.le_of_ble_eq_true rfl) [.int hh, .ref q216, .ref q230, .int 0, .int 0, .int 0, .int 0, .int 0, .long 0, .int 0, .int 0, .null] rfl dN_init2_45 (fun g239 e240 => ?_)
  have h241 := gUp_ne (e' := .inr (2, [.int hh, .ref q216, .ref q230, .int 0, .int 0, .int 0, .int 0, .int 0, .long 0, .int 0, .int 0, .null])) h235 (h235.ne h234 (by simp))
  rw [← e240] at h241
  have h242 := gUp_ne (e' := .inr (2, [.int hh, .ref q216, .ref q230, .int 0, .int 0, .int 0, .int 0, .int 0, .long 0, .int 0, .int 0, .null])) h236 (Ne.symm (h214.nin hq218))
  rw [← e240] at h242
  have h243 := gUp_ne (e' := .inr (2, [.int hh, .ref q216, .ref q230, .int 0, .int 0, .int 0, .int 0, .int 0, .long 0, .int 0, .int 0, .null])) h237 (Ne.symm (h228.nin hq232))
  rw [← e240] at h243
  have h244 := gUp_self (e' := .inr (2, [.int hh, .ref q216, .ref q230, .int 0, .int 0, .int 0, .int 0, .int 0, .long 0, .int 0, .int 0, .null])) h234
  rw [← e240] at h244
  have kp245 := kp238.up (a := a) (e := .inr (2, [.int hh, .ref q216, .ref q230, .int 0, .int 0, .int 0, .int 0, .int 0, .long 0, .int 0, .int 0, .null])) (by simp)
  rw [← e240] at kp245
  refine j_iconst O (v := 0) dN_init2_48 (by decide) ?_
  refine j_istore O [(6, .int 0), (0, .ref a), (1, .int hh), (2, .ref s), (3, .int (nI fr)), (4, .int (nI (fr + qs.length))), (5, .int pr)] dN_init2_49 (by decide) rfl ?_
  refine j_iload_n O 3 dN_init2_51 rfl rfl ?_
  refine j_istore O [(7, .int (nI fr)), (6, .int 0), (0, .ref a), (1, .int hh), (2, .ref s), (3, .int (nI fr)), (4, .int (nI (fr + qs.length))), (5, .int pr)] dN_init2_52 (by decide) rfl ?_
  refine J.pk [2, 4, 5, 6, 7, 1, 0] rfl ?_
  refine J.widen (k' := 2) (n' := qs.length) (Nat.le_of_ble_eq_true rfl) (by omega) ?_
  refine Node_init2_loop (h := h) O M hN (kp215.nin hq218) (kp229.nin hq232) hns (by omega) hq0 hqn hsz ha.1 _ 0 _ _ (Nat.zero_add _) h244 h241 h242 h243 (h226.nin hq232) (h227.nin hq232) (fun j hj => ?_) hxa (fun j hj => by omega) kp245
  obtain ⟨y, h1, yra, yba, ymu, h2⟩ := hr j hj
  exact ⟨y, h1, yra, yba, ymu, kp245.2 _ _ (fun q => hxa j hj (by rw [h1]; simp only [List.mem_cons, List.not_mem_nil, or_false] at q; rw [q])) h2⟩
end
section
set_option maxRecDepth 100000 in
set_option maxHeartbeats 4000000 in
theorem isLikeLeaf_loop {X : CX} {D : va_G} {t : Nat → ClassId} {A : Nat → Prop} {rm : Room} {g : GH} {a s ra ba fr ns : Nat} {f0 fs : Nat → Option Nat} {rs0 rs : List RV} {mu : MU} (O : Ok X bN_isLikeLeaf 5 "TwinTrees$Node" (zz D t A) rm) (M : Om X (zz D t A) (some .boolean) 0 0 (fun v g' => ∃ z : Int32, v = some (.int z) ∧ ((z = 1 ∧ rs0 = rs) ∨ (z = 0 ∧ ¬ rs0 = rs)) ∧ g' = g)) (ha : gAt g a (nCell 0 rs0 ra ba mu)) (hra : gAt g ra (eRs t rs0.length f0)) (hr0 : rowsIn t g f0 0 rs0) (hs : gAt g s (eRs t ns fs)) (hr : rowsIn t g fs fr rs) (hw0 : ∀ r ∈ rs0, r.2.1.length ≤ 32) (hw : ∀ r ∈ rs, r.2.1.length ≤ 32) (hns : fr + rs.length ≤ ns) (hn31 : ns < 2 ^ 27) (hlen : rs0.length = rs.length) (hrm : 2 ≤ rm.frames ∧ 60 ≤ rm.locals) : ∀ (k i : Nat), i + k = rs.length → (∀ j (h0 : j < rs0.length) (h1 : j < rs.length), j < i → rs0[j] = rs[j]) → J X 5 (zz D t A) g 0 0 23 [(0, .ref a), (1, .ref s), (2, .int (nI fr)), (3, .int (nI (fr + rs.length))), (4, .int (nI (fr + i)))] [] := by
  intro k
  induction k with
  | zero =>
    intro i hi heq
    have hi : i = rs.length := by omega
    subst hi
    refine j_iload O dN_isLikeLeaf_23 rfl ?_
    refine j_iload_n O 3 dN_isLikeLeaf_25 rfl rfl ?_
    refine j_icmp_ge O 56 dN_isLikeLeaf_26 (by decide) (fun c1 => ?_) (fun c1 => ?_)
    · refine j_iconst O (v := 1) dN_isLikeLeaf_56 (by decide) ?_
      exact j_zret O (by decide) M (Nat.le_of_ble_eq_true rfl) (Nat.le_of_ble_eq_true rfl) ⟨1, rfl, Or.inl ⟨rfl, List.ext_getElem hlen (fun j h1 h2 => heq j h1 h2 h2)⟩, rfl⟩ dN_isLikeLeaf_57
    · exact absurd (nI_le (Nat.le_refl _) (by omega)) c1
  | succ k ih =>
    intro i hi heq
    have hi1 : i < rs.length := by omega
    have hi0 : i < rs0.length := by omega
    obtain ⟨x, hfx, hx⟩ := hr0 i hi0
    rw [Nat.zero_add] at hfx
    obtain ⟨y, hfy, hy⟩ := hr i hi1
    obtain ⟨xk, xc, xn, xl, xp, hxc⟩ := hx.isRow
    refine j_iload O dN_isLikeLeaf_23 rfl ?_
    refine j_iload_n O 3 dN_isLikeLeaf_25 rfl rfl ?_
    refine j_icmp_ge O 56 dN_isLikeLeaf_26 (by decide) (fun c1 => ?_) (fun c1 => ?_)
    · exact absurd c1 (nI_ge (by omega) (by omega))
    · refine j_aload_n O 0 dN_isLikeLeaf_29 rfl rfl ?_
      refine j_get O uwN ha rfl 1 (by decide) w133 rfl rfl dN_isLikeLeaf_30 ?_
      refine j_iload O dN_isLikeLeaf_33 rfl ?_
      refine j_iload_n O 2 dN_isLikeLeaf_35 rfl rfl ?_
      refine j_isub O dN_isLikeLeaf_36 ?_
      refine j_eqi (nI (fr + i - fr)) (pk_sub (by omega)) ?_
      refine j_eqi (nI i) (by rw [show fr + i - fr = i by omega]) ?_
      refine j_aald O hra 1 rfl (by omega) (by omega) dN_isLikeLeaf_37 ?_
      refine j_some x hfx ?_
      refine j_aload_n O 1 dN_isLikeLeaf_38 rfl rfl ?_
      refine j_iload O dN_isLikeLeaf_39 rfl ?_
      refine j_aald O hs 1 rfl (by omega) (by omega) dN_isLikeLeaf_41 ?_
      refine j_some y hfy ?_
      refine j_callV O [.ref y] (c_isLike X.2.1 D t A g x y rs0[i] rs[i] hx hy (hw0 _ (List.getElem_mem _)) (hw _ (List.getElem_mem _))) hxc rfl w116 w117 w118 w31 w119 1 rfl rfl rfl (by decide +kernel) ⟨(by show 1 + 1 ≤ _; omega), (by show 8 + (_ + 11) + 30 ≤ _; omega)⟩ rfl (Nat.le_of_ble_eq_true rfl) dN_isLikeLeaf_42 ⟨(by show 0 + 0 ≤ _; omega), (by show 0 + 0 ≤ _; omega)⟩ (fun v1 g2 hp3 => ?_)
      obtain ⟨rfl, hg4⟩ := hp3
      have hg4 := hg4.symm
      subst hg4
      refine j_if_ne O 50 dN_isLikeLeaf_45 (by decide) (fun c2 => ?_) (fun c2 => ?_)
      · have c3 : rs0[i] = rs[i] := by
          rcases Decidable.em (rs0[i] = rs[i]) with q | q
          · exact q
          · rw [if_neg q] at c2; exact absurd rfl c2
        refine j_iinc O (nI (fr + i + 1)) [(4, .int (nI (fr + i + 1))), (0, .ref a), (1, .ref s), (2, .int (nI fr)), (3, .int (nI (fr + rs.length)))] dN_isLikeLeaf_50 rfl (nI_1 _) (by decide) rfl ?_
        refine j_goto O 23 dN_isLikeLeaf_53 (by decide) ?_
        rw [Nat.add_assoc fr i 1]
        refine J.pk [1, 2, 3, 4, 0] rfl ?_
        refine ih (i + 1) (by omega) (fun j h0 h1 hj => ?_)
        rcases Nat.lt_or_ge j i with z | z
        · exact heq j h0 h1 z
        · have hj : j = i := by omega
          subst hj
          exact c3
      · have c3 : ¬ rs0[i] = rs[i] := fun q => by
          rw [if_pos q] at c2; exact absurd c2 (by decide)
        refine j_iconst O (v := 0) dN_isLikeLeaf_48 (by decide) ?_
        exact j_zret O (by decide) M (Nat.le_of_ble_eq_true rfl) (Nat.le_of_ble_eq_true rfl) ⟨0, rfl, Or.inr ⟨rfl, fun q => c3 (by subst q; rfl)⟩, rfl⟩ dN_isLikeLeaf_49
set_option maxRecDepth 100000 in
set_option maxHeartbeats 4000000 in
theorem c_isLikeLeaf (l : Launch) (D : va_G) (t : Nat → ClassId) (A : Nat → Prop) (g : GH) (a s ra ba fr ns h nr : Nat) (f0 fs : Nat → Option Nat) (rs0 rs : List RV) (mu : MU) (ha : gAt g a (nCell h rs0 ra ba mu)) (hra : gAt g ra (eRs t nr f0)) (hr0 : h = 0 → nr = rs0.length ∧ rowsIn t g f0 0 rs0) (hs : gAt g s (eRs t ns fs)) (hr : rowsIn t g fs fr rs) (hw0 : ∀ r ∈ rs0, r.2.1.length ≤ 32) (hw : ∀ r ∈ rs, r.2.1.length ≤ 32) (hns : fr + rs.length ≤ ns) (hn31 : ns < 2 ^ 27) (hnr : nr < 2 ^ 27) (hh : h < 2 ^ 27) : Ct l yN_isLikeLeaf sN_isLikeLeaf { frames := 2, cells := 0, slots := 0, locals := 60 } (zz D t A) [.ref a, .ref s, .int (nI fr), .int (nI (fr + rs.length))] g 0 0 (fun v g' => ∃ z : Int32, v = some (.int z) ∧ ((z = 1 ∧ (h = 0 ∧ rs0 = rs)) ∨ (z = 0 ∧ ¬ (h = 0 ∧ rs0 = rs))) ∧ g' = g) := by
  refine Ct.of (cc := bN_isLikeLeaf) (maxL := 5) (ret := (some .boolean)) (by decide) (Nat.le_of_ble_eq_true rfl) (fun X hl O M hN => ?_)
  show J X 5 (zz D t A) g 0 0 0 [(0, .ref a), (1, .ref s), (2, .int (nI fr)), (3, .int (nI (fr + rs.length)))] []
  rcases Nat.eq_zero_or_pos h with h0 | h0
  · subst h0
    obtain ⟨hn1, hr1⟩ := hr0 rfl
    subst hn1
    refine j_aload_n O 0 dN_isLikeLeaf_0 rfl rfl ?_
    refine j_get O uwN ha rfl 0 (by decide) w131 rfl rfl dN_isLikeLeaf_1 ?_
    refine j_if_ne O 18 dN_isLikeLeaf_4 (by decide) (fun c1 => ?_) (fun c1 => ?_)
    · exact absurd rfl c1
    · refine j_aload_n O 0 dN_isLikeLeaf_7 rfl rfl ?_
      refine j_get O uwN ha rfl 1 (by decide) w133 rfl rfl dN_isLikeLeaf_8 ?_
      refine j_alen O hra 1 rfl dN_isLikeLeaf_11 ?_
      refine j_iload_n O 3 dN_isLikeLeaf_12 rfl rfl ?_
      refine j_iload_n O 2 dN_isLikeLeaf_13 rfl rfl ?_
      refine j_isub O dN_isLikeLeaf_14 ?_
      refine j_eqi (nI (fr + rs.length - fr)) (pk_sub (by omega)) ?_
      refine j_eqi (nI rs.length) (by rw [show fr + rs.length - fr = rs.length by omega]) ?_
      refine j_icmp_eq O 20 dN_isLikeLeaf_15 (by decide) (fun c2 => ?_) (fun c2 => ?_)
      · have hlen : rs0.length = rs.length := (nI_eq (by omega) (by omega)).mp c2
        refine j_iload_n O 2 dN_isLikeLeaf_20 rfl rfl ?_
        refine j_istore O [(4, .int (nI fr)), (0, .ref a), (1, .ref s), (2, .int (nI fr)), (3, .int (nI (fr + rs.length)))] dN_isLikeLeaf_21 (by decide) rfl ?_
        refine J.pk [1, 2, 3, 4, 0] rfl ?_
        have M2 : Om X (zz D t A) (some .boolean) 0 0 (fun v g' => ∃ z : Int32, v = some (.int z) ∧ ((z = 1 ∧ rs0 = rs) ∨ (z = 0 ∧ ¬ rs0 = rs)) ∧ g' = g) := by
          have e : (fun (v : Option Value) (g' : GH) => ∃ z : Int32, v = some (.int z) ∧ ((z = 1 ∧ rs0 = rs) ∨ (z = 0 ∧ ¬ rs0 = rs)) ∧ g' = g) = (fun (v : Option Value) (g' : GH) => ∃ z : Int32, v = some (.int z) ∧ ((z = 1 ∧ (0 = 0 ∧ rs0 = rs)) ∨ (z = 0 ∧ ¬ (0 = 0 ∧ rs0 = rs))) ∧ g' = g) := by
            funext v g'; simp only [true_and]
          rw [e]; exact M
        exact isLikeLeaf_loop O M2 ha hra hr1 hs hr hw0 hw hns hn31 hlen ⟨by decide, by decide⟩ _ 0 (Nat.zero_add _) (fun j _ _ h => by omega)
      · refine j_iconst O (v := 0) dN_isLikeLeaf_18 (by decide) ?_
        exact j_zret O (by decide) M (Nat.le_of_ble_eq_true rfl) (Nat.le_of_ble_eq_true rfl) ⟨0, rfl, Or.inr ⟨rfl, fun q => c2 (by rw [q.2])⟩, rfl⟩ dN_isLikeLeaf_19
  · refine j_aload_n O 0 dN_isLikeLeaf_0 rfl rfl ?_
    refine j_get O uwN ha rfl 0 (by decide) w131 rfl rfl dN_isLikeLeaf_1 ?_
    refine j_if_ne O 18 dN_isLikeLeaf_4 (by decide) (fun c1 => ?_) (fun c1 => ?_)
    · refine j_iconst O (v := 0) dN_isLikeLeaf_18 (by decide) ?_
      exact j_zret O (by decide) M (Nat.le_of_ble_eq_true rfl) (Nat.le_of_ble_eq_true rfl) ⟨0, rfl, Or.inr ⟨rfl, fun q => by omega⟩, rfl⟩ dN_isLikeLeaf_19
    · exact absurd ((nI_eq (b := 0) (by omega) (by omega)).mp c1) (by omega)
set_option maxRecDepth 100000 in
set_option maxHeartbeats 4000000 in
theorem isLikeBranch_loop {X : CX} {D : va_G} {t : Nat → ClassId} {A : Nat → Prop} {rm : Room} {g : GH} {a s ra ba fr ns h nb m : Nat} {fb fs : Nat → Option Nat} {rs0 : List RV} {mu : MU} (O : Ok X bN_isLikeBranch 5 "TwinTrees$Node" (zz D t A) rm) (M : Om X (zz D t A) (some .boolean) 0 0 (fun v g' => ∃ z : Int32, v = some (.int z) ∧ ((z = 1 ∧ (nb = m ∧ ∀ j, j < m → fb j = fs (fr + j))) ∨ (z = 0 ∧ ¬ (nb = m ∧ ∀ j, j < m → fb j = fs (fr + j)))) ∧ g' = g)) (ha : gAt g a (nCell h rs0 ra ba mu)) (hba : gAt g ba (eNs t nb fb)) (hs : gAt g s (eNs t ns fs)) (hns : fr + m ≤ ns) (hn31 : ns < 2 ^ 27) (hnb : nb < 2 ^ 27) (hm : nb = m) : ∀ (k i : Nat), i + k = m → (∀ j, j < i → fb j = fs (fr + j)) → J X 5 (zz D t A) g 0 0 16 [(0, .ref a), (1, .ref s), (2, .int (nI fr)), (3, .int (nI (fr + m))), (4, .int (nI (fr + i)))] [] := by
  intro k
  induction k with
  | zero =>
    intro i hi heq
    have hi : i = m := by omega
    subst hi
    refine j_iload O dN_isLikeBranch_16 rfl ?_
    refine j_iload_n O 3 dN_isLikeBranch_18 rfl rfl ?_
    refine j_icmp_ge O 46 dN_isLikeBranch_19 (by decide) (fun c1 => ?_) (fun c1 => ?_)
    · refine j_iconst O (v := 1) dN_isLikeBranch_46 (by decide) ?_
      exact j_zret O (by decide) M (Nat.le_of_ble_eq_true rfl) (Nat.le_of_ble_eq_true rfl) ⟨1, rfl, Or.inl ⟨rfl, hm, heq⟩, rfl⟩ dN_isLikeBranch_47
    · exact absurd (nI_le (Nat.le_refl _) (by omega)) c1
  | succ k ih =>
    intro i hi heq
    refine j_iload O dN_isLikeBranch_16 rfl ?_
    refine j_iload_n O 3 dN_isLikeBranch_18 rfl rfl ?_
    refine j_icmp_ge O 46 dN_isLikeBranch_19 (by decide) (fun c1 => ?_) (fun c1 => ?_)
    · exact absurd c1 (nI_ge (by omega) (by omega))
    · refine j_aload_n O 0 dN_isLikeBranch_22 rfl rfl ?_
      refine j_get O uwN ha rfl 2 (by decide) w135 rfl rfl dN_isLikeBranch_23 ?_
      refine j_iload O dN_isLikeBranch_26 rfl ?_
      refine j_iload_n O 2 dN_isLikeBranch_28 rfl rfl ?_
      refine j_isub O dN_isLikeBranch_29 ?_
      refine j_eqi (nI (fr + i - fr)) (pk_sub (by omega)) ?_
      refine j_eqi (nI i) (by rw [show fr + i - fr = i by omega]) ?_
      refine j_aald O hba 2 rfl (by omega) (by omega) dN_isLikeBranch_30 ?_
      refine j_aload_n O 1 dN_isLikeBranch_31 rfl rfl ?_
      refine j_iload O dN_isLikeBranch_32 rfl ?_
      refine j_aald O hs 2 rfl (by omega) (by omega) dN_isLikeBranch_34 ?_
      refine j_acmp_eq (rx := (fb i)) (ry := (fs (fr + i))) O 40 dN_isLikeBranch_35 (by decide) (fun c2 => ?_) (fun c2 => ?_)
      · refine j_iinc O (nI (fr + i + 1)) [(4, .int (nI (fr + i + 1))), (0, .ref a), (1, .ref s), (2, .int (nI fr)), (3, .int (nI (fr + m)))] dN_isLikeBranch_40 rfl (nI_1 _) (by decide) rfl ?_
        refine j_goto O 16 dN_isLikeBranch_43 (by decide) ?_
        rw [Nat.add_assoc fr i 1]
        refine J.pk [1, 2, 3, 4, 0] rfl ?_
        refine ih (i + 1) (by omega) (fun j hj => ?_)
        rcases Nat.lt_or_ge j i with z | z
        · exact heq j z
        · have hj : j = i := by omega
          subst hj
          exact c2
      · refine j_iconst O (v := 0) dN_isLikeBranch_38 (by decide) ?_
        exact j_zret O (by decide) M (Nat.le_of_ble_eq_true rfl) (Nat.le_of_ble_eq_true rfl) ⟨0, rfl, Or.inr ⟨rfl, fun q => c2 (q.2 i (by omega))⟩, rfl⟩ dN_isLikeBranch_39
set_option maxRecDepth 100000 in
set_option maxHeartbeats 4000000 in
theorem c_isLikeBranch (l : Launch) (D : va_G) (t : Nat → ClassId) (A : Nat → Prop) (g : GH) (a s ra ba fr ns h nb m : Nat) (fb fs : Nat → Option Nat) (rs0 : List RV) (mu : MU) (ha : gAt g a (nCell h rs0 ra ba mu)) (hba : gAt g ba (eNs t nb fb)) (hs : gAt g s (eNs t ns fs)) (hns : fr + m ≤ ns) (hn31 : ns < 2 ^ 27) (hnb : nb < 2 ^ 27) : Ct l yN_isLikeBranch sN_isLikeBranch { frames := 0, cells := 0, slots := 0, locals := 0 } (zz D t A) [.ref a, .ref s, .int (nI fr), .int (nI (fr + m))] g 0 0 (fun v g' => ∃ z : Int32, v = some (.int z) ∧ ((z = 1 ∧ (nb = m ∧ ∀ j, j < m → fb j = fs (fr + j))) ∨ (z = 0 ∧ ¬ (nb = m ∧ ∀ j, j < m → fb j = fs (fr + j)))) ∧ g' = g) := by
  refine Ct.of (cc := bN_isLikeBranch) (maxL := 5) (ret := (some .boolean)) (by decide) (Nat.le_of_ble_eq_true rfl) (fun X hl O M hN => ?_)
  show J X 5 (zz D t A) g 0 0 0 [(0, .ref a), (1, .ref s), (2, .int (nI fr)), (3, .int (nI (fr + m)))] []
  refine j_aload_n O 0 dN_isLikeBranch_0 rfl rfl ?_
  refine j_get O uwN ha rfl 2 (by decide) w135 rfl rfl dN_isLikeBranch_1 ?_
  refine j_alen O hba 2 rfl dN_isLikeBranch_4 ?_
  refine j_iload_n O 3 dN_isLikeBranch_5 rfl rfl ?_
  refine j_iload_n O 2 dN_isLikeBranch_6 rfl rfl ?_
  refine j_isub O dN_isLikeBranch_7 ?_
  refine j_eqi (nI (fr + m - fr)) (pk_sub (by omega)) ?_
  refine j_eqi (nI m) (by rw [show fr + m - fr = m by omega]) ?_
  refine j_icmp_eq O 13 dN_isLikeBranch_8 (by decide) (fun c1 => ?_) (fun c1 => ?_)
  · refine j_iload_n O 2 dN_isLikeBranch_13 rfl rfl ?_
    refine j_istore O [(4, .int (nI fr)), (0, .ref a), (1, .ref s), (2, .int (nI fr)), (3, .int (nI (fr + m)))] dN_isLikeBranch_14 (by decide) rfl ?_
    refine J.pk [1, 2, 3, 4, 0] rfl ?_
    exact isLikeBranch_loop O M ha hba hs hns hn31 hnb ((nI_eq (by omega) (by omega)).mp c1) _ 0 (Nat.zero_add _) (fun j hj => by omega)
  · refine j_iconst O (v := 0) dN_isLikeBranch_11 (by decide) ?_
    exact j_zret O (by decide) M (Nat.le_of_ble_eq_true rfl) (Nat.le_of_ble_eq_true rfl) ⟨0, rfl, Or.inr ⟨rfl, fun q => c1 (by rw [q.1])⟩, rfl⟩ dN_isLikeBranch_12
set_option maxRecDepth 100000 in
set_option maxHeartbeats 4000000 in
theorem c_pend (l : Launch) (D : va_G) (t : Nat → ClassId) (A : Nat → Prop) (g : GH) (s a b xra xba : Nat) (p xnx : Option Nat) (ns sz xh xrc xsz xlk xll xpr xha xst : Int32) (xad : Int64) (hs : gAt g s (eSt b p ns sz)) (ha : gAt g a (eNode xh xra xba xrc xsz xlk xll xpr xad xha xst xnx)) : Ct l yS_pend sS_pend { frames := 0, cells := 0, slots := 0, locals := 0 } (zz D t A) [.ref s, .ref a] g 0 0 (fun v g' => v = some (.ref a) ∧ gAt g' s (eSt b (some a) ns sz) ∧ gAt g' a (eNode xh xra xba xrc xsz xlk xll xpr xad xha xst p) ∧ Kp [s, a] g g') := by
  refine Ct.of (cc := bS_pend) (maxL := 2) (ret := (some (.object "TwinTrees$Node"))) (by decide) (Nat.le_of_ble_eq_true rfl) (fun X hl O M hN => ?_)
  show J X 2 (zz D t A) g 0 0 0 [(0, .ref s), (1, .ref a)] []
  have kp0 : Kp [s, a] g g := Kp.rf
  refine j_aload_n O 1 dS_pend_0 rfl rfl ?_
  refine j_aload_n O 0 dS_pend_1 rfl rfl ?_
  refine j_get O uwS hs rfl 1 (by decide) w49 rfl rfl dS_pend_2 ?_
  refine j_put O uwN ha rfl 11 (by decide) w155 rfl tN ftN fnN rfl (.object "TwinTrees$Node") (by decide +kernel) (by cases (p) <;> rfl) (by cases (p) <;> rfl) (Nat.le_of_ble_eq_true rfl) [.int xh, .ref xra, .ref xba, .int xrc, .int xsz, .int xlk, .int xll, .int xpr, .long xad, .int xha, .int xst, va_rf p] rfl dS_pend_5 (fun g5 e6 => ?_)
  have h7 := gUp_ne (e' := .inr (2, [.int xh, .ref xra, .ref xba, .int xrc, .int xsz, .int xlk, .int xll, .int xpr, .long xad, .int xha, .int xst, va_rf p])) hs (hs.ne ha (by simp))
  rw [← e6] at h7
  have h8 := gUp_self (e' := .inr (2, [.int xh, .ref xra, .ref xba, .int xrc, .int xsz, .int xlk, .int xll, .int xpr, .long xad, .int xha, .int xst, va_rf p])) ha
  rw [← e6] at h8
  have kp9 := kp0.up (a := a) (e := .inr (2, [.int xh, .ref xra, .ref xba, .int xrc, .int xsz, .int xlk, .int xll, .int xpr, .long xad, .int xha, .int xst, va_rf p])) (by simp)
  rw [← e6] at kp9
  refine j_aload_n O 0 dS_pend_8 rfl rfl ?_
  refine j_aload_n O 1 dS_pend_9 rfl rfl ?_
  refine j_put O uwS h7 rfl 1 (by decide) w49 rfl tS ftS fnS rfl (.object "TwinTrees$Node") (by decide +kernel) rfl rfl (Nat.le_of_ble_eq_true rfl) [.ref b, .ref a, .int ns, .int sz] rfl dS_pend_10 (fun g10 e11 => ?_)
  have h12 := gUp_ne (e' := .inr (5, [.ref b, .ref a, .int ns, .int sz])) h8 (h8.ne h7 (by simp))
  rw [← e11] at h12
  have h13 := gUp_self (e' := .inr (5, [.ref b, .ref a, .int ns, .int sz])) h7
  rw [← e11] at h13
  have kp14 := kp9.up (a := s) (e := .inr (5, [.ref b, .ref a, .int ns, .int sz])) (by simp)
  rw [← e11] at kp14
  refine j_aload_n O 1 dS_pend_13 rfl rfl ?_
  exact j_aret (o := (some a)) O (Or.inl ⟨_, rfl⟩) M (Nat.le_of_ble_eq_true rfl) (Nat.le_of_ble_eq_true rfl) ⟨rfl, h13, h12, kp14⟩ dS_pend_14
set_option maxRecDepth 100000 in
set_option maxHeartbeats 4000000 in
theorem c_Store_init (l : Launch) (D : va_G) (t : Nat → ClassId) (A : Nat → Prop) (g : GH) (a : Nat) (ha : gAt g a (.inr (5, [.null, .null, .int 0, .int 0]))) : Ct l yS_init sS_init { frames := 1, cells := 1, slots := 1024, locals := 20 } (zz D t A) [.ref a] g 1 1024 (fun v g' => v = none ∧ ∃ b, b ∉ g.1 ∧ gAt g' a (eSt b none 0 0) ∧ gAt g' b (eNs t 1024 (fun _ => none)) ∧ Kp [a] g g') := by
  refine Ct.of (cc := bS_init) (maxL := 1) (ret := none) (by decide) (Nat.le_of_ble_eq_true rfl) (fun X hl O M hN => ?_)
  have hN := hN rfl
  show J X 1 (zz D t A) g 0 0 0 [(0, .ref a)] []
  have kp0 : Kp [a] g g := Kp.rf
  refine j_aload_n O 0 dS_init_0 rfl rfl ?_
  refine j_objInit O w46 w39 w40 dS_init_1 (Nat.le_of_ble_eq_true rfl) (Nat.le_of_ble_eq_true rfl) ?_
  refine j_aload_n O 0 dS_init_4 rfl rfl ?_
  refine j_sipush O (v := 1024) dS_init_5 (by decide) ?_
  refine j_newq O w47 (List.mem_of_getElem? (i := 4) rfl) 2 rfl 1024 (by decide) (by decide) (by decide) (Nat.le_of_ble_eq_true rfl) (Nat.le_of_ble_eq_true rfl) dS_init_8 (fun q15 g16 hq17 e18 => ?_)
  have h19 := gNew_old (e' := .inl (t 2, 1024, .inr (.inr (.inr (.inr (fun _ => none)))))) ha hq17
  rw [← e18] at h19
  have h20 := gNew_self (g := g) (a := q15) (e := .inl (t 2, 1024, .inr (.inr (.inr (.inr (fun _ => none))))))
  rw [← e18] at h20
  have kp21 := kp0.new (e := .inl (t 2, 1024, .inr (.inr (.inr (.inr (fun _ => none)))))) hq17
  rw [← e18] at kp21
  refine j_putF O hN uwS h19 rfl 0 (by decide) w48 rfl tS ftS fnS rfl rfl (.array (.object "TwinTrees$Node")) (by decide +kernel) rfl rfl (Nat.le_of_ble_eq_true rfl) [.ref q15, .null, .int 0, .int 0] rfl dS_init_11 (fun g22 e23 => ?_)
  have h24 := gUp_ne (e' := .inr (5, [.ref q15, .null, .int 0, .int 0])) h20 (Ne.symm (ha.nin hq17))
  rw [← e23] at h24
  have h25 := gUp_self (e' := .inr (5, [.ref q15, .null, .int 0, .int 0])) h19
  rw [← e23] at h25
  have kp26 := kp21.up (a := a) (e := .inr (5, [.ref q15, .null, .int 0, .int 0])) (by simp)
  rw [← e23] at kp26
  refine j_aload_n O 0 dS_init_14 rfl rfl ?_
  refine j_null O dS_init_15 ?_
  refine j_put O uwS h25 rfl 1 (by decide) w49 rfl tS ftS fnS rfl (.object "TwinTrees$Node") (by decide +kernel) rfl rfl (Nat.le_of_ble_eq_true rfl) [.ref q15, .null, .int 0, .int 0] rfl dS_init_16 (fun g27 e28 => ?_)
  have h29 := gUp_ne (e' := .inr (5, [.ref q15, .null, .int 0, .int 0])) h24 (Ne.symm (ha.nin hq17))
  rw [← e28] at h29
  have h30 := gUp_self (e' := .inr (5, [.ref q15, .null, .int 0, .int 0])) h25
  rw [← e28] at h30
  have kp31 := kp26.up (a := a) (e := .inr (5, [.ref q15, .null, .int 0, .int 0])) (by simp)
  rw [← e28] at kp31
  refine j_aload_n O 0 dS_init_19 rfl rfl ?_
  refine j_iconst O (v := 0) dS_init_20 (by decide) ?_
  refine j_put O uwS h30 rfl 2 (by decide) w50 rfl tS ftS fnS rfl (.int) (by decide +kernel) rfl rfl (Nat.le_of_ble_eq_true rfl) [.ref q15, .null, .int 0, .int 0] rfl dS_init_21 (fun g32 e33 => ?_)
  have h34 := gUp_ne (e' := .inr (5, [.ref q15, .null, .int 0, .int 0])) h29 (Ne.symm (ha.nin hq17))
  rw [← e33] at h34
  have h35 := gUp_self (e' := .inr (5, [.ref q15, .null, .int 0, .int 0])) h30
  rw [← e33] at h35
  have kp36 := kp31.up (a := a) (e := .inr (5, [.ref q15, .null, .int 0, .int 0])) (by simp)
  rw [← e33] at kp36
  refine j_aload_n O 0 dS_init_24 rfl rfl ?_
  refine j_iconst O (v := 0) dS_init_25 (by decide) ?_
  refine j_put O uwS h35 rfl 3 (by decide) w52 rfl tS ftS fnS rfl (.int) (by decide +kernel) rfl rfl (Nat.le_of_ble_eq_true rfl) [.ref q15, .null, .int 0, .int 0] rfl dS_init_26 (fun g37 e38 => ?_)
  have h39 := gUp_ne (e' := .inr (5, [.ref q15, .null, .int 0, .int 0])) h34 (Ne.symm (ha.nin hq17))
  rw [← e38] at h39
  have h40 := gUp_self (e' := .inr (5, [.ref q15, .null, .int 0, .int 0])) h35
  rw [← e38] at h40
  have kp41 := kp36.up (a := a) (e := .inr (5, [.ref q15, .null, .int 0, .int 0])) (by simp)
  rw [← e38] at kp41
  exact j_vret O M (Nat.le_of_ble_eq_true rfl) (Nat.le_of_ble_eq_true rfl) ⟨rfl, q15, (kp0.nin hq17), h40, h39, kp41⟩ dS_init_29
set_option maxRecDepth 100000 in
set_option maxHeartbeats 4000000 in
theorem c_Df_init (l : Launch) (D : va_G) (t : Nat → ClassId) (A : Nat → Prop) (g : GH) (a : Nat) (ha : gAt g a (.inr (1, [.null, .null, .null, .int 0]))) : Ct l yD_init sD_init { frames := 1, cells := 3, slots := 1800, locals := 20 } (zz D t A) [.ref a] g 3 1800 (fun v g' => v = none ∧ ∃ k s u, k ∉ g.1 ∧ s ∉ g.1 ∧ u ∉ g.1 ∧ k ≠ s ∧ k ≠ u ∧ s ≠ u ∧ gAt g' a (eDf k s u 0) ∧ gAt g' k (eI t 600 (fun _ => 0)) ∧ gAt g' s (eI t 600 (fun _ => 0)) ∧ gAt g' u (eI t 600 (fun _ => 0)) ∧ Kp [a] g g') := by
  refine Ct.of (cc := bD_init) (maxL := 1) (ret := none) (by decide) (Nat.le_of_ble_eq_true rfl) (fun X hl O M hN => ?_)
  have hN := hN rfl
  show J X 1 (zz D t A) g 0 0 0 [(0, .ref a)] []
  have kp0 : Kp [a] g g := Kp.rf
  refine j_aload_n O 0 dD_init_0 rfl rfl ?_
  refine j_objInit O w68 w39 w40 dD_init_1 (Nat.le_of_ble_eq_true rfl) (Nat.le_of_ble_eq_true rfl) ?_
  refine j_aload_n O 0 dD_init_4 rfl rfl ?_
  refine j_sipush O (v := 600) dD_init_5 (by decide) ?_
  refine j_newa (atype := .int) O w63 (.int) rfl 0 rfl rfl 600 (600, .inl (fun _ => 0)) (fun _ => rfl) (by decide) (by decide) (by decide) (Nat.le_of_ble_eq_true rfl) (Nat.le_of_ble_eq_true rfl) dD_init_8 (fun q42 g43 hq44 e45 => ?_)
  have h46 := gNew_old (e' := .inl (t 0, 600, .inl (fun _ => 0))) ha hq44
  rw [← e45] at h46
  have h47 := gNew_self (g := g) (a := q42) (e := .inl (t 0, 600, .inl (fun _ => 0)))
  rw [← e45] at h47
  have kp48 := kp0.new (e := .inl (t 0, 600, .inl (fun _ => 0))) hq44
  rw [← e45] at kp48
  refine j_putF O hN uwD h46 rfl 0 (by decide) w69 rfl tD ftD fnD rfl rfl (.array .int) (by decide +kernel) rfl rfl (Nat.le_of_ble_eq_true rfl) [.ref q42, .null, .null, .int 0] rfl dD_init_10 (fun g49 e50 => ?_)
  have h51 := gUp_ne (e' := .inr (1, [.ref q42, .null, .null, .int 0])) h47 (Ne.symm (ha.nin hq44))
  rw [← e50] at h51
  have h52 := gUp_self (e' := .inr (1, [.ref q42, .null, .null, .int 0])) h46
  rw [← e50] at h52
  have kp53 := kp48.up (a := a) (e := .inr (1, [.ref q42, .null, .null, .int 0])) (by simp)
  rw [← e50] at kp53
  refine j_aload_n O 0 dD_init_13 rfl rfl ?_
  refine j_sipush O (v := 600) dD_init_14 (by decide) ?_
  refine j_newa (atype := .int) O w63 (.int) rfl 0 rfl rfl 600 (600, .inl (fun _ => 0)) (fun _ => rfl) (by decide) (by decide) (by decide) (Nat.le_of_ble_eq_true rfl) (Nat.le_of_ble_eq_true rfl) dD_init_17 (fun q54 g55 hq56 e57 => ?_)
  have h58 := gNew_old (e' := .inl (t 0, 600, .inl (fun _ => 0))) h52 hq56
  rw [← e57] at h58
  have h59 := gNew_old (e' := .inl (t 0, 600, .inl (fun _ => 0))) h51 hq56
  rw [← e57] at h59
  have h60 := gNew_self (g := g49) (a := q54) (e := .inl (t 0, 600, .inl (fun _ => 0)))
  rw [← e57] at h60
  have kp61 := kp53.new (e := .inl (t 0, 600, .inl (fun _ => 0))) hq56
  rw [← e57] at kp61
  refine j_putF O hN uwD h58 rfl 1 (by decide) w71 rfl tD ftD fnD rfl rfl (.array .int) (by decide +kernel) rfl rfl (Nat.le_of_ble_eq_true rfl) [.ref q42, .ref q54, .null, .int 0] rfl dD_init_19 (fun g62 e63 => ?_)
  have h64 := gUp_ne (e' := .inr (1, [.ref q42, .ref q54, .null, .int 0])) h59 (Ne.symm (ha.nin hq44))
  rw [← e63] at h64
  have h65 := gUp_ne (e' := .inr (1, [.ref q42, .ref q54, .null, .int 0])) h60 (Ne.symm (h52.nin hq56))
  rw [← e63] at h65
  have h66 := gUp_self (e' := .inr (1, [.ref q42, .ref q54, .null, .int 0])) h58
  rw [← e63] at h66
  have kp67 := kp61.up (a := a) (e := .inr (1, [.ref q42, .ref q54, .null, .int 0])) (by simp)
  rw [← e63] at kp67
  refine j_aload_n O 0 dD_init_22 rfl rfl ?_
  refine j_sipush O (v := 600) dD_init_23 (by decide) ?_
  refine j_newa (atype := .int) O w63 (.int) rfl 0 rfl rfl 600 (600, .inl (fun _ => 0)) (fun _ => rfl) (by decide) (by decide) (by decide) (Nat.le_of_ble_eq_true rfl) (Nat.le_of_ble_eq_true rfl) dD_init_26 (fun q68 g69 hq70 e71 => ?_)
  have h72 := gNew_old (e' := .inl (t 0, 600, .inl (fun _ => 0))) h66 hq70
  rw [← e71] at h72
  have h73 := gNew_old (e' := .inl (t 0, 600, .inl (fun _ => 0))) h64 hq70
  rw [← e71] at h73
  have h74 := gNew_old (e' := .inl (t 0, 600, .inl (fun _ => 0))) h65 hq70
  rw [← e71] at h74
  have h75 := gNew_self (g := g62) (a := q68) (e := .inl (t 0, 600, .inl (fun _ => 0)))
  rw [← e71] at h75
  have kp76 := kp67.new (e := .inl (t 0, 600, .inl (fun _ => 0))) hq70
  rw [← e71] at kp76
  refine j_putF O hN uwD h72 rfl 2 (by decide) w73 rfl tD ftD fnD rfl rfl (.array .int) (by decide +kernel) rfl rfl (Nat.le_of_ble_eq_true rfl) [.ref q42, .ref q54, .ref q68, .int 0] rfl dD_init_28 (fun g77 e78 => ?_)
  have h79 := gUp_ne (e' := .inr (1, [.ref q42, .ref q54, .ref q68, .int 0])) h73 (Ne.symm (ha.nin hq44))
  rw [← e78] at h79
  have h80 := gUp_ne (e' := .inr (1, [.ref q42, .ref q54, .ref q68, .int 0])) h74 (Ne.symm (h52.nin hq56))
  rw [← e78] at h80
  have h81 := gUp_ne (e' := .inr (1, [.ref q42, .ref q54, .ref q68, .int 0])) h75 (Ne.symm (h66.nin hq70))
  rw [← e78] at h81
  have h82 := gUp_self (e' := .inr (1, [.ref q42, .ref q54, .ref q68, .int 0])) h72
  rw [← e78] at h82
  have kp83 := kp76.up (a := a) (e := .inr (1, [.ref q42, .ref q54, .ref q68, .int 0])) (by simp)
  rw [← e78] at kp83
  refine j_aload_n O 0 dD_init_31 rfl rfl ?_
  refine j_iconst O (v := 0) dD_init_32 (by decide) ?_
  refine j_put O uwD h82 rfl 3 (by decide) w75 rfl tD ftD fnD rfl (.int) (by decide +kernel) rfl rfl (Nat.le_of_ble_eq_true rfl) [.ref q42, .ref q54, .ref q68, .int 0] rfl dD_init_33 (fun g84 e85 => ?_)
  have h86 := gUp_ne (e' := .inr (1, [.ref q42, .ref q54, .ref q68, .int 0])) h79 (Ne.symm (ha.nin hq44))
  rw [← e85] at h86
  have h87 := gUp_ne (e' := .inr (1, [.ref q42, .ref q54, .ref q68, .int 0])) h80 (Ne.symm (h52.nin hq56))
  rw [← e85] at h87
  have h88 := gUp_ne (e' := .inr (1, [.ref q42, .ref q54, .ref q68, .int 0])) h81 (Ne.symm (h66.nin hq70))
  rw [← e85] at h88
  have h89 := gUp_self (e' := .inr (1, [.ref q42, .ref q54, .ref q68, .int 0])) h82
  rw [← e85] at h89
  have kp90 := kp83.up (a := a) (e := .inr (1, [.ref q42, .ref q54, .ref q68, .int 0])) (by simp)
  rw [← e85] at kp90
  exact j_vret O M (Nat.le_of_ble_eq_true rfl) (Nat.le_of_ble_eq_true rfl) ⟨rfl, q42, q54, q68, (kp0.nin hq44), (kp53.nin hq56), (kp67.nin hq70), (h51.nin hq56), (h64.nin hq70), (h65.nin hq70), h89, h86, h87, h88, kp90⟩ dD_init_36
set_option maxRecDepth 100000 in
set_option maxHeartbeats 4000000 in
theorem c_note (l : Launch) (D : va_G) (t : Nat → ClassId) (A : Nat → Prop) (g : GH) (d k s u n : Nat) (fk fs fu : Nat → Int32) (x1 x2 x3 : Int32) (hd : gAt g d (eDf k s u (nI n))) (hk : gAt g k (eI t 600 fk)) (hs : gAt g s (eI t 600 fs)) (hu : gAt g u (eI t 600 fu)) (n1 : k ≠ s) (n2 : k ≠ u) (n3 : s ≠ u) (hn : n < 600) : Ct l yD_note sD_note { frames := 0, cells := 0, slots := 0, locals := 0 } (zz D t A) [.ref d, .int x1, .int x2, .int x3] g 0 0 (fun v g' => v = none ∧ gAt g' d (eDf k s u (nI (n + 1))) ∧ gAt g' k (eI t 600 (upd fk n x1)) ∧ gAt g' s (eI t 600 (upd fs n x2)) ∧ gAt g' u (eI t 600 (upd fu n x3)) ∧ Kp [d, k, s, u] g g') := by
  refine Ct.of (cc := bD_note) (maxL := 4) (ret := none) (by decide) (Nat.le_of_ble_eq_true rfl) (fun X hl O M hN => ?_)
  show J X 4 (zz D t A) g 0 0 0 [(0, .ref d), (1, .int x1), (2, .int x2), (3, .int x3)] []
  have kp0 : Kp [d, k, s, u] g g := Kp.rf
  refine j_aload_n O 0 dD_note_0 rfl rfl ?_
  refine j_get O uwD hd rfl 3 (by decide) w75 rfl rfl dD_note_1 ?_
  refine j_aload_n O 0 dD_note_4 rfl rfl ?_
  refine j_get O uwD hd rfl 0 (by decide) w69 rfl rfl dD_note_5 ?_
  refine j_alen O hk 0 rfl dD_note_8 ?_
  refine j_icmp_ge O 52 dD_note_9 (by decide) (fun c1 => ?_) (fun c1 => ?_)
  · exact absurd c1 (nI_ge hn (by omega))
  · refine j_aload_n O 0 dD_note_12 rfl rfl ?_
    refine j_get O uwD hd rfl 0 (by decide) w69 rfl rfl dD_note_13 ?_
    refine j_aload_n O 0 dD_note_16 rfl rfl ?_
    refine j_get O uwD hd rfl 3 (by decide) w75 rfl rfl dD_note_17 ?_
    refine j_iload_n O 1 dD_note_20 rfl rfl ?_
    refine j_iast O hk 0 rfl hn (by omega) dD_note_21 (fun g91 e92 => ?_)
    have h93 := gUp_ne (e' := .inl (t 0, 600, .inl (upd fk n x1))) hd (hd.ne hk (by simp))
    rw [← e92] at h93
    have h94 := gUp_ne (e' := .inl (t 0, 600, .inl (upd fk n x1))) hs (Ne.symm n1)
    rw [← e92] at h94
    have h95 := gUp_ne (e' := .inl (t 0, 600, .inl (upd fk n x1))) hu (Ne.symm n2)
    rw [← e92] at h95
    have h96 := gUp_self (e' := .inl (t 0, 600, .inl (upd fk n x1))) hk
    rw [← e92] at h96
    have kp97 := kp0.up (a := k) (e := .inl (t 0, 600, .inl (upd fk n x1))) (by simp)
    rw [← e92] at kp97
    refine j_aload_n O 0 dD_note_22 rfl rfl ?_
    refine j_get O uwD h93 rfl 1 (by decide) w71 rfl rfl dD_note_23 ?_
    refine j_aload_n O 0 dD_note_26 rfl rfl ?_
    refine j_get O uwD h93 rfl 3 (by decide) w75 rfl rfl dD_note_27 ?_
    refine j_iload_n O 2 dD_note_30 rfl rfl ?_
    refine j_iast O h94 0 rfl hn (by omega) dD_note_31 (fun g98 e99 => ?_)
    have h100 := gUp_ne (e' := .inl (t 0, 600, .inl (upd fs n x2))) h93 (h93.ne h94 (by simp))
    rw [← e99] at h100
    have h101 := gUp_ne (e' := .inl (t 0, 600, .inl (upd fs n x2))) h96 n1
    rw [← e99] at h101
    have h102 := gUp_ne (e' := .inl (t 0, 600, .inl (upd fs n x2))) h95 (Ne.symm n3)
    rw [← e99] at h102
    have h103 := gUp_self (e' := .inl (t 0, 600, .inl (upd fs n x2))) h94
    rw [← e99] at h103
    have kp104 := kp97.up (a := s) (e := .inl (t 0, 600, .inl (upd fs n x2))) (by simp)
    rw [← e99] at kp104
    refine j_aload_n O 0 dD_note_32 rfl rfl ?_
    refine j_get O uwD h100 rfl 2 (by decide) w73 rfl rfl dD_note_33 ?_
    refine j_aload_n O 0 dD_note_36 rfl rfl ?_
    refine j_get O uwD h100 rfl 3 (by decide) w75 rfl rfl dD_note_37 ?_
    refine j_iload_n O 3 dD_note_40 rfl rfl ?_
    refine j_iast O h102 0 rfl hn (by omega) dD_note_41 (fun g105 e106 => ?_)
    have h107 := gUp_ne (e' := .inl (t 0, 600, .inl (upd fu n x3))) h100 (h100.ne h102 (by simp))
    rw [← e106] at h107
    have h108 := gUp_ne (e' := .inl (t 0, 600, .inl (upd fu n x3))) h101 n2
    rw [← e106] at h108
    have h109 := gUp_ne (e' := .inl (t 0, 600, .inl (upd fu n x3))) h103 n3
    rw [← e106] at h109
    have h110 := gUp_self (e' := .inl (t 0, 600, .inl (upd fu n x3))) h102
    rw [← e106] at h110
    have kp111 := kp104.up (a := u) (e := .inl (t 0, 600, .inl (upd fu n x3))) (by simp)
    rw [← e106] at kp111
    refine j_aload_n O 0 dD_note_42 rfl rfl ?_
    refine j_dup O dD_note_43 rfl ?_
    refine j_get O uwD h107 rfl 3 (by decide) w75 rfl rfl dD_note_44 ?_
    refine j_iconst O (v := 1) dD_note_47 (by decide) ?_
    refine j_iadd O dD_note_48 ?_
    refine j_eqi (nI (n + 1)) (nI_1 _) ?_
    refine j_put O uwD h107 rfl 3 (by decide) w75 rfl tD ftD fnD rfl (.int) (by decide +kernel) rfl rfl (Nat.le_of_ble_eq_true rfl) [.ref k, .ref s, .ref u, .int (nI (n + 1))] rfl dD_note_49 (fun g112 e113 => ?_)
    have h114 := gUp_ne (e' := .inr (1, [.ref k, .ref s, .ref u, .int (nI (n + 1))])) h108 (h108.ne h107 (by simp))
    rw [← e113] at h114
    have h115 := gUp_ne (e' := .inr (1, [.ref k, .ref s, .ref u, .int (nI (n + 1))])) h109 (h109.ne h107 (by simp))
    rw [← e113] at h115
    have h116 := gUp_ne (e' := .inr (1, [.ref k, .ref s, .ref u, .int (nI (n + 1))])) h110 (h110.ne h107 (by simp))
    rw [← e113] at h116
    have h117 := gUp_self (e' := .inr (1, [.ref k, .ref s, .ref u, .int (nI (n + 1))])) h107
    rw [← e113] at h117
    have kp118 := kp111.up (a := d) (e := .inr (1, [.ref k, .ref s, .ref u, .int (nI (n + 1))])) (by simp)
    rw [← e113] at kp118
    exact j_vret O M (Nat.le_of_ble_eq_true rfl) (Nat.le_of_ble_eq_true rfl) ⟨rfl, h117, h114, h115, h116, kp118⟩ dD_note_52
end
section
/-! The store's world: w = (values of nodes, nodes below, mutable parts, cells that nobody writes, chains of the buckets, pending nodes). -/
abbrev GD : Type := NM × (Nat → List Nat) × (Nat → MU) × (Nat → Prop) × (Nat → List Nat) × List Nat
def bkt (p : Int32) : Nat := (p * (-1640531535)).toBitVec.toNat / 2 ^ 22
theorem bkt_lt (p : Int32) : bkt p < 1024 := by
  unfold bkt
  have := (p * (-1640531535)).toBitVec.isLt
  omega
theorem bkt_eq (p : Int32) : ush (p * (-1640531535)) 22 = nI (bkt p) := by
  have h := pk_ushr (p * (-1640531535)) 22 22 (by decide)
  have hb := bkt_lt p
  apply Int32.toBitVec_inj.mp
  apply BitVec.eq_of_toNat_eq
  unfold ush
  rw [h, pk_tn (by omega)]
  rfl
def nxOf (mu : Nat → MU) (a : Nat) : Option Nat := (mu a).2.2.2
def lnk (nx : Nat → Option Nat) : List Nat → Prop
  | [] => True
  | a :: r => nx a = r.head? ∧ lnk nx r
theorem lnk.congr {nx nx' : Nat → Option Nat} : ∀ {l : List Nat}, lnk nx l → (∀ a ∈ l, nx' a = nx a) → lnk nx' l
  | [], _, _ => trivial
  | a :: r, h, e => ⟨(e a List.mem_cons_self).trans h.1, lnk.congr h.2 (fun b hb => e b (List.mem_cons_of_mem _ hb))⟩
def inS (ch : Nat → List Nat) (a : Nat) : Prop := ∃ i, i < 1024 ∧ a ∈ ch i
/-- rows by rising keys -/
def srt (rs : List RV) : Prop := rs.Pairwise (fun r s => r.1 < s.1)
def vOK (v : NV) : Prop := v.1 ≤ 5 ∧ v.2.length ≤ 300 ∧ (∀ r ∈ v.2, r.2.1.length ≤ 6) ∧ (v.1 ≠ 0 → v.2 ≠ []) ∧ srt v.2
def rowsI (t : Nat → ClassId) (g : GH) (I : Nat → Prop) (f : Nat → Option Nat) (o : Nat) (rs : List RV) : Prop := ∀ i (h : i < rs.length), ∃ b, f (o + i) = some b ∧ rowI t g I b rs[i]
theorem rowsI.in {t : Nat → ClassId} {g : GH} {I : Nat → Prop} {f : Nat → Option Nat} {o : Nat} {rs : List RV} (h : rowsI t g I f o rs) : rowsIn t g f o rs := fun i hi => (h i hi).elim (fun b q => ⟨b, q.1, q.2.at⟩)
theorem rowsI.keep {t : Nat → ClassId} {g g' : GH} {I I' : Nat → Prop} {f : Nat → Option Nat} {o : Nat} {rs : List RV} (h : rowsI t g I f o rs) (hI : ∀ x, I x → I' x) (hk : ∀ (x : Nat) (e : va_E), I x → gAt g x e → gAt g' x e) : rowsI t g' I' f o rs := fun i hi => (h i hi).elim (fun b q => ⟨b, q.1, q.2.keep hI hk⟩)
/-- what a node's cells are, by its value v, its kids and its mutable part -/
def nodeOK (t : Nat → ClassId) (g : GH) (N : NM) (ks : List Nat) (I : Nat → Prop) (a : Nat) (v : NV) (m : MU) : Prop :=
  ∃ (ra ba nr : Nat) (fr fb : Nat → Option Nat), I ra ∧ I ba ∧ gAt g a (nCell v.1 v.2 ra ba m) ∧ gAt g ra (eRs t nr fr) ∧ gAt g ba (eNs t ks.length fb) ∧ nr ≤ 300 ∧
    (v.1 = 0 → nr = v.2.length ∧ ks = [] ∧ rowsI t g I fr 0 v.2) ∧ (v.1 ≠ 0 → nr = 0) ∧ (∀ i (hi : i < ks.length), fb i = some ks[i]) ∧
    ∀ h, v.1 = h + 1 → ks.length = (runs (h + 1) v.2).length ∧ ∀ i (hi : i < ks.length) (hj : i < (runs (h + 1) v.2).length), N ks[i] = some (h, (runs (h + 1) v.2)[i])
def adOK (v : NV) (m : MU) : Prop := m.2.1 = 0 ∨ (m.2.1 = 1 ∧ m.1 = nad v.1 v.2)
def NI (t : Nat → ClassId) (g : GH) (w : GD) : Prop := ∀ a v, w.1 a = some v → vOK v ∧ ¬ w.2.2.2.1 a ∧ nodeOK t g w.1 (w.2.1 a) w.2.2.2.1 a v (w.2.2.1 a) ∧ adOK v (w.2.2.1 a)
def UQ (w : GD) : Prop := ∀ a b v, (inS w.2.2.2.2.1 a ∨ a ∈ w.2.2.2.2.2) → (inS w.2.2.2.2.1 b ∨ b ∈ w.2.2.2.2.2) → w.1 a = some v → w.1 b = some v → a = b
def CLO (w : GD) : Prop := (∀ a, inS w.2.2.2.2.1 a → ∀ b ∈ w.2.1 a, inS w.2.2.2.2.1 b) ∧ ∀ a ∈ w.2.2.2.2.2, ∀ b ∈ w.2.1 a, inS w.2.2.2.2.1 b ∨ b ∈ w.2.2.2.2.2
def CHN (w : GD) : Prop := ∀ i, i < 1024 → lnk (nxOf w.2.2.1) (w.2.2.2.2.1 i) ∧ (w.2.2.2.2.1 i).Nodup ∧ ∀ a ∈ w.2.2.2.2.1 i, ∃ v, w.1 a = some v ∧ bkt (nprt v.1 v.2) = i
def PND (w : GD) : Prop := lnk (nxOf w.2.2.1) w.2.2.2.2.2 ∧ w.2.2.2.2.2.Nodup ∧ ∀ a ∈ w.2.2.2.2.2, (∃ v, w.1 a = some v) ∧ ¬ inS w.2.2.2.2.1 a
def BKT (t : Nat → ClassId) (g : GH) (bA : Nat) (w : GD) : Prop := ∃ fB, gAt g bA (eNs t 1024 fB) ∧ ∀ i, i < 1024 → fB i = (w.2.2.2.2.1 i).head?
def SW (t : Nat → ClassId) (g : GH) (w : GD) (sA bA : Nat) (nn ss : Int32) : Prop := NI t g w ∧ gAt g sA (eSt bA w.2.2.2.2.2.head? nn ss) ∧ BKT t g bA w ∧ CHN w ∧ PND w ∧ UQ w ∧ CLO w ∧ ¬ w.2.2.2.1 sA ∧ ¬ w.2.2.2.1 bA ∧ ∀ x, w.2.2.2.1 x → x ∈ g.1
theorem nodeOK.keep {t : Nat → ClassId} {g g' : GH} {N N' : NM} {ks : List Nat} {I I' : Nat → Prop} {a : Nat} {v : NV} {m : MU} (h : nodeOK t g N ks I a v m) (hN : ∀ b u, N b = some u → N' b = some u) (hI : ∀ x, I x → I' x) (hk : ∀ (x : Nat) (e : va_E), I x → gAt g x e → gAt g' x e) (ha : ∀ e, gAt g a e → gAt g' a e) : nodeOK t g' N' ks I' a v m := by
  obtain ⟨ra, ba, nr, fr, fb, i1, i2, h1, h2, h3, h4, h5, h6, h7, h8⟩ := h
  exact ⟨ra, ba, nr, fr, fb, hI _ i1, hI _ i2, ha _ h1, hk _ _ i1 h2, hk _ _ i2 h3, h4, fun q => ⟨(h5 q).1, (h5 q).2.1, (h5 q).2.2.keep hI hk⟩, h6, h7, fun k q => ⟨(h8 k q).1, fun i hi hj => hN _ _ ((h8 k q).2 i hi hj)⟩⟩
/-- all that is written is neither among I nor a node -/
theorem NI.keep {t : Nat → ClassId} {g g' : GH} {w : GD} (h : NI t g w) (hk : ∀ (x : Nat) (e : va_E), (w.2.2.2.1 x ∨ ∃ v, w.1 x = some v) → gAt g x e → gAt g' x e) : NI t g' w := by
  intro a v hv
  obtain ⟨h1, h2, h3, h4⟩ := h a v hv
  exact ⟨h1, h2, h3.keep (fun _ _ q => q) (fun _ q => q) (fun x e q => hk x e (Or.inl q)) (fun e q => hk a e (Or.inr ⟨v, hv⟩) q), h4⟩
/-- a node's mutable part is written -/
theorem NI.mut {t : Nat → ClassId} {g g' : GH} {N : NM} {K : Nat → List Nat} {mu : Nat → MU} {I : Nat → Prop} {R : (Nat → List Nat) × List Nat} {a : Nat} {v : NV} {m : MU} (h : NI t g (N, K, mu, I, R)) (ha : N a = some v) (hm : adOK v m) (hk : ∀ (x : Nat) (e : va_E), x ≠ a → (I x ∨ ∃ v, N x = some v) → gAt g x e → gAt g' x e) (hn : ∀ ra ba, gAt g a (nCell v.1 v.2 ra ba (mu a)) → gAt g' a (nCell v.1 v.2 ra ba m)) : NI t g' (N, K, va_up mu a m, I, R) := by
  intro b u hu
  obtain ⟨h1, h2, h3, h4⟩ := h b u hu
  have hIa : ∀ x, I x → x ≠ a := fun x hx q => (h a v ha).2.1 (q ▸ hx)
  have hkI : ∀ (x : Nat) (e : va_E), I x → gAt g x e → gAt g' x e := fun x e q => hk x e (hIa x q) (Or.inl q)
  by_cases hb : b = a
  · subst hb
    have hu2 : N b = some u := hu
    rw [ha] at hu2
    cases hu2
    have em : va_up mu b m b = m := va_up_self _ _ _
    dsimp only at h3 ⊢
    rw [em]
    obtain ⟨ra, ba, nr, fr, fb, i1, i2, q1, q2, q3, q4, q5, q6, q7, q8⟩ := h3
    exact ⟨h1, h2, ⟨ra, ba, nr, fr, fb, i1, i2, hn ra ba q1, hkI _ _ i1 q2, hkI _ _ i2 q3, q4, fun q => ⟨(q5 q).1, (q5 q).2.1, (q5 q).2.2.keep (fun _ z => z) hkI⟩, q6, q7, q8⟩, hm⟩
  · have em : va_up mu a m b = mu b := va_up_ne _ _ hb
    dsimp only at h3 h4 ⊢
    rw [em]
    exact ⟨h1, h2, h3.keep (fun _ _ q => q) (fun _ q => q) hkI (fun e q => hk b e hb (Or.inr ⟨u, hu⟩) q), h4⟩
/-- a new node -/
theorem NI.add {t : Nat → ClassId} {g g' : GH} {N : NM} {K : Nat → List Nat} {mu : Nat → MU} {I I' : Nat → Prop} {R R' : (Nat → List Nat) × List Nat} {a : Nat} {v : NV} {ks : List Nat} {m : MU} (h : NI t g (N, K, mu, I, R)) (ha : N a = none) (hv : vOK v) (hI : ∀ x, I x → I' x) (hIa : ¬ I' a) (hIN : ∀ b u, N b = some u → ¬ I' b) (hm : adOK v m) (hk : ∀ (x : Nat) (e : va_E), (I x ∨ ∃ v, N x = some v) → gAt g x e → gAt g' x e) (hn : nodeOK t g' (va_up N a (some v)) ks I' a v m) : NI t g' (va_up N a (some v), va_up K a ks, va_up mu a m, I', R') := by
  have hN : ∀ b u, N b = some u → va_up N a (some v) b = some u := fun b u hb => by
    rw [va_up_ne _ _ (fun q => by rw [q, ha] at hb; cases hb)]; exact hb
  intro b u hu
  by_cases hb : b = a
  · subst hb
    have hu2 : va_up N b (some v) b = some u := hu
    rw [va_up_self] at hu2
    cases hu2
    dsimp only
    rw [va_up_self (f := K), va_up_self (f := mu)]
    exact ⟨hv, hIa, hn, hm⟩
  · have hu2 : va_up N a (some v) b = some u := hu
    rw [va_up_ne _ _ hb] at hu2
    obtain ⟨h1, h2, h3, h4⟩ := h b u hu2
    dsimp only at h3 h4 ⊢
    rw [va_up_ne (f := K) _ hb, va_up_ne (f := mu) _ hb]
    exact ⟨h1, hIN b u hu2, h3.keep hN hI (fun x e q => hk x e (Or.inl q)) (fun e q => hk b e (Or.inr ⟨u, hu2⟩) q), h4⟩
theorem NI.cell {t : Nat → ClassId} {g : GH} {w : GD} {a : Nat} {v : NV} (h : NI t g w) (hv : w.1 a = some v) : ∃ ra ba, gAt g a (nCell v.1 v.2 ra ba (w.2.2.1 a)) := by
  obtain ⟨-, -, ⟨ra, ba, nr, fr, fb, -, -, h1, -⟩, -⟩ := h a v hv
  exact ⟨ra, ba, h1⟩
/-- a cell of another kind is no node -/
theorem NI.no {t : Nat → ClassId} {g : GH} {w : GD} {x : Nat} {e : va_E} (h : NI t g w) (hx : gAt g x e) (he : ∀ h rs ra ba m, e ≠ nCell h rs ra ba m) : w.1 x = none := by
  cases hc : w.1 x with
  | none => rfl
  | some v =>
    obtain ⟨ra, ba, h1⟩ := h.cell hc
    exact absurd (hx.eq h1) (he _ _ _ _ _)
theorem chain_of {w : GD} (hc : CHN w) {a : Nat} {v : NV} (ha : inS w.2.2.2.2.1 a) (hv : w.1 a = some v) : a ∈ w.2.2.2.2.1 (bkt (nprt v.1 v.2)) := by
  obtain ⟨i, hi, hm⟩ := ha
  obtain ⟨u, hu, hb⟩ := (hc i hi).2.2 a hm
  rw [hv] at hu
  cases hu
  rw [hb]
  exact hm
end
section
set_option maxRecDepth 100000 in
set_option maxHeartbeats 1000000 in
theorem c_link (l : Launch) (D : va_G) (t : Nat → ClassId) (A : Nat → Prop) (g : GH) (sA bA a xra xba : Nat) (pp xnx : Option Nat) (fB : Nat → Option Nat) (nn ss xh xrc xsz xlk xll xpr xha xst : Int32) (xad : Int64) (hs : gAt g sA (eSt bA pp nn ss)) (hb : gAt g bA (eNs t 1024 fB)) (ha : gAt g a (eNode xh xra xba xrc xsz xlk xll xpr xad xha xst xnx)) : Ct l yS_link sS_link { frames := 1, cells := 0, slots := 0, locals := 30 } (zz D t A) [.ref sA, .ref a] g 0 0 (fun v g' => v = none ∧ gAt g' sA (eSt bA pp nn ss) ∧ gAt g' bA (eNs t 1024 (va_up fB (bkt xpr) (some a))) ∧ gAt g' a (eNode xh xra xba xrc xsz xlk xll xpr xad xha xst (fB (bkt xpr))) ∧ Kp [a, bA] g g') := by
  refine Ct.of (cc := bS_link) (maxL := 3) (ret := none) (by decide) (Nat.le_of_ble_eq_true rfl) (fun X hlX O M hNn => ?_)
  show J X 3 (zz D t A) g 0 0 0 [(0, .ref sA), (1, .ref a)] []
  have kp0 : Kp [a, bA] g g := Kp.rf
  have hbk := bkt_lt xpr
  refine j_aload_n O 1 dS_link_0 rfl rfl ?_
  refine j_get O uwN ha rfl 7 (by decide) w146 rfl rfl dS_link_1 ?_
  refine j_callS O [.int xpr] (c_bucketOf X.2.1 D t A g xpr) w108 w109 w24 w110 1 rfl rfl rfl (by decide +kernel) ⟨(Nat.le_of_ble_eq_true rfl), (Nat.le_of_ble_eq_true rfl)⟩ rfl (Nat.le_of_ble_eq_true rfl) dS_link_4 ⟨(Nat.le_of_ble_eq_true rfl), (Nat.le_of_ble_eq_true rfl)⟩ (fun vw1 gw2 hpw3 => ?_)
  obtain ⟨rfl, hgw4⟩ := hpw3
  have hgw4 := hgw4.symm
  subst hgw4
  refine j_eqi (nI (bkt xpr)) (bkt_eq xpr) ?_
  refine j_istore_n O 2 [(2, .int (nI (bkt xpr))), (0, .ref sA), (1, .ref a)] dS_link_7 rfl (by decide) rfl ?_
  refine j_aload_n O 1 dS_link_8 rfl rfl ?_
  refine j_aload_n O 0 dS_link_9 rfl rfl ?_
  refine j_get O uwS hs rfl 0 (by decide) w48 rfl rfl dS_link_10 ?_
  refine j_iload_n O 2 dS_link_13 rfl rfl ?_
  refine j_aald O hb 2 rfl (by omega) (by omega) dS_link_14 ?_
  refine j_put O uwN ha rfl 11 (by decide) w155 rfl tN ftN fnN rfl (.object "TwinTrees$Node") (by decide +kernel) (by cases (fB (bkt xpr)) <;> rfl) (by cases (fB (bkt xpr)) <;> rfl) (Nat.le_of_ble_eq_true rfl) [.int xh, .ref xra, .ref xba, .int xrc, .int xsz, .int xlk, .int xll, .int xpr, .long xad, .int xha, .int xst, va_rf (fB (bkt xpr))] rfl dS_link_15 (fun gw5 ew6 => ?_)
  have hw7 := gUp_ne (e' := .inr (2, [.int xh, .ref xra, .ref xba, .int xrc, .int xsz, .int xlk, .int xll, .int xpr, .long xad, .int xha, .int xst, va_rf (fB (bkt xpr))])) hs (hs.ne ha (by simp))
  rw [← ew6] at hw7
  have hw8 := gUp_ne (e' := .inr (2, [.int xh, .ref xra, .ref xba, .int xrc, .int xsz, .int xlk, .int xll, .int xpr, .long xad, .int xha, .int xst, va_rf (fB (bkt xpr))])) hb (hb.ne ha (by simp))
  rw [← ew6] at hw8
  have hw9 := gUp_self (e' := .inr (2, [.int xh, .ref xra, .ref xba, .int xrc, .int xsz, .int xlk, .int xll, .int xpr, .long xad, .int xha, .int xst, va_rf (fB (bkt xpr))])) ha
  rw [← ew6] at hw9
  have kpw10 := kp0.up (a := a) (e := .inr (2, [.int xh, .ref xra, .ref xba, .int xrc, .int xsz, .int xlk, .int xll, .int xpr, .long xad, .int xha, .int xst, va_rf (fB (bkt xpr))])) (by simp)
  rw [← ew6] at kpw10
  refine j_aload_n O 0 dS_link_18 rfl rfl ?_
  refine j_get O uwS hw7 rfl 0 (by decide) w48 rfl rfl dS_link_19 ?_
  refine j_iload_n O 2 dS_link_22 rfl rfl ?_
  refine j_aload_n O 1 dS_link_23 rfl rfl ?_
  refine j_aast O hw8 2 rfl hw9 rfl hbk (by omega) dS_link_24 (fun gw11 ew12 => ?_)
  have hw13 := gUp_ne (e' := .inl (t 2, 1024, .inr (.inr (.inr (.inr (va_up fB (bkt xpr) (some a))))))) hw7 (hw7.ne hw8 (by simp))
  rw [← ew12] at hw13
  have hw14 := gUp_ne (e' := .inl (t 2, 1024, .inr (.inr (.inr (.inr (va_up fB (bkt xpr) (some a))))))) hw9 (hw9.ne hw8 (by simp))
  rw [← ew12] at hw14
  have hw15 := gUp_self (e' := .inl (t 2, 1024, .inr (.inr (.inr (.inr (va_up fB (bkt xpr) (some a))))))) hw8
  rw [← ew12] at hw15
  have kpw16 := kpw10.up (a := bA) (e := .inl (t 2, 1024, .inr (.inr (.inr (.inr (va_up fB (bkt xpr) (some a))))))) (by simp)
  rw [← ew12] at kpw16
  exact j_vret O M (Nat.le_of_ble_eq_true rfl) (Nat.le_of_ble_eq_true rfl) ⟨rfl, hw13, hw15, hw14, kpw16⟩ dS_link_25
def wAdd (w : GD) (q : Nat) (v : NV) (ks : List Nat) (ra ba : Nat) : GD := (va_up w.1 q (some v), va_up w.2.1 q ks, va_up w.2.2.1 q (0, 0, 0, w.2.2.2.2.2.head?), (fun x => w.2.2.2.1 x ∨ x = ra ∨ x = ba), w.2.2.2.2.1, q :: w.2.2.2.2.2)
theorem SW.dom {t : Nat → ClassId} {g : GH} {w : GD} {sA bA : Nat} {nn ss : Int32} (h : SW t g w sA bA nn ss) {a : Nat} {v : NV} (hv : w.1 a = some v) : a ∈ g.1 := by
  obtain ⟨ra, ba, h1⟩ := h.1.cell hv
  exact h1.1
theorem SW.in {t : Nat → ClassId} {g : GH} {w : GD} {sA bA : Nat} {nn ss : Int32} (h : SW t g w sA bA nn ss) {a : Nat} (ha : inS w.2.2.2.2.1 a ∨ a ∈ w.2.2.2.2.2) : ∃ v, w.1 a = some v := by
  rcases ha with ⟨i, hi, hm⟩ | hm
  · obtain ⟨v, hv, -⟩ := (h.2.2.2.1 i hi).2.2 a hm
    exact ⟨v, hv⟩
  · exact (h.2.2.2.2.1.2.2 a hm).1
theorem SW.add {t : Nat → ClassId} {g g' : GH} {w : GD} {sA bA q ra ba : Nat} {nn ss : Int32} {v : NV} {ks : List Nat} (h : SW t g w sA bA nn ss) (hq : q ∉ g.1) (hra : ra ∉ g.1) (hba : ba ∉ g.1) (hraG : ra ∈ g'.1) (hbaG : ba ∈ g'.1) (hqr : q ≠ ra) (hqb : q ≠ ba) (hv : vOK v) (hnew : ∀ a, (inS w.2.2.2.2.1 a ∨ a ∈ w.2.2.2.2.2) → w.1 a ≠ some v) (hks : ∀ b ∈ ks, inS w.2.2.2.2.1 b ∨ b ∈ w.2.2.2.2.2) (hk : Kp [sA] g g') (hs' : gAt g' sA (eSt bA (some q) nn ss)) (hn : nodeOK t g' (va_up w.1 q (some v)) ks (fun x => w.2.2.2.1 x ∨ x = ra ∨ x = ba) q v (0, 0, 0, w.2.2.2.2.2.head?)) : SW t g' (wAdd w q v ks ra ba) sA bA nn ss := by
  obtain ⟨N, K, mu, I, ch, pd⟩ := w
  have hdom : ∀ a u, N a = some u → a ∈ g.1 := fun a u hu => SW.dom h hu
  have hin : ∀ a, (inS ch a ∨ a ∈ pd) → a ∈ g.1 := fun a ha => (SW.in h ha).elim (fun u hu => hdom a u hu)
  obtain ⟨h1, h2, h3, h4, h5, h6, h7, h8, h9, h10⟩ := h
  have hqN : N q = none := by
    cases hc : N q with
    | none => rfl
    | some u => exact absurd (hdom q u hc) hq
  have hns : ∀ x e, (I x ∨ ∃ v, N x = some v) → gAt g x e → gAt g' x e := by
    intro x e hx he
    refine hk.2 x e (fun z => ?_) he
    simp only [List.mem_cons, List.not_mem_nil, or_false] at z
    subst z
    rcases hx with hx | ⟨u, hu⟩
    · exact h8 hx
    · obtain ⟨ra', ba', hc⟩ := h1.cell hu
      exact absurd (h2.eq hc) (by simp)
  have hbA : bA ∈ g.1 := by obtain ⟨fB, hb, -⟩ := h3; exact hb.1
  have hnx : ∀ a, a ∈ g.1 → nxOf (va_up mu q (0, 0, 0, pd.head?)) a = nxOf mu a := by
    intro a ha
    unfold nxOf
    rw [va_up_ne _ _ (fun z : a = q => hq (z ▸ ha))]
  have hNo : ∀ a, a ∈ g.1 → va_up N q (some v) a = N a := fun a ha => va_up_ne _ _ (fun z => hq (z ▸ ha))
  have hKo : ∀ a, a ∈ g.1 → va_up K q ks a = K a := fun a ha => va_up_ne _ _ (fun z => hq (z ▸ ha))
  refine ⟨NI.add (R := (ch, pd)) (R' := (ch, q :: pd)) h1 hqN hv (fun x hx => Or.inl hx) ?_ ?_ (Or.inl rfl) hns hn, hs', ?_, ?_, ?_, ?_, ?_, ?_, ?_, ?_⟩
  · rintro (z | z | z)
    · exact hq (h10 q z)
    · exact hqr z
    · exact hqb z
  · rintro b u hb (z | z | z)
    · exact (h1 b u hb).2.1 z
    · exact hra (z ▸ hdom b u hb)
    · exact hba (z ▸ hdom b u hb)
  · obtain ⟨fB, hb, hf⟩ := h3
    refine ⟨fB, hk.2 _ _ (fun z => ?_) hb, hf⟩
    simp only [List.mem_cons, List.not_mem_nil, or_false] at z
    subst z
    exact absurd (h2.eq hb) (by simp)
  · intro i hi
    obtain ⟨a1, a2, a3⟩ := h4 i hi
    refine ⟨a1.congr (fun a ha => hnx a (hin a (Or.inl ⟨i, hi, ha⟩))), a2, fun a ha => ?_⟩
    obtain ⟨u, hu, hb⟩ := a3 a ha
    exact ⟨u, (hNo a (hdom a u hu)).trans hu, hb⟩
  · refine ⟨⟨?_, h5.1.congr (fun a ha => hnx a (hin a (Or.inr ha)))⟩, List.nodup_cons.mpr ⟨fun z => hq (hin q (Or.inr z)), h5.2.1⟩, fun a ha => ?_⟩
    · show (va_up mu q (0, 0, 0, pd.head?) q).2.2.2 = pd.head?
      rw [va_up_self]
    · rcases List.mem_cons.mp ha with z | z
      · subst z
        exact ⟨⟨v, va_up_self _ _ _⟩, fun y => hq (hin a (Or.inl y))⟩
      · obtain ⟨⟨u, hu⟩, hb⟩ := h5.2.2 a z
        exact ⟨⟨u, (hNo a (hdom a u hu)).trans hu⟩, hb⟩
  · intro a b u ha hb hau hbu
    have key : ∀ x, (inS ch x ∨ x ∈ q :: pd) → va_up N q (some v) x = some u → (x = q ∧ u = v) ∨ ((inS ch x ∨ x ∈ pd) ∧ N x = some u) := by
      intro x hx hxu
      by_cases hxq : x = q
      · subst hxq
        rw [va_up_self] at hxu
        exact Or.inl ⟨rfl, (Option.some.inj hxu).symm⟩
      · rw [va_up_ne _ _ hxq] at hxu
        refine Or.inr ⟨?_, hxu⟩
        rcases hx with hx | hx
        · exact Or.inl hx
        · rcases List.mem_cons.mp hx with z | z
          · exact absurd z hxq
          · exact Or.inr z
    rcases key a ha hau with ⟨e1, e2⟩ | ⟨e1, e2⟩ <;> rcases key b hb hbu with ⟨e3, e4⟩ | ⟨e3, e4⟩
    · rw [e1, e3]
    · exact absurd (e2 ▸ e4) (hnew b e3)
    · exact absurd (e4 ▸ e2) (hnew a e1)
    · exact h6 a b u e1 e3 e2 e4
  · refine ⟨fun a ha b hb => ?_, fun a ha b hb => ?_⟩
    · have hb2 : b ∈ va_up K q ks a := hb
      rw [hKo a (hin a (Or.inl ha))] at hb2
      exact h7.1 a ha b hb2
    · have hb2 : b ∈ va_up K q ks a := hb
      rcases List.mem_cons.mp ha with z | z
      · subst z
        rw [va_up_self] at hb2
        exact (hks b hb2).imp id (fun y => List.mem_cons_of_mem _ y)
      · rw [hKo a (hin a (Or.inr z))] at hb2
        exact (h7.2 a z b hb2).imp id (fun y => List.mem_cons_of_mem _ y)
  · rintro (z | z | z)
    · exact h8 z
    · exact hra (z ▸ h2.1)
    · exact hba (z ▸ h2.1)
  · rintro (z | z | z)
    · exact h9 z
    · exact hra (z ▸ hbA)
    · exact hba (z ▸ hbA)
  · rintro x (z | z | z)
    · exact hk.1 x (h10 x z)
    · exact z ▸ hraG
    · exact z ▸ hbaG
theorem nprt0_take (rs : List RV) (i : Nat) (h : i < rs.length) : nprt 0 (rs.take (i + 1)) = nprt 0 (rs.take i) * 31 + prt rs[i] := by
  show List.foldl _ 0 _ = List.foldl _ 0 _ * 31 + _
  rw [List.take_succ_eq_append_getElem h, List.foldl_append]
  rfl
set_option maxRecDepth 100000 in
set_option maxHeartbeats 1000000 in
theorem leafOf_print {X : CX} {D : va_G} {t : Nat → ClassId} {A : Nat → Prop} {rm : Room} {g : GH} {k0 n0 : Nat} {sA s fr ns : Nat} {fs : Nat → Option Nat} {rs : List RV} (O : Ok X bS_leafOf 6 "TwinTrees$Store" (zz D t A) rm) (hs : gAt g s (eRs t ns fs)) (hr : rowsIn t g fs fr rs) (hns : fr + rs.length ≤ ns) (hn31 : ns < 2 ^ 27) (HK : J X 6 (zz D t A) g k0 n0 33 [(0, .ref sA), (1, .ref s), (2, .int (nI fr)), (3, .int (nI (fr + rs.length))), (4, .int (nprt 0 rs))] []) : ∀ (k i : Nat), i + k = rs.length → J X 6 (zz D t A) g k0 n0 6 [(0, .ref sA), (1, .ref s), (2, .int (nI fr)), (3, .int (nI (fr + rs.length))), (4, .int (nprt 0 (rs.take i))), (5, .int (nI (fr + i)))] [] := by
  intro k
  induction k with
  | zero =>
    intro i hi
    have hi : i = rs.length := by omega
    subst hi
    refine j_iload O dS_leafOf_6 rfl ?_
    refine j_iload_n O 3 dS_leafOf_8 rfl rfl ?_
    refine j_icmp_ge O 33 dS_leafOf_9 (by decide) (fun c1 => ?_) (fun c1 => ?_)
    · refine J.pk [0, 1, 2, 3, 4] rfl ?_
      rw [List.take_length]
      exact HK
    · exact absurd (nI_le (Nat.le_refl _) (by omega)) c1
  | succ k ih =>
    intro i hi
    have hi1 : i < rs.length := by omega
    obtain ⟨x, hfx, c, fc, hxc, -, -⟩ := hr i hi1
    refine j_iload O dS_leafOf_6 rfl ?_
    refine j_iload_n O 3 dS_leafOf_8 rfl rfl ?_
    refine j_icmp_ge O 33 dS_leafOf_9 (by decide) (fun c1 => ?_) (fun c1 => ?_)
    · exact absurd c1 (nI_ge (by omega) (by omega))
    · refine j_iload O dS_leafOf_12 rfl ?_
      refine j_bipush O (v := 31) dS_leafOf_14 (by decide) ?_
      refine j_imul O dS_leafOf_16 ?_
      refine j_aload_n O 1 dS_leafOf_17 rfl rfl ?_
      refine j_iload O dS_leafOf_18 rfl ?_
      refine j_aald O hs 1 rfl (by omega) (by omega) dS_leafOf_20 ?_
      refine j_some x hfx ?_
      refine j_get O uwR hxc rfl 4 (by decide) w297 rfl rfl dS_leafOf_21 ?_
      refine j_iadd O dS_leafOf_24 ?_
      refine j_eqi (nprt 0 (rs.take (i + 1))) (nprt0_take rs i hi1).symm ?_
      refine j_istore O [(4, .int (nprt 0 (rs.take (i + 1)))), (0, .ref sA), (1, .ref s), (2, .int (nI fr)), (3, .int (nI (fr + rs.length))), (5, .int (nI (fr + i)))] dS_leafOf_25 (by decide) rfl ?_
      refine j_iinc O (nI (fr + i + 1)) [(5, .int (nI (fr + i + 1))), (4, .int (nprt 0 (rs.take (i + 1)))), (0, .ref sA), (1, .ref s), (2, .int (nI fr)), (3, .int (nI (fr + rs.length)))] dS_leafOf_27 rfl (nI_1 _) (by decide) rfl ?_
      refine j_goto O 6 dS_leafOf_30 (by decide) ?_
      rw [Nat.add_assoc fr i 1]
      refine J.pk [2, 3, 4, 5, 1, 0] rfl ?_
      exact ih (i + 1) (by omega)
set_option maxRecDepth 100000 in
set_option maxHeartbeats 1000000 in
theorem leafOf_node {X : CX} {D : va_G} {t : Nat → ClassId} {A : Nat → Prop} {rm : Room} {g : GH} {k0 n0 : Nat} {sA bA s fr ns : Nat} {nn ss : Int32} {fs : Nat → Option Nat} {rs : List RV} {w : GD} (O : Ok X bS_leafOf 6 "TwinTrees$Store" (zz D t A) rm) (hS : SW t g w sA bA nn ss) (hs : gAt g s (eRs t ns fs)) (hr : rowsIn t g fs fr rs) (hw : ∀ r ∈ rs, r.2.1.length ≤ 6) (hns : fr + rs.length ≤ ns) (hn31 : ns < 2 ^ 27) (hrm : 3 ≤ rm.frames ∧ 90 ≤ rm.locals ∧ k0 + 0 ≤ rm.cells ∧ n0 + 0 ≤ rm.slots) (a : Nat) (v : NV) (hv : w.1 a = some v) (H1 : w.1 a = some (0, rs) → J X 6 (zz D t A) g k0 n0 73 [(0, .ref sA), (1, .ref s), (2, .int (nI fr)), (3, .int (nI (fr + rs.length))), (4, .int (nprt 0 rs)), (5, .ref a)] [.ref a]) (H2 : v ≠ (0, rs) → J X 6 (zz D t A) g k0 n0 45 [(0, .ref sA), (1, .ref s), (2, .int (nI fr)), (3, .int (nI (fr + rs.length))), (4, .int (nprt 0 rs)), (5, va_rf (nxOf w.2.2.1 a))] []) :  J X 6 (zz D t A) g k0 n0 45 [(0, .ref sA), (1, .ref s), (2, .int (nI fr)), (3, .int (nI (fr + rs.length))), (4, .int (nprt 0 rs)), (5, .ref a)] [] := by
  obtain ⟨hvo, -, ⟨ra, ba, nr, f0, fb, -, -, hac, hra, -, hnr, h0, h0', -, -⟩, -⟩ := hS.1 a v hv
  refine j_aload O dS_leafOf_45 rfl ?_
  refine j_ifnull (o := (some a)) O 84 dS_leafOf_47 (by decide) (fun c1 => ?_) (fun yw17 c1 => ?_)
  · cases c1
  · refine j_aload O dS_leafOf_50 rfl ?_
    refine j_get O uwN hac rfl 7 (by decide) w146 rfl rfl dS_leafOf_52 ?_
    refine j_iload O dS_leafOf_55 rfl ?_
    refine j_icmp_ne O 74 dS_leafOf_57 (by decide) (fun c2 => ?_) (fun c2 => ?_)
    · have hne : v ≠ (0, rs) := fun q => c2 (by rw [q])
      refine j_aload O dS_leafOf_74 rfl ?_
      refine j_get O uwN hac rfl 11 (by decide) w155 rfl rfl dS_leafOf_76 ?_
      refine j_astoreO (o := ((w.2.2.1 a).2.2.2)) O [(5, va_rf ((w.2.2.1 a).2.2.2)), (0, .ref sA), (1, .ref s), (2, .int (nI fr)), (3, .int (nI (fr + rs.length))), (4, .int (nprt 0 rs))] dS_leafOf_79 (by decide) rfl ?_
      refine j_goto O 45 dS_leafOf_81 (by decide) ?_
      refine J.pk [1, 2, 3, 4, 5, 0] rfl ?_
      exact H2 hne
    · refine j_aload O dS_leafOf_60 rfl ?_
      refine j_aload_n O 1 dS_leafOf_62 rfl rfl ?_
      refine j_iload_n O 2 dS_leafOf_63 rfl rfl ?_
      refine j_iload_n O 3 dS_leafOf_64 rfl rfl ?_
      refine j_callV O [.ref s, .int (nI fr), .int (nI (fr + rs.length))] (c_isLikeLeaf X.2.1 D t A g a s ra ba fr ns v.1 nr f0 fs v.2 rs (w.2.2.1 a) hac hra (fun q => ⟨(h0 q).1, (h0 q).2.2.in⟩) hs hr (fun r q => Nat.le_trans (hvo.2.2.1 r q) (by decide)) (fun r q => Nat.le_trans (hw r q) (by decide)) hns hn31 (by omega) (by have := hvo.1; omega)) hac rfl w112 w113 w114 w27 w115 3 rfl rfl rfl (by decide +kernel) ⟨(by show 2 + 1 ≤ _; omega), (by show 8 + (_ + 11) + 60 ≤ _; omega)⟩ rfl (Nat.le_of_ble_eq_true rfl) dS_leafOf_65 ⟨hrm.2.2.1, hrm.2.2.2⟩ (fun vw18 gw19 hpw20 => ?_)
      obtain ⟨z, rfl, hz, hgg⟩ := hpw20
      have hgg := hgg.symm
      subst hgg
      refine j_if_eq O 74 dS_leafOf_68 (by decide) (fun c3 => ?_) (fun c3 => ?_)
      · have hne : v ≠ (0, rs) := fun q => by
          rcases hz with ⟨z1, -⟩ | ⟨-, z2⟩
          · rw [c3] at z1; exact absurd z1 (by decide)
          · exact z2 (by rw [q]; exact ⟨rfl, rfl⟩)
        refine j_aload O dS_leafOf_74 rfl ?_
        refine j_get O uwN hac rfl 11 (by decide) w155 rfl rfl dS_leafOf_76 ?_
        refine j_astoreO (o := ((w.2.2.1 a).2.2.2)) O [(5, va_rf ((w.2.2.1 a).2.2.2)), (0, .ref sA), (1, .ref s), (2, .int (nI fr)), (3, .int (nI (fr + rs.length))), (4, .int (nprt 0 rs))] dS_leafOf_79 (by decide) rfl ?_
        refine j_goto O 45 dS_leafOf_81 (by decide) ?_
        refine J.pk [1, 2, 3, 4, 5, 0] rfl ?_
        exact H2 hne
      · have hv2 : w.1 a = some (0, rs) := by
          rcases hz with ⟨-, z1, z2⟩ | ⟨z1, -⟩
          · rw [hv]; obtain ⟨v1, v2⟩ := v; dsimp only at z1 z2; rw [z1, z2]
          · exact absurd z1 c3
        refine j_aload O dS_leafOf_71 rfl ?_
        refine J.pk [0, 1, 2, 3, 4, 5] rfl ?_
        exact H1 hv2
set_option maxRecDepth 100000 in
set_option maxHeartbeats 1000000 in
theorem leafOf_mid {X : CX} {D : va_G} {t : Nat → ClassId} {A : Nat → Prop} {rm : Room} {g : GH} {k0 n0 : Nat} {sA bA s fr : Nat} {nn ss : Int32} {rs : List RV} {w : GD} (O : Ok X bS_leafOf 6 "TwinTrees$Store" (zz D t A) rm) (hS : SW t g w sA bA nn ss) (hrm : 3 ≤ rm.frames ∧ 90 ≤ rm.locals ∧ k0 + 0 ≤ rm.cells ∧ n0 + 0 ≤ rm.slots) (HK : J X 6 (zz D t A) g k0 n0 45 [(0, .ref sA), (1, .ref s), (2, .int (nI fr)), (3, .int (nI (fr + rs.length))), (4, .int (nprt 0 rs)), (5, va_rf ((w.2.2.2.2.1 (bkt (nprt 0 rs))).head?))] []) :  J X 6 (zz D t A) g k0 n0 33 [(0, .ref sA), (1, .ref s), (2, .int (nI fr)), (3, .int (nI (fr + rs.length))), (4, .int (nprt 0 rs))] [] := by
  obtain ⟨fB, hb, hf⟩ := hS.2.2.1
  have hs0 := hS.2.1
  have hbl := bkt_lt (nprt 0 rs)
  refine j_aload_n O 0 dS_leafOf_33 rfl rfl ?_
  refine j_get O uwS hs0 rfl 0 (by decide) w48 rfl rfl dS_leafOf_34 ?_
  refine j_iload O dS_leafOf_37 rfl ?_
  refine j_callS O [.int (nprt 0 rs)] (c_bucketOf X.2.1 D t A g (nprt 0 rs)) w108 w109 w24 w110 1 rfl rfl rfl (by decide +kernel) ⟨(by show 0 + 1 ≤ _; omega), (by show 8 + (_ + 11) + 0 ≤ _; omega)⟩ rfl (Nat.le_of_ble_eq_true rfl) dS_leafOf_39 ⟨hrm.2.2.1, hrm.2.2.2⟩ (fun vw21 gw22 hpw23 => ?_)
  obtain ⟨rfl, hgw24⟩ := hpw23
  have hgw24 := hgw24.symm
  subst hgw24
  refine j_eqi (nI (bkt (nprt 0 rs))) (bkt_eq _) ?_
  refine j_aald O hb 2 rfl (by omega) (by omega) dS_leafOf_42 ?_
  refine j_oeq ((w.2.2.2.2.1 (bkt (nprt 0 rs))).head?) (hf _ hbl) ?_
  refine j_astoreO (o := ((w.2.2.2.2.1 (bkt (nprt 0 rs))).head?)) O [(5, va_rf ((w.2.2.2.2.1 (bkt (nprt 0 rs))).head?)), (0, .ref sA), (1, .ref s), (2, .int (nI fr)), (3, .int (nI (fr + rs.length))), (4, .int (nprt 0 rs))] dS_leafOf_43 (by decide) rfl ?_
  refine J.pk [1, 2, 3, 4, 5, 0] rfl ?_
  exact HK
set_option maxRecDepth 100000 in
set_option maxHeartbeats 1000000 in
theorem c_leafOf_old (l : Launch) (D : va_G) (t : Nat → ClassId) (A : Nat → Prop) (g : GH) (sA bA s fr ns : Nat) (nn ss : Int32) (fs : Nat → Option Nat) (rs : List RV) (w : GD) (a0 : Nat) (hS : SW t g w sA bA nn ss) (hs : gAt g s (eRs t ns fs)) (hr : rowsIn t g fs fr rs) (hw : ∀ r ∈ rs, r.2.1.length ≤ 6) (hns : fr + rs.length ≤ ns) (hn31 : ns < 2 ^ 27) (ha : inS w.2.2.2.2.1 a0) (hv0 : w.1 a0 = some (0, rs)) : Ct l yS_leafOf sS_leafOf { frames := 3, cells := 0, slots := 0, locals := 90 } (zz D t A) [.ref sA, .ref s, .int (nI fr), .int (nI (fr + rs.length))] g 0 0 (fun v g' => v = some (.ref a0) ∧ g' = g) := by
  refine Ct.of (cc := bS_leafOf) (maxL := 6) (ret := (some (.object "TwinTrees$Node"))) (by decide) (Nat.le_of_ble_eq_true rfl) (fun X hlX O M hNn => ?_)
  show J X 6 (zz D t A) g 0 0 0 [(0, .ref sA), (1, .ref s), (2, .int (nI fr)), (3, .int (nI (fr + rs.length)))] []
  refine j_iconst O (v := 0) dS_leafOf_0 (by decide) ?_
  refine j_istore O [(4, .int 0), (0, .ref sA), (1, .ref s), (2, .int (nI fr)), (3, .int (nI (fr + rs.length)))] dS_leafOf_1 (by decide) rfl ?_
  refine j_iload_n O 2 dS_leafOf_3 rfl rfl ?_
  refine j_istore O [(5, .int (nI fr)), (4, .int 0), (0, .ref sA), (1, .ref s), (2, .int (nI fr)), (3, .int (nI (fr + rs.length)))] dS_leafOf_4 (by decide) rfl ?_
  refine J.pk [2, 3, 4, 5, 1, 0] rfl ?_
  have hch := hS.2.2.2.1 _ (bkt_lt (nprt 0 rs))
  have hrm : 3 ≤ ({ frames := 3, cells := 0, slots := 0, locals := 90 } : Room).frames ∧ 90 ≤ ({ frames := 3, cells := 0, slots := 0, locals := 90 } : Room).locals ∧ 0 + 0 ≤ ({ frames := 3, cells := 0, slots := 0, locals := 90 } : Room).cells ∧ 0 + 0 ≤ ({ frames := 3, cells := 0, slots := 0, locals := 90 } : Room).slots := ⟨by decide, by decide, by decide, by decide⟩
  have key : ∀ L : List Nat, a0 ∈ L → (∀ a ∈ L, ∃ v, w.1 a = some v ∧ inS w.2.2.2.2.1 a) → lnk (nxOf w.2.2.1) L → J X 6 (zz D t A) g 0 0 45 [(0, .ref sA), (1, .ref s), (2, .int (nI fr)), (3, .int (nI (fr + rs.length))), (4, .int (nprt 0 rs)), (5, va_rf (L.head?))] [] := by
    intro L
    induction L with
    | nil => intro h; cases h
    | cons a L ih =>
      intro hm hL hl
      obtain ⟨v, hv, hSa⟩ := hL a List.mem_cons_self
      have hl1 : nxOf w.2.2.1 a = L.head? := hl.1
      refine leafOf_node (k0 := 0) (n0 := 0) (w := w) O hS hs hr hw hns hn31 hrm a v hv (fun hb => ?_) (fun hne => ?_)
      · have e : a = a0 := hS.2.2.2.2.2.1 a a0 (0, rs) (Or.inl hSa) (Or.inl ha) hb hv0
        subst e
        exact j_aret (o := some a) O (Or.inl ⟨_, rfl⟩) M (Nat.le_refl _) (Nat.le_refl _) ⟨rfl, rfl⟩ dS_leafOf_73
      · rw [hl1]
        refine ih ?_ (fun b hb => hL b (List.mem_cons_of_mem _ hb)) hl.2
        rcases List.mem_cons.mp hm with z | z
        · subst z; rw [hv0] at hv; exact absurd (Option.some.inj hv).symm hne
        · exact z
  have k1 := key _ (chain_of hS.2.2.2.1 ha hv0) (fun a h => (hch.2.2 a h).elim (fun v q => ⟨v, q.1, _, bkt_lt _, h⟩)) hch.1
  have k2 := leafOf_mid (k0 := 0) (n0 := 0) (rs := rs) (s := s) (fr := fr) O hS hrm k1
  have k3 := leafOf_print (k0 := 0) (n0 := 0) O hs hr hns hn31 k2 _ 0 (Nat.zero_add _)
  exact k3
end
section
theorem nsz0_le : ∀ (rs : List RV), (∀ r ∈ rs, r.2.1.length ≤ 6) → nsz 0 rs ≤ 7 * rs.length := by
  intro rs h
  have key : ∀ i, i ≤ rs.length → nsz 0 (rs.take i) ≤ 7 * i := by
    intro i
    induction i with
    | zero => intro _; exact Nat.le_refl _
    | succ i ih =>
      intro hi
      rw [nsz0_take rs i (by omega)]
      have := ih (by omega)
      have := h rs[i] (List.getElem_mem _)
      omega
  have := key rs.length (Nat.le_refl _)
  rwa [List.take_length] at this
theorem one_ne {x a : Nat} (h : x ≠ a) : x ∉ [a] := fun q => h (List.mem_singleton.mp q)
theorem two_ne {x a b : Nat} (h : x ≠ a) (h' : x ≠ b) : x ∉ [a, b] := fun q => by
  rcases List.mem_cons.mp q with z | z
  · exact h z
  · exact h' (List.mem_singleton.mp z)
set_option maxRecDepth 100000 in
set_option maxHeartbeats 1000000 in
theorem c_leafOf_new (l : Launch) (D : va_G) (t : Nat → ClassId) (A : Nat → Prop) (g : GH) (sA bA s fr ns : Nat) (nn ss : Int32) (fs : Nat → Option Nat) (rs : List RV) (w : GD) (hS : SW t g w sA bA nn ss) (hs : gAt g s (eRs t ns fs)) (hrI : rowsI t g w.2.2.2.1 fs fr rs) (hw : ∀ r ∈ rs, r.2.1.length ≤ 6) (hlen : rs.length ≤ 300) (hsr : srt rs) (hns : fr + rs.length ≤ ns) (hn31 : ns < 2 ^ 27) (hnew : ∀ a, (inS w.2.2.2.2.1 a ∨ a ∈ w.2.2.2.2.2) → w.1 a ≠ some (0, rs)) : Ct l yS_leafOf sS_leafOf { frames := 3, cells := 3, slots := rs.length + 12, locals := 90 } (zz D t A) [.ref sA, .ref s, .int (nI fr), .int (nI (fr + rs.length))] g 3 (rs.length + 12) (fun v g' => ∃ q ra ba, v = some (.ref q) ∧ q ∉ g.1 ∧ ra ∉ g.1 ∧ ba ∉ g.1 ∧ SW t g' (wAdd w q (0, rs) [] ra ba) sA bA nn ss ∧ Kp [sA] g g') := by
  refine Ct.of (cc := bS_leafOf) (maxL := 6) (ret := (some (.object "TwinTrees$Node"))) (by decide) (Nat.le_of_ble_eq_true rfl) (fun X hlX O M hNn => ?_)
  show J X 6 (zz D t A) g 0 0 0 [(0, .ref sA), (1, .ref s), (2, .int (nI fr)), (3, .int (nI (fr + rs.length)))] []
  have hr := hrI.in
  have hch := hS.2.2.2.1 _ (bkt_lt (nprt 0 rs))
  have hrm : 3 ≤ ({ frames := 3, cells := 3, slots := rs.length + 12, locals := 90 } : Room).frames ∧ 90 ≤ ({ frames := 3, cells := 3, slots := rs.length + 12, locals := 90 } : Room).locals ∧ 0 + 0 ≤ ({ frames := 3, cells := 3, slots := rs.length + 12, locals := 90 } : Room).cells ∧ 0 + 0 ≤ ({ frames := 3, cells := 3, slots := rs.length + 12, locals := 90 } : Room).slots := ⟨Nat.le_refl _, Nat.le_refl _, Nat.zero_le _, Nat.zero_le _⟩
  have HK : J X 6 (zz D t A) g 0 0 84 [(0, .ref sA), (1, .ref s), (2, .int (nI fr)), (3, .int (nI (fr + rs.length))), (4, .int (nprt 0 rs)), (5, .null)] [] := by
    have hs0 := hS.2.1
    have kp0 : Kp [sA] g g := Kp.rf
    refine j_aload_n O 0 dS_leafOf_84 rfl rfl ?_
    refine j_new (ci := 2) O uwN tN ftN w47 w124 w27 rfl [.int 0, .null, .null, .int 0, .int 0, .int 0, .int 0, .int 0, .long 0, .int 0, .int 0, .null] (fun j hj => by rcases (show j = 0 ∨ j = 1 ∨ j = 2 ∨ j = 3 ∨ j = 4 ∨ j = 5 ∨ j = 6 ∨ j = 7 ∨ j = 8 ∨ j = 9 ∨ j = 10 ∨ j = 11 by omega) with rfl | rfl | rfl | rfl | rfl | rfl | rfl | rfl | rfl | rfl | rfl | rfl <;> rfl) (Nat.le_of_ble_eq_true rfl) (by show _ ≤ rs.length + 12; omega) dS_leafOf_85 (fun qw1 gw2 hqw3 ew4 => ?_)
    have hw5 := gNew_old (e' := .inr (2, [.int 0, .null, .null, .int 0, .int 0, .int 0, .int 0, .int 0, .long 0, .int 0, .int 0, .null])) hs0 hqw3
    rw [← ew4] at hw5
    have hw6 := gNew_old (e' := .inr (2, [.int 0, .null, .null, .int 0, .int 0, .int 0, .int 0, .int 0, .long 0, .int 0, .int 0, .null])) hs hqw3
    rw [← ew4] at hw6
    have hw7 := gNew_self (g := g) (a := qw1) (e := .inr (2, [.int 0, .null, .null, .int 0, .int 0, .int 0, .int 0, .int 0, .long 0, .int 0, .int 0, .null]))
    rw [← ew4] at hw7
    have kpw8 := kp0.new (e := .inr (2, [.int 0, .null, .null, .int 0, .int 0, .int 0, .int 0, .int 0, .long 0, .int 0, .int 0, .null])) hqw3
    rw [← ew4] at kpw8
    refine j_dup O dS_leafOf_88 rfl ?_
    refine j_aload_n O 1 dS_leafOf_89 rfl rfl ?_
    refine j_iload_n O 2 dS_leafOf_90 rfl rfl ?_
    refine j_iload_n O 3 dS_leafOf_91 rfl rfl ?_
    refine j_iload O dS_leafOf_92 rfl ?_
    have hr1 : rowsIn t gw2 fs fr rs := fun i hi => by
      obtain ⟨b, h1, h2⟩ := hrI i hi
      exact ⟨b, h1, (h2.keep (fun _ z => z) (fun x e hx he => kpw8.2 x e (one_ne (fun z => hS.2.2.2.2.2.2.2.1 (z ▸ hx))) he)).at⟩
    have hsz := nsz0_le rs hw
    refine j_callI O [.ref s, .int (nI fr), .int (nI (fr + rs.length)), .int (nprt 0 rs)] (c_Node_init X.2.1 D t A gw2 qw1 s fr ns fs rs (nprt 0 rs) hw7 hw6 hr1 hns hn31 (by omega)) w127 4 rfl rfl rfl w27 w125 w126 rfl (by decide +kernel) ⟨(Nat.le_of_ble_eq_true rfl), (Nat.le_of_ble_eq_true rfl)⟩ rfl (Nat.le_of_ble_eq_true rfl) dS_leafOf_94 ⟨(Nat.le_of_ble_eq_true rfl), (by show _ ≤ rs.length + 12; omega)⟩ (fun vw9 gw10 hpw11 => ?_)
    obtain ⟨rfl, ra, ba, f2, hra, hba, hqc, hrac, hf2, hbac, kp2z⟩ := hpw11
    have hs2 := kp2z.2 sA _ (one_ne (hs0.nin hqw3)) hw5
    refine j_callV O [.ref qw1] (c_pend X.2.1 D t A gw10 sA qw1 bA ra ba _ none nn ss 0 _ _ _ _ _ 0 0 0 hs2 hqc) hs2 rfl w181 w182 w0 w24 w183 1 rfl rfl rfl (by decide +kernel) ⟨(Nat.le_of_ble_eq_true rfl), (Nat.le_of_ble_eq_true rfl)⟩ rfl (Nat.le_of_ble_eq_true rfl) dS_leafOf_97 ⟨(Nat.le_of_ble_eq_true rfl), (by show _ ≤ rs.length + 12; omega)⟩ (fun vw12 gw13 hpw14 => ?_)
    obtain ⟨rfl, hs3, hqz3, kp3z⟩ := hpw14
    have kpA : Kp [sA] g gw10 := kpw8.sub kp2z (fun x hx => Or.inr (by rw [List.mem_singleton.mp hx]; exact hqw3))
    have kpB : Kp [sA] g gw13 := kpA.sub kp3z (fun x hx => by
      rcases List.mem_cons.mp hx with z | z
      · exact Or.inl (by rw [z]; exact List.mem_cons_self)
      · exact Or.inr (by rw [List.mem_singleton.mp z]; exact hqw3))
    have hra0 : ra ∉ g.1 := kpw8.nin hra
    have hba0 : ba ∉ g.1 := kpw8.nin hba
    have hra3 := kp3z.2 ra _ (two_ne (hrac.ne hs2 (by simp)) (hrac.ne hqc (by simp))) hrac
    have hba3 := kp3z.2 ba _ (two_ne (hbac.ne hs2 (by simp)) (hbac.ne hqc (by simp))) hbac
    have hIk : ∀ (x : Nat) (e : va_E), w.2.2.2.1 x → gAt g x e → gAt gw13 x e := fun x e hx he => kpB.2 x e (one_ne (fun z => hS.2.2.2.2.2.2.2.1 (z ▸ hx))) he
    refine j_aret (o := some qw1) O (Or.inl ⟨_, rfl⟩) M (Nat.le_of_ble_eq_true rfl) (by show _ ≤ rs.length + 12; omega) ⟨qw1, ra, ba, rfl, hqw3, hra0, hba0, ?_, kpB⟩ dS_leafOf_100
    refine hS.add hqw3 hra0 hba0 hra3.1 hba3.1 (hqz3.ne hra3 (by simp)) (hqz3.ne hba3 (by simp)) ⟨Nat.zero_le _, hlen, hw, fun z => absurd rfl z, hsr⟩ hnew (fun b hb => absurd hb List.not_mem_nil) kpB hs3 ?_
    refine ⟨ra, ba, rs.length, f2, (fun _ => none), Or.inr (Or.inl rfl), Or.inr (Or.inr rfl), hqz3, hra3, hba3, hlen, fun _ => ⟨rfl, rfl, fun i hi => ?_⟩, fun h => absurd rfl h, fun i hi => absurd hi (Nat.not_lt_zero _), fun h hh => absurd hh (by simp)⟩
    obtain ⟨b, h1, h2⟩ := hrI i hi
    exact ⟨b, by rw [Nat.zero_add, hf2 i hi]; exact h1, h2.keep (fun _ z => Or.inl z) hIk⟩
  refine j_iconst O (v := 0) dS_leafOf_0 (by decide) ?_
  refine j_istore O [(4, .int 0), (0, .ref sA), (1, .ref s), (2, .int (nI fr)), (3, .int (nI (fr + rs.length)))] dS_leafOf_1 (by decide) rfl ?_
  refine j_iload_n O 2 dS_leafOf_3 rfl rfl ?_
  refine j_istore O [(5, .int (nI fr)), (4, .int 0), (0, .ref sA), (1, .ref s), (2, .int (nI fr)), (3, .int (nI (fr + rs.length)))] dS_leafOf_4 (by decide) rfl ?_
  refine J.pk [2, 3, 4, 5, 1, 0] rfl ?_
  have key : ∀ L : List Nat, (∀ a ∈ L, ∃ v, w.1 a = some v ∧ inS w.2.2.2.2.1 a) → lnk (nxOf w.2.2.1) L → J X 6 (zz D t A) g 0 0 45 [(0, .ref sA), (1, .ref s), (2, .int (nI fr)), (3, .int (nI (fr + rs.length))), (4, .int (nprt 0 rs)), (5, va_rf (L.head?))] [] := by
    intro L
    induction L with
    | nil =>
      intro _ _
      refine j_aloadN O dS_leafOf_45 rfl ?_
      refine j_ifnull (o := none) O 84 dS_leafOf_47 (by decide) (fun _ => ?_) (fun y c => by cases c)
      exact HK
    | cons a L ih =>
      intro hL hl
      obtain ⟨v, hv, hSa⟩ := hL a List.mem_cons_self
      have hl1 : nxOf w.2.2.1 a = L.head? := hl.1
      refine leafOf_node (k0 := 0) (n0 := 0) (w := w) O hS hs hr hw hns hn31 hrm a v hv (fun hb => absurd hb (hnew a (Or.inl hSa))) (fun hne => ?_)
      rw [hl1]
      exact ih (fun b hb => hL b (List.mem_cons_of_mem _ hb)) hl.2
  have k1 := key _ (fun a h => (hch.2.2 a h).elim (fun v q => ⟨v, q.1, _, bkt_lt _, h⟩)) hch.1
  have k2 := leafOf_mid (k0 := 0) (n0 := 0) (rs := rs) (s := s) (fr := fr) O hS hrm k1
  have k3 := leafOf_print (k0 := 0) (n0 := 0) O hs hr hns hn31 k2 _ 0 (Nat.zero_add _)
  exact k3
end
section
theorem runsP_len {α : Type} (p : α → Bool) : ∀ rs : List α, (runsP p rs).length ≤ rs.length
  | [] => Nat.le_refl _
  | r :: rs => by
    have ih := runsP_len p rs
    unfold runsP
    split
    · simp [ih]
    · split
      · simp
      · next e => rw [e] at ih; simp at ih ⊢; omega
theorem runs_len_le (t : Nat) (rs : List RV) : (runs t rs).length ≤ rs.length := runsP_len _ rs
/-- a branch's print, by its nodes below -/
def prB (h : Nat) (qs : List (List RV)) : Int32 := qs.foldl (fun p q => p * 31 + nprt h q) (nI (h + 1))
theorem prB_take (h : Nat) (qs : List (List RV)) (i : Nat) (hi : i < qs.length) : prB h (qs.take (i + 1)) = prB h (qs.take i) * 31 + nprt h qs[i] := by
  unfold prB
  rw [List.take_succ_eq_append_getElem hi, List.foldl_append]
  rfl
/-- the nodes below a branch that is looked for -/
def belowOK (w : GD) (h : Nat) (qs : List (List RV)) (ks : List Nat) (fs : Nat → Option Nat) (fr : Nat) : Prop :=
  ks.length = qs.length ∧ (∀ i (hi : i < ks.length), fs (fr + i) = some ks[i]) ∧ (∀ i (hi : i < ks.length) (hj : i < qs.length), w.1 ks[i] = some (h, qs[i])) ∧ (∀ b ∈ ks, inS w.2.2.2.2.1 b ∨ b ∈ w.2.2.2.2.2) ∧ runs (h + 1) qs.flatten = qs ∧ ∃ m, qs.length = m + 1
theorem prB_nprt {h : Nat} {qs : List (List RV)} (hq : runs (h + 1) qs.flatten = qs) : prB h qs = nprt (h + 1) qs.flatten := by
  show _ = List.foldl _ _ (runs (h + 1) qs.flatten)
  rw [hq]
  rfl
/-- a stored node has these below it just if it has this value -/
theorem kids_iff {t : Nat → ClassId} {g : GH} {w : GD} {sA bA : Nat} {nn ss : Int32} {h fr : Nat} {qs : List (List RV)} {ks : List Nat} {fs : Nat → Option Nat} {a : Nat} {v : NV} (hS : SW t g w sA bA nn ss) (hb : belowOK w h qs ks fs fr) (ha : inS w.2.2.2.2.1 a) (hv : w.1 a = some v) : w.2.1 a = ks ↔ v = (h + 1, qs.flatten) := by
  obtain ⟨b1, b2, b3, b4, b5, m, b6⟩ := hb
  obtain ⟨hvo, -, ⟨ra, ba, nr, f0, fb, -, -, -, -, -, -, h0, -, hfb, h8⟩, -⟩ := hS.1 a v hv
  constructor
  · intro hk
    cases hv1 : v.1 with
    | zero =>
      have := (h0 hv1).2.1
      rw [hk] at this
      rw [this] at b1
      simp at b1
      omega
    | succ h' =>
      obtain ⟨h81, h82⟩ := h8 h' hv1
      have key : ∀ i (hi : i < ks.length) (hj : i < (runs (h' + 1) v.2).length) (hj2 : i < qs.length), h' = h ∧ (runs (h' + 1) v.2)[i] = qs[i] := by
        intro i hi hj hj2
        have e1 := h82 i (by rw [hk]; exact hi) hj
        have e2 := b3 i hi hj2
        have e3 : (w.2.1 a)[i]'(by rw [hk]; exact hi) = ks[i] := by simp only [hk]
        rw [e3, e2] at e1
        have e4 := Option.some.inj e1
        exact ⟨(congrArg Prod.fst e4).symm, (congrArg Prod.snd e4).symm⟩
      rw [hk] at h81
      have hh : h' = h := (key 0 (by omega) (by omega) (by omega)).1
      subst hh
      have hr : runs (h' + 1) v.2 = qs := List.ext_getElem (by omega) (fun i h1 h2 => (key i (by omega) h1 h2).2)
      have : v.2 = qs.flatten := by
        rw [← hr]
        exact (runsP_flat _ _).symm
      obtain ⟨v1, v2⟩ := v
      dsimp only at hv1 this
      rw [hv1, this]
  · intro hve
    subst hve
    obtain ⟨h81, h82⟩ := h8 h rfl
    have h81' : (w.2.1 a).length = (runs (h + 1) qs.flatten).length := h81
    refine List.ext_getElem (by rw [h81', b5]; omega) (fun i h1 h2 => ?_)
    have e1 := h82 i h1 (by show i < (runs (h + 1) qs.flatten).length; omega)
    have e2 := b3 i h2 (by omega)
    have e3 : (runs (h + 1) qs.flatten)[i]'(by omega) = qs[i]'(by omega) := by simp only [b5]
    exact hS.2.2.2.2.2.1 _ _ (h, qs[i]'(by omega)) (Or.inl (hS.2.2.2.2.2.2.1.1 a ha _ (List.getElem_mem _))) (b4 _ (List.getElem_mem _)) (by rw [e1]; exact congrArg (fun z => some (h, z)) e3) e2
set_option maxRecDepth 100000 in
set_option maxHeartbeats 1000000 in
theorem branchOf_print {X : CX} {D : va_G} {t : Nat → ClassId} {A : Nat → Prop} {rm : Room} {g : GH} {k0 n0 : Nat} {sA s fr ns h : Nat} {fs : Nat → Option Nat} {qs : List (List RV)} (O : Ok X bS_branchOf 7 "TwinTrees$Store" (zz D t A) rm) (hs : gAt g s (eNs t ns fs)) (hns : fr + qs.length ≤ ns) (hn31 : ns < 2 ^ 27) (hr : nodesIn g fs fr h qs) (HK : J X 7 (zz D t A) g k0 n0 34 [(0, .ref sA), (1, .int (nI (h + 1))), (2, .ref s), (3, .int (nI fr)), (4, .int (nI (fr + qs.length))), (5, .int (prB h qs))] []) : ∀ (k i : Nat), i + k = qs.length → J X 7 (zz D t A) g k0 n0 6 [(0, .ref sA), (1, .int (nI (h + 1))), (2, .ref s), (3, .int (nI fr)), (4, .int (nI (fr + qs.length))), (5, .int (prB h (qs.take i))), (6, .int (nI (fr + i)))] [] := by
  intro k
  induction k with
  | zero =>
    intro i hi
    have hi : i = qs.length := by omega
    subst hi
    refine j_iload O dS_branchOf_6 rfl ?_
    refine j_iload O dS_branchOf_8 rfl ?_
    refine j_icmp_ge O 34 dS_branchOf_10 (by decide) (fun c1 => ?_) (fun c1 => ?_)
    · refine J.pk [0, 1, 2, 3, 4, 5] rfl ?_
      rw [List.take_length]
      exact HK
    · exact absurd (nI_le (Nat.le_refl _) (by omega)) c1
  | succ k ih =>
    intro i hi
    have hi1 : i < qs.length := by omega
    obtain ⟨x, hfx, xra, xba, xmu, hxc⟩ := hr i hi1
    refine j_iload O dS_branchOf_6 rfl ?_
    refine j_iload O dS_branchOf_8 rfl ?_
    refine j_icmp_ge O 34 dS_branchOf_10 (by decide) (fun c1 => ?_) (fun c1 => ?_)
    · exact absurd c1 (nI_ge (by omega) (by omega))
    · refine j_iload O dS_branchOf_13 rfl ?_
      refine j_bipush O (v := 31) dS_branchOf_15 (by decide) ?_
      refine j_imul O dS_branchOf_17 ?_
      refine j_aload_n O 2 dS_branchOf_18 rfl rfl ?_
      refine j_iload O dS_branchOf_19 rfl ?_
      refine j_aald O hs 2 rfl (by omega) (by omega) dS_branchOf_21 ?_
      refine j_some x hfx ?_
      refine j_get O uwN hxc rfl 7 (by decide) w146 rfl rfl dS_branchOf_22 ?_
      refine j_iadd O dS_branchOf_25 ?_
      refine j_eqi (prB h (qs.take (i + 1))) (prB_take h qs i hi1).symm ?_
      refine j_istore O [(5, .int (prB h (qs.take (i + 1)))), (0, .ref sA), (1, .int (nI (h + 1))), (2, .ref s), (3, .int (nI fr)), (4, .int (nI (fr + qs.length))), (6, .int (nI (fr + i)))] dS_branchOf_26 (by decide) rfl ?_
      refine j_iinc O (nI (fr + i + 1)) [(6, .int (nI (fr + i + 1))), (5, .int (prB h (qs.take (i + 1)))), (0, .ref sA), (1, .int (nI (h + 1))), (2, .ref s), (3, .int (nI fr)), (4, .int (nI (fr + qs.length)))] dS_branchOf_28 rfl (nI_1 _) (by decide) rfl ?_
      refine j_goto O 6 dS_branchOf_31 (by decide) ?_
      rw [Nat.add_assoc fr i 1]
      refine J.pk [2, 3, 4, 5, 6, 1, 0] rfl ?_
      exact ih (i + 1) (by omega)
set_option maxRecDepth 100000 in
set_option maxHeartbeats 1000000 in
theorem branchOf_node {X : CX} {D : va_G} {t : Nat → ClassId} {A : Nat → Prop} {rm : Room} {g : GH} {k0 n0 : Nat} {sA bA s fr ns h : Nat} {nn ss : Int32} {fs : Nat → Option Nat} {qs : List (List RV)} {ks : List Nat} {w : GD} (O : Ok X bS_branchOf 7 "TwinTrees$Store" (zz D t A) rm) (hS : SW t g w sA bA nn ss) (hs : gAt g s (eNs t ns fs)) (hns : fr + qs.length ≤ ns) (hn31 : ns < 2 ^ 27) (hbl : belowOK w h qs ks fs fr) (hrm : 3 ≤ rm.frames ∧ 90 ≤ rm.locals ∧ k0 + 0 ≤ rm.cells ∧ n0 + 0 ≤ rm.slots) (a : Nat) (v : NV) (hv : w.1 a = some v) (ha : inS w.2.2.2.2.1 a) (H1 : v = (h + 1, qs.flatten) → J X 7 (zz D t A) g k0 n0 75 [(0, .ref sA), (1, .int (nI (h + 1))), (2, .ref s), (3, .int (nI fr)), (4, .int (nI (fr + qs.length))), (5, .int (prB h qs)), (6, .ref a)] [.ref a]) (H2 : v ≠ (h + 1, qs.flatten) → J X 7 (zz D t A) g k0 n0 46 [(0, .ref sA), (1, .int (nI (h + 1))), (2, .ref s), (3, .int (nI fr)), (4, .int (nI (fr + qs.length))), (5, .int (prB h qs)), (6, va_rf (nxOf w.2.2.1 a))] []) :  J X 7 (zz D t A) g k0 n0 46 [(0, .ref sA), (1, .int (nI (h + 1))), (2, .ref s), (3, .int (nI fr)), (4, .int (nI (fr + qs.length))), (5, .int (prB h qs)), (6, .ref a)] [] := by
  have hki := kids_iff hS hbl ha hv
  obtain ⟨hvo, -, ⟨ra, ba, nr, f0, fb, -, -, hac, -, hba, -, h0, -, hfb, h8⟩, -⟩ := hS.1 a v hv
  have hkl : (w.2.1 a).length ≤ 300 := by
    cases hv1 : v.1 with
    | zero => rw [(h0 hv1).2.1]; exact Nat.zero_le _
    | succ h' =>
      rw [(h8 h' hv1).1]
      exact Nat.le_trans (runs_len_le _ _) hvo.2.1
  refine j_aload O dS_branchOf_46 rfl ?_
  refine j_ifnull (o := (some a)) O 86 dS_branchOf_48 (by decide) (fun c1 => ?_) (fun y1 c1 => ?_)
  · cases c1
  · refine j_aload O dS_branchOf_51 rfl ?_
    refine j_get O uwN hac rfl 7 (by decide) w146 rfl rfl dS_branchOf_53 ?_
    refine j_iload O dS_branchOf_56 rfl ?_
    refine j_icmp_ne O 76 dS_branchOf_58 (by decide) (fun c2 => ?_) (fun c2 => ?_)
    · have hne : v ≠ (h + 1, qs.flatten) := fun q => c2 (by rw [q]; exact (prB_nprt hbl.2.2.2.2.1).symm)
      refine j_aload O dS_branchOf_76 rfl ?_
      refine j_get O uwN hac rfl 11 (by decide) w155 rfl rfl dS_branchOf_78 ?_
      refine j_astoreO (o := ((w.2.2.1 a).2.2.2)) O [(6, va_rf ((w.2.2.1 a).2.2.2)), (0, .ref sA), (1, .int (nI (h + 1))), (2, .ref s), (3, .int (nI fr)), (4, .int (nI (fr + qs.length))), (5, .int (prB h qs))] dS_branchOf_81 (by decide) rfl ?_
      refine j_goto O 46 dS_branchOf_83 (by decide) ?_
      refine J.pk [1, 2, 3, 4, 5, 6, 0] rfl ?_
      exact H2 hne
    · refine j_aload O dS_branchOf_61 rfl ?_
      refine j_aload_n O 2 dS_branchOf_63 rfl rfl ?_
      refine j_iload_n O 3 dS_branchOf_64 rfl rfl ?_
      refine j_iload O dS_branchOf_65 rfl ?_
      refine j_callV O [.ref s, .int (nI fr), .int (nI (fr + qs.length))] (c_isLikeBranch X.2.1 D t A g a s ra ba fr ns v.1 (w.2.1 a).length qs.length fb fs v.2 (w.2.2.1 a) hac hba hs hns hn31 (by omega)) hac rfl w237 w238 w239 w27 w240 3 rfl rfl rfl (by decide +kernel) ⟨(by show 0 + 1 ≤ _; omega), (by show 8 + (_ + 11) + 0 ≤ _; omega)⟩ rfl (Nat.le_of_ble_eq_true rfl) dS_branchOf_67 ⟨hrm.2.2.1, hrm.2.2.2⟩ (fun v2 g3 hp4 => ?_)
      obtain ⟨z, rfl, hz, hgg⟩ := hp4
      have hgg := hgg.symm
      subst hgg
      have hzk : ((w.2.1 a).length = qs.length ∧ ∀ j, j < qs.length → fb j = fs (fr + j)) ↔ w.2.1 a = ks := by
        obtain ⟨b1, b2, -⟩ := hbl
        constructor
        · rintro ⟨z1, z2⟩
          refine List.ext_getElem (by omega) (fun i i1 i2 => ?_)
          have e1 := hfb i i1
          have e2 := b2 i i2
          rw [z2 i (by omega), e2] at e1
          exact (Option.some.inj e1).symm
        · intro q
          refine ⟨by rw [q]; exact b1, fun j hj => ?_⟩
          have e1 := hfb j (by rw [q]; omega)
          rw [e1, b2 j (by omega)]
          simp only [q]
      rw [hzk, hki] at hz
      refine j_if_eq O 76 dS_branchOf_70 (by decide) (fun c3 => ?_) (fun c3 => ?_)
      · have hne : v ≠ (h + 1, qs.flatten) := fun q => by
          rcases hz with ⟨z1, -⟩ | ⟨-, z2⟩
          · rw [c3] at z1; exact absurd z1 (by decide)
          · exact z2 q
        refine j_aload O dS_branchOf_76 rfl ?_
        refine j_get O uwN hac rfl 11 (by decide) w155 rfl rfl dS_branchOf_78 ?_
        refine j_astoreO (o := ((w.2.2.1 a).2.2.2)) O [(6, va_rf ((w.2.2.1 a).2.2.2)), (0, .ref sA), (1, .int (nI (h + 1))), (2, .ref s), (3, .int (nI fr)), (4, .int (nI (fr + qs.length))), (5, .int (prB h qs))] dS_branchOf_81 (by decide) rfl ?_
        refine j_goto O 46 dS_branchOf_83 (by decide) ?_
        refine J.pk [1, 2, 3, 4, 5, 6, 0] rfl ?_
        exact H2 hne
      · have hv2 : v = (h + 1, qs.flatten) := by
          rcases hz with ⟨-, z1⟩ | ⟨z1, -⟩
          · exact z1
          · exact absurd z1 c3
        refine j_aload O dS_branchOf_73 rfl ?_
        refine J.pk [0, 1, 2, 3, 4, 5, 6] rfl ?_
        exact H1 hv2
set_option maxRecDepth 100000 in
set_option maxHeartbeats 1000000 in
theorem branchOf_mid {X : CX} {D : va_G} {t : Nat → ClassId} {A : Nat → Prop} {rm : Room} {g : GH} {k0 n0 : Nat} {sA bA s fr h : Nat} {nn ss : Int32} {qs : List (List RV)} {w : GD} (O : Ok X bS_branchOf 7 "TwinTrees$Store" (zz D t A) rm) (hS : SW t g w sA bA nn ss) (hrm : 3 ≤ rm.frames ∧ 90 ≤ rm.locals ∧ k0 + 0 ≤ rm.cells ∧ n0 + 0 ≤ rm.slots) (HK : J X 7 (zz D t A) g k0 n0 46 [(0, .ref sA), (1, .int (nI (h + 1))), (2, .ref s), (3, .int (nI fr)), (4, .int (nI (fr + qs.length))), (5, .int (prB h qs)), (6, va_rf ((w.2.2.2.2.1 (bkt (prB h qs))).head?))] []) :  J X 7 (zz D t A) g k0 n0 34 [(0, .ref sA), (1, .int (nI (h + 1))), (2, .ref s), (3, .int (nI fr)), (4, .int (nI (fr + qs.length))), (5, .int (prB h qs))] [] := by
  obtain ⟨fB, hb, hf⟩ := hS.2.2.1
  have hs0 := hS.2.1
  have hbl := bkt_lt (prB h qs)
  refine j_aload_n O 0 dS_branchOf_34 rfl rfl ?_
  refine j_get O uwS hs0 rfl 0 (by decide) w48 rfl rfl dS_branchOf_35 ?_
  refine j_iload O dS_branchOf_38 rfl ?_
  refine j_callS O [.int (prB h qs)] (c_bucketOf X.2.1 D t A g (prB h qs)) w108 w109 w24 w110 1 rfl rfl rfl (by decide +kernel) ⟨(by show 0 + 1 ≤ _; omega), (by show 8 + (_ + 11) + 0 ≤ _; omega)⟩ rfl (Nat.le_of_ble_eq_true rfl) dS_branchOf_40 ⟨hrm.2.2.1, hrm.2.2.2⟩ (fun v5 g6 hp7 => ?_)
  obtain ⟨rfl, hg8⟩ := hp7
  have hg8 := hg8.symm
  subst hg8
  refine j_eqi (nI (bkt (prB h qs))) (bkt_eq _) ?_
  refine j_aald O hb 2 rfl (by omega) (by omega) dS_branchOf_43 ?_
  refine j_oeq ((w.2.2.2.2.1 (bkt (prB h qs))).head?) (hf _ hbl) ?_
  refine j_astoreO (o := ((w.2.2.2.2.1 (bkt (prB h qs))).head?)) O [(6, va_rf ((w.2.2.2.2.1 (bkt (prB h qs))).head?)), (0, .ref sA), (1, .int (nI (h + 1))), (2, .ref s), (3, .int (nI fr)), (4, .int (nI (fr + qs.length))), (5, .int (prB h qs))] dS_branchOf_44 (by decide) rfl ?_
  refine J.pk [1, 2, 3, 4, 5, 6, 0] rfl ?_
  exact HK
set_option maxRecDepth 100000 in
set_option maxHeartbeats 1000000 in
theorem c_branchOf_old (l : Launch) (D : va_G) (t : Nat → ClassId) (A : Nat → Prop) (g : GH) (sA bA s fr ns h : Nat) (nn ss : Int32) (fs : Nat → Option Nat) (qs : List (List RV)) (ks : List Nat) (w : GD) (a0 : Nat) (hS : SW t g w sA bA nn ss) (hs : gAt g s (eNs t ns fs)) (hns : fr + qs.length ≤ ns) (hn31 : ns < 2 ^ 27) (hbl : belowOK w h qs ks fs fr) (ha : inS w.2.2.2.2.1 a0) (hv0 : w.1 a0 = some (h + 1, qs.flatten)) : Ct l yS_branchOf sS_branchOf { frames := 3, cells := 0, slots := 0, locals := 90 } (zz D t A) [.ref sA, .int (nI (h + 1)), .ref s, .int (nI fr), .int (nI (fr + qs.length))] g 0 0 (fun v g' => v = some (.ref a0) ∧ g' = g) := by
  refine Ct.of (cc := bS_branchOf) (maxL := 7) (ret := (some (.object "TwinTrees$Node"))) (by decide) (Nat.le_of_ble_eq_true rfl) (fun X hl O M hN => ?_)
  show J X 7 (zz D t A) g 0 0 0 [(0, .ref sA), (1, .int (nI (h + 1))), (2, .ref s), (3, .int (nI fr)), (4, .int (nI (fr + qs.length)))] []
  have hr : nodesIn g fs fr h qs := fun i hi => by
    have e := hbl.2.2.1 i (by rw [hbl.1]; exact hi) hi
    obtain ⟨xra, xba, hc⟩ := hS.1.cell e
    exact ⟨_, hbl.2.1 i (by rw [hbl.1]; exact hi), xra, xba, _, hc⟩
  have hpn := prB_nprt hbl.2.2.2.2.1
  refine j_iload_n O 1 dS_branchOf_0 rfl rfl ?_
  refine j_istore O [(5, .int (nI (h + 1))), (0, .ref sA), (1, .int (nI (h + 1))), (2, .ref s), (3, .int (nI fr)), (4, .int (nI (fr + qs.length)))] dS_branchOf_1 (by decide) rfl ?_
  refine j_iload_n O 3 dS_branchOf_3 rfl rfl ?_
  refine j_istore O [(6, .int (nI fr)), (5, .int (nI (h + 1))), (0, .ref sA), (1, .int (nI (h + 1))), (2, .ref s), (3, .int (nI fr)), (4, .int (nI (fr + qs.length)))] dS_branchOf_4 (by decide) rfl ?_
  refine J.pk [2, 3, 4, 5, 6, 1, 0] rfl ?_
  have hch := hS.2.2.2.1 _ (bkt_lt (prB h qs))
  have hrm : 3 ≤ ({ frames := 3, cells := 0, slots := 0, locals := 90 } : Room).frames ∧ 90 ≤ ({ frames := 3, cells := 0, slots := 0, locals := 90 } : Room).locals ∧ 0 + 0 ≤ ({ frames := 3, cells := 0, slots := 0, locals := 90 } : Room).cells ∧ 0 + 0 ≤ ({ frames := 3, cells := 0, slots := 0, locals := 90 } : Room).slots := ⟨by decide, by decide, by decide, by decide⟩
  have key : ∀ L : List Nat, a0 ∈ L → (∀ a ∈ L, ∃ v, w.1 a = some v ∧ inS w.2.2.2.2.1 a) → lnk (nxOf w.2.2.1) L → J X 7 (zz D t A) g 0 0 46 [(0, .ref sA), (1, .int (nI (h + 1))), (2, .ref s), (3, .int (nI fr)), (4, .int (nI (fr + qs.length))), (5, .int (prB h qs)), (6, va_rf (L.head?))] [] := by
    intro L
    induction L with
    | nil => intro h; cases h
    | cons a L ih =>
      intro hm hL hl
      obtain ⟨v, hv, hSa⟩ := hL a List.mem_cons_self
      have hl1 : nxOf w.2.2.1 a = L.head? := hl.1
      refine branchOf_node (k0 := 0) (n0 := 0) (w := w) O hS hs hns hn31 hbl hrm a v hv hSa (fun hb => ?_) (fun hne => ?_)
      · rw [hb] at hv
        have e : a = a0 := hS.2.2.2.2.2.1 a a0 (h + 1, qs.flatten) (Or.inl hSa) (Or.inl ha) hv hv0
        subst e
        exact j_aret (o := some a) O (Or.inl ⟨_, rfl⟩) M (Nat.le_refl _) (Nat.le_refl _) ⟨rfl, rfl⟩ dS_branchOf_75
      · rw [hl1]
        refine ih ?_ (fun b hb => hL b (List.mem_cons_of_mem _ hb)) hl.2
        rcases List.mem_cons.mp hm with z | z
        · subst z; rw [hv0] at hv; exact absurd (Option.some.inj hv).symm hne
        · exact z
  have hmem := chain_of hS.2.2.2.1 ha hv0
  rw [← hpn] at hmem
  have k1 := key _ hmem (fun a h => (hch.2.2 a h).elim (fun v q => ⟨v, q.1, _, bkt_lt _, h⟩)) hch.1
  have k2 := branchOf_mid (k0 := 0) (n0 := 0) (qs := qs) (s := s) (fr := fr) O hS hrm k1
  have k3 := branchOf_print (k0 := 0) (n0 := 0) O hs hns hn31 hr k2 _ 0 (Nat.zero_add _)
  exact k3
set_option maxRecDepth 100000 in
set_option maxHeartbeats 1000000 in
theorem c_branchOf_new (l : Launch) (D : va_G) (t : Nat → ClassId) (A : Nat → Prop) (g : GH) (sA bA s fr ns h : Nat) (nn ss : Int32) (fs : Nat → Option Nat) (qs : List (List RV)) (ks : List Nat) (w : GD) (hS : SW t g w sA bA nn ss) (hs : gAt g s (eNs t ns fs)) (hns : fr + qs.length ≤ ns) (hn31 : ns < 2 ^ 27) (hbl : belowOK w h qs ks fs fr) (hvo : vOK (h + 1, qs.flatten)) (hnew : ∀ a, (inS w.2.2.2.2.1 a ∨ a ∈ w.2.2.2.2.2) → w.1 a ≠ some (h + 1, qs.flatten)) : Ct l yS_branchOf sS_branchOf { frames := 3, cells := 3, slots := qs.length + 12, locals := 90 } (zz D t A) [.ref sA, .int (nI (h + 1)), .ref s, .int (nI fr), .int (nI (fr + qs.length))] g 3 (qs.length + 12) (fun v g' => ∃ q ra ba, v = some (.ref q) ∧ q ∉ g.1 ∧ ra ∉ g.1 ∧ ba ∉ g.1 ∧ SW t g' (wAdd w q (h + 1, qs.flatten) ks ra ba) sA bA nn ss ∧ Kp [sA] g g') := by
  refine Ct.of (cc := bS_branchOf) (maxL := 7) (ret := (some (.object "TwinTrees$Node"))) (by decide) (Nat.le_of_ble_eq_true rfl) (fun X hl O M hN => ?_)
  show J X 7 (zz D t A) g 0 0 0 [(0, .ref sA), (1, .int (nI (h + 1))), (2, .ref s), (3, .int (nI fr)), (4, .int (nI (fr + qs.length)))] []
  have hr : nodesIn g fs fr h qs := fun i hi => by
    have e := hbl.2.2.1 i (by rw [hbl.1]; exact hi) hi
    obtain ⟨xra, xba, hc⟩ := hS.1.cell e
    exact ⟨_, hbl.2.1 i (by rw [hbl.1]; exact hi), xra, xba, _, hc⟩
  have hpn := prB_nprt hbl.2.2.2.2.1
  have hch := hS.2.2.2.1 _ (bkt_lt (prB h qs))
  have hrm : 3 ≤ ({ frames := 3, cells := 3, slots := qs.length + 12, locals := 90 } : Room).frames ∧ 90 ≤ ({ frames := 3, cells := 3, slots := qs.length + 12, locals := 90 } : Room).locals ∧ 0 + 0 ≤ ({ frames := 3, cells := 3, slots := qs.length + 12, locals := 90 } : Room).cells ∧ 0 + 0 ≤ ({ frames := 3, cells := 3, slots := qs.length + 12, locals := 90 } : Room).slots := ⟨Nat.le_refl _, Nat.le_refl _, Nat.zero_le _, Nat.zero_le _⟩
  have hqne : ∀ q ∈ qs, q ≠ [] := fun q hq => by
    have := hbl.2.2.2.2.1
    rw [← this] at hq
    exact runsP_ne _ _ q hq
  have hkd : ∀ b ∈ ks, b ∈ g.1 := fun b hb => (SW.in hS (hbl.2.2.2.1 b hb)).elim (fun u hu => SW.dom hS hu)
  have HK : J X 7 (zz D t A) g 0 0 86 [(0, .ref sA), (1, .int (nI (h + 1))), (2, .ref s), (3, .int (nI fr)), (4, .int (nI (fr + qs.length))), (5, .int (prB h qs)), (6, .null)] [] := by
    have hs0 := hS.2.1
    have kp0 : Kp [sA] g g := Kp.rf
    refine j_aload_n O 0 dS_branchOf_86 rfl rfl ?_
    refine j_new (ci := 2) O uwN tN ftN w47 w124 w27 rfl [.int 0, .null, .null, .int 0, .int 0, .int 0, .int 0, .int 0, .long 0, .int 0, .int 0, .null] (fun j hj => by rcases (show j = 0 ∨ j = 1 ∨ j = 2 ∨ j = 3 ∨ j = 4 ∨ j = 5 ∨ j = 6 ∨ j = 7 ∨ j = 8 ∨ j = 9 ∨ j = 10 ∨ j = 11 by omega) with rfl | rfl | rfl | rfl | rfl | rfl | rfl | rfl | rfl | rfl | rfl | rfl <;> rfl) (Nat.le_of_ble_eq_true rfl) (by show _ ≤ qs.length + 12; omega) dS_branchOf_87 (fun q9 g10 hq11 e12 => ?_)
    have h13 := gNew_old (e' := .inr (2, [.int 0, .null, .null, .int 0, .int 0, .int 0, .int 0, .int 0, .long 0, .int 0, .int 0, .null])) hs0 hq11
    rw [← e12] at h13
    have h14 := gNew_old (e' := .inr (2, [.int 0, .null, .null, .int 0, .int 0, .int 0, .int 0, .int 0, .long 0, .int 0, .int 0, .null])) hs hq11
    rw [← e12] at h14
    have h15 := gNew_self (g := g) (a := q9) (e := .inr (2, [.int 0, .null, .null, .int 0, .int 0, .int 0, .int 0, .int 0, .long 0, .int 0, .int 0, .null]))
    rw [← e12] at h15
    have kp16 := kp0.new (e := .inr (2, [.int 0, .null, .null, .int 0, .int 0, .int 0, .int 0, .int 0, .long 0, .int 0, .int 0, .null])) hq11
    rw [← e12] at kp16
    refine j_dup O dS_branchOf_90 rfl ?_
    refine j_iload_n O 1 dS_branchOf_91 rfl rfl ?_
    refine j_aload_n O 2 dS_branchOf_92 rfl rfl ?_
    refine j_iload_n O 3 dS_branchOf_93 rfl rfl ?_
    refine j_iload O dS_branchOf_94 rfl ?_
    refine j_iload O dS_branchOf_96 rfl ?_
    have hr1 : nodesIn g10 fs fr h qs := fun i hi => by
      obtain ⟨b, h1, xra, xba, xmu, h2⟩ := hr i hi
      exact ⟨b, h1, xra, xba, xmu, kp16.2 b _ (one_ne (h2.ne hs0 (by simp))) h2⟩
    have hxa : ∀ j (hj : j < qs.length), fs (fr + j) ≠ some q9 := fun j hj z => by
      rw [hbl.2.1 j (by rw [hbl.1]; exact hj)] at z
      exact hq11 ((Option.some.inj z) ▸ hkd _ (List.getElem_mem _))
    have hfl : qs.flatten.length ≤ 300 := hvo.2.1
    have hql : qs.length ≤ 300 := by
      have := runs_len_le (h + 1) qs.flatten
      rw [hbl.2.2.2.2.1] at this
      omega
    refine j_callI O [.int (nI (h + 1)), .ref s, .int (nI fr), .int (nI (fr + qs.length)), .int (prB h qs)] (c_Node_init2 X.2.1 D t A g10 q9 s fr ns h fs qs (prB h qs) (nI (h + 1)) h15 h14 hr1 hxa hns hn31 hbl.2.2.2.2.2 hqne (by omega)) w243 5 rfl rfl rfl w27 w241 w242 rfl (by decide +kernel) ⟨(Nat.le_of_ble_eq_true rfl), (Nat.le_of_ble_eq_true rfl)⟩ rfl (Nat.le_of_ble_eq_true rfl) dS_branchOf_98 ⟨(Nat.le_of_ble_eq_true rfl), (by show _ ≤ qs.length + 12; omega)⟩ (fun v17 g18 hp19 => ?_)
    obtain ⟨rfl, ra, ba, f2, hra, hba, hqc, hrac, hbac, hf2, kp2z⟩ := hp19
    have hs2 := kp2z.2 sA _ (one_ne (hs0.nin hq11)) h13
    refine j_callV O [.ref q9] (c_pend X.2.1 D t A g18 sA q9 bA ra ba _ none nn ss (nI (h + 1)) _ _ _ _ _ 0 0 0 hs2 hqc) hs2 rfl w181 w182 w0 w24 w183 1 rfl rfl rfl (by decide +kernel) ⟨(Nat.le_of_ble_eq_true rfl), (Nat.le_of_ble_eq_true rfl)⟩ rfl (Nat.le_of_ble_eq_true rfl) dS_branchOf_101 ⟨(Nat.le_of_ble_eq_true rfl), (by show _ ≤ qs.length + 12; omega)⟩ (fun v20 g21 hp22 => ?_)
    obtain ⟨rfl, hs3, hqz3, kp3z⟩ := hp22
    have kpA : Kp [sA] g g18 := kp16.sub kp2z (fun x hx => Or.inr (by rw [List.mem_singleton.mp hx]; exact hq11))
    have kpB : Kp [sA] g g21 := kpA.sub kp3z (fun x hx => by
      rcases List.mem_cons.mp hx with z | z
      · exact Or.inl (by rw [z]; exact List.mem_cons_self)
      · exact Or.inr (by rw [List.mem_singleton.mp z]; exact hq11))
    have hra0 : ra ∉ g.1 := kp16.nin hra
    have hba0 : ba ∉ g.1 := kp16.nin hba
    have hra3 := kp3z.2 ra _ (two_ne (hrac.ne hs2 (by simp)) (hrac.ne hqc (by simp))) hrac
    have hba3 := kp3z.2 ba _ (two_ne (hbac.ne hs2 (by simp)) (hbac.ne hqc (by simp))) hbac
    refine j_aret (o := some q9) O (Or.inl ⟨_, rfl⟩) M (Nat.le_of_ble_eq_true rfl) (by show _ ≤ qs.length + 12; omega) ⟨q9, ra, ba, rfl, hq11, hra0, hba0, ?_, kpB⟩ dS_branchOf_104
    refine hS.add hq11 hra0 hba0 hra3.1 hba3.1 (hqz3.ne hra3 (by simp)) (hqz3.ne hba3 (by simp)) hvo hnew hbl.2.2.2.1 kpB hs3 ?_
    have hsz : nsz (h + 1) qs.flatten = qs.length := by show (runs (h + 1) qs.flatten).length = _; rw [hbl.2.2.2.2.1]
    have hqz4 : gAt g21 q9 (nCell (h + 1) qs.flatten ra ba (0, 0, 0, w.2.2.2.2.2.head?)) := by
      show gAt g21 q9 (eNode _ ra ba _ (nI (nsz (h + 1) qs.flatten)) _ _ (nprt (h + 1) qs.flatten) 0 0 0 _)
      rw [hsz, ← hpn]
      exact hqz3
    rw [← hbl.1] at hba3
    refine ⟨ra, ba, 0, (fun _ => none), f2, Or.inr (Or.inl rfl), Or.inr (Or.inr rfl), hqz4, hra3, hba3, Nat.zero_le _, fun hh => absurd hh (by simp), fun _ => rfl, fun i hi => ?_, fun h2 hh => ?_⟩
    · rw [hf2 i (by rw [← hbl.1]; exact hi)]
      exact hbl.2.1 i hi
    · have hh2 : h2 = h := by
        have : h + 1 = h2 + 1 := hh
        omega
      subst hh2
      refine ⟨by show ks.length = (runs (h2 + 1) qs.flatten).length; rw [hbl.2.2.2.2.1]; exact hbl.1, fun i hi hj => ?_⟩
      have e1 := hbl.2.2.1 i hi (by rw [← hbl.1]; exact hi)
      have e2 : (runs (h2 + 1) qs.flatten)[i]'hj = qs[i]'(by rw [← hbl.1]; exact hi) := by simp only [hbl.2.2.2.2.1]
      have hne : ks[i] ≠ q9 := fun z => hq11 (z ▸ hkd _ (List.getElem_mem _))
      rw [va_up_ne _ _ hne, e1]
      exact congrArg (fun z => some (h2, z)) e2.symm
  refine j_iload_n O 1 dS_branchOf_0 rfl rfl ?_
  refine j_istore O [(5, .int (nI (h + 1))), (0, .ref sA), (1, .int (nI (h + 1))), (2, .ref s), (3, .int (nI fr)), (4, .int (nI (fr + qs.length)))] dS_branchOf_1 (by decide) rfl ?_
  refine j_iload_n O 3 dS_branchOf_3 rfl rfl ?_
  refine j_istore O [(6, .int (nI fr)), (5, .int (nI (h + 1))), (0, .ref sA), (1, .int (nI (h + 1))), (2, .ref s), (3, .int (nI fr)), (4, .int (nI (fr + qs.length)))] dS_branchOf_4 (by decide) rfl ?_
  refine J.pk [2, 3, 4, 5, 6, 1, 0] rfl ?_
  have key : ∀ L : List Nat, (∀ a ∈ L, ∃ v, w.1 a = some v ∧ inS w.2.2.2.2.1 a) → lnk (nxOf w.2.2.1) L → J X 7 (zz D t A) g 0 0 46 [(0, .ref sA), (1, .int (nI (h + 1))), (2, .ref s), (3, .int (nI fr)), (4, .int (nI (fr + qs.length))), (5, .int (prB h qs)), (6, va_rf (L.head?))] [] := by
    intro L
    induction L with
    | nil =>
      intro _ _
      refine j_aloadN O dS_branchOf_46 rfl ?_
      refine j_ifnull (o := none) O 86 dS_branchOf_48 (by decide) (fun _ => ?_) (fun y c => by cases c)
      exact HK
    | cons a L ih =>
      intro hL hl
      obtain ⟨v, hv, hSa⟩ := hL a List.mem_cons_self
      have hl1 : nxOf w.2.2.1 a = L.head? := hl.1
      refine branchOf_node (k0 := 0) (n0 := 0) (w := w) O hS hs hns hn31 hbl hrm a v hv hSa (fun hb => absurd (hb ▸ hv) (hnew a (Or.inl hSa))) (fun hne => ?_)
      rw [hl1]
      exact ih (fun b hb => hL b (List.mem_cons_of_mem _ hb)) hl.2
  have k1 := key _ (fun a h => (hch.2.2 a h).elim (fun v q => ⟨v, q.1, _, bkt_lt _, h⟩)) hch.1
  have k2 := branchOf_mid (k0 := 0) (n0 := 0) (qs := qs) (s := s) (fr := fr) O hS hrm k1
  have k3 := branchOf_print (k0 := 0) (n0 := 0) O hs hns hn31 hr k2 _ 0 (Nat.zero_add _)
  exact k3
end
section
/-- the store's world while nodes move: what the field of the pending ones holds is told apart, and nothing is said of what is below -/
def SWy (t : Nat → ClassId) (g : GH) (w : GD) (sA bA : Nat) (pf : Option Nat) (nn ss : Int32) : Prop := NI t g w ∧ gAt g sA (eSt bA pf nn ss) ∧ BKT t g bA w ∧ CHN w ∧ PND w ∧ UQ w ∧ ¬ w.2.2.2.1 sA ∧ ¬ w.2.2.2.1 bA ∧ ∀ x, w.2.2.2.1 x → x ∈ g.1
theorem SW.y {t : Nat → ClassId} {g : GH} {w : GD} {sA bA : Nat} {nn ss : Int32} (h : SW t g w sA bA nn ss) : SWy t g w sA bA w.2.2.2.2.2.head? nn ss := ⟨h.1, h.2.1, h.2.2.1, h.2.2.2.1, h.2.2.2.2.1, h.2.2.2.2.2.1, h.2.2.2.2.2.2.2.1, h.2.2.2.2.2.2.2.2.1, h.2.2.2.2.2.2.2.2.2⟩
def KN (M : List Nat) (N : NM) (g g' : GH) : Prop := (∀ b ∈ g.1, b ∈ g'.1) ∧ ∀ (x : Nat) (e : va_E), x ∉ M → N x = none → gAt g x e → gAt g' x e
theorem KN.rf {M : List Nat} {N : NM} {g : GH} : KN M N g g := ⟨fun _ h => h, fun _ _ _ _ h => h⟩
theorem KN.tr {M : List Nat} {N : NM} {g g1 g2 : GH} (h1 : KN M N g g1) (h2 : KN M N g1 g2) : KN M N g g2 := ⟨fun b h => h2.1 b (h1.1 b h), fun b e n m h => h2.2 b e n m (h1.2 b e n m h)⟩
/-- only the pointer to the next one differs -/
def muN (m m' : MU) : Prop := m'.1 = m.1 ∧ m'.2.1 = m.2.1 ∧ m'.2.2.1 = m.2.2.1
def setNx (m : MU) (o : Option Nat) : MU := (m.1, m.2.1, m.2.2.1, o)
/-- all stored nodes -/
def rgK : List Nat := List.range 1024
theorem rgK_mem {i : Nat} : i ∈ rgK ↔ i < 1024 := List.mem_range
theorem rgK_nd : rgK.Nodup := List.nodup_range
def stL (ch : Nat → List Nat) : List Nat := rgK.flatMap ch
theorem stL_in {ch : Nat → List Nat} {a : Nat} : a ∈ stL ch ↔ inS ch a := by
  unfold stL inS
  rw [List.mem_flatMap]
  constructor
  · rintro ⟨i, h1, h2⟩
    exact ⟨i, rgK_mem.mp h1, h2⟩
  · rintro ⟨i, h1, h2⟩
    exact ⟨i, rgK_mem.mpr h1, h2⟩
theorem flatMap_push {ch : Nat → List Nat} {b : Nat} {c : List Nat} : ∀ R : List Nat, R.Nodup → b ∈ R → (R.flatMap (va_up ch b (c ++ ch b))).Perm (c ++ R.flatMap ch)
  | [], _, h => by cases h
  | x :: R, hn, h => by
    rw [List.nodup_cons] at hn
    rw [List.flatMap_cons, List.flatMap_cons]
    by_cases hx : x = b
    · subst hx
      have e : R.flatMap (va_up ch x (c ++ ch x)) = R.flatMap ch := by
        rw [List.flatMap_def, List.flatMap_def]
        congr 1
        apply List.map_congr_left
        intro y hy
        exact va_up_ne _ _ (fun z => hn.1 (z ▸ hy))
      rw [va_up_self, e, List.append_assoc]
    · have hm : b ∈ R := by
        rcases List.mem_cons.mp h with z | z
        · exact absurd z.symm hx
        · exact z
      rw [va_up_ne _ _ hx]
      refine (List.Perm.append_left (ch x) (flatMap_push R hn.2 hm)).trans ?_
      rw [← List.append_assoc, ← List.append_assoc]
      exact List.Perm.append_right _ List.perm_append_comm
theorem stL_push {ch : Nat → List Nat} {b a : Nat} (hb : b < 1024) : (stL (va_up ch b (a :: ch b))).Perm (a :: stL ch) := by
  have h := flatMap_push (ch := ch) (b := b) (c := [a]) rgK rgK_nd (rgK_mem.mpr hb)
  rw [List.singleton_append, List.singleton_append] at h
  exact h
theorem stL_cut {ch : Nat → List Nat} {b : Nat} (hb : b < 1024) : (stL ch).Perm (ch b ++ stL (va_up ch b [])) := by
  have h := flatMap_push (ch := va_up ch b []) (b := b) (c := ch b) rgK rgK_nd (rgK_mem.mpr hb)
  have e : va_up (va_up ch b []) b (ch b ++ va_up ch b [] b) = ch := by
    funext j
    by_cases hj : j = b
    · subst hj; rw [va_up_self, va_up_self, List.append_nil]
    · rw [va_up_ne _ _ hj, va_up_ne _ _ hj]
  rw [e] at h
  exact h
def szV (N : NM) (a : Nat) : Nat := match N a with
  | some v => nsz v.1 v.2
  | none => 0
def szS (N : NM) (L : List Nat) : Nat := (L.map (szV N)).sum
theorem szS_cons (N : NM) (a : Nat) (L : List Nat) : szS N (a :: L) = szV N a + szS N L := by simp [szS]
theorem szS_perm {N : NM} {L L' : List Nat} (h : L.Perm L') : szS N L = szS N L' := by
  induction h with
  | nil => rfl
  | cons x _ ih => rw [szS_cons, szS_cons, ih]
  | swap x y l => rw [szS_cons, szS_cons, szS_cons, szS_cons]; omega
  | trans _ _ ih1 ih2 => exact ih1.trans ih2
theorem szS_app (N : NM) (L L' : List Nat) : szS N (L ++ L') = szS N L + szS N L' := by simp [szS]
theorem SWy.link {t : Nat → ClassId} {g g' : GH} {N : NM} {K : Nat → List Nat} {mu : Nat → MU} {I : Nat → Prop} {ch : Nat → List Nat} {L : List Nat} {sA bA a : Nat} {pf : Option Nat} {nn ss : Int32} {v : NV} {fB : Nat → Option Nat} (h : SWy t g (N, K, mu, I, ch, a :: L) sA bA pf nn ss) (hv : N a = some v) (hb : gAt g bA (eNs t 1024 fB)) (hs' : gAt g' sA (eSt bA pf nn ss)) (hb' : gAt g' bA (eNs t 1024 (va_up fB (bkt (nprt v.1 v.2)) (some a)))) (ha' : ∀ ra ba, gAt g a (nCell v.1 v.2 ra ba (mu a)) → gAt g' a (nCell v.1 v.2 ra ba (setNx (mu a) (fB (bkt (nprt v.1 v.2)))))) (hk : Kp [a, bA] g g') :
    SWy t g' (N, K, va_up mu a (setNx (mu a) (ch (bkt (nprt v.1 v.2))).head?), I, va_up ch (bkt (nprt v.1 v.2)) (a :: ch (bkt (nprt v.1 v.2))), L) sA bA pf nn ss := by
  have hbl := bkt_lt (nprt v.1 v.2)
  generalize hbe : bkt (nprt v.1 v.2) = b at *
  obtain ⟨h1, h2, h3, h4, h5, h6, h8, h9, h10⟩ := h
  obtain ⟨fB2, hb2, hf⟩ := h3
  have hfe : fB2 = fB := by
    have := hb2.eq hb
    simpa using this
  subst hfe
  have hfb : fB2 b = (ch b).head? := hf b hbl
  rw [hfb] at ha'
  have hNI := NI.mut (m := setNx (mu a) (ch b).head?) h1 hv (by
    have := (h1 a v hv).2.2.2
    exact this) (g' := g') (fun x e hx hor he => hk.2 x e (two_ne hx (fun z => by
      subst z
      rcases hor with hI | ⟨u, hu⟩
      · exact h9 hI
      · obtain ⟨ra, ba, hc⟩ := h1.cell hu
        exact absurd (hb.eq hc) (by simp))) he) ha'
  have hPa := h5.2.2 a List.mem_cons_self
  have hnd := List.nodup_cons.mp h5.2.1
  have hnx : ∀ x, x ≠ a → nxOf (va_up mu a (setNx (mu a) (ch b).head?)) x = nxOf mu x := by
    intro x hx
    unfold nxOf
    rw [va_up_ne _ _ hx]
  have hna : nxOf (va_up mu a (setNx (mu a) (ch b).head?)) a = (ch b).head? := by
    unfold nxOf
    rw [va_up_self]
    rfl
  have hin : ∀ x, inS (va_up ch b (a :: ch b)) x ↔ inS ch x ∨ x = a := by
    intro x
    constructor
    · rintro ⟨i, hi, hm⟩
      by_cases hib : i = b
      · subst hib
        rw [va_up_self] at hm
        rcases List.mem_cons.mp hm with z | z
        · exact Or.inr z
        · exact Or.inl ⟨i, hi, z⟩
      · rw [va_up_ne _ _ hib] at hm
        exact Or.inl ⟨i, hi, hm⟩
    · rintro (⟨i, hi, hm⟩ | z)
      · by_cases hib : i = b
        · subst hib
          exact ⟨i, hi, by rw [va_up_self]; exact List.mem_cons_of_mem _ hm⟩
        · exact ⟨i, hi, by rw [va_up_ne _ _ hib]; exact hm⟩
      · exact ⟨b, hbl, by rw [va_up_self, z]; exact List.mem_cons_self⟩
  refine ⟨hNI, hs', ⟨_, hb', fun i hi => ?_⟩, fun i hi => ?_, ⟨?_, hnd.2, fun x hx => ?_⟩, ?_, h8, h9, fun x hx => hk.1 x (h10 x hx)⟩
  · show va_up fB2 b (some a) i = (va_up ch b (a :: ch b) i).head?
    by_cases hib : i = b
    · subst hib; rw [va_up_self, va_up_self]; rfl
    · rw [va_up_ne _ _ hib, va_up_ne _ _ hib]; exact hf i hi
  · show lnk (nxOf (va_up mu a (setNx (mu a) (ch b).head?))) (va_up ch b (a :: ch b) i) ∧ (va_up ch b (a :: ch b) i).Nodup ∧ ∀ x ∈ va_up ch b (a :: ch b) i, ∃ v, N x = some v ∧ bkt (nprt v.1 v.2) = i
    obtain ⟨a1, a2, a3⟩ := h4 i hi
    have hani : a ∉ ch i := fun z => hPa.2 ⟨i, hi, z⟩
    have hcg : lnk (nxOf (va_up mu a (setNx (mu a) (ch b).head?))) (ch i) := a1.congr (fun x hx => hnx x (fun z => hani (z ▸ hx)))
    by_cases hib : i = b
    · subst hib
      rw [va_up_self]
      refine ⟨⟨hna, hcg⟩, List.nodup_cons.mpr ⟨hani, a2⟩, fun x hx => ?_⟩
      rcases List.mem_cons.mp hx with z | z
      · subst z; exact ⟨v, hv, hbe⟩
      · exact a3 x z
    · rw [va_up_ne _ _ hib]
      exact ⟨hcg, a2, a3⟩
  · exact h5.1.2.congr (fun x hx => hnx x (fun z => hnd.1 (z ▸ hx)))
  · have := h5.2.2 x (List.mem_cons_of_mem _ hx)
    refine ⟨this.1, fun z => ?_⟩
    rcases (hin x).mp z with y | y
    · exact this.2 y
    · exact hnd.1 (y ▸ hx)
  · intro x y u hx hy hxu hyu
    have conv : ∀ z, (inS (va_up ch b (a :: ch b)) z ∨ z ∈ L) → (inS ch z ∨ z ∈ a :: L) := by
      intro z hz
      rcases hz with hz | hz
      · rcases (hin z).mp hz with q | q
        · exact Or.inl q
        · exact Or.inr (by rw [q]; exact List.mem_cons_self)
      · exact Or.inr (List.mem_cons_of_mem _ hz)
    exact h6 x y u (conv x hx) (conv y hy) hxu hyu
set_option maxRecDepth 100000 in
set_option maxHeartbeats 1000000 in
theorem keep_count {X : CX} {D : va_G} {t : Nat → ClassId} {A : Nat → Prop} {rm : Room} {g : GH} {k0 n0 : Nat} {sA : Nat} {w : GD} {C S : Nat} (O : Ok X bS_keepPending 5 "TwinTrees$Store" (zz D t A) rm) (hI : NI t g w) (HK : J X 5 (zz D t A) g k0 n0 31 [(0, .ref sA), (1, .int (nI C)), (2, .int (nI S))] []) : ∀ (L : List Nat) (c s : Nat), (∀ a ∈ L, ∃ v, w.1 a = some v) → lnk (nxOf w.2.2.1) L → c + L.length = C → s + szS w.1 L = S → J X 5 (zz D t A) g k0 n0 9 [(0, .ref sA), (1, .int (nI c)), (2, .int (nI s)), (3, va_rf (L.head?))] [] := by
  intro L
  induction L with
  | nil =>
    intro c s _ _ hc hs
    have hc : c = C := by simpa using hc
    have hs : s = S := by simpa [szS] using hs
    subst hc; subst hs
    refine j_aload_nN O 3 dS_keepPending_9 rfl rfl ?_
    refine j_ifnull (o := none) O 31 dS_keepPending_10 (by decide) (fun c1 => ?_) (fun yw1 c1 => ?_)
    · refine J.pk [0, 1, 2] rfl ?_
      exact HK
    · cases c1
  | cons a L ih =>
    intro c s hL hl hc hs
    obtain ⟨v, hv⟩ := hL a List.mem_cons_self
    obtain ⟨ra, ba, hac⟩ := hI.cell hv
    have hl1 : (w.2.2.1 a).2.2.2 = L.head? := hl.1
    have hsz : szV w.1 a = nsz v.1 v.2 := by unfold szV; rw [hv]
    rw [szS_cons, hsz] at hs
    refine j_aload_n O 3 dS_keepPending_9 rfl rfl ?_
    refine j_ifnull (o := (some a)) O 31 dS_keepPending_10 (by decide) (fun c1 => ?_) (fun yw2 c1 => ?_)
    · cases c1
    · refine j_iinc O (nI (c + 1)) [(1, .int (nI (c + 1))), (0, .ref sA), (2, .int (nI s)), (3, .ref a)] dS_keepPending_13 rfl (nI_1 _) (by decide) rfl ?_
      refine j_iload_n O 2 dS_keepPending_16 rfl rfl ?_
      refine j_aload_n O 3 dS_keepPending_17 rfl rfl ?_
      refine j_get O uwN hac rfl 4 (by decide) w140 rfl rfl dS_keepPending_18 ?_
      refine j_iadd O dS_keepPending_21 ?_
      refine j_eqi (nI (s + (nsz v.1 v.2))) (nI_add _ _) ?_
      refine j_istore_n O 2 [(2, .int (nI (s + (nsz v.1 v.2)))), (1, .int (nI (c + 1))), (0, .ref sA), (3, .ref a)] dS_keepPending_22 rfl (by decide) rfl ?_
      refine j_aload_n O 3 dS_keepPending_23 rfl rfl ?_
      refine j_get O uwN hac rfl 11 (by decide) w155 rfl rfl dS_keepPending_24 ?_
      refine j_astore_nO (o := ((w.2.2.1 a).2.2.2)) O 3 [(3, va_rf ((w.2.2.1 a).2.2.2)), (2, .int (nI (s + (nsz v.1 v.2)))), (1, .int (nI (c + 1))), (0, .ref sA)] dS_keepPending_27 rfl (by decide) rfl ?_
      refine j_goto O 9 dS_keepPending_28 (by decide) ?_
      refine J.pk [3, 2, 1, 0] rfl ?_
      rw [hl1]
      exact ih (c + 1) (s + nsz v.1 v.2) (fun x hx => hL x (List.mem_cons_of_mem _ hx)) hl.2 (by simp at hc; omega) (by omega)
set_option maxRecDepth 100000 in
set_option maxHeartbeats 1000000 in
theorem keep_link {X : CX} {D : va_G} {t : Nat → ClassId} {A : Nat → Prop} {rm : Room} {g : GH} {k0 n0 : Nat} {sA bA c s : Nat} {nn ss : Int32} {N : NM} {K : Nat → List Nat} {mu0 : Nat → MU} {I : Nat → Prop} {ch0 : Nat → List Nat} {L0 : List Nat} (O : Ok X bS_keepPending 5 "TwinTrees$Store" (zz D t A) rm) (hrm : 2 ≤ rm.frames ∧ 60 ≤ rm.locals ∧ k0 + 0 ≤ rm.cells ∧ n0 + 0 ≤ rm.slots) (HK : ∀ (g1 : GH) (mu : Nat → MU) (ch : Nat → List Nat), SWy t g1 (N, K, mu, I, ch, []) sA bA none nn ss → (∀ x, muN (mu0 x) (mu x)) → (stL ch).Perm (stL ch0 ++ L0) → KN [sA, bA] N g g1 → J X 5 (zz D t A) g1 k0 n0 76 [(0, .ref sA), (1, .int (nI c)), (2, .int (nI s))] []) : ∀ (L : List Nat) (g1 : GH) (mu : Nat → MU) (ch : Nat → List Nat), SWy t g1 (N, K, mu, I, ch, L) sA bA none nn ss → (∀ x, muN (mu0 x) (mu x)) → (stL ch ++ L).Perm (stL ch0 ++ L0) → KN [sA, bA] N g g1 → J X 5 (zz D t A) g1 k0 n0 55 [(0, .ref sA), (1, .int (nI c)), (2, .int (nI s)), (3, va_rf (L.head?))] [] := by
  intro L
  induction L with
  | nil =>
    intro g1 mu ch hS hm hp hk
    rw [List.append_nil] at hp
    refine j_aload_nN O 3 dS_keepPending_55 rfl rfl ?_
    refine j_ifnull (o := none) O 76 dS_keepPending_56 (by decide) (fun c1 => ?_) (fun yw3 c1 => ?_)
    · refine J.pk [0, 1, 2] rfl ?_
      exact HK g1 mu ch hS hm hp hk
    · cases c1
  | cons a L ih =>
    intro g1 mu ch hS hm hp hk
    obtain ⟨v, hv⟩ := (hS.2.2.2.2.1.2.2 a List.mem_cons_self).1
    have hv : N a = some v := hv
    obtain ⟨ra, ba, hac⟩ := hS.1.cell hv
    have hl1 : (mu a).2.2.2 = L.head? := hS.2.2.2.2.1.1.1
    obtain ⟨fB, hb, hf⟩ := hS.2.2.1
    have hs0 := hS.2.1
    refine j_aload_n O 3 dS_keepPending_55 rfl rfl ?_
    refine j_ifnull (o := (some a)) O 76 dS_keepPending_56 (by decide) (fun c1 => ?_) (fun yw4 c1 => ?_)
    · cases c1
    · refine j_aload_n O 3 dS_keepPending_59 rfl rfl ?_
      refine j_get O uwN hac rfl 11 (by decide) w155 rfl rfl dS_keepPending_60 ?_
      refine j_astoreO (o := ((mu a).2.2.2)) O [(4, va_rf ((mu a).2.2.2)), (0, .ref sA), (1, .int (nI c)), (2, .int (nI s)), (3, .ref a)] dS_keepPending_63 (by decide) rfl ?_
      refine j_aload_n O 0 dS_keepPending_65 rfl rfl ?_
      refine j_aload_n O 3 dS_keepPending_66 rfl rfl ?_
      refine j_callV O [.ref a] (c_link X.2.1 D t A g1 sA bA a ra ba none _ fB nn ss _ _ _ _ _ _ _ _ _ hs0 hb hac) hs0 rfl w189 w190 w1 w24 w191 1 rfl rfl rfl (by decide +kernel) ⟨(by show 1 + 1 ≤ _; omega), (by show 8 + (_ + 11) + 30 ≤ _; omega)⟩ rfl (Nat.le_of_ble_eq_true rfl) dS_keepPending_67 ⟨hrm.2.2.1, hrm.2.2.2⟩ (fun vw5 gw6 hpw7 => ?_)
      obtain ⟨rfl, hs1, hb1, ha1, kp1⟩ := hpw7
      refine j_aloadO O dS_keepPending_70 rfl ?_
      refine j_astore_nO (o := ((mu a).2.2.2)) O 3 [(3, va_rf ((mu a).2.2.2)), (4, va_rf ((mu a).2.2.2)), (0, .ref sA), (1, .int (nI c)), (2, .int (nI s))] dS_keepPending_72 rfl (by decide) rfl ?_
      refine j_goto O 55 dS_keepPending_73 (by decide) ?_
      refine J.pk [2, 3, 4, 0] rfl ?_
      rw [hl1]
      have hS2 := SWy.link hS hv hb hs1 hb1 (fun ra' ba' hc => by
        have e := hac.eq hc
        simp only [Sum.inr.injEq, Prod.mk.injEq, List.cons.injEq, Value.ref.injEq, true_and, and_true] at e
        rw [← e.1, ← e.2]
        exact ha1) kp1
      refine ih _ _ _ hS2 (fun x => ?_) ?_ (hk.tr ⟨kp1.1, fun x e n1 n2 he => kp1.2 x e (two_ne (fun z => by rw [z, hv] at n2; cases n2) (fun z => n1 (by rw [z]; simp))) he⟩)
      · by_cases hx : x = a
        · subst hx
          rw [va_up_self]
          exact hm x
        · rw [va_up_ne _ _ hx]
          exact hm x
      · refine List.Perm.trans ?_ hp
        refine (List.Perm.append_right L (stL_push (bkt_lt _))).trans ?_
        exact List.perm_middle.symm
theorem SWy.sw {t : Nat → ClassId} {g : GH} {N : NM} {K : Nat → List Nat} {mu : Nat → MU} {I : Nat → Prop} {ch : Nat → List Nat} {sA bA : Nat} {nn ss : Int32} (h : SWy t g (N, K, mu, I, ch, []) sA bA none nn ss) (hc : ∀ a, inS ch a → ∀ b ∈ K a, inS ch b) : SW t g (N, K, mu, I, ch, []) sA bA nn ss :=
  ⟨h.1, h.2.1, h.2.2.1, h.2.2.2.1, h.2.2.2.2.1, h.2.2.2.2.2.1, ⟨hc, fun a ha => absurd ha List.not_mem_nil⟩, h.2.2.2.2.2.2.1, h.2.2.2.2.2.2.2.1, h.2.2.2.2.2.2.2.2⟩
set_option maxRecDepth 100000 in
set_option maxHeartbeats 1000000 in
theorem c_keepPending (l : Launch) (D : va_G) (t : Nat → ClassId) (A : Nat → Prop) (g : GH) (sA bA n0 s0 : Nat) (w : GD) (hS : SW t g w sA bA (nI n0) (nI s0)) (hb1 : s0 + szS w.1 w.2.2.2.2.2 < 2 ^ 30) : Ct l yS_keepPending sS_keepPending { frames := 2, cells := 0, slots := 0, locals := 60 } (zz D t A) [.ref sA] g 0 0 (fun v g' => (60000 < s0 + szS w.1 w.2.2.2.2.2 ∧ v = some (.int (-3)) ∧ SW t g' (w.1, w.2.1, w.2.2.1, w.2.2.2.1, w.2.2.2.2.1, []) sA bA (nI n0) (nI s0) ∧ KN [sA, bA] w.1 g g') ∨ (s0 + szS w.1 w.2.2.2.2.2 ≤ 60000 ∧ v = some (.int (nI w.2.2.2.2.2.length)) ∧ ∃ (mu : Nat → MU) (ch : Nat → List Nat), SW t g' (w.1, w.2.1, mu, w.2.2.2.1, ch, []) sA bA (nI (n0 + w.2.2.2.2.2.length)) (nI (s0 + szS w.1 w.2.2.2.2.2)) ∧ (∀ x, muN (w.2.2.1 x) (mu x)) ∧ (stL ch).Perm (stL w.2.2.2.2.1 ++ w.2.2.2.2.2) ∧ KN [sA, bA] w.1 g g')) := by
  refine Ct.of (cc := bS_keepPending) (maxL := 5) (ret := (some .int)) (by decide) (Nat.le_of_ble_eq_true rfl) (fun X hl O M hN => ?_)
  show J X 5 (zz D t A) g 0 0 0 [(0, .ref sA)] []
  have hs0 := hS.2.1
  obtain ⟨N, K, mu, I, ch, pd⟩ := w
  dsimp only at *
  refine j_iconst O (v := 0) dS_keepPending_0 (by decide) ?_
  refine j_istore_n O 1 [(1, .int 0), (0, .ref sA)] dS_keepPending_1 rfl (by decide) rfl ?_
  refine j_iconst O (v := 0) dS_keepPending_2 (by decide) ?_
  refine j_istore_n O 2 [(2, .int 0), (1, .int 0), (0, .ref sA)] dS_keepPending_3 rfl (by decide) rfl ?_
  refine j_aload_n O 0 dS_keepPending_4 rfl rfl ?_
  refine j_get O uwS hs0 rfl 1 (by decide) w49 rfl rfl dS_keepPending_5 ?_
  refine j_astore_nO (o := (pd.head?)) O 3 [(3, va_rf (pd.head?)), (2, .int 0), (1, .int 0), (0, .ref sA)] dS_keepPending_8 rfl (by decide) rfl ?_
  refine J.pk [3, 2, 1, 0] rfl ?_
  refine keep_count (k0 := 0) (n0 := 0) (C := pd.length) (S := szS N pd) O hS.1 ?_ pd 0 0 (fun a ha => (hS.2.2.2.2.1.2.2 a ha).1) hS.2.2.2.2.1.1 (Nat.zero_add _) (Nat.zero_add _)
  have kp0 : Kp [sA] g g := Kp.rf
  refine j_aload_n O 0 dS_keepPending_31 rfl rfl ?_
  refine j_get O uwS hs0 rfl 1 (by decide) w49 rfl rfl dS_keepPending_32 ?_
  refine j_astore_nO (o := (pd.head?)) O 3 [(3, va_rf (pd.head?)), (0, .ref sA), (1, .int (nI pd.length)), (2, .int (nI (szS N pd)))] dS_keepPending_35 rfl (by decide) rfl ?_
  refine j_aload_n O 0 dS_keepPending_36 rfl rfl ?_
  refine j_null O dS_keepPending_37 ?_
  refine j_put O uwS hs0 rfl 1 (by decide) w49 rfl tS ftS fnS rfl (.object "TwinTrees$Node") (by decide +kernel) rfl rfl (Nat.le_of_ble_eq_true rfl) [.ref bA, .null, .int (nI n0), .int (nI s0)] rfl dS_keepPending_38 (fun gw8 ew9 => ?_)
  have hw10 := gUp_self (e' := .inr (5, [.ref bA, .null, .int (nI n0), .int (nI s0)])) hs0
  rw [← ew9] at hw10
  have kpw11 := kp0.up (a := sA) (e := .inr (5, [.ref bA, .null, .int (nI n0), .int (nI s0)])) (by simp)
  rw [← ew9] at kpw11
  refine j_aload_n O 0 dS_keepPending_41 rfl rfl ?_
  refine j_get O uwS hw10 rfl 3 (by decide) w52 rfl rfl dS_keepPending_42 ?_
  refine j_iload_n O 2 dS_keepPending_45 rfl rfl ?_
  refine j_iadd O dS_keepPending_46 ?_
  refine j_eqi (nI (s0 + (szS N pd))) (nI_add _ _) ?_
  refine j_ldc O 60000 w188 dS_keepPending_47 ?_
  have hKN : KN [sA, bA] N g gw8 := ⟨kpw11.1, fun x e n1 _ he => kpw11.2 x e (one_ne (fun z => n1 (by rw [z]; simp))) he⟩
  have hSy := hS.y
  have hS1 : SWy t gw8 (N, K, mu, I, ch, pd) sA bA none (nI n0) (nI s0) := by
    obtain ⟨h1, h2, h3, h4, h5, h6, h8, h9, h10⟩ := hSy
    have hns : ∀ x, (I x ∨ ∃ v, N x = some v) → x ∉ [sA] := fun x hx => one_ne (fun z => by
      subst z
      rcases hx with hx | ⟨u, hu⟩
      · exact h8 hx
      · obtain ⟨ra, ba, hc⟩ := h1.cell hu
        exact absurd (h2.eq hc) (by simp))
    refine ⟨h1.keep (fun x e hx he => kpw11.2 x e (hns x hx) he), hw10, ?_, h4, h5, h6, h8, h9, fun x hx => kpw11.1 x (h10 x hx)⟩
    obtain ⟨fB, hb, hf⟩ := h3
    exact ⟨fB, kpw11.2 _ _ (one_ne (hb.ne h2 (by simp))) hb, hf⟩
  refine j_icmp_le O 55 dS_keepPending_49 (by decide) (fun c1 => ?_) (fun c1 => ?_)
  · have hle : s0 + szS N pd ≤ 60000 := by
      rcases Nat.lt_or_ge 60000 (s0 + szS N pd) with z | z
      · exact absurd c1 (nI_ge (a := 60000) z (by omega))
      · exact z
    refine J.pk [1, 2, 3, 0] rfl ?_
    refine keep_link (k0 := 0) (n0 := 0) (mu0 := mu) (ch0 := ch) (L0 := pd) (g := g) O ⟨by decide, by decide, by decide, by decide⟩ (fun g2 mu2 ch2 hS2 hm2 hp2 hk2 => ?_) pd gw8 mu ch hS1 (fun x => ⟨rfl, rfl, rfl⟩) (List.Perm.refl _) hKN
    have hs2 := hS2.2.1
    have kp9 : Kp [sA] g2 g2 := Kp.rf
    refine j_aload_n O 0 dS_keepPending_76 rfl rfl ?_
    refine j_dup O dS_keepPending_77 rfl ?_
    refine j_get O uwS hs2 rfl 2 (by decide) w50 rfl rfl dS_keepPending_78 ?_
    refine j_iload_n O 1 dS_keepPending_81 rfl rfl ?_
    refine j_iadd O dS_keepPending_82 ?_
    refine j_eqi (nI (n0 + pd.length)) (nI_add _ _) ?_
    refine j_put O uwS hs2 rfl 2 (by decide) w50 rfl tS ftS fnS rfl (.int) (by decide +kernel) rfl rfl (Nat.le_of_ble_eq_true rfl) [.ref bA, .null, .int (nI (n0 + pd.length)), .int (nI s0)] rfl dS_keepPending_83 (fun gw12 ew13 => ?_)
    have hw14 := gUp_self (e' := .inr (5, [.ref bA, .null, .int (nI (n0 + pd.length)), .int (nI s0)])) hs2
    rw [← ew13] at hw14
    have kpw15 := kp9.up (a := sA) (e := .inr (5, [.ref bA, .null, .int (nI (n0 + pd.length)), .int (nI s0)])) (by simp)
    rw [← ew13] at kpw15
    refine j_aload_n O 0 dS_keepPending_86 rfl rfl ?_
    refine j_dup O dS_keepPending_87 rfl ?_
    refine j_get O uwS hw14 rfl 3 (by decide) w52 rfl rfl dS_keepPending_88 ?_
    refine j_iload_n O 2 dS_keepPending_91 rfl rfl ?_
    refine j_iadd O dS_keepPending_92 ?_
    refine j_eqi (nI (s0 + (szS N pd))) (nI_add _ _) ?_
    refine j_put O uwS hw14 rfl 3 (by decide) w52 rfl tS ftS fnS rfl (.int) (by decide +kernel) rfl rfl (Nat.le_of_ble_eq_true rfl) [.ref bA, .null, .int (nI (n0 + pd.length)), .int (nI (s0 + (szS N pd)))] rfl dS_keepPending_93 (fun gw16 ew17 => ?_)
    have hw18 := gUp_self (e' := .inr (5, [.ref bA, .null, .int (nI (n0 + pd.length)), .int (nI (s0 + (szS N pd)))])) hw14
    rw [← ew17] at hw18
    have kpw19 := kpw15.up (a := sA) (e := .inr (5, [.ref bA, .null, .int (nI (n0 + pd.length)), .int (nI (s0 + (szS N pd)))])) (by simp)
    rw [← ew17] at kpw19
    refine j_iload_n O 1 dS_keepPending_96 rfl rfl ?_
    have hS3 : SWy t gw16 (N, K, mu2, I, ch2, []) sA bA none (nI (n0 + pd.length)) (nI (s0 + szS N pd)) := by
      obtain ⟨h1, h2, h3, h4, h5, h6, h8, h9, h10⟩ := hS2
      have hns : ∀ x, (I x ∨ ∃ v, N x = some v) → x ∉ [sA] := fun x hx => one_ne (fun z => by
        subst z
        rcases hx with hx | ⟨u, hu⟩
        · exact h8 hx
        · obtain ⟨ra, ba, hc⟩ := h1.cell hu
          exact absurd (h2.eq hc) (by simp))
      refine ⟨h1.keep (fun x e hx he => kpw19.2 x e (hns x hx) he), hw18, ?_, h4, h5, h6, h8, h9, fun x hx => kpw19.1 x (h10 x hx)⟩
      obtain ⟨fB, hb, hf⟩ := h3
      exact ⟨fB, kpw19.2 _ _ (one_ne (hb.ne h2 (by simp))) hb, hf⟩
    have hin : ∀ x, inS ch2 x ↔ inS ch x ∨ x ∈ pd := fun x => by
      rw [← stL_in, hp2.mem_iff, List.mem_append, stL_in]
    have hS4 := hS3.sw (fun x hx b hb => by
      rw [hin] at hx ⊢
      rcases hx with hx | hx
      · exact Or.inl (hS.2.2.2.2.2.2.1.1 x hx b hb)
      · exact hS.2.2.2.2.2.2.1.2 x hx b hb)
    exact j_iret O M (Nat.le_of_ble_eq_true rfl) (Nat.le_of_ble_eq_true rfl) (Or.inr ⟨hle, rfl, mu2, ch2, hS4, hm2, hp2, hk2.tr ⟨kpw19.1, fun x e n1 _ he => kpw19.2 x e (one_ne (fun z => n1 (by rw [z]; simp))) he⟩⟩) dS_keepPending_97
  · have hgt : 60000 < s0 + szS N pd := by
      rcases Nat.lt_or_ge 60000 (s0 + szS N pd) with z | z
      · exact z
      · exact absurd (nI_le (b := 60000) z (by omega)) c1
    have hS2 : SWy t gw8 (N, K, mu, I, ch, []) sA bA none (nI n0) (nI s0) := by
      obtain ⟨h1, h2, h3, h4, h5, h6, h8, h9, h10⟩ := hS1
      exact ⟨fun a v hv => h1 a v hv, h2, h3, h4, ⟨trivial, List.nodup_nil, fun x hx => absurd hx List.not_mem_nil⟩, fun a b v ha hb => h6 a b v (ha.imp id (fun z => absurd z List.not_mem_nil)) (hb.imp id (fun z => absurd z List.not_mem_nil)), h8, h9, h10⟩
    have hS3 := hS2.sw (fun x hx b hb => hS.2.2.2.2.2.2.1.1 x hx b hb)
    refine j_bipush O (v := -3) dS_keepPending_52 (by decide) ?_
    exact j_iret O M (Nat.le_of_ble_eq_true rfl) (Nat.le_of_ble_eq_true rfl) (Or.inl ⟨hgt, rfl, hS3, hKN⟩) dS_keepPending_54
end
section
theorem SWy.no {t : Nat → ClassId} {g : GH} {w : GD} {sA bA : Nat} {pf : Option Nat} {nn ss : Int32} (h : SWy t g w sA bA pf nn ss) {x : Nat} (hx : w.2.2.2.1 x ∨ ∃ v, w.1 x = some v) : x ≠ sA ∧ x ≠ bA := by
  obtain ⟨h1, h2, ⟨fB, hb, -⟩, -, -, -, h8, h9, -⟩ := h
  refine ⟨fun z => ?_, fun z => ?_⟩
  · subst z
    rcases hx with hx | ⟨u, hu⟩
    · exact h8 hx
    · obtain ⟨ra, ba, hc⟩ := h1.cell hu
      exact absurd (h2.eq hc) (by simp)
  · subst z
    rcases hx with hx | ⟨u, hu⟩
    · exact h9 hx
    · obtain ⟨ra, ba, hc⟩ := h1.cell hu
      exact absurd (hb.eq hc) (by simp)
theorem SWy.top {t : Nat → ClassId} {g g' : GH} {w : GD} {sA bA : Nat} {pf pf' : Option Nat} {nn ss nn' ss' : Int32} (h : SWy t g w sA bA pf nn ss) (hk : Kp [sA] g g') (hs : gAt g' sA (eSt bA pf' nn' ss')) : SWy t g' w sA bA pf' nn' ss' := by
  have hno := fun x hx => h.no (x := x) hx
  obtain ⟨h1, h2, h3, h4, h5, h6, h8, h9, hd⟩ := h
  refine ⟨h1.keep (fun x e hx he => hk.2 x e (one_ne (hno x hx).1) he), hs, ?_, h4, h5, h6, h8, h9, fun x hx => hk.1 x (hd x hx)⟩
  obtain ⟨fB, hb, hf⟩ := h3
  exact ⟨fB, hk.2 _ _ (one_ne (hb.ne h2 (by simp))) hb, hf⟩
theorem SWy.forget {t : Nat → ClassId} {g : GH} {N : NM} {K : Nat → List Nat} {mu : Nat → MU} {I : Nat → Prop} {ch : Nat → List Nat} {a : Nat} {L : List Nat} {sA bA : Nat} {pf : Option Nat} {nn ss : Int32} (h : SWy t g (N, K, mu, I, ch, a :: L) sA bA pf nn ss) : SWy t g (N, K, mu, I, ch, L) sA bA pf nn ss := by
  obtain ⟨h1, h2, h3, h4, h5, h6, h8, h9, hd⟩ := h
  exact ⟨fun x v hv => h1 x v hv, h2, h3, h4, ⟨h5.1.2, (List.nodup_cons.mp h5.2.1).2, fun x hx => h5.2.2 x (List.mem_cons_of_mem _ hx)⟩, fun x y u hx hy => h6 x y u (hx.imp id (fun z => List.mem_cons_of_mem _ z)) (hy.imp id (fun z => List.mem_cons_of_mem _ z)), h8, h9, hd⟩
/-- a bucket's chain is taken out -/
theorem SWy.cut {t : Nat → ClassId} {g g' : GH} {N : NM} {K : Nat → List Nat} {mu : Nat → MU} {I : Nat → Prop} {ch : Nat → List Nat} {sA bA i : Nat} {pf : Option Nat} {nn ss : Int32} {fB : Nat → Option Nat} (h : SWy t g (N, K, mu, I, ch, []) sA bA pf nn ss) (hi : i < 1024) (hb : gAt g bA (eNs t 1024 fB)) (hk : Kp [bA] g g') (hb' : gAt g' bA (eNs t 1024 (va_up fB i none))) : SWy t g' (N, K, mu, I, va_up ch i [], ch i) sA bA pf nn ss := by
  have hno := fun x hx => h.no (x := x) hx
  obtain ⟨h1, h2, ⟨fB2, hb2, hf⟩, h4, h5, h6, h8, h9, hd⟩ := h
  have hfe : fB2 = fB := by
    have := hb2.eq hb
    simpa using this
  subst hfe
  have hin : ∀ x, inS (va_up ch i []) x → inS ch x ∧ x ∉ ch i := by
    rintro x ⟨j, hj, hm⟩
    by_cases hji : j = i
    · subst hji; rw [va_up_self] at hm; cases hm
    · rw [va_up_ne _ _ hji] at hm
      refine ⟨⟨j, hj, hm⟩, fun z => ?_⟩
      obtain ⟨v, hv, e1⟩ := (h4 j hj).2.2 x hm
      obtain ⟨v', hv', e2⟩ := (h4 i hi).2.2 x z
      rw [hv] at hv'
      cases hv'
      exact hji (e1.symm.trans e2)
  have hNI := h1.keep (g' := g') (fun x e hx he => hk.2 x e (one_ne (hno x hx).2) he)
  refine ⟨fun x v hv => hNI x v hv, hk.2 _ _ (one_ne (h2.ne hb2 (by simp))) h2, ⟨_, hb', fun j hj => ?_⟩, fun j hj => ?_, ⟨(h4 i hi).1, (h4 i hi).2.1, fun x hx => ⟨?_, fun z => (hin x z).2 hx⟩⟩, ?_, h8, h9, fun x hx => hk.1 x (hd x hx)⟩
  · show va_up fB2 i none j = (va_up ch i [] j).head?
    by_cases hji : j = i
    · subst hji; rw [va_up_self, va_up_self]; rfl
    · rw [va_up_ne _ _ hji, va_up_ne _ _ hji]; exact hf j hj
  · show lnk (nxOf mu) (va_up ch i [] j) ∧ (va_up ch i [] j).Nodup ∧ ∀ x ∈ va_up ch i [] j, ∃ v, N x = some v ∧ bkt (nprt v.1 v.2) = j
    by_cases hji : j = i
    · subst hji; rw [va_up_self]; exact ⟨trivial, List.nodup_nil, fun x hx => absurd hx List.not_mem_nil⟩
    · rw [va_up_ne _ _ hji]; exact h4 j hj
  · obtain ⟨v, hv, -⟩ := (h4 i hi).2.2 x hx
    exact ⟨v, hv⟩
  · intro x y u hx hy hxu hyu
    have conv : ∀ z, (inS (va_up ch i []) z ∨ z ∈ ch i) → (inS ch z ∨ z ∈ []) := by
      rintro z (hz | hz)
      · exact Or.inl (hin z hz).1
      · exact Or.inl ⟨i, hi, hz⟩
    exact h6 x y u (conv x hx) (conv y hy) hxu hyu
/-- what dropWithout has done so far: buckets below i are through, L is left of bucket i, Dl is dropped -/
def DW (t : Nat → ClassId) (g g1 : GH) (N : NM) (K : Nat → List Nat) (mu0 mu : Nat → MU) (I : Nat → Prop) (ch0 ch : Nat → List Nat) (L Dl : List Nat) (sA bA i : Nat) (nn st : Int32) : Prop :=
  SWy t g1 (N, K, mu, I, ch, L) sA bA none nn (nI (szS N (stL ch ++ L))) ∧ (∀ x, muN (mu0 x) (mu x)) ∧ (stL ch ++ L ++ Dl).Perm (stL ch0) ∧ (∀ x ∈ Dl, (mu0 x).2.2.1 ≠ st) ∧ (∀ j, j < i → ∀ x ∈ ch j, (mu0 x).2.2.1 = st) ∧ KN [sA, bA] N g g1
set_option maxRecDepth 100000 in
set_option maxHeartbeats 1000000 in
theorem drop_inner {X : CX} {D : va_G} {t : Nat → ClassId} {A : Nat → Prop} {rm : Room} {g : GH} {k0 n0 : Nat} {sA bA : Nat} {nn st : Int32} {N : NM} {K : Nat → List Nat} {mu0 : Nat → MU} {I : Nat → Prop} {ch0 : Nat → List Nat} {i : Nat} (O : Ok X bS_dropWithout 6 "TwinTrees$Store" (zz D t A) rm) (hrm : 2 ≤ rm.frames ∧ 60 ≤ rm.locals ∧ k0 + 0 ≤ rm.cells ∧ n0 + 0 ≤ rm.slots) (hi : i < 1024) (hb0 : szS N (stL ch0) < 2 ^ 30) (HK : ∀ (g1 : GH) (mu : Nat → MU) (ch : Nat → List Nat) (Dl : List Nat), DW t g g1 N K mu0 mu I ch0 ch [] Dl sA bA (i + 1) nn st → J X 6 (zz D t A) g1 k0 n0 4 [(0, .ref sA), (1, .int st), (2, .int (nI Dl.length)), (3, .int (nI (i + 1)))] []) : ∀ (L : List Nat) (g1 : GH) (mu : Nat → MU) (ch : Nat → List Nat) (Dl : List Nat), DW t g g1 N K mu0 mu I ch0 ch L Dl sA bA i nn st → (∀ x ∈ L, ∃ v, N x = some v ∧ bkt (nprt v.1 v.2) = i) → (∀ x ∈ ch i, (mu0 x).2.2.1 = st) → J X 6 (zz D t A) g1 k0 n0 26 [(0, .ref sA), (1, .int st), (2, .int (nI Dl.length)), (3, .int (nI i)), (4, va_rf (L.head?))] [] := by
  intro L
  induction L with
  | nil =>
    intro g1 mu ch Dl hD hL hci
    refine j_aloadN O dS_dropWithout_26 rfl ?_
    refine j_ifnull (o := none) O 80 dS_dropWithout_28 (by decide) (fun c1 => ?_) (fun yw1 c1 => ?_)
    · refine j_iinc O (nI (i + 1)) [(3, .int (nI (i + 1))), (0, .ref sA), (1, .int st), (2, .int (nI Dl.length)), (4, .null)] dS_dropWithout_80 rfl (nI_1 _) (by decide) rfl ?_
      refine j_goto O 4 dS_dropWithout_83 (by decide) ?_
      refine J.pk [1, 2, 3, 0] rfl ?_
      refine HK g1 mu ch Dl ⟨hD.1, hD.2.1, hD.2.2.1, hD.2.2.2.1, fun j hj x hx => ?_, hD.2.2.2.2.2⟩
      rcases Nat.lt_or_ge j i with z | z
      · exact hD.2.2.2.2.1 j z x hx
      · have : j = i := by omega
        subst this
        exact hci x hx
    · cases c1
  | cons a L ih =>
    intro g1 mu ch Dl hD hL hci
    obtain ⟨hS, hm, hp, hDl, hlow, hkn⟩ := hD
    obtain ⟨v, hv, hbi⟩ := hL a List.mem_cons_self
    obtain ⟨ra, ba, hac⟩ := hS.1.cell hv
    have hl1 : (mu a).2.2.2 = L.head? := hS.2.2.2.2.1.1.1
    obtain ⟨fB, hb, hf⟩ := hS.2.2.1
    have hs0 := hS.2.1
    have hst : (mu a).2.2.1 = (mu0 a).2.2.1 := (hm a).2.2
    have hszv : szV N a = nsz v.1 v.2 := by unfold szV; rw [hv]
    have hsz1 : szS N (stL ch ++ a :: L) = szS N (stL ch ++ L) + nsz v.1 v.2 := by rw [szS_app, szS_app, szS_cons, hszv]; omega
    have hszt : szS N (stL ch ++ a :: L) ≤ szS N (stL ch0) := by rw [← szS_perm hp, szS_app N (stL ch ++ a :: L)]; omega
    refine j_aload O dS_dropWithout_26 rfl ?_
    refine j_ifnull (o := (some a)) O 80 dS_dropWithout_28 (by decide) (fun c1 => ?_) (fun yw2 c1 => ?_)
    · cases c1
    · refine j_aload O dS_dropWithout_31 rfl ?_
      refine j_get O uwN hac rfl 11 (by decide) w155 rfl rfl dS_dropWithout_33 ?_
      refine j_astoreO (o := ((mu a).2.2.2)) O [(5, va_rf ((mu a).2.2.2)), (0, .ref sA), (1, .int st), (2, .int (nI Dl.length)), (3, .int (nI i)), (4, .ref a)] dS_dropWithout_36 (by decide) rfl ?_
      refine j_aload O dS_dropWithout_38 rfl ?_
      refine j_get O uwN hac rfl 10 (by decide) w152 rfl rfl dS_dropWithout_40 ?_
      refine j_iload_n O 1 dS_dropWithout_43 rfl rfl ?_
      refine j_icmp_ne O 56 dS_dropWithout_44 (by decide) (fun c2 => ?_) (fun c2 => ?_)
      · have kp0 : Kp [sA] g1 g1 := Kp.rf
        refine j_iinc O (nI (Dl.length + 1)) [(2, .int (nI (Dl.length + 1))), (5, va_rf ((mu a).2.2.2)), (0, .ref sA), (1, .int st), (3, .int (nI i)), (4, .ref a)] dS_dropWithout_56 rfl (nI_1 _) (by decide) rfl ?_
        refine j_aload_n O 0 dS_dropWithout_59 rfl rfl ?_
        refine j_dup O dS_dropWithout_60 rfl ?_
        refine j_get O uwS hs0 rfl 3 (by decide) w52 rfl rfl dS_dropWithout_61 ?_
        refine j_aload O dS_dropWithout_64 rfl ?_
        refine j_get O uwN hac rfl 4 (by decide) w140 rfl rfl dS_dropWithout_66 ?_
        refine j_isub O dS_dropWithout_69 ?_
        refine j_eqi (nI (szS N (stL ch ++ a :: L) - (nsz v.1 v.2))) (pk_sub (by omega)) ?_
        refine j_eqi (nI (szS N (stL ch ++ L))) (by rw [hsz1, Nat.add_sub_cancel]) ?_
        refine j_put O uwS hs0 rfl 3 (by decide) w52 rfl tS ftS fnS rfl (.int) (by decide +kernel) rfl rfl (Nat.le_of_ble_eq_true rfl) [.ref bA, .null, .int nn, .int (nI (szS N (stL ch ++ L)))] rfl dS_dropWithout_70 (fun gw3 ew4 => ?_)
        have hw5 := gUp_ne (e' := .inr (5, [.ref bA, .null, .int nn, .int (nI (szS N (stL ch ++ L)))])) hac (hac.ne hs0 (by simp))
        rw [← ew4] at hw5
        have hw6 := gUp_self (e' := .inr (5, [.ref bA, .null, .int nn, .int (nI (szS N (stL ch ++ L)))])) hs0
        rw [← ew4] at hw6
        have kpw7 := kp0.up (a := sA) (e := .inr (5, [.ref bA, .null, .int nn, .int (nI (szS N (stL ch ++ L)))])) (by simp)
        rw [← ew4] at kpw7
        refine j_aloadO O dS_dropWithout_73 rfl ?_
        refine j_astoreO (o := ((mu a).2.2.2)) O [(4, va_rf ((mu a).2.2.2)), (2, .int (nI (Dl.length + 1))), (5, va_rf ((mu a).2.2.2)), (0, .ref sA), (1, .int st), (3, .int (nI i))] dS_dropWithout_75 (by decide) rfl ?_
        refine j_goto O 26 dS_dropWithout_77 (by decide) ?_
        refine J.pk [3, 4, 1, 5, 0] rfl ?_
        rw [hl1]
        have hS2 : SWy t gw3 (N, K, mu, I, ch, L) sA bA none nn (nI (szS N (stL ch ++ L))) := (hS.top (pf' := none) kpw7 hw6).forget
        have hlen : nI (Dl.length + 1) = nI (a :: Dl).length := rfl
        rw [hlen]
        refine ih _ mu ch (a :: Dl) ⟨hS2, hm, ?_, fun x hx => ?_, hlow, hkn.tr ⟨kpw7.1, fun x e n1 _ he => kpw7.2 x e (one_ne (fun z => n1 (by rw [z]; simp))) he⟩⟩ (fun x hx => hL x (List.mem_cons_of_mem _ hx)) hci
        · refine List.Perm.trans ?_ hp
          rw [List.append_assoc, List.append_assoc, List.cons_append]
          exact List.Perm.append_left _ List.perm_middle
        · rcases List.mem_cons.mp hx with z | z
          · rw [z, ← hst]; exact c2
          · exact hDl x z
      · refine j_aload_n O 0 dS_dropWithout_47 rfl rfl ?_
        refine j_aload O dS_dropWithout_48 rfl ?_
        refine j_callV O [.ref a] (c_link X.2.1 D t A g1 sA bA a ra ba none _ fB nn _ _ _ _ _ _ _ _ _ _ hs0 hb hac) hs0 rfl w189 w190 w1 w24 w191 1 rfl rfl rfl (by decide +kernel) ⟨(by show 1 + 1 ≤ _; omega), (by show 8 + (_ + 11) + 30 ≤ _; omega)⟩ rfl (Nat.le_of_ble_eq_true rfl) dS_dropWithout_50 ⟨hrm.2.2.1, hrm.2.2.2⟩ (fun vw8 gw9 hpw10 => ?_)
        obtain ⟨rfl, hs1, hb1, ha1, kp1⟩ := hpw10
        refine j_goto O 73 dS_dropWithout_53 (by decide) ?_
        refine j_aloadO O dS_dropWithout_73 rfl ?_
        refine j_astoreO (o := ((mu a).2.2.2)) O [(4, va_rf ((mu a).2.2.2)), (5, va_rf ((mu a).2.2.2)), (0, .ref sA), (1, .int st), (2, .int (nI Dl.length)), (3, .int (nI i))] dS_dropWithout_75 (by decide) rfl ?_
        refine j_goto O 26 dS_dropWithout_77 (by decide) ?_
        refine J.pk [2, 3, 4, 5, 0] rfl ?_
        rw [hl1]
        have hS2 := SWy.link hS hv hb hs1 hb1 (fun ra' ba' hc => by
          have e := hac.eq hc
          simp only [Sum.inr.injEq, Prod.mk.injEq, List.cons.injEq, Value.ref.injEq, true_and, and_true] at e
          rw [← e.1, ← e.2]
          exact ha1) kp1
        rw [hbi] at hS2
        have hpp : (stL (va_up ch i (a :: ch i)) ++ L).Perm (stL ch ++ a :: L) := (List.Perm.append_right L (stL_push hi)).trans List.perm_middle.symm
        rw [← szS_perm hpp] at hS2
        have hv : N a = some v := hv
        refine ih _ _ _ Dl ⟨hS2, fun x => ?_, ?_, hDl, fun j hj x hx => ?_, hkn.tr ⟨kp1.1, fun x e n1 n2 he => kp1.2 x e (two_ne (fun z => by rw [z, hv] at n2; cases n2) (fun z => n1 (by rw [z]; simp))) he⟩⟩ (fun x hx => hL x (List.mem_cons_of_mem _ hx)) (fun x hx => ?_)
        · by_cases hx : x = a
          · subst hx
            rw [va_up_self]
            exact hm x
          · rw [va_up_ne _ _ hx]
            exact hm x
        · exact (List.Perm.append_right Dl hpp).trans hp
        · rw [va_up_ne _ _ (by omega)] at hx
          exact hlow j hj x hx
        · rw [va_up_self] at hx
          rcases List.mem_cons.mp hx with z | z
          · rw [z, ← hst]; exact c2
          · exact hci x z
set_option maxRecDepth 100000 in
set_option maxHeartbeats 1000000 in
theorem drop_outer {X : CX} {D : va_G} {t : Nat → ClassId} {A : Nat → Prop} {rm : Room} {g : GH} {k0 n0 : Nat} {sA bA : Nat} {nn st : Int32} {N : NM} {K : Nat → List Nat} {mu0 : Nat → MU} {I : Nat → Prop} {ch0 : Nat → List Nat} (O : Ok X bS_dropWithout 6 "TwinTrees$Store" (zz D t A) rm) (hrm : 2 ≤ rm.frames ∧ 60 ≤ rm.locals ∧ k0 + 0 ≤ rm.cells ∧ n0 + 0 ≤ rm.slots) (hb0 : szS N (stL ch0) < 2 ^ 30) (HK : ∀ (g1 : GH) (mu : Nat → MU) (ch : Nat → List Nat) (Dl : List Nat), DW t g g1 N K mu0 mu I ch0 ch [] Dl sA bA 1024 nn st → J X 6 (zz D t A) g1 k0 n0 86 [(0, .ref sA), (1, .int st), (2, .int (nI Dl.length))] []) : ∀ (k i : Nat) (g1 : GH) (mu : Nat → MU) (ch : Nat → List Nat) (Dl : List Nat), i + k = 1024 → DW t g g1 N K mu0 mu I ch0 ch [] Dl sA bA i nn st → J X 6 (zz D t A) g1 k0 n0 4 [(0, .ref sA), (1, .int st), (2, .int (nI Dl.length)), (3, .int (nI i))] [] := by
  intro k
  induction k with
  | zero =>
    intro i g1 mu ch Dl hi hD
    have hi : i = 1024 := by omega
    subst hi
    refine j_iload_n O 3 dS_dropWithout_4 rfl rfl ?_
    refine j_sipush O (v := 1024) dS_dropWithout_5 (by decide) ?_
    refine j_icmp_ge O 86 dS_dropWithout_8 (by decide) (fun c1 => ?_) (fun c1 => ?_)
    · refine J.pk [0, 1, 2] rfl ?_
      exact HK g1 mu ch Dl hD
    · exact absurd (by decide) c1
  | succ k ih =>
    intro i g1 mu ch Dl hi hD
    obtain ⟨hS, hm, hp, hDl, hlow, hkn⟩ := hD
    obtain ⟨fB, hb, hf⟩ := hS.2.2.1
    have hs0 := hS.2.1
    have hi1 : i < 1024 := by omega
    have hfi : fB i = (ch i).head? := hf i hi1
    refine j_iload_n O 3 dS_dropWithout_4 rfl rfl ?_
    refine j_sipush O (v := 1024) dS_dropWithout_5 (by decide) ?_
    refine j_icmp_ge O 86 dS_dropWithout_8 (by decide) (fun c1 => ?_) (fun c1 => ?_)
    · exact absurd c1 (nI_ge (b := 1024) hi1 (by omega))
    · have kp0 : Kp [bA] g1 g1 := Kp.rf
      refine j_aload_n O 0 dS_dropWithout_11 rfl rfl ?_
      refine j_get O uwS hs0 rfl 0 (by decide) w48 rfl rfl dS_dropWithout_12 ?_
      refine j_iload_n O 3 dS_dropWithout_15 rfl rfl ?_
      refine j_aald O hb 2 rfl (by omega) (by omega) dS_dropWithout_16 ?_
      refine j_oeq ((ch i).head?) hfi ?_
      refine j_astoreO (o := ((ch i).head?)) O [(4, va_rf ((ch i).head?)), (0, .ref sA), (1, .int st), (2, .int (nI Dl.length)), (3, .int (nI i))] dS_dropWithout_17 (by decide) rfl ?_
      refine j_aload_n O 0 dS_dropWithout_19 rfl rfl ?_
      refine j_get O uwS hs0 rfl 0 (by decide) w48 rfl rfl dS_dropWithout_20 ?_
      refine j_iload_n O 3 dS_dropWithout_23 rfl rfl ?_
      refine j_null O dS_dropWithout_24 ?_
      refine j_aastN O hb 2 rfl hi1 (by omega) dS_dropWithout_25 (fun gw11 ew12 => ?_)
      have hw13 := gUp_ne (e' := .inl (t 2, 1024, .inr (.inr (.inr (.inr (va_up fB i none)))))) hs0 (hs0.ne hb (by simp))
      rw [← ew12] at hw13
      have hw14 := gUp_self (e' := .inl (t 2, 1024, .inr (.inr (.inr (.inr (va_up fB i none)))))) hb
      rw [← ew12] at hw14
      have kpw15 := kp0.up (a := bA) (e := .inl (t 2, 1024, .inr (.inr (.inr (.inr (va_up fB i none)))))) (by simp)
      rw [← ew12] at kpw15
      refine J.pk [1, 2, 3, 4, 0] rfl ?_
      have hS2 := hS.cut hi1 hb kpw15 hw14
      have hpp : (stL (va_up ch i []) ++ ch i).Perm (stL ch ++ []) := by
        rw [List.append_nil]
        exact (List.perm_append_comm.trans (stL_cut hi1).symm)
      rw [← szS_perm hpp] at hS2
      refine drop_inner (k0 := k0) (n0 := n0) (mu0 := mu0) (ch0 := ch0) (g := g) O hrm hi1 hb0 (fun g2 mu2 ch2 Dl2 hD2 => ih (i + 1) g2 mu2 ch2 Dl2 (by omega) hD2) (ch i) _ mu _ Dl ⟨hS2, hm, (List.Perm.append_right Dl hpp).trans hp, hDl, fun j hj x hx => ?_, hkn.tr ⟨kpw15.1, fun x e n1 _ he => kpw15.2 x e (one_ne (fun z => n1 (by rw [z]; simp))) he⟩⟩ (fun x hx => (hS.2.2.2.1 i hi1).2.2 x hx) (fun x hx => by rw [va_up_self] at hx; cases hx)
      rw [va_up_ne _ _ (by omega)] at hx
      exact hlow j hj x hx
set_option maxRecDepth 100000 in
set_option maxHeartbeats 1000000 in
theorem c_dropWithout (l : Launch) (D : va_G) (t : Nat → ClassId) (A : Nat → Prop) (g : GH) (sA bA : Nat) (st : Int32) (w : GD) (hS : SW t g w sA bA (nI (stL w.2.2.2.2.1).length) (nI (szS w.1 (stL w.2.2.2.2.1)))) (hpd : w.2.2.2.2.2 = []) (hb0 : szS w.1 (stL w.2.2.2.2.1) < 2 ^ 30) (hb1 : (stL w.2.2.2.2.1).length < 2 ^ 30) (hcl : ∀ x, inS w.2.2.2.2.1 x → (w.2.2.1 x).2.2.1 = st → ∀ b ∈ w.2.1 x, (w.2.2.1 b).2.2.1 = st) : Ct l yS_dropWithout sS_dropWithout { frames := 2, cells := 0, slots := 0, locals := 60 } (zz D t A) [.ref sA, .int st] g 0 0 (fun v g' => ∃ (mu : Nat → MU) (ch : Nat → List Nat) (Dl : List Nat), v = some (.int (nI Dl.length)) ∧ SW t g' (w.1, w.2.1, mu, w.2.2.2.1, ch, []) sA bA (nI (stL ch).length) (nI (szS w.1 (stL ch))) ∧ (∀ x, muN (w.2.2.1 x) (mu x)) ∧ (stL ch ++ Dl).Perm (stL w.2.2.2.2.1) ∧ (∀ x ∈ Dl, (w.2.2.1 x).2.2.1 ≠ st) ∧ (∀ x, inS ch x → (w.2.2.1 x).2.2.1 = st) ∧ KN [sA, bA] w.1 g g') := by
  refine Ct.of (cc := bS_dropWithout) (maxL := 6) (ret := (some .int)) (by decide) (Nat.le_of_ble_eq_true rfl) (fun X hl O M hN => ?_)
  show J X 6 (zz D t A) g 0 0 0 [(0, .ref sA), (1, .int st)] []
  obtain ⟨N, K, mu, I, ch, pd⟩ := w
  dsimp only at *
  subst hpd
  have hSy : SWy t g (N, K, mu, I, ch, []) sA bA none (nI (stL ch).length) (nI (szS N (stL ch ++ []))) := by
    rw [List.append_nil]; exact hS.y
  have hD : DW t g g N K mu mu I ch ch [] [] sA bA 0 (nI (stL ch).length) st := ⟨hSy, fun x => ⟨rfl, rfl, rfl⟩, by rw [List.append_nil, List.append_nil], fun x hx => (by cases hx), fun j hj => by omega, KN.rf⟩
  refine j_iconst O (v := 0) dS_dropWithout_0 (by decide) ?_
  refine j_istore_n O 2 [(2, .int 0), (0, .ref sA), (1, .int st)] dS_dropWithout_1 rfl (by decide) rfl ?_
  refine j_iconst O (v := 0) dS_dropWithout_2 (by decide) ?_
  refine j_istore_n O 3 [(3, .int 0), (2, .int 0), (0, .ref sA), (1, .int st)] dS_dropWithout_3 rfl (by decide) rfl ?_
  refine J.pk [2, 3, 1, 0] rfl ?_
  refine drop_outer (k0 := 0) (n0 := 0) (mu0 := mu) (ch0 := ch) (g := g) O ⟨by decide, by decide, by decide, by decide⟩ hb0 (fun g2 mu2 ch2 Dl hD2 => ?_) 1024 0 g mu ch [] rfl hD
  obtain ⟨hS2, hm2, hp2, hDl, hlow, hk2⟩ := hD2
  rw [List.append_nil] at hS2 hp2
  have hs2 := hS2.2.1
  have hlen := hp2.length_eq
  rw [List.length_append] at hlen
  have kp9 : Kp [sA] g2 g2 := Kp.rf
  refine j_aload_n O 0 dS_dropWithout_86 rfl rfl ?_
  refine j_dup O dS_dropWithout_87 rfl ?_
  refine j_get O uwS hs2 rfl 2 (by decide) w50 rfl rfl dS_dropWithout_88 ?_
  refine j_iload_n O 2 dS_dropWithout_91 rfl rfl ?_
  refine j_isub O dS_dropWithout_92 ?_
  refine j_eqi (nI ((stL ch).length - Dl.length)) (pk_sub (by omega)) ?_
  refine j_eqi (nI (stL ch2).length) (by rw [show (stL ch).length - Dl.length = (stL ch2).length by omega]) ?_
  refine j_put O uwS hs2 rfl 2 (by decide) w50 rfl tS ftS fnS rfl (.int) (by decide +kernel) rfl rfl (Nat.le_of_ble_eq_true rfl) [.ref bA, .null, .int (nI (stL ch2).length), .int (nI (szS N (stL ch2)))] rfl dS_dropWithout_93 (fun gw16 ew17 => ?_)
  have hw18 := gUp_self (e' := .inr (5, [.ref bA, .null, .int (nI (stL ch2).length), .int (nI (szS N (stL ch2)))])) hs2
  rw [← ew17] at hw18
  have kpw19 := kp9.up (a := sA) (e := .inr (5, [.ref bA, .null, .int (nI (stL ch2).length), .int (nI (szS N (stL ch2)))])) (by simp)
  rw [← ew17] at kpw19
  refine j_iload_n O 2 dS_dropWithout_96 rfl rfl ?_
  have hin : ∀ x, inS ch2 x → (mu x).2.2.1 = st := by
    rintro x ⟨j, hj, hx⟩
    exact hlow j hj x hx
  have hS3 := (hS2.top (pf' := none) kpw19 hw18).sw (fun x hx b hb => by
    have hx1 : inS ch x := by rw [← stL_in, ← hp2.mem_iff, List.mem_append, stL_in]; exact Or.inl hx
    have hb1 : inS ch b := hS.2.2.2.2.2.2.1.1 x hx1 b hb
    rw [← stL_in, ← hp2.mem_iff, List.mem_append] at hb1
    rcases hb1 with z | z
    · exact stL_in.mp z
    · exact absurd (hcl x hx1 (hin x hx) b hb) (hDl b z))
  exact j_iret O M (Nat.le_of_ble_eq_true rfl) (Nat.le_of_ble_eq_true rfl) ⟨mu2, ch2, Dl, rfl, hS3, hm2, hp2, hDl, hin, hk2.tr ⟨kpw19.1, fun x e n1 _ he => kpw19.2 x e (one_ne (fun z => n1 (by rw [z]; simp))) he⟩⟩ dS_dropWithout_97
end
section
/-- what a comparison finds: (key, side, bits) -/
def mrg : Nat → List RV → List RV → List (Int32 × Int32 × Int32)
  | 0, _, _ => []
  | _ + 1, [], [] => []
  | n + 1, r :: rs, [] => (r.1, 1, 0) :: mrg n rs []
  | n + 1, [], s :: ss => (s.1, 0, 0) :: mrg n [] ss
  | n + 1, r :: rs, s :: ss => if r.1 < s.1 then (r.1, 1, 0) :: mrg n rs (s :: ss) else if s.1 < r.1 then (s.1, 0, 0) :: mrg n (r :: rs) ss else if unl r s = 0 then mrg n rs ss else (r.1, 2, unl r s) :: mrg n rs ss
theorem mrg_len : ∀ (n : Nat) (rs ss : List RV), (mrg n rs ss).length ≤ rs.length + ss.length
  | 0, _, _ => Nat.zero_le _
  | _ + 1, [], [] => Nat.zero_le _
  | n + 1, r :: rs, [] => by have := mrg_len n rs []; simp [mrg] at *; omega
  | n + 1, [], s :: ss => by have := mrg_len n [] ss; simp [mrg] at *; omega
  | n + 1, r :: rs, s :: ss => by
    have h1 := mrg_len n rs (s :: ss)
    have h2 := mrg_len n (r :: rs) ss
    have h3 := mrg_len n rs ss
    rw [mrg]
    split
    · simp at *; omega
    · split
      · simp at *; omega
      · split
        · simp at *; omega
        · simp at *; omega
theorem four_ne {x a b c d : Nat} (h1 : x ≠ a) (h2 : x ≠ b) (h3 : x ≠ c) (h4 : x ≠ d) : x ∉ [a, b, c, d] := fun q => by
  simp only [List.mem_cons, List.not_mem_nil, or_false] at q
  rcases q with z | z | z | z
  · exact h1 z
  · exact h2 z
  · exact h3 z
  · exact h4 z
/-- the three arrays hold these differences -/
def dfs (fk fs fu : Nat → Int32) (ds : List (Int32 × Int32 × Int32)) : Prop := ∀ i (h : i < ds.length), fk i = ds[i].1 ∧ fs i = ds[i].2.1 ∧ fu i = ds[i].2.2
theorem dfs.push {fk fs fu : Nat → Int32} {ds : List (Int32 × Int32 × Int32)} (h : dfs fk fs fu ds) (x y z : Int32) : dfs (upd fk ds.length x) (upd fs ds.length y) (upd fu ds.length z) (ds ++ [(x, y, z)]) := by
  intro i hi
  rw [List.length_append] at hi
  rcases Nat.lt_or_ge i ds.length with q | q
  · rw [pk_un (by omega), pk_un (by omega), pk_un (by omega), List.getElem_append_left q]
    exact h i q
  · have e : i = ds.length := by simp at hi; omega
    subst e
    rw [pk_us, pk_us, pk_us, List.getElem_append_right (Nat.le_refl _)]
    simp
set_option maxRecDepth 100000 in
set_option maxHeartbeats 1000000 in
theorem collect_loop {X : CX} {D : va_G} {t : Nat → ClassId} {A : Nat → Prop} {rm : Room} {g : GH} {d k s u qa qb ba bb : Nat} {fa fb : Nat → Option Nat} {ra rb : List RV} {I : Nat → Prop} {dn : Int32} {fk0 fs0 fu0 : Nat → Int32} (O : Ok X bD_collect 6 "TwinTrees$Differences" (zz D t A) rm) (M : Om X (zz D t A) none 0 0 (fun v g' => v = none ∧ ∃ fk fs fu, gAt g' d (eDf k s u (nI (mrg (ra.length + rb.length) ra rb).length)) ∧ gAt g' k (eI t 600 fk) ∧ gAt g' s (eI t 600 fs) ∧ gAt g' u (eI t 600 fu) ∧ dfs fk fs fu (mrg (ra.length + rb.length) ra rb) ∧ Kp [d, k, s, u] g g')) (hqa : gAt g qa (eRL ba (nI ra.length))) (hba : gAt g ba (eRs t 300 fa)) (hra : rowsI t g I fa 0 ra) (hqb : gAt g qb (eRL bb (nI rb.length))) (hbb : gAt g bb (eRs t 300 fb)) (hrb : rowsI t g I fb 0 rb) (hIn : ¬ I d ∧ ¬ I k ∧ ¬ I s ∧ ¬ I u) (n1 : k ≠ s) (n2 : k ≠ u) (n3 : s ≠ u) (la : ra.length ≤ 300) (lb : rb.length ≤ 300) (hwa : ∀ r ∈ ra, r.2.1.length ≤ 6) (hwb : ∀ r ∈ rb, r.2.1.length ≤ 6) (hd0 : gAt g d (eDf k s u dn)) (hk0 : gAt g k (eI t 600 fk0)) (hs0 : gAt g s (eI t 600 fs0)) (hu0 : gAt g u (eI t 600 fu0)) (hrm : 1 ≤ rm.frames ∧ 40 ≤ rm.locals) : ∀ (n i j : Nat) (g1 : GH) (ds : List (Int32 × Int32 × Int32)) (fk fs fu : Nat → Int32), i ≤ ra.length → j ≤ rb.length → (ra.length - i) + (rb.length - j) ≤ n → ds ++ mrg n (ra.drop i) (rb.drop j) = mrg (ra.length + rb.length) ra rb → gAt g1 d (eDf k s u (nI ds.length)) → gAt g1 k (eI t 600 fk) → gAt g1 s (eI t 600 fs) → gAt g1 u (eI t 600 fu) → dfs fk fs fu ds → ds.length ≤ i + j → Kp [d, k, s, u] g g1 → J X 6 (zz D t A) g1 0 0 10 [(0, .ref d), (1, .ref qa), (2, .ref qb), (3, .int (nI i)), (4, .int (nI j))] [] := by
  intro n
  induction n with
  | zero =>
    intro i j g1 ds fk fs fu hi hj hn hds hd hk hs hu hdf hdl kp
    have ei : i = ra.length := by omega
    have ej : j = rb.length := by omega
    subst ei; subst ej
    rw [mrg, List.append_nil] at hds
    have hqa1 := kp.2 qa _ (four_ne (hqa.ne hd0 (by simp)) (hqa.ne hk0 (by simp)) (hqa.ne hs0 (by simp)) (hqa.ne hu0 (by simp))) hqa
    have hqb1 := kp.2 qb _ (four_ne (hqb.ne hd0 (by simp)) (hqb.ne hk0 (by simp)) (hqb.ne hs0 (by simp)) (hqb.ne hu0 (by simp))) hqb
    refine j_iload_n O 3 dD_collect_10 rfl rfl ?_
    refine j_aload_n O 1 dD_collect_11 rfl rfl ?_
    refine j_get O uwQ hqa1 rfl 1 (by decide) w96 rfl rfl dD_collect_12 ?_
    refine j_icmp_lt O 27 dD_collect_15 (by decide) (fun c => absurd c (nI_nlt (Nat.le_refl _) (by omega))) (fun c => ?_)
    refine j_iload O dD_collect_18 rfl ?_
    refine j_aload_n O 2 dD_collect_20 rfl rfl ?_
    refine j_get O uwQ hqb1 rfl 1 (by decide) w96 rfl rfl dD_collect_21 ?_
    refine j_icmp_ge O 187 dD_collect_24 (by decide) (fun c => ?_) (fun c => absurd (nI_le (Nat.le_refl _) (by omega)) c)
    exact j_vret O M (Nat.le_of_ble_eq_true rfl) (Nat.le_of_ble_eq_true rfl) ⟨rfl, fk, fs, fu, by rw [← hds]; exact hd, hk, hs, hu, by rw [← hds]; exact hdf, kp⟩ dD_collect_187
  | succ n ih =>
    intro i j g1 ds fk fs fu hi hj hn hds hd hk hs hu hdf hdl kp
    have hqa1 := kp.2 qa _ (four_ne (hqa.ne hd0 (by simp)) (hqa.ne hk0 (by simp)) (hqa.ne hs0 (by simp)) (hqa.ne hu0 (by simp))) hqa
    have hqb1 := kp.2 qb _ (four_ne (hqb.ne hd0 (by simp)) (hqb.ne hk0 (by simp)) (hqb.ne hs0 (by simp)) (hqb.ne hu0 (by simp))) hqb
    have hba1 := kp.2 ba _ (four_ne (hba.ne hd0 (by simp)) (hba.ne hk0 (by simp)) (hba.ne hs0 (by simp)) (hba.ne hu0 (by simp))) hba
    have hbb1 := kp.2 bb _ (four_ne (hbb.ne hd0 (by simp)) (hbb.ne hk0 (by simp)) (hbb.ne hs0 (by simp)) (hbb.ne hu0 (by simp))) hbb
    have hIk : ∀ (x : Nat) (e : va_E), I x → gAt g x e → gAt g1 x e := fun x e hx he => kp.2 x e (four_ne (fun z => hIn.1 (z ▸ hx)) (fun z => hIn.2.1 (z ▸ hx)) (fun z => hIn.2.2.1 (z ▸ hx)) (fun z => hIn.2.2.2 (z ▸ hx))) he
    have hra1 := hra.keep (fun _ z => z) hIk
    have hrb1 := hrb.keep (fun _ z => z) hIk
    have hlen := mrg_len (n + 1) (ra.drop i) (rb.drop j)
    rcases Nat.lt_or_ge i ra.length with hia | hia <;> rcases Nat.lt_or_ge j rb.length with hjb | hjb
    · obtain ⟨x, hfx, hx⟩ := hra1 i hia
      rw [Nat.zero_add] at hfx
      obtain ⟨xc, xf, hxc, -, -⟩ := hx.at
      have eda : ra.drop i = ra[i] :: ra.drop (i + 1) := List.drop_eq_getElem_cons hia
      obtain ⟨y, hfy, hy⟩ := hrb1 j hjb
      rw [Nat.zero_add] at hfy
      obtain ⟨yc, yf, hyc, -, -⟩ := hy.at
      have edb : rb.drop j = rb[j] :: rb.drop (j + 1) := List.drop_eq_getElem_cons hjb
      refine j_iload_n O 3 dD_collect_10 rfl rfl ?_
      refine j_aload_n O 1 dD_collect_11 rfl rfl ?_
      refine j_get O uwQ hqa1 rfl 1 (by decide) w96 rfl rfl dD_collect_12 ?_
      refine j_icmp_lt O 27 dD_collect_15 (by decide) (fun c => ?_) (fun c => absurd (nI_lt hia (by omega)) c)
      refine j_iload O dD_collect_27 rfl ?_
      refine j_aload_n O 2 dD_collect_29 rfl rfl ?_
      refine j_get O uwQ hqb1 rfl 1 (by decide) w96 rfl rfl dD_collect_30 ?_
      refine j_icmp_ge O 66 dD_collect_33 (by decide) (fun c => absurd c (nI_ge hjb (by omega))) (fun c => ?_)
      refine j_iload_n O 3 dD_collect_36 rfl rfl ?_
      refine j_aload_n O 1 dD_collect_37 rfl rfl ?_
      refine j_get O uwQ hqa1 rfl 1 (by decide) w96 rfl rfl dD_collect_38 ?_
      refine j_icmp_ge O 87 dD_collect_41 (by decide) (fun c => absurd c (nI_ge hia (by omega))) (fun c => ?_)
      refine j_aload_n O 1 dD_collect_44 rfl rfl ?_
      refine j_get O uwQ hqa1 rfl 0 (by decide) w93 rfl rfl dD_collect_45 ?_
      refine j_iload_n O 3 dD_collect_48 rfl rfl ?_
      refine j_aald O hba1 1 rfl (by omega) (by omega) dD_collect_49 ?_
      refine j_some x hfx ?_
      refine j_get O uwR hxc rfl 0 (by decide) w286 rfl rfl dD_collect_50 ?_
      refine j_aload_n O 2 dD_collect_53 rfl rfl ?_
      refine j_get O uwQ hqb1 rfl 0 (by decide) w93 rfl rfl dD_collect_54 ?_
      refine j_iload O dD_collect_57 rfl ?_
      refine j_aald O hbb1 1 rfl (by omega) (by omega) dD_collect_59 ?_
      refine j_some y hfy ?_
      refine j_get O uwR hyc rfl 0 (by decide) w286 rfl rfl dD_collect_60 ?_
      refine j_icmp_ge O 87 dD_collect_63 (by decide) (fun c1 => ?_) (fun c1 => ?_)
      · refine j_iload_n O 3 dD_collect_87 rfl rfl ?_
        refine j_aload_n O 1 dD_collect_88 rfl rfl ?_
        refine j_get O uwQ hqa1 rfl 1 (by decide) w96 rfl rfl dD_collect_89 ?_
        refine j_icmp_ge O 117 dD_collect_92 (by decide) (fun c => absurd c (nI_ge hia (by omega))) (fun c => ?_)
        refine j_aload_n O 2 dD_collect_95 rfl rfl ?_
        refine j_get O uwQ hqb1 rfl 0 (by decide) w93 rfl rfl dD_collect_96 ?_
        refine j_iload O dD_collect_99 rfl ?_
        refine j_aald O hbb1 1 rfl (by omega) (by omega) dD_collect_101 ?_
        refine j_some y hfy ?_
        refine j_get O uwR hyc rfl 0 (by decide) w286 rfl rfl dD_collect_102 ?_
        refine j_aload_n O 1 dD_collect_105 rfl rfl ?_
        refine j_get O uwQ hqa1 rfl 0 (by decide) w93 rfl rfl dD_collect_106 ?_
        refine j_iload_n O 3 dD_collect_109 rfl rfl ?_
        refine j_aald O hba1 1 rfl (by omega) (by omega) dD_collect_110 ?_
        refine j_some x hfx ?_
        refine j_get O uwR hxc rfl 0 (by decide) w286 rfl rfl dD_collect_111 ?_
        refine j_icmp_ge O 139 dD_collect_114 (by decide) (fun c2 => ?_) (fun c2 => ?_)
        · refine j_aload_n O 1 dD_collect_139 rfl rfl ?_
          refine j_get O uwQ hqa1 rfl 0 (by decide) w93 rfl rfl dD_collect_140 ?_
          refine j_iload_n O 3 dD_collect_143 rfl rfl ?_
          refine j_aald O hba1 1 rfl (by omega) (by omega) dD_collect_144 ?_
          refine j_some x hfx ?_
          refine j_aload_n O 2 dD_collect_145 rfl rfl ?_
          refine j_get O uwQ hqb1 rfl 0 (by decide) w93 rfl rfl dD_collect_146 ?_
          refine j_iload O dD_collect_149 rfl ?_
          refine j_aald O hbb1 1 rfl (by omega) (by omega) dD_collect_151 ?_
          refine j_some y hfy ?_
          refine j_callV O [.ref y] (c_unlikeCells X.2.1 D t A g1 x y ra[i] rb[j] hx.at hy.at (by have := hwa ra[i] (List.getElem_mem _); omega) (by have := hwb rb[j] (List.getElem_mem _); omega)) hxc rfl w393 w121 w122 w31 w123 1 rfl rfl rfl (by decide +kernel) ⟨(by show 0 + 1 ≤ _; omega), (by show 8 + (_ + 11) + 0 ≤ _; omega)⟩ rfl (Nat.le_of_ble_eq_true rfl) dD_collect_152 ⟨(by show 0 + 0 ≤ _; omega), (by show 0 + 0 ≤ _; omega)⟩ (fun vw7 gw8 hpw9 => ?_)
          obtain ⟨rfl, hgw10⟩ := hpw9
          have hgw10 := hgw10.symm
          subst hgw10
          refine j_istore O [(5, .int (unl ra[i] rb[j])), (0, .ref d), (1, .ref qa), (2, .ref qb), (3, .int (nI i)), (4, .int (nI j))] dD_collect_155 (by decide) rfl ?_
          refine j_iload O dD_collect_157 rfl ?_
          refine j_if_eq O 178 dD_collect_159 (by decide) (fun c3 => ?_) (fun c3 => ?_)
          · refine j_iinc O (nI (i + 1)) [(3, .int (nI (i + 1))), (5, .int (unl ra[i] rb[j])), (0, .ref d), (1, .ref qa), (2, .ref qb), (4, .int (nI j))] dD_collect_178 rfl (nI_1 _) (by decide) rfl ?_
            refine j_iinc O (nI (j + 1)) [(4, .int (nI (j + 1))), (3, .int (nI (i + 1))), (5, .int (unl ra[i] rb[j])), (0, .ref d), (1, .ref qa), (2, .ref qb)] dD_collect_181 rfl (nI_1 _) (by decide) rfl ?_
            refine j_goto O 10 dD_collect_184 (by decide) ?_
            refine J.pk [3, 4, 5, 1, 0] rfl ?_
            have hn2 : mrg (n + 1) (ra.drop i) (rb.drop j) = mrg n (ra.drop (i + 1)) (rb.drop (j + 1)) := by rw [eda, edb, mrg, if_neg (Int32.not_lt.mpr c1), if_neg (Int32.not_lt.mpr c2), if_pos c3]
            rw [hn2] at hds
            exact ih (i + 1) (j + 1) _ _ _ _ _ (by omega) (by omega) (by omega) hds hd hk hs hu hdf (by omega) kp
          · refine j_aload_n O 0 dD_collect_162 rfl rfl ?_
            refine j_aload_n O 1 dD_collect_163 rfl rfl ?_
            refine j_get O uwQ hqa1 rfl 0 (by decide) w93 rfl rfl dD_collect_164 ?_
            refine j_iload_n O 3 dD_collect_167 rfl rfl ?_
            refine j_aald O hba1 1 rfl (by omega) (by omega) dD_collect_168 ?_
            refine j_some x hfx ?_
            refine j_get O uwR hxc rfl 0 (by decide) w286 rfl rfl dD_collect_169 ?_
            refine j_iconst O (v := 2) dD_collect_172 (by decide) ?_
            refine j_iload O dD_collect_173 rfl ?_
            refine j_callV O [.int (ra[i].1), .int 2, .int (unl ra[i] rb[j])] (c_note X.2.1 D t A g1 d k s u ds.length fk fs fu ra[i].1 2 (unl ra[i] rb[j]) hd hk hs hu n1 n2 n3 (by omega)) hd rfl w390 w391 w9 w25 w392 3 rfl rfl rfl (by decide +kernel) ⟨(by show 0 + 1 ≤ _; omega), (by show 8 + (_ + 11) + 0 ≤ _; omega)⟩ rfl (Nat.le_of_ble_eq_true rfl) dD_collect_175 ⟨(by show 0 + 0 ≤ _; omega), (by show 0 + 0 ≤ _; omega)⟩ (fun vw11 gw12 hpw13 => ?_)
            obtain ⟨rfl, hd2, hk2, hs2, hu2, kp2⟩ := hpw13
            refine j_iinc O (nI (i + 1)) [(3, .int (nI (i + 1))), (5, .int (unl ra[i] rb[j])), (0, .ref d), (1, .ref qa), (2, .ref qb), (4, .int (nI j))] dD_collect_178 rfl (nI_1 _) (by decide) rfl ?_
            refine j_iinc O (nI (j + 1)) [(4, .int (nI (j + 1))), (3, .int (nI (i + 1))), (5, .int (unl ra[i] rb[j])), (0, .ref d), (1, .ref qa), (2, .ref qb)] dD_collect_181 rfl (nI_1 _) (by decide) rfl ?_
            refine j_goto O 10 dD_collect_184 (by decide) ?_
            refine J.pk [3, 4, 5, 1, 0] rfl ?_
            have e : nI (ds.length + 1) = nI (ds ++ [(ra[i].1, 2, (unl ra[i] rb[j]))]).length := by rw [List.length_append]; rfl
            rw [e] at hd2
            exact ih (i + 1) (j + 1) _ _ _ _ _ (by omega) (by omega) (by omega) (by rw [← hds, eda, edb, mrg, if_neg (Int32.not_lt.mpr c1), if_neg (Int32.not_lt.mpr c2), if_neg c3, List.append_assoc]; rfl) hd2 hk2 hs2 hu2 (hdf.push _ _ _) (by rw [List.length_append]; simp; omega) (kp.tr kp2)
        · refine j_aload_n O 0 dD_collect_117 rfl rfl ?_
          refine j_aload_n O 2 dD_collect_118 rfl rfl ?_
          refine j_get O uwQ hqb1 rfl 0 (by decide) w93 rfl rfl dD_collect_119 ?_
          refine j_iload O dD_collect_122 rfl ?_
          refine j_aald O hbb1 1 rfl (by omega) (by omega) dD_collect_124 ?_
          refine j_some y hfy ?_
          refine j_get O uwR hyc rfl 0 (by decide) w286 rfl rfl dD_collect_125 ?_
          refine j_iconst O (v := 0) dD_collect_128 (by decide) ?_
          refine j_iconst O (v := 0) dD_collect_129 (by decide) ?_
          refine j_callV O [.int (rb[j].1), .int 0, .int 0] (c_note X.2.1 D t A g1 d k s u ds.length fk fs fu rb[j].1 0 0 hd hk hs hu n1 n2 n3 (by omega)) hd rfl w390 w391 w9 w25 w392 3 rfl rfl rfl (by decide +kernel) ⟨(by show 0 + 1 ≤ _; omega), (by show 8 + (_ + 11) + 0 ≤ _; omega)⟩ rfl (Nat.le_of_ble_eq_true rfl) dD_collect_130 ⟨(by show 0 + 0 ≤ _; omega), (by show 0 + 0 ≤ _; omega)⟩ (fun vw4 gw5 hpw6 => ?_)
          obtain ⟨rfl, hd2, hk2, hs2, hu2, kp2⟩ := hpw6
          refine j_iinc O (nI (j + 1)) [(4, .int (nI (j + 1))), (0, .ref d), (1, .ref qa), (2, .ref qb), (3, .int (nI i))] dD_collect_133 rfl (nI_1 _) (by decide) rfl ?_
          refine j_goto O 10 dD_collect_136 (by decide) ?_
          refine J.pk [1, 2, 3, 4, 0] rfl ?_
          have e : nI (ds.length + 1) = nI (ds ++ [(rb[j].1, 0, 0)]).length := by rw [List.length_append]; rfl
          rw [e] at hd2
          exact ih (i) (j + 1) _ _ _ _ _ (by omega) (by omega) (by omega) (by rw [← hds, eda, edb, mrg, if_neg (Int32.not_lt.mpr c1), if_pos (Int32.not_le.mp c2), ← eda, List.append_assoc]; rfl) hd2 hk2 hs2 hu2 (hdf.push _ _ _) (by rw [List.length_append]; simp; omega) (kp.tr kp2)
      · refine j_aload_n O 0 dD_collect_66 rfl rfl ?_
        refine j_aload_n O 1 dD_collect_67 rfl rfl ?_
        refine j_get O uwQ hqa1 rfl 0 (by decide) w93 rfl rfl dD_collect_68 ?_
        refine j_iload_n O 3 dD_collect_71 rfl rfl ?_
        refine j_aald O hba1 1 rfl (by omega) (by omega) dD_collect_72 ?_
        refine j_some x hfx ?_
        refine j_get O uwR hxc rfl 0 (by decide) w286 rfl rfl dD_collect_73 ?_
        refine j_iconst O (v := 1) dD_collect_76 (by decide) ?_
        refine j_iconst O (v := 0) dD_collect_77 (by decide) ?_
        refine j_callV O [.int (ra[i].1), .int 1, .int 0] (c_note X.2.1 D t A g1 d k s u ds.length fk fs fu ra[i].1 1 0 hd hk hs hu n1 n2 n3 (by omega)) hd rfl w390 w391 w9 w25 w392 3 rfl rfl rfl (by decide +kernel) ⟨(by show 0 + 1 ≤ _; omega), (by show 8 + (_ + 11) + 0 ≤ _; omega)⟩ rfl (Nat.le_of_ble_eq_true rfl) dD_collect_78 ⟨(by show 0 + 0 ≤ _; omega), (by show 0 + 0 ≤ _; omega)⟩ (fun vw1 gw2 hpw3 => ?_)
        obtain ⟨rfl, hd2, hk2, hs2, hu2, kp2⟩ := hpw3
        refine j_iinc O (nI (i + 1)) [(3, .int (nI (i + 1))), (0, .ref d), (1, .ref qa), (2, .ref qb), (4, .int (nI j))] dD_collect_81 rfl (nI_1 _) (by decide) rfl ?_
        refine j_goto O 10 dD_collect_84 (by decide) ?_
        refine J.pk [1, 2, 3, 0, 4] rfl ?_
        have e : nI (ds.length + 1) = nI (ds ++ [(ra[i].1, 1, 0)]).length := by rw [List.length_append]; rfl
        rw [e] at hd2
        exact ih (i + 1) (j) _ _ _ _ _ (by omega) (by omega) (by omega) (by rw [← hds, eda, edb, mrg, if_pos (Int32.not_le.mp c1), ← edb, List.append_assoc]; rfl) hd2 hk2 hs2 hu2 (hdf.push _ _ _) (by rw [List.length_append]; simp; omega) (kp.tr kp2)
    · obtain ⟨x, hfx, hx⟩ := hra1 i hia
      rw [Nat.zero_add] at hfx
      obtain ⟨xc, xf, hxc, -, -⟩ := hx.at
      have eda : ra.drop i = ra[i] :: ra.drop (i + 1) := List.drop_eq_getElem_cons hia
      have edb : rb.drop j = [] := List.drop_eq_nil_of_le hjb
      refine j_iload_n O 3 dD_collect_10 rfl rfl ?_
      refine j_aload_n O 1 dD_collect_11 rfl rfl ?_
      refine j_get O uwQ hqa1 rfl 1 (by decide) w96 rfl rfl dD_collect_12 ?_
      refine j_icmp_lt O 27 dD_collect_15 (by decide) (fun c => ?_) (fun c => absurd (nI_lt hia (by omega)) c)
      refine j_iload O dD_collect_27 rfl ?_
      refine j_aload_n O 2 dD_collect_29 rfl rfl ?_
      refine j_get O uwQ hqb1 rfl 1 (by decide) w96 rfl rfl dD_collect_30 ?_
      refine j_icmp_ge O 66 dD_collect_33 (by decide) (fun c => ?_) (fun c => absurd (nI_le hjb (by omega)) c)
      refine j_aload_n O 0 dD_collect_66 rfl rfl ?_
      refine j_aload_n O 1 dD_collect_67 rfl rfl ?_
      refine j_get O uwQ hqa1 rfl 0 (by decide) w93 rfl rfl dD_collect_68 ?_
      refine j_iload_n O 3 dD_collect_71 rfl rfl ?_
      refine j_aald O hba1 1 rfl (by omega) (by omega) dD_collect_72 ?_
      refine j_some x hfx ?_
      refine j_get O uwR hxc rfl 0 (by decide) w286 rfl rfl dD_collect_73 ?_
      refine j_iconst O (v := 1) dD_collect_76 (by decide) ?_
      refine j_iconst O (v := 0) dD_collect_77 (by decide) ?_
      refine j_callV O [.int (ra[i].1), .int 1, .int 0] (c_note X.2.1 D t A g1 d k s u ds.length fk fs fu ra[i].1 1 0 hd hk hs hu n1 n2 n3 (by omega)) hd rfl w390 w391 w9 w25 w392 3 rfl rfl rfl (by decide +kernel) ⟨(by show 0 + 1 ≤ _; omega), (by show 8 + (_ + 11) + 0 ≤ _; omega)⟩ rfl (Nat.le_of_ble_eq_true rfl) dD_collect_78 ⟨(by show 0 + 0 ≤ _; omega), (by show 0 + 0 ≤ _; omega)⟩ (fun vw14 gw15 hpw16 => ?_)
      obtain ⟨rfl, hd2, hk2, hs2, hu2, kp2⟩ := hpw16
      refine j_iinc O (nI (i + 1)) [(3, .int (nI (i + 1))), (0, .ref d), (1, .ref qa), (2, .ref qb), (4, .int (nI j))] dD_collect_81 rfl (nI_1 _) (by decide) rfl ?_
      refine j_goto O 10 dD_collect_84 (by decide) ?_
      refine J.pk [1, 2, 3, 0, 4] rfl ?_
      have e : nI (ds.length + 1) = nI (ds ++ [(ra[i].1, 1, 0)]).length := by rw [List.length_append]; rfl
      rw [e] at hd2
      exact ih (i + 1) (j) _ _ _ _ _ (by omega) (by omega) (by omega) (by rw [← hds, eda, edb, mrg, List.append_assoc]; rfl) hd2 hk2 hs2 hu2 (hdf.push _ _ _) (by rw [List.length_append]; simp; omega) (kp.tr kp2)
    · obtain ⟨y, hfy, hy⟩ := hrb1 j hjb
      rw [Nat.zero_add] at hfy
      obtain ⟨yc, yf, hyc, -, -⟩ := hy.at
      have edb : rb.drop j = rb[j] :: rb.drop (j + 1) := List.drop_eq_getElem_cons hjb
      have eda : ra.drop i = [] := List.drop_eq_nil_of_le hia
      refine j_iload_n O 3 dD_collect_10 rfl rfl ?_
      refine j_aload_n O 1 dD_collect_11 rfl rfl ?_
      refine j_get O uwQ hqa1 rfl 1 (by decide) w96 rfl rfl dD_collect_12 ?_
      refine j_icmp_lt O 27 dD_collect_15 (by decide) (fun c => absurd c (nI_nlt hia (by omega))) (fun c => ?_)
      refine j_iload O dD_collect_18 rfl ?_
      refine j_aload_n O 2 dD_collect_20 rfl rfl ?_
      refine j_get O uwQ hqb1 rfl 1 (by decide) w96 rfl rfl dD_collect_21 ?_
      refine j_icmp_ge O 187 dD_collect_24 (by decide) (fun c => absurd c (nI_ge hjb (by omega))) (fun c => ?_)
      refine j_iload O dD_collect_27 rfl ?_
      refine j_aload_n O 2 dD_collect_29 rfl rfl ?_
      refine j_get O uwQ hqb1 rfl 1 (by decide) w96 rfl rfl dD_collect_30 ?_
      refine j_icmp_ge O 66 dD_collect_33 (by decide) (fun c => absurd c (nI_ge hjb (by omega))) (fun c => ?_)
      refine j_iload_n O 3 dD_collect_36 rfl rfl ?_
      refine j_aload_n O 1 dD_collect_37 rfl rfl ?_
      refine j_get O uwQ hqa1 rfl 1 (by decide) w96 rfl rfl dD_collect_38 ?_
      refine j_icmp_ge O 87 dD_collect_41 (by decide) (fun c => ?_) (fun c => absurd (nI_le hia (by omega)) c)
      refine j_iload_n O 3 dD_collect_87 rfl rfl ?_
      refine j_aload_n O 1 dD_collect_88 rfl rfl ?_
      refine j_get O uwQ hqa1 rfl 1 (by decide) w96 rfl rfl dD_collect_89 ?_
      refine j_icmp_ge O 117 dD_collect_92 (by decide) (fun c => ?_) (fun c => absurd (nI_le hia (by omega)) c)
      refine j_aload_n O 0 dD_collect_117 rfl rfl ?_
      refine j_aload_n O 2 dD_collect_118 rfl rfl ?_
      refine j_get O uwQ hqb1 rfl 0 (by decide) w93 rfl rfl dD_collect_119 ?_
      refine j_iload O dD_collect_122 rfl ?_
      refine j_aald O hbb1 1 rfl (by omega) (by omega) dD_collect_124 ?_
      refine j_some y hfy ?_
      refine j_get O uwR hyc rfl 0 (by decide) w286 rfl rfl dD_collect_125 ?_
      refine j_iconst O (v := 0) dD_collect_128 (by decide) ?_
      refine j_iconst O (v := 0) dD_collect_129 (by decide) ?_
      refine j_callV O [.int (rb[j].1), .int 0, .int 0] (c_note X.2.1 D t A g1 d k s u ds.length fk fs fu rb[j].1 0 0 hd hk hs hu n1 n2 n3 (by omega)) hd rfl w390 w391 w9 w25 w392 3 rfl rfl rfl (by decide +kernel) ⟨(by show 0 + 1 ≤ _; omega), (by show 8 + (_ + 11) + 0 ≤ _; omega)⟩ rfl (Nat.le_of_ble_eq_true rfl) dD_collect_130 ⟨(by show 0 + 0 ≤ _; omega), (by show 0 + 0 ≤ _; omega)⟩ (fun vw17 gw18 hpw19 => ?_)
      obtain ⟨rfl, hd2, hk2, hs2, hu2, kp2⟩ := hpw19
      refine j_iinc O (nI (j + 1)) [(4, .int (nI (j + 1))), (0, .ref d), (1, .ref qa), (2, .ref qb), (3, .int (nI i))] dD_collect_133 rfl (nI_1 _) (by decide) rfl ?_
      refine j_goto O 10 dD_collect_136 (by decide) ?_
      refine J.pk [1, 2, 3, 4, 0] rfl ?_
      have e : nI (ds.length + 1) = nI (ds ++ [(rb[j].1, 0, 0)]).length := by rw [List.length_append]; rfl
      rw [e] at hd2
      exact ih (i) (j + 1) _ _ _ _ _ (by omega) (by omega) (by omega) (by rw [← hds, eda, edb, mrg, List.append_assoc]; rfl) hd2 hk2 hs2 hu2 (hdf.push _ _ _) (by rw [List.length_append]; simp; omega) (kp.tr kp2)
    · have eda : ra.drop i = [] := List.drop_eq_nil_of_le hia
      have edb : rb.drop j = [] := List.drop_eq_nil_of_le hjb
      rw [eda, edb, mrg, List.append_nil] at hds
      refine j_iload_n O 3 dD_collect_10 rfl rfl ?_
      refine j_aload_n O 1 dD_collect_11 rfl rfl ?_
      refine j_get O uwQ hqa1 rfl 1 (by decide) w96 rfl rfl dD_collect_12 ?_
      refine j_icmp_lt O 27 dD_collect_15 (by decide) (fun c => absurd c (nI_nlt hia (by omega))) (fun c => ?_)
      refine j_iload O dD_collect_18 rfl ?_
      refine j_aload_n O 2 dD_collect_20 rfl rfl ?_
      refine j_get O uwQ hqb1 rfl 1 (by decide) w96 rfl rfl dD_collect_21 ?_
      refine j_icmp_ge O 187 dD_collect_24 (by decide) (fun c => ?_) (fun c => absurd (nI_le hjb (by omega)) c)
      exact j_vret O M (Nat.le_of_ble_eq_true rfl) (Nat.le_of_ble_eq_true rfl) ⟨rfl, fk, fs, fu, by rw [← hds]; exact hd, hk, hs, hu, by rw [← hds]; exact hdf, kp⟩ dD_collect_187
set_option maxRecDepth 100000 in
set_option maxHeartbeats 1000000 in
theorem c_collect (l : Launch) (D : va_G) (t : Nat → ClassId) (A : Nat → Prop) (g : GH) (d k s u qa qb ba bb : Nat) (fa fb : Nat → Option Nat) (ra rb : List RV) (I : Nat → Prop) (dn : Int32) (fk0 fs0 fu0 : Nat → Int32) (hqa : gAt g qa (eRL ba (nI ra.length))) (hba : gAt g ba (eRs t 300 fa)) (hra : rowsI t g I fa 0 ra) (hqb : gAt g qb (eRL bb (nI rb.length))) (hbb : gAt g bb (eRs t 300 fb)) (hrb : rowsI t g I fb 0 rb) (hIn : ¬ I d ∧ ¬ I k ∧ ¬ I s ∧ ¬ I u) (n1 : k ≠ s) (n2 : k ≠ u) (n3 : s ≠ u) (la : ra.length ≤ 300) (lb : rb.length ≤ 300) (hwa : ∀ r ∈ ra, r.2.1.length ≤ 6) (hwb : ∀ r ∈ rb, r.2.1.length ≤ 6) (hd0 : gAt g d (eDf k s u dn)) (hk0 : gAt g k (eI t 600 fk0)) (hs0 : gAt g s (eI t 600 fs0)) (hu0 : gAt g u (eI t 600 fu0)) : Ct l yD_collect sD_collect { frames := 1, cells := 0, slots := 0, locals := 40 } (zz D t A) [.ref d, .ref qa, .ref qb] g 0 0 (fun v g' => v = none ∧ ∃ fk fs fu, gAt g' d (eDf k s u (nI (mrg (ra.length + rb.length) ra rb).length)) ∧ gAt g' k (eI t 600 fk) ∧ gAt g' s (eI t 600 fs) ∧ gAt g' u (eI t 600 fu) ∧ dfs fk fs fu (mrg (ra.length + rb.length) ra rb) ∧ Kp [d, k, s, u] g g') := by
  refine Ct.of (cc := bD_collect) (maxL := 6) (ret := none) (by decide) (Nat.le_of_ble_eq_true rfl) (fun X hl O M hN => ?_)
  show J X 6 (zz D t A) g 0 0 0 [(0, .ref d), (1, .ref qa), (2, .ref qb)] []
  have kp0 : Kp [d, k, s, u] g g := Kp.rf
  refine j_aload_n O 0 dD_collect_0 rfl rfl ?_
  refine j_iconst O (v := 0) dD_collect_1 (by decide) ?_
  refine j_put O uwD hd0 rfl 3 (by decide) w75 rfl tD ftD fnD rfl (.int) (by decide +kernel) rfl rfl (Nat.le_of_ble_eq_true rfl) [.ref k, .ref s, .ref u, .int 0] rfl dD_collect_2 (fun gw20 ew21 => ?_)
  have hw22 := gUp_ne (e' := .inr (1, [.ref k, .ref s, .ref u, .int 0])) hk0 (hk0.ne hd0 (by simp))
  rw [← ew21] at hw22
  have hw23 := gUp_ne (e' := .inr (1, [.ref k, .ref s, .ref u, .int 0])) hs0 (hs0.ne hd0 (by simp))
  rw [← ew21] at hw23
  have hw24 := gUp_ne (e' := .inr (1, [.ref k, .ref s, .ref u, .int 0])) hu0 (hu0.ne hd0 (by simp))
  rw [← ew21] at hw24
  have hw25 := gUp_self (e' := .inr (1, [.ref k, .ref s, .ref u, .int 0])) hd0
  rw [← ew21] at hw25
  have kpw26 := kp0.up (a := d) (e := .inr (1, [.ref k, .ref s, .ref u, .int 0])) (by simp)
  rw [← ew21] at kpw26
  refine j_iconst O (v := 0) dD_collect_5 (by decide) ?_
  refine j_istore_n O 3 [(3, .int 0), (0, .ref d), (1, .ref qa), (2, .ref qb)] dD_collect_6 rfl (by decide) rfl ?_
  refine j_iconst O (v := 0) dD_collect_7 (by decide) ?_
  refine j_istore O [(4, .int 0), (3, .int 0), (0, .ref d), (1, .ref qa), (2, .ref qb)] dD_collect_8 (by decide) rfl ?_
  refine J.pk [2, 3, 4, 1, 0] rfl ?_
  exact collect_loop O M hqa hba hra hqb hbb hrb hIn n1 n2 n3 la lb hwa hwb hd0 hk0 hs0 hu0 ⟨by decide, by decide⟩ (ra.length + rb.length) 0 0 _ [] fk0 fs0 fu0 (Nat.zero_le _) (Nat.zero_le _) (by omega) rfl hw25 hw22 hw23 hw24 (fun i hi => absurd hi (Nat.not_lt_zero _)) (Nat.zero_le _) kpw26
end
section
/-- the nodes of a tree, by its height -/
def dsc (K : Nat → List Nat) : Nat → Nat → List Nat
  | 0, a => [a]
  | h + 1, a => a :: (K a).flatMap (dsc K h)
def setSt (m : MU) (s : Int32) : MU := (m.1, m.2.1, s, m.2.2.2)
def stmp (mu : Nat → MU) (s : Int32) (L : List Nat) : Nat → MU := fun x => if x ∈ L then setSt (mu x) s else mu x
theorem stmp_nil (mu : Nat → MU) (s : Int32) : stmp mu s [] = mu := by
  funext x
  simp [stmp]
theorem stmp_app (mu : Nat → MU) (s : Int32) (L L' : List Nat) : stmp (stmp mu s L) s L' = stmp mu s (L ++ L') := by
  funext x
  unfold stmp
  by_cases h1 : x ∈ L <;> by_cases h2 : x ∈ L' <;> simp [h1, h2, setSt]
theorem stmp_one (mu : Nat → MU) (s : Int32) (a : Nat) : va_up mu a (setSt (mu a) s) = stmp mu s [a] := by
  funext x
  by_cases h : x = a
  · subst h; rw [va_up_self]; simp [stmp]
  · rw [va_up_ne _ _ h]; simp [stmp, h]
theorem stmp_in {mu : Nat → MU} {s : Int32} {L : List Nat} {x : Nat} (h : x ∈ L) : (stmp mu s L x).2.2.1 = s := by simp [stmp, h, setSt]
theorem stmp_out {mu : Nat → MU} {s : Int32} {L : List Nat} {x : Nat} (h : x ∉ L) : stmp mu s L x = mu x := by simp [stmp, h]
theorem stmp_st {mu : Nat → MU} {s : Int32} {L : List Nat} {x : Nat} (h : (mu x).2.2.1 = s) : (stmp mu s L x).2.2.1 = s := by
  unfold stmp
  split
  · rfl
  · exact h
theorem stmp_id {mu : Nat → MU} {s : Int32} {L : List Nat} (h : ∀ x ∈ L, (mu x).2.2.1 = s) : stmp mu s L = mu := by
  funext x
  unfold stmp
  split
  · next hx =>
    have := h x hx
    unfold setSt
    rw [← this]
  · rfl
/-- how many had not got the stamp -/
def unst (mu : Nat → MU) (s : Int32) (L : List Nat) : Nat := (L.filter (fun x => decide (¬ (mu x).2.2.1 = s))).length
theorem unst_app (mu : Nat → MU) (s : Int32) (L L' : List Nat) : unst mu s (L ++ L') = unst mu s L + unst mu s L' := by simp [unst]
theorem unst_congr {mu mu' : Nat → MU} {s : Int32} {L : List Nat} (h : ∀ x ∈ L, mu' x = mu x) : unst mu' s L = unst mu s L := by
  unfold unst
  congr 1
  apply List.filter_congr
  intro x hx
  rw [h x hx]
theorem unst_0 {mu : Nat → MU} {s : Int32} {L : List Nat} (h : ∀ x ∈ L, (mu x).2.2.1 = s) : unst mu s L = 0 := by
  unfold unst
  rw [List.length_eq_zero_iff, List.filter_eq_nil_iff]
  intro x hx
  simp [h x hx]
theorem unst_1 {mu : Nat → MU} {s : Int32} {a : Nat} (h : ¬ (mu a).2.2.1 = s) : unst mu s [a] = 1 := by simp [unst, h]
theorem dsc_self (K : Nat → List Nat) (h a : Nat) : a ∈ dsc K h a := by
  cases h with
  | zero => exact List.mem_cons_self
  | succ h => exact List.mem_cons_self
/-- what has the stamp, with all below it, if each with a stamp has it -/
theorem dsc_stamped {K : Nat → List Nat} {P : Nat → Prop} : ∀ (h a : Nat), (∀ x ∈ dsc K h a, P x → ∀ b ∈ K x, P b) → P a → ∀ x ∈ dsc K h a, P x
  | 0, a, _, ha, x, hx => by rw [List.mem_singleton.mp hx]; exact ha
  | h + 1, a, hc, ha, x, hx => by
    rcases List.mem_cons.mp hx with z | z
    · rw [z]; exact ha
    · obtain ⟨b, hb, hxb⟩ := List.mem_flatMap.mp z
      exact dsc_stamped h b (fun y hy => hc y (List.mem_cons_of_mem _ (List.mem_flatMap.mpr ⟨b, hb, hy⟩))) (hc a List.mem_cons_self ha b hb) x hxb
theorem KN.mono {M M' : List Nat} {N : NM} {g g' : GH} (h : KN M N g g') (hm : ∀ x ∈ M, x ∈ M') : KN M' N g g' := ⟨h.1, fun x e n1 n2 he => h.2 x e (fun z => n1 (hm x z)) n2 he⟩
set_option maxRecDepth 100000 in
set_option maxHeartbeats 1000000 in
theorem stampTree_loop {X : CX} {D : va_G} {t : Nat → ClassId} {A : Nat → Prop} {rm : Room} {g : GH} {N : NM} {K : Nat → List Nat} {mu : Nat → MU} {I : Nat → Prop} {R : (Nat → List Nat) × List Nat} {a h : Nat} {v : NV} {s : Int32} {d : Nat} (O : Ok X bT_stampTree 8 "TwinTrees" (zz D t A) rm) (M : Om X (zz D t A) (some .int) 0 0 (fun v g' => v = some (.int (nI (unst mu s (dsc K (h + 1) a)))) ∧ NI t g' (N, K, stmp mu s (dsc K (h + 1) a), I, R) ∧ KN [] N g g')) (hv : N a = some v) (hh : v.1 = h + 1) (ba : Nat) (fb : Nat → Option Nat) (hba : gAt g ba (eNs t (K a).length fb)) (hbaN : N ba = none) (hfb : ∀ i (hi : i < (K a).length), fb i = some (K a)[i]) (hkl : (K a).length ≤ 300) (hnd : (dsc K (h + 1) a).Nodup) (hkv : ∀ b ∈ K a, ∃ u, N b = some u ∧ u.1 = h) (hcl : ∀ x ∈ dsc K (h + 1) a, (mu x).2.2.1 = s → ∀ b ∈ K x, (mu b).2.2.1 = s) (hrm : d + 1 ≤ rm.frames ∧ 30 * (d + 1) ≤ rm.locals) (IH : ∀ (b : Nat) (u : NV) (g1 : GH) (mu1 : Nat → MU), N b = some u → u.1 = h → NI t g1 (N, K, mu1, I, R) → (dsc K h b).Nodup → (∀ x ∈ dsc K h b, (mu1 x).2.2.1 = s → ∀ c ∈ K x, (mu1 c).2.2.1 = s) → Ct X.2.1 yT_stampTree sT_stampTree { frames := d, cells := 0, slots := 0, locals := 30 * d } (zz D t A) [.ref b, .int s, .int (nI d)] g1 0 0 (fun v g' => v = some (.int (nI (unst mu1 s (dsc K h b)))) ∧ NI t g' (N, K, stmp mu1 s (dsc K h b), I, R) ∧ KN [] N g1 g')) : ∀ (k i : Nat) (g1 : GH), i + k = (K a).length → NI t g1 (N, K, stmp mu s (a :: ((K a).take i).flatMap (dsc K h)), I, R) → KN [] N g g1 → J X 8 (zz D t A) g1 0 0 35 [(0, .ref a), (1, .int s), (2, .int (nI (d + 1))), (3, .int (nI (unst mu s (a :: ((K a).take i).flatMap (dsc K h))))), (4, .ref ba), (5, .int (nI (K a).length)), (6, .int (nI i))] [] := by
  intro k
  induction k with
  | zero =>
    intro i g1 hi hN hk
    have hi : i = (K a).length := by omega
    subst hi
    rw [List.take_length] at *
    refine j_iload O dT_stampTree_35 rfl ?_
    refine j_iload O dT_stampTree_37 rfl ?_
    refine j_icmp_ge O 67 dT_stampTree_39 (by decide) (fun c => ?_) (fun c => absurd (nI_le (Nat.le_refl _) (by omega)) c)
    refine j_iload_n O 3 dT_stampTree_67 rfl rfl ?_
    exact j_iret O M (Nat.le_of_ble_eq_true rfl) (Nat.le_of_ble_eq_true rfl) ⟨rfl, hN, hk⟩ dT_stampTree_68
  | succ k ih =>
    intro i g1 hi hN hk
    have hi1 : i < (K a).length := by omega
    have hba1 := hk.2 ba _ List.not_mem_nil hbaN hba
    obtain ⟨u, hu, hu1⟩ := hkv (K a)[i] (List.getElem_mem _)
    have htk : (K a).take (i + 1) = (K a).take i ++ [(K a)[i]] := List.take_succ_eq_append_getElem hi1
    have hsub : ∀ x ∈ dsc K h (K a)[i], x ∈ (K a).flatMap (dsc K h) := fun x hx => List.mem_flatMap.mpr ⟨_, List.getElem_mem _, hx⟩
    have hnd2 : (a :: ((K a).take i).flatMap (dsc K h) ++ dsc K h (K a)[i]).Nodup := by
      have e : dsc K (h + 1) a = (a :: ((K a).take i).flatMap (dsc K h) ++ dsc K h (K a)[i]) ++ ((K a).drop (i + 1)).flatMap (dsc K h) := by
        show a :: (K a).flatMap (dsc K h) = _
        have e0 : K a = (K a).take i ++ [(K a)[i]] ++ (K a).drop (i + 1) := by rw [← htk, List.take_append_drop]
        have e1 : (K a).flatMap (dsc K h) = ((K a).take i ++ [(K a)[i]] ++ (K a).drop (i + 1)).flatMap (dsc K h) := congrArg (fun z => z.flatMap (dsc K h)) e0
        rw [e1, List.flatMap_append, List.flatMap_append, List.flatMap_singleton]
        simp
      rw [e] at hnd
      exact (List.nodup_append.mp hnd).1
    have hdis : ∀ x ∈ dsc K h (K a)[i], x ∉ a :: ((K a).take i).flatMap (dsc K h) := fun x hx hx2 => (List.nodup_append.mp hnd2).2.2 x hx2 x hx rfl
    refine j_iload O dT_stampTree_35 rfl ?_
    refine j_iload O dT_stampTree_37 rfl ?_
    refine j_icmp_ge O 67 dT_stampTree_39 (by decide) (fun c => absurd c (nI_ge hi1 (by omega))) (fun c => ?_)
    refine j_aload O dT_stampTree_42 rfl ?_
    refine j_iload O dT_stampTree_44 rfl ?_
    refine j_aald O hba1 2 rfl (by omega) (by omega) dT_stampTree_46 ?_
    refine j_some ((K a)[i]) (hfb i hi1) ?_
    refine j_astore O [(7, .ref ((K a)[i])), (0, .ref a), (1, .int s), (2, .int (nI (d + 1))), (3, .int (nI (unst mu s (a :: ((K a).take i).flatMap (dsc K h))))), (4, .ref ba), (5, .int (nI (K a).length)), (6, .int (nI i))] dT_stampTree_47 (by decide) rfl ?_
    refine j_iload_n O 3 dT_stampTree_49 rfl rfl ?_
    refine j_aload O dT_stampTree_50 rfl ?_
    refine j_iload_n O 1 dT_stampTree_52 rfl rfl ?_
    refine j_iload_n O 2 dT_stampTree_53 rfl rfl ?_
    refine j_iconst O (v := 1) dT_stampTree_54 (by decide) ?_
    refine j_isub O dT_stampTree_55 ?_
    refine j_eqi (nI (d + 1 - 1)) (pk_sub (b := 1) (by omega)) ?_
    refine j_eqi (nI d) (by rw [Nat.add_sub_cancel]) ?_
    refine j_callS O [.ref ((K a)[i]), .int s, .int (nI d)] (IH (K a)[i] u g1 (stmp mu s (a :: ((K a).take i).flatMap (dsc K h))) hu hu1 hN (List.nodup_append.mp hnd2).2.1 (fun x hx hst c hc => by
        rw [stmp_out (hdis x hx)] at hst
        exact stmp_st (hcl x (List.mem_cons_of_mem _ (hsub x hx)) hst c hc))) w354 w355 w23 w356 3 rfl rfl rfl (by decide +kernel) ⟨(by show d + 1 ≤ _; omega), (by show 8 + (8 + 11) + 30 * d ≤ _; omega)⟩ rfl (Nat.le_of_ble_eq_true rfl) dT_stampTree_56 ⟨(by show 0 + 0 ≤ _; omega), (by show 0 + 0 ≤ _; omega)⟩ (fun vw1 gw2 hpw3 => ?_)
    obtain ⟨rfl, hN2, hk2⟩ := hpw3
    refine j_iadd O dT_stampTree_59 ?_
    refine j_eqi (nI (unst mu s (a :: ((K a).take i).flatMap (dsc K h)) + (unst (stmp mu s (a :: ((K a).take i).flatMap (dsc K h))) s (dsc K h (K a)[i])))) (nI_add _ _) ?_
    have hcat : (a :: ((K a).take i).flatMap (dsc K h)) ++ dsc K h (K a)[i] = (a :: ((K a).take (i + 1)).flatMap (dsc K h)) := by rw [htk, List.flatMap_append, List.flatMap_singleton]; rfl
    have hcnt : unst mu s (a :: ((K a).take i).flatMap (dsc K h)) + unst (stmp mu s (a :: ((K a).take i).flatMap (dsc K h))) s (dsc K h (K a)[i]) = unst mu s (a :: ((K a).take (i + 1)).flatMap (dsc K h)) := by
      rw [unst_congr (fun x hx => stmp_out (hdis x hx)), ← unst_app, hcat]
    rw [stmp_app, hcat] at hN2
    refine j_eqi (nI (unst mu s (a :: ((K a).take (i + 1)).flatMap (dsc K h)))) (by rw [hcnt]) ?_
    refine j_istore_n O 3 [(3, .int (nI (unst mu s (a :: ((K a).take (i + 1)).flatMap (dsc K h))))), (7, .ref ((K a)[i])), (0, .ref a), (1, .int s), (2, .int (nI (d + 1))), (4, .ref ba), (5, .int (nI (K a).length)), (6, .int (nI i))] dT_stampTree_60 rfl (by decide) rfl ?_
    refine j_iinc O (nI (i + 1)) [(6, .int (nI (i + 1))), (3, .int (nI (unst mu s (a :: ((K a).take (i + 1)).flatMap (dsc K h))))), (7, .ref ((K a)[i])), (0, .ref a), (1, .int s), (2, .int (nI (d + 1))), (4, .ref ba), (5, .int (nI (K a).length))] dT_stampTree_61 rfl (nI_1 _) (by decide) rfl ?_
    refine j_goto O 35 dT_stampTree_64 (by decide) ?_
    refine J.pk [3, 4, 5, 1, 6, 7, 0] rfl ?_
    exact ih (i + 1) gw2 (by omega) hN2 (hk.tr hk2)
set_option maxRecDepth 100000 in
set_option maxHeartbeats 1000000 in
theorem c_stampTree (l : Launch) (D : va_G) (t : Nat → ClassId) (A : Nat → Prop) (N : NM) (K : Nat → List Nat) (I : Nat → Prop) (R : (Nat → List Nat) × List Nat) (s : Int32) : ∀ (d : Nat) (a : Nat) (v : NV) (h : Nat) (g : GH) (mu : Nat → MU), N a = some v → v.1 = h → h ≤ d → d ≤ 5 → NI t g (N, K, mu, I, R) → (dsc K h a).Nodup → (∀ x ∈ dsc K h a, (mu x).2.2.1 = s → ∀ c ∈ K x, (mu c).2.2.1 = s) → Ct l yT_stampTree sT_stampTree { frames := d, cells := 0, slots := 0, locals := 30 * d } (zz D t A) [.ref a, .int s, .int (nI d)] g 0 0 (fun v g' => v = some (.int (nI (unst mu s (dsc K h a)))) ∧ NI t g' (N, K, stmp mu s (dsc K h a), I, R) ∧ KN [] N g g') := by
  intro d
  induction d with
  | zero =>
    intro a v h g mu hv hvh hhd hd5 hN hnd hcl
    have hh0 : h = 0 := by omega
    subst hh0
    obtain ⟨hvo, hIa, ⟨ra, ba, nr, fr, fb, iA, iB, hac, hra, hba, -, h0, -, hfb, h8⟩, had⟩ := hN a v hv
    dsimp only at hac hba h0 hfb h8 had hIa iA iB hra
    have hk0 : K a = [] := (h0 hvh).2.1
    refine Ct.of (cc := bT_stampTree) (maxL := 8) (ret := (some .int)) (by decide) (Nat.le_of_ble_eq_true rfl) (fun X hlX O M hNn => ?_)
    show J X 8 (zz D t A) g 0 0 0 [(0, .ref a), (1, .int s), (2, .int (nI 0))] []
    refine j_iload_n O 2 dT_stampTree_0 rfl rfl ?_
    refine j_if_lt O 12 dT_stampTree_1 (by decide) (fun c => absurd c (nI_pos (by omega))) (fun c => ?_)
    refine j_aload_n O 0 dT_stampTree_4 rfl rfl ?_
    refine j_get O uwN hac rfl 10 (by decide) w153 rfl rfl dT_stampTree_5 ?_
    refine j_iload_n O 1 dT_stampTree_8 rfl rfl ?_
    refine j_icmp_ne O 14 dT_stampTree_9 (by decide) (fun c1 => ?_) (fun c1 => ?_)
    · have kp0 : Kp [a] g g := Kp.rf
      refine j_aload_n O 0 dT_stampTree_14 rfl rfl ?_
      refine j_iload_n O 1 dT_stampTree_15 rfl rfl ?_
      refine j_put O uwN hac rfl 10 (by decide) w153 rfl tN ftN fnN rfl (.int) (by decide +kernel) rfl rfl (Nat.le_of_ble_eq_true rfl) [.int (nI v.1), .ref ra, .ref ba, .int (nI v.2.length), .int (nI (nsz v.1 v.2)), .int (lastK v.2), .int (nI (lastL v.2)), .int (nprt v.1 v.2), .long ((mu a).1), .int ((mu a).2.1), .int s, va_rf ((mu a).2.2.2)] rfl dT_stampTree_16 (fun gw4 ew5 => ?_)
      have hw6 := gUp_self (e' := .inr (2, [.int (nI v.1), .ref ra, .ref ba, .int (nI v.2.length), .int (nI (nsz v.1 v.2)), .int (lastK v.2), .int (nI (lastL v.2)), .int (nprt v.1 v.2), .long ((mu a).1), .int ((mu a).2.1), .int s, va_rf ((mu a).2.2.2)])) hac
      rw [← ew5] at hw6
      have kpw7 := kp0.up (a := a) (e := .inr (2, [.int (nI v.1), .ref ra, .ref ba, .int (nI v.2.length), .int (nI (nsz v.1 v.2)), .int (lastK v.2), .int (nI (lastL v.2)), .int (nprt v.1 v.2), .long ((mu a).1), .int ((mu a).2.1), .int s, va_rf ((mu a).2.2.2)])) (by simp)
      rw [← ew5] at kpw7
      have hN2 : NI t gw4 (N, K, stmp mu s [a], I, R) := by
        rw [← stmp_one]
        refine hN.mut hv had (fun x e hx _ he => kpw7.2 x e (one_ne hx) he) (fun ra' ba' hc => ?_)
        have e := hac.eq hc
        simp only [Sum.inr.injEq, Prod.mk.injEq, List.cons.injEq, Value.ref.injEq, true_and, and_true] at e
        rw [← e.1, ← e.2]
        exact hw6
      have hkA : KN [] N g gw4 := ⟨kpw7.1, fun x e _ n2 he => kpw7.2 x e (one_ne (fun z => by rw [z, hv] at n2; cases n2)) he⟩
      have hbaA := kpw7.2 ba _ (one_ne (hba.ne hac (by simp))) hba
      have hdl : dsc K 0 a = [a] := rfl
      refine j_iconst O (v := 1) dT_stampTree_19 (by decide) ?_
      refine j_istore_n O 3 [(3, .int 1), (0, .ref a), (1, .int s), (2, .int (nI 0))] dT_stampTree_20 rfl (by decide) rfl ?_
      refine j_aload_n O 0 dT_stampTree_21 rfl rfl ?_
      refine j_get O uwN hw6 rfl 2 (by decide) w136 rfl rfl dT_stampTree_22 ?_
      refine j_astore O [(4, .ref ba), (3, .int 1), (0, .ref a), (1, .int s), (2, .int (nI 0))] dT_stampTree_25 (by decide) rfl ?_
      refine j_aload O dT_stampTree_27 rfl ?_
      refine j_alen O hbaA 2 rfl dT_stampTree_29 ?_
      refine j_istore O [(5, .int (nI ((K a).length))), (4, .ref ba), (3, .int 1), (0, .ref a), (1, .int s), (2, .int (nI 0))] dT_stampTree_30 (by decide) rfl ?_
      refine j_iconst O (v := 0) dT_stampTree_32 (by decide) ?_
      refine j_istore O [(6, .int 0), (5, .int (nI ((K a).length))), (4, .ref ba), (3, .int 1), (0, .ref a), (1, .int s), (2, .int (nI 0))] dT_stampTree_33 (by decide) rfl ?_
      have hkl0 : (K a).length = 0 := by rw [hk0]; rfl
      refine j_iload O dT_stampTree_35 rfl ?_
      refine j_iload O dT_stampTree_37 rfl ?_
      refine j_icmp_ge O 67 dT_stampTree_39 (by decide) (fun c => ?_) (fun c => absurd (by rw [hkl0]; decide) c)
      refine j_iload_n O 3 dT_stampTree_67 rfl rfl ?_
      exact j_iret O M (Nat.le_of_ble_eq_true rfl) (Nat.le_of_ble_eq_true rfl) ⟨by rw [hdl, unst_1 c1]; rfl, hN2, hkA⟩ dT_stampTree_68
    · have hall := dsc_stamped (P := fun x => (mu x).2.2.1 = s) 0 a hcl c1
      refine j_iconst O (v := 0) dT_stampTree_12 (by decide) ?_
      exact j_iret O M (Nat.le_of_ble_eq_true rfl) (Nat.le_of_ble_eq_true rfl) ⟨by rw [unst_0 hall]; rfl, by rw [stmp_id hall]; exact hN, KN.rf⟩ dT_stampTree_13
  | succ d IH =>
    intro a v h g mu hv hvh hhd hd5 hN hnd hcl
    obtain ⟨hvo, hIa, ⟨ra, ba, nr, fr, fb, iA, iB, hac, hra, hba, -, h0, -, hfb, h8⟩, had⟩ := hN a v hv
    dsimp only at hac hba h0 hfb h8 had hIa iA iB hra
    have hbaN : N ba = none := hN.no hba (fun _ _ _ _ _ => by simp)
    have hkl : (K a).length ≤ 300 := by
      cases hv1 : v.1 with
      | zero => rw [(h0 hv1).2.1]; exact Nat.zero_le _
      | succ h' =>
        rw [(h8 h' hv1).1]
        exact Nat.le_trans (runs_len_le _ _) hvo.2.1
    refine Ct.of (cc := bT_stampTree) (maxL := 8) (ret := (some .int)) (by decide) (Nat.le_of_ble_eq_true rfl) (fun X hlX O M hNn => ?_)
    show J X 8 (zz D t A) g 0 0 0 [(0, .ref a), (1, .int s), (2, .int (nI (d + 1)))] []
    refine j_iload_n O 2 dT_stampTree_0 rfl rfl ?_
    refine j_if_lt O 12 dT_stampTree_1 (by decide) (fun c => absurd c (nI_pos (by omega))) (fun c => ?_)
    refine j_aload_n O 0 dT_stampTree_4 rfl rfl ?_
    refine j_get O uwN hac rfl 10 (by decide) w153 rfl rfl dT_stampTree_5 ?_
    refine j_iload_n O 1 dT_stampTree_8 rfl rfl ?_
    refine j_icmp_ne O 14 dT_stampTree_9 (by decide) (fun c1 => ?_) (fun c1 => ?_)
    · have kp0 : Kp [a] g g := Kp.rf
      refine j_aload_n O 0 dT_stampTree_14 rfl rfl ?_
      refine j_iload_n O 1 dT_stampTree_15 rfl rfl ?_
      refine j_put O uwN hac rfl 10 (by decide) w153 rfl tN ftN fnN rfl (.int) (by decide +kernel) rfl rfl (Nat.le_of_ble_eq_true rfl) [.int (nI v.1), .ref ra, .ref ba, .int (nI v.2.length), .int (nI (nsz v.1 v.2)), .int (lastK v.2), .int (nI (lastL v.2)), .int (nprt v.1 v.2), .long ((mu a).1), .int ((mu a).2.1), .int s, va_rf ((mu a).2.2.2)] rfl dT_stampTree_16 (fun gw8 ew9 => ?_)
      have hw10 := gUp_self (e' := .inr (2, [.int (nI v.1), .ref ra, .ref ba, .int (nI v.2.length), .int (nI (nsz v.1 v.2)), .int (lastK v.2), .int (nI (lastL v.2)), .int (nprt v.1 v.2), .long ((mu a).1), .int ((mu a).2.1), .int s, va_rf ((mu a).2.2.2)])) hac
      rw [← ew9] at hw10
      have kpw11 := kp0.up (a := a) (e := .inr (2, [.int (nI v.1), .ref ra, .ref ba, .int (nI v.2.length), .int (nI (nsz v.1 v.2)), .int (lastK v.2), .int (nI (lastL v.2)), .int (nprt v.1 v.2), .long ((mu a).1), .int ((mu a).2.1), .int s, va_rf ((mu a).2.2.2)])) (by simp)
      rw [← ew9] at kpw11
      have hN2 : NI t gw8 (N, K, stmp mu s [a], I, R) := by
        rw [← stmp_one]
        refine hN.mut hv had (fun x e hx _ he => kpw11.2 x e (one_ne hx) he) (fun ra' ba' hc => ?_)
        have e := hac.eq hc
        simp only [Sum.inr.injEq, Prod.mk.injEq, List.cons.injEq, Value.ref.injEq, true_and, and_true] at e
        rw [← e.1, ← e.2]
        exact hw10
      have hkA : KN [] N g gw8 := ⟨kpw11.1, fun x e _ n2 he => kpw11.2 x e (one_ne (fun z => by rw [z, hv] at n2; cases n2)) he⟩
      have hbaA := kpw11.2 ba _ (one_ne (hba.ne hac (by simp))) hba
      refine j_iconst O (v := 1) dT_stampTree_19 (by decide) ?_
      refine j_istore_n O 3 [(3, .int 1), (0, .ref a), (1, .int s), (2, .int (nI (d + 1)))] dT_stampTree_20 rfl (by decide) rfl ?_
      refine j_aload_n O 0 dT_stampTree_21 rfl rfl ?_
      refine j_get O uwN hw10 rfl 2 (by decide) w136 rfl rfl dT_stampTree_22 ?_
      refine j_astore O [(4, .ref ba), (3, .int 1), (0, .ref a), (1, .int s), (2, .int (nI (d + 1)))] dT_stampTree_25 (by decide) rfl ?_
      refine j_aload O dT_stampTree_27 rfl ?_
      refine j_alen O hbaA 2 rfl dT_stampTree_29 ?_
      refine j_istore O [(5, .int (nI ((K a).length))), (4, .ref ba), (3, .int 1), (0, .ref a), (1, .int s), (2, .int (nI (d + 1)))] dT_stampTree_30 (by decide) rfl ?_
      refine j_iconst O (v := 0) dT_stampTree_32 (by decide) ?_
      refine j_istore O [(6, .int 0), (5, .int (nI ((K a).length))), (4, .ref ba), (3, .int 1), (0, .ref a), (1, .int s), (2, .int (nI (d + 1)))] dT_stampTree_33 (by decide) rfl ?_
      refine J.pk [4, 5, 6, 3, 2, 1, 0] rfl ?_
      cases h with
      | zero =>
        have hk0 : K a = [] := (h0 hvh).2.1
        have hkl0 : (K a).length = 0 := by rw [hk0]; rfl
        have hdl : dsc K 0 a = [a] := rfl
        refine j_iload O dT_stampTree_35 rfl ?_
        refine j_iload O dT_stampTree_37 rfl ?_
        refine j_icmp_ge O 67 dT_stampTree_39 (by decide) (fun c => ?_) (fun c => absurd (by rw [hkl0]; decide) c)
        refine j_iload_n O 3 dT_stampTree_67 rfl rfl ?_
        exact j_iret O M (Nat.le_of_ble_eq_true rfl) (Nat.le_of_ble_eq_true rfl) ⟨by rw [hdl, unst_1 c1]; rfl, hN2, hkA⟩ dT_stampTree_68
      | succ h =>
        have e1 : (1 : Int32) = nI (unst mu s (a :: ((K a).take 0).flatMap (dsc K h))) := by
          show _ = nI (unst mu s [a])
          rw [unst_1 c1]; rfl
        rw [e1]
        have hkv : ∀ b ∈ K a, ∃ u, N b = some u ∧ u.1 = h := fun b hb => by
          obtain ⟨i, hi, rfl⟩ := List.getElem_of_mem hb
          obtain ⟨q1, q2⟩ := h8 h hvh
          exact ⟨_, q2 i hi (by rw [← q1]; exact hi), rfl⟩
        have K0 := stampTree_loop (d := d) O M hv hvh ba fb hba hbaN hfb hkl hnd hkv hcl ⟨Nat.le_refl _, Nat.le_refl _⟩ (fun b u g1 mu1 hb hu hN1 hnd1 hcl1 => by rw [hlX]; exact IH b u h g1 mu1 hb hu (by omega) (by omega) hN1 hnd1 hcl1) (K a).length 0 gw8 (Nat.zero_add _) hN2 hkA
        exact K0
    · have hall := dsc_stamped (P := fun x => (mu x).2.2.1 = s) h a hcl c1
      refine j_iconst O (v := 0) dT_stampTree_12 (by decide) ?_
      exact j_iret O M (Nat.le_of_ble_eq_true rfl) (Nat.le_of_ble_eq_true rfl) ⟨by rw [unst_0 hall]; rfl, by rw [stmp_id hall]; exact hN, KN.rf⟩ dT_stampTree_13
end
section
/-- the rows of a tree but for the nodes with this stamp -/
def gth (N : NM) (K : Nat → List Nat) (mu : Nat → MU) (s : Int32) : Nat → Nat → List RV
  | 0, a => if (mu a).2.2.1 = s then [] else match N a with
    | some v => v.2
    | none => []
  | h + 1, a => if (mu a).2.2.1 = s then [] else (K a).flatMap (gth N K mu s h)
/-- a RowList at q with its array at b holds these rows -/
def rlI (t : Nat → ClassId) (g : GH) (I : Nat → Prop) (q b : Nat) (ds : List RV) : Prop := gAt g q (eRL b (nI ds.length)) ∧ ∃ f, gAt g b (eRs t 300 f) ∧ rowsI t g I f 0 ds
theorem isRow_of {t : Nat → ClassId} {g : GH} {I : Nat → Prop} {a : Nat} {r : RV} (h : rowI t g I a r) : isRow g a := h.at.isRow
/-- one row more, behind the walk of append -/
theorem rlI.push {t : Nat → ClassId} {g g' : GH} {I : Nat → Prop} {q b x : Nat} {f : Nat → Option Nat} {ds : List RV} {r : RV} (hf : rowsI t g I f 0 ds) (hx : rowI t g I x r) (hq : gAt g' q (eRL b (nI (ds.length + 1)))) (hb : gAt g' b (eRs t 300 (va_up f ds.length (some x)))) (hk : Kp [q, b] g g') (hIq : ¬ I q) (hIb : ¬ I b) : rlI t g' I q b (ds ++ [r]) := by
  have hIk : ∀ (y : Nat) (e : va_E), I y → gAt g y e → gAt g' y e := fun y e hy he => hk.2 y e (two_ne (fun z => hIq (z ▸ hy)) (fun z => hIb (z ▸ hy))) he
  refine ⟨by rw [List.length_append]; exact hq, _, hb, fun i hi => ?_⟩
  rw [List.length_append] at hi
  rcases Nat.lt_or_ge i ds.length with z | z
  · obtain ⟨y, h1, h2⟩ := hf i z
    refine ⟨y, ?_, ?_⟩
    · rw [va_up_ne _ _ (by omega)]; exact h1
    · rw [List.getElem_append_left z]; exact h2.keep (fun _ w => w) hIk
  · have e : i = ds.length := by simp at hi; omega
    subst e
    refine ⟨x, ?_, ?_⟩
    · rw [Nat.zero_add, va_up_self]
    · rw [List.getElem_append_right (Nat.le_refl _)]
      simp only [Nat.sub_self, List.getElem_cons_zero]
      exact hx.keep (fun _ w => w) hIk
set_option maxRecDepth 100000 in
set_option maxHeartbeats 1000000 in
theorem gather_rows {X : CX} {D : va_G} {t : Nat → ClassId} {A : Nat → Prop} {rm : Room} {g : GH} {k0 n0 : Nat} {N : NM} {K : Nat → List Nat} {mu : Nat → MU} {I : Nat → Prop} {R : (Nat → List Nat) × List Nat} {q b a d ra : Nat} {s : Int32} {fr : Nat → Option Nat} {rs ds : List RV} (O : Ok X bT_gather 8 "TwinTrees" (zz D t A) rm) (hra : gAt g ra (eRs t rs.length fr)) (hIra : I ra) (hr : rowsI t g I fr 0 rs) (hIq : ¬ I q) (hIb : ¬ I b) (hl : ds.length + rs.length ≤ 300) (hrm : 1 ≤ rm.frames ∧ 30 ≤ rm.locals ∧ k0 + 0 ≤ rm.cells ∧ n0 + 0 ≤ rm.slots) (HK : ∀ g1 : GH, rlI t g1 I q b (ds ++ rs) → Kp [q, b] g g1 → J X 8 (zz D t A) g1 k0 n0 53 [(0, .ref a), (1, .int s), (2, .ref q), (3, .int (nI d))] []) : ∀ (k i : Nat) (g1 : GH), i + k = rs.length → rlI t g1 I q b (ds ++ rs.take i) → Kp [q, b] g g1 → J X 8 (zz D t A) g1 k0 n0 27 [(0, .ref a), (1, .int s), (2, .ref q), (3, .int (nI d)), (4, .ref ra), (5, .int (nI rs.length)), (6, .int (nI i))] [] := by
  intro k
  induction k with
  | zero =>
    intro i g1 hi hq hk
    have hi : i = rs.length := by omega
    subst hi
    rw [List.take_length] at hq
    refine j_iload O dT_gather_27 rfl ?_
    refine j_iload O dT_gather_29 rfl ?_
    refine j_icmp_ge O 53 dT_gather_31 (by decide) (fun c => ?_) (fun c => absurd (nI_le (Nat.le_refl _) (by omega)) c)
    refine J.pk [0, 1, 2, 3] rfl ?_
    exact HK g1 hq hk
  | succ k ih =>
    intro i g1 hi hq hk
    have hi1 : i < rs.length := by omega
    obtain ⟨hq1, f, hb1, hrf⟩ := hq
    have hIk : ∀ (y : Nat) (e : va_E), I y → gAt g y e → gAt g1 y e := fun y e hy he => hk.2 y e (two_ne (fun z => hIq (z ▸ hy)) (fun z => hIb (z ▸ hy))) he
    have hra1 := hIk ra _ hIra hra
    obtain ⟨x, hfx, hx⟩ := hr.keep (fun _ z => z) hIk i hi1
    rw [Nat.zero_add] at hfx
    have hlen : (ds ++ rs.take i).length = ds.length + i := by rw [List.length_append, List.length_take]; omega
    refine j_iload O dT_gather_27 rfl ?_
    refine j_iload O dT_gather_29 rfl ?_
    refine j_icmp_ge O 53 dT_gather_31 (by decide) (fun c => absurd c (nI_ge hi1 (by omega))) (fun c => ?_)
    refine j_aload O dT_gather_34 rfl ?_
    refine j_iload O dT_gather_36 rfl ?_
    refine j_aald O hra1 1 rfl (by omega) (by omega) dT_gather_38 ?_
    refine j_some x hfx ?_
    refine j_astore O [(7, .ref x), (0, .ref a), (1, .int s), (2, .ref q), (3, .int (nI d)), (4, .ref ra), (5, .int (nI rs.length)), (6, .int (nI i))] dT_gather_39 (by decide) rfl ?_
    refine j_aload_n O 2 dT_gather_41 rfl rfl ?_
    refine j_aload O dT_gather_42 rfl ?_
    refine j_callV O [.ref x] (c_append X.2.1 D t A g1 q x b (ds ++ rs.take i).length f hq1 hb1 (isRow_of hx) (by rw [hlen]; omega)) hq1 rfl w260 w261 w262 w26 w263 1 rfl rfl rfl (by decide +kernel) ⟨(by show 0 + 1 ≤ _; omega), (by show 8 + (_ + 11) + 0 ≤ _; omega)⟩ rfl (Nat.le_of_ble_eq_true rfl) dT_gather_44 ⟨hrm.2.2.1, hrm.2.2.2⟩ (fun vw1 gw2 hpw3 => ?_)
    obtain ⟨rfl, hq2, hb2, kp2⟩ := hpw3
    refine j_iinc O (nI (i + 1)) [(6, .int (nI (i + 1))), (7, .ref x), (0, .ref a), (1, .int s), (2, .ref q), (3, .int (nI d)), (4, .ref ra), (5, .int (nI rs.length))] dT_gather_47 rfl (nI_1 _) (by decide) rfl ?_
    refine j_goto O 27 dT_gather_50 (by decide) ?_
    refine J.pk [2, 3, 4, 5, 6, 7, 0] rfl ?_
    have hp := rlI.push hrf hx hq2 hb2 kp2 hIq hIb
    rw [List.append_assoc, ← List.take_succ_eq_append_getElem hi1] at hp
    exact ih (i + 1) _ (by omega) hp (hk.tr kp2)
set_option maxRecDepth 100000 in
set_option maxHeartbeats 1000000 in
theorem gather_loop {X : CX} {D : va_G} {t : Nat → ClassId} {A : Nat → Prop} {rm : Room} {g : GH} {N : NM} {K : Nat → List Nat} {mu : Nat → MU} {I : Nat → Prop} {R : (Nat → List Nat) × List Nat} {q b a d ba h : Nat} {s : Int32} {fb : Nat → Option Nat} {ks : List Nat} {ds : List RV} (O : Ok X bT_gather 8 "TwinTrees" (zz D t A) rm) (M : Om X (zz D t A) none 0 0 (fun v g' => v = none ∧ rlI t g' I q b (ds ++ ks.flatMap (gth N K mu s h)) ∧ Kp [q, b] g g')) (hba : gAt g ba (eNs t ks.length fb)) (hIba : I ba) (hfb : ∀ i (hi : i < ks.length), fb i = some ks[i]) (hkl : ks.length ≤ 300) (hIq : ¬ I q) (hIb : ¬ I b) (hno : N q = none ∧ N b = none) (hl : ds.length + (ks.flatMap (gth N K mu s h)).length ≤ 300) (hrm : d + 2 ≤ rm.frames ∧ 30 * (d + 2) ≤ rm.locals) (IH : ∀ (c : Nat) (g1 : GH) (ds : List RV), c ∈ ks → NI t g1 (N, K, mu, I, R) → rlI t g1 I q b ds → ds.length + (gth N K mu s h c).length ≤ 300 → Ct X.2.1 yT_gather sT_gather { frames := d + 1, cells := 0, slots := 0, locals := 30 * (d + 1) } (zz D t A) [.ref c, .int s, .ref q, .int (nI d)] g1 0 0 (fun v g' => v = none ∧ rlI t g' I q b (ds ++ gth N K mu s h c) ∧ Kp [q, b] g1 g')) : ∀ (k i : Nat) (g1 : GH), i + k = ks.length → rlI t g1 I q b (ds ++ (ks.take i).flatMap (gth N K mu s h)) → NI t g1 (N, K, mu, I, R) → Kp [q, b] g g1 → J X 8 (zz D t A) g1 0 0 67 [(0, .ref a), (1, .int s), (2, .ref q), (3, .int (nI (d + 1))), (4, .ref ba), (5, .int (nI ks.length)), (6, .int (nI i))] [] := by
  intro k
  induction k with
  | zero =>
    intro i g1 hi hq hN hk
    have hi : i = ks.length := by omega
    subst hi
    rw [List.take_length] at hq
    refine j_iload O dT_gather_67 rfl ?_
    refine j_iload O dT_gather_69 rfl ?_
    refine j_icmp_ge O 97 dT_gather_71 (by decide) (fun c => ?_) (fun c => absurd (nI_le (Nat.le_refl _) (by omega)) c)
    exact j_vret O M (Nat.le_of_ble_eq_true rfl) (Nat.le_of_ble_eq_true rfl) ⟨rfl, hq, hk⟩ dT_gather_97
  | succ k ih =>
    intro i g1 hi hq hN hk
    have hi1 : i < ks.length := by omega
    have hba1 := hk.2 ba _ (two_ne (fun z => hIq (z ▸ hIba)) (fun z => hIb (z ▸ hIba))) hba
    have htk : ks.take (i + 1) = ks.take i ++ [ks[i]] := List.take_succ_eq_append_getElem hi1
    have hlt : ds.length + ((ks.take (i + 1)).flatMap (gth N K mu s h)).length ≤ 300 := by
      have e : ks.flatMap (gth N K mu s h) = (ks.take (i + 1)).flatMap (gth N K mu s h) ++ (ks.drop (i + 1)).flatMap (gth N K mu s h) := by rw [← List.flatMap_append, List.take_append_drop]
      rw [e, List.length_append] at hl
      omega
    have hcat : (ds ++ (ks.take i).flatMap (gth N K mu s h)) ++ gth N K mu s h ks[i] = ds ++ (ks.take (i + 1)).flatMap (gth N K mu s h) := by rw [htk, List.flatMap_append, List.flatMap_singleton, List.append_assoc]
    refine j_iload O dT_gather_67 rfl ?_
    refine j_iload O dT_gather_69 rfl ?_
    refine j_icmp_ge O 97 dT_gather_71 (by decide) (fun c => absurd c (nI_ge hi1 (by omega))) (fun c => ?_)
    refine j_aload O dT_gather_74 rfl ?_
    refine j_iload O dT_gather_76 rfl ?_
    refine j_aald O hba1 2 rfl (by omega) (by omega) dT_gather_78 ?_
    refine j_some (ks[i]) (hfb i hi1) ?_
    refine j_astore O [(7, .ref (ks[i])), (0, .ref a), (1, .int s), (2, .ref q), (3, .int (nI (d + 1))), (4, .ref ba), (5, .int (nI ks.length)), (6, .int (nI i))] dT_gather_79 (by decide) rfl ?_
    refine j_aload O dT_gather_81 rfl ?_
    refine j_iload_n O 1 dT_gather_83 rfl rfl ?_
    refine j_aload_n O 2 dT_gather_84 rfl rfl ?_
    refine j_iload_n O 3 dT_gather_85 rfl rfl ?_
    refine j_iconst O (v := 1) dT_gather_86 (by decide) ?_
    refine j_isub O dT_gather_87 ?_
    refine j_eqi (nI (d + 1 - 1)) (pk_sub (b := 1) (by omega)) ?_
    refine j_eqi (nI d) (by rw [Nat.add_sub_cancel]) ?_
    refine j_callS O [.ref (ks[i]), .int s, .ref q, .int (nI d)] (IH ks[i] g1 (ds ++ (ks.take i).flatMap (gth N K mu s h)) (List.getElem_mem _) hN hq (by rw [← List.length_append, hcat, List.length_append]; exact hlt)) w257 w258 w23 w259 4 rfl rfl rfl (by decide +kernel) ⟨(by show d + 1 + 1 ≤ _; omega), (by show 8 + (8 + 11) + 30 * (d + 1) ≤ _; omega)⟩ rfl (Nat.le_of_ble_eq_true rfl) dT_gather_88 ⟨(by show 0 + 0 ≤ _; omega), (by show 0 + 0 ≤ _; omega)⟩ (fun vw4 gw5 hpw6 => ?_)
    obtain ⟨rfl, hq2, hk2⟩ := hpw6
    refine j_iinc O (nI (i + 1)) [(6, .int (nI (i + 1))), (7, .ref (ks[i])), (0, .ref a), (1, .int s), (2, .ref q), (3, .int (nI (d + 1))), (4, .ref ba), (5, .int (nI ks.length))] dT_gather_91 rfl (nI_1 _) (by decide) rfl ?_
    refine j_goto O 67 dT_gather_94 (by decide) ?_
    refine J.pk [2, 3, 4, 5, 6, 7, 0] rfl ?_
    rw [hcat] at hq2
    have hN2 := hN.keep (fun x e hx he => hk2.2 x e (two_ne (fun z => by
      subst z
      rcases hx with hx | ⟨u, hu⟩
      · exact hIq hx
      · have hu : N x = some u := hu
        rw [hno.1] at hu; cases hu) (fun z => by
      subst z
      rcases hx with hx | ⟨u, hu⟩
      · exact hIb hx
      · have hu : N x = some u := hu
        rw [hno.2] at hu; cases hu)) he)
    exact ih (i + 1) _ (by omega) hq2 hN2 (hk.tr hk2)
set_option maxRecDepth 100000 in
set_option maxHeartbeats 1000000 in
theorem c_gather (l : Launch) (D : va_G) (t : Nat → ClassId) (A : Nat → Prop) (N : NM) (K : Nat → List Nat) (mu : Nat → MU) (I : Nat → Prop) (R : (Nat → List Nat) × List Nat) (s : Int32) (q b : Nat) (hIq : ¬ I q) (hIb : ¬ I b) : ∀ (d : Nat) (a : Nat) (v : NV) (h : Nat) (g : GH) (ds : List RV), N a = some v → v.1 = h → h ≤ d → d ≤ 5 → NI t g (N, K, mu, I, R) → rlI t g I q b ds → ds.length + (gth N K mu s h a).length ≤ 300 → Ct l yT_gather sT_gather { frames := d + 1, cells := 0, slots := 0, locals := 30 * (d + 1) } (zz D t A) [.ref a, .int s, .ref q, .int (nI d)] g 0 0 (fun v g' => v = none ∧ rlI t g' I q b (ds ++ gth N K mu s h a) ∧ Kp [q, b] g g') := by
  intro d
  induction d with
  | zero =>
    intro a v h g ds hv hvh hhd hd5 hN hrl hlen
    have hh0 : h = 0 := by omega
    subst hh0
    obtain ⟨hvo, hIa, ⟨ra, ba, nr, fr, fb, iA, iB, hac, hra, hba, -, h0, h0', hfb, h8⟩, had⟩ := hN a v hv
    dsimp only at hac hba h0 hfb h8 had hIa iA iB hra
    have hkl : (K a).length ≤ 300 := by
      cases hv1 : v.1 with
      | zero => rw [(h0 hv1).2.1]; exact Nat.zero_le _
      | succ h' =>
        rw [(h8 h' hv1).1]
        exact Nat.le_trans (runs_len_le _ _) hvo.2.1
    have hno : N q = none ∧ N b = none := ⟨hN.no hrl.1 (fun _ _ _ _ _ => by simp), by obtain ⟨f, hb, -⟩ := hrl.2; exact hN.no hb (fun _ _ _ _ _ => by simp)⟩
    have hv0 := hvh
    refine Ct.of (cc := bT_gather) (maxL := 8) (ret := none) (by decide) (Nat.le_of_ble_eq_true rfl) (fun X hlX O M hNn => ?_)
    show J X 8 (zz D t A) g 0 0 0 [(0, .ref a), (1, .int s), (2, .ref q), (3, .int (nI 0))] []
    refine j_iload_n O 3 dT_gather_0 rfl rfl ?_
    refine j_if_lt O 12 dT_gather_1 (by decide) (fun c => absurd c (nI_pos (by omega))) (fun c => ?_)
    refine j_aload_n O 0 dT_gather_4 rfl rfl ?_
    refine j_get O uwN hac rfl 10 (by decide) w153 rfl rfl dT_gather_5 ?_
    refine j_iload_n O 1 dT_gather_8 rfl rfl ?_
    refine j_icmp_ne O 13 dT_gather_9 (by decide) (fun c1 => ?_) (fun c1 => ?_)
    · obtain ⟨hnr, hk0, hrr⟩ := h0 hv0
      subst hnr
      have hg0 : gth N K mu s 0 a = v.2 := by rw [gth, if_neg c1, hv]
      rw [hg0] at hlen
      refine j_aload_n O 0 dT_gather_13 rfl rfl ?_
      refine j_get O uwN hac rfl 1 (by decide) w134 rfl rfl dT_gather_14 ?_
      refine j_astore O [(4, .ref ra), (0, .ref a), (1, .int s), (2, .ref q), (3, .int (nI 0))] dT_gather_17 (by decide) rfl ?_
      refine j_aload O dT_gather_19 rfl ?_
      refine j_alen O hra 1 rfl dT_gather_21 ?_
      refine j_istore O [(5, .int (nI v.2.length)), (4, .ref ra), (0, .ref a), (1, .int s), (2, .ref q), (3, .int (nI 0))] dT_gather_22 (by decide) rfl ?_
      refine j_iconst O (v := 0) dT_gather_24 (by decide) ?_
      refine j_istore O [(6, .int 0), (5, .int (nI v.2.length)), (4, .ref ra), (0, .ref a), (1, .int s), (2, .ref q), (3, .int (nI 0))] dT_gather_25 (by decide) rfl ?_
      refine J.pk [3, 4, 5, 6, 2, 1, 0] rfl ?_
      refine gather_rows (k0 := 0) (n0 := 0) (N := N) (K := K) (mu := mu) (R := R) O hra iA hrr hIq hIb hlen ⟨Nat.le_add_left _ _, by show 30 ≤ 30 * (0 + 1); omega, Nat.le_refl _, Nat.le_refl _⟩ (fun g1 hq1 hk1 => ?_) v.2.length 0 g (Nat.zero_add _) (by rw [List.take_zero, List.append_nil]; exact hrl) Kp.rf
      have hac1 := hk1.2 a _ (two_ne (fun z => by rw [z, hno.1] at hv; cases hv) (fun z => by rw [z, hno.2] at hv; cases hv)) hac
      have hba1 := hk1.2 ba _ (two_ne (fun z => hIq (z ▸ iB)) (fun z => hIb (z ▸ iB))) hba
      have hkl0 : (K a).length = 0 := by rw [hk0]; rfl
      refine j_aload_n O 0 dT_gather_53 rfl rfl ?_
      refine j_get O uwN hac1 rfl 2 (by decide) w136 rfl rfl dT_gather_54 ?_
      refine j_astore O [(4, .ref ba), (0, .ref a), (1, .int s), (2, .ref q), (3, .int (nI 0))] dT_gather_57 (by decide) rfl ?_
      refine j_aload O dT_gather_59 rfl ?_
      refine j_alen O hba1 2 rfl dT_gather_61 ?_
      refine j_istore O [(5, .int (nI ((K a).length))), (4, .ref ba), (0, .ref a), (1, .int s), (2, .ref q), (3, .int (nI 0))] dT_gather_62 (by decide) rfl ?_
      refine j_iconst O (v := 0) dT_gather_64 (by decide) ?_
      refine j_istore O [(6, .int 0), (5, .int (nI ((K a).length))), (4, .ref ba), (0, .ref a), (1, .int s), (2, .ref q), (3, .int (nI 0))] dT_gather_65 (by decide) rfl ?_
      refine j_iload O dT_gather_67 rfl ?_
      refine j_iload O dT_gather_69 rfl ?_
      refine j_icmp_ge O 97 dT_gather_71 (by decide) (fun c => ?_) (fun c => absurd (by rw [hkl0]; decide) c)
      exact j_vret O M (Nat.le_of_ble_eq_true rfl) (Nat.le_of_ble_eq_true rfl) ⟨rfl, by rw [hg0]; exact hq1, hk1⟩ dT_gather_97
    · exact j_vret O M (Nat.le_of_ble_eq_true rfl) (Nat.le_of_ble_eq_true rfl) ⟨rfl, by rw [gth, if_pos c1, List.append_nil]; exact hrl, Kp.rf⟩ dT_gather_12
  | succ d IH =>
    intro a v h g ds hv hvh hhd hd5 hN hrl hlen
    obtain ⟨hvo, hIa, ⟨ra, ba, nr, fr, fb, iA, iB, hac, hra, hba, -, h0, h0', hfb, h8⟩, had⟩ := hN a v hv
    dsimp only at hac hba h0 hfb h8 had hIa iA iB hra
    have hkl : (K a).length ≤ 300 := by
      cases hv1 : v.1 with
      | zero => rw [(h0 hv1).2.1]; exact Nat.zero_le _
      | succ h' =>
        rw [(h8 h' hv1).1]
        exact Nat.le_trans (runs_len_le _ _) hvo.2.1
    have hno : N q = none ∧ N b = none := ⟨hN.no hrl.1 (fun _ _ _ _ _ => by simp), by obtain ⟨f, hb, -⟩ := hrl.2; exact hN.no hb (fun _ _ _ _ _ => by simp)⟩
    refine Ct.of (cc := bT_gather) (maxL := 8) (ret := none) (by decide) (Nat.le_of_ble_eq_true rfl) (fun X hlX O M hNn => ?_)
    show J X 8 (zz D t A) g 0 0 0 [(0, .ref a), (1, .int s), (2, .ref q), (3, .int (nI (d + 1)))] []
    refine j_iload_n O 3 dT_gather_0 rfl rfl ?_
    refine j_if_lt O 12 dT_gather_1 (by decide) (fun c => absurd c (nI_pos (by omega))) (fun c => ?_)
    refine j_aload_n O 0 dT_gather_4 rfl rfl ?_
    refine j_get O uwN hac rfl 10 (by decide) w153 rfl rfl dT_gather_5 ?_
    refine j_iload_n O 1 dT_gather_8 rfl rfl ?_
    refine j_icmp_ne O 13 dT_gather_9 (by decide) (fun c1 => ?_) (fun c1 => ?_)
    · cases h with
      | zero =>
        have hv0 := hvh
        obtain ⟨hnr, hk0, hrr⟩ := h0 hv0
        subst hnr
        have hg0 : gth N K mu s 0 a = v.2 := by rw [gth, if_neg c1, hv]
        rw [hg0] at hlen
        refine j_aload_n O 0 dT_gather_13 rfl rfl ?_
        refine j_get O uwN hac rfl 1 (by decide) w134 rfl rfl dT_gather_14 ?_
        refine j_astore O [(4, .ref ra), (0, .ref a), (1, .int s), (2, .ref q), (3, .int (nI (d + 1)))] dT_gather_17 (by decide) rfl ?_
        refine j_aload O dT_gather_19 rfl ?_
        refine j_alen O hra 1 rfl dT_gather_21 ?_
        refine j_istore O [(5, .int (nI v.2.length)), (4, .ref ra), (0, .ref a), (1, .int s), (2, .ref q), (3, .int (nI (d + 1)))] dT_gather_22 (by decide) rfl ?_
        refine j_iconst O (v := 0) dT_gather_24 (by decide) ?_
        refine j_istore O [(6, .int 0), (5, .int (nI v.2.length)), (4, .ref ra), (0, .ref a), (1, .int s), (2, .ref q), (3, .int (nI (d + 1)))] dT_gather_25 (by decide) rfl ?_
        refine J.pk [3, 4, 5, 6, 2, 1, 0] rfl ?_
        refine gather_rows (k0 := 0) (n0 := 0) (N := N) (K := K) (mu := mu) (R := R) O hra iA hrr hIq hIb hlen ⟨Nat.le_add_left _ _, by show 30 ≤ 30 * (d + 1 + 1); omega, Nat.le_refl _, Nat.le_refl _⟩ (fun g1 hq1 hk1 => ?_) v.2.length 0 g (Nat.zero_add _) (by rw [List.take_zero, List.append_nil]; exact hrl) Kp.rf
        have hac1 := hk1.2 a _ (two_ne (fun z => by rw [z, hno.1] at hv; cases hv) (fun z => by rw [z, hno.2] at hv; cases hv)) hac
        have hba1 := hk1.2 ba _ (two_ne (fun z => hIq (z ▸ iB)) (fun z => hIb (z ▸ iB))) hba
        have hkl0 : (K a).length = 0 := by rw [hk0]; rfl
        refine j_aload_n O 0 dT_gather_53 rfl rfl ?_
        refine j_get O uwN hac1 rfl 2 (by decide) w136 rfl rfl dT_gather_54 ?_
        refine j_astore O [(4, .ref ba), (0, .ref a), (1, .int s), (2, .ref q), (3, .int (nI (d + 1)))] dT_gather_57 (by decide) rfl ?_
        refine j_aload O dT_gather_59 rfl ?_
        refine j_alen O hba1 2 rfl dT_gather_61 ?_
        refine j_istore O [(5, .int (nI ((K a).length))), (4, .ref ba), (0, .ref a), (1, .int s), (2, .ref q), (3, .int (nI (d + 1)))] dT_gather_62 (by decide) rfl ?_
        refine j_iconst O (v := 0) dT_gather_64 (by decide) ?_
        refine j_istore O [(6, .int 0), (5, .int (nI ((K a).length))), (4, .ref ba), (0, .ref a), (1, .int s), (2, .ref q), (3, .int (nI (d + 1)))] dT_gather_65 (by decide) rfl ?_
        refine j_iload O dT_gather_67 rfl ?_
        refine j_iload O dT_gather_69 rfl ?_
        refine j_icmp_ge O 97 dT_gather_71 (by decide) (fun c => ?_) (fun c => absurd (by rw [hkl0]; decide) c)
        exact j_vret O M (Nat.le_of_ble_eq_true rfl) (Nat.le_of_ble_eq_true rfl) ⟨rfl, by rw [hg0]; exact hq1, hk1⟩ dT_gather_97
      | succ h =>
        have hnr := h0' (by omega)
        subst hnr
        have hg1 : gth N K mu s (h + 1) a = (K a).flatMap (gth N K mu s h) := by rw [gth, if_neg c1]
        rw [hg1] at M hlen
        refine j_aload_n O 0 dT_gather_13 rfl rfl ?_
        refine j_get O uwN hac rfl 1 (by decide) w134 rfl rfl dT_gather_14 ?_
        refine j_astore O [(4, .ref ra), (0, .ref a), (1, .int s), (2, .ref q), (3, .int (nI (d + 1)))] dT_gather_17 (by decide) rfl ?_
        refine j_aload O dT_gather_19 rfl ?_
        refine j_alen O hra 1 rfl dT_gather_21 ?_
        refine j_istore O [(5, .int (nI 0)), (4, .ref ra), (0, .ref a), (1, .int s), (2, .ref q), (3, .int (nI (d + 1)))] dT_gather_22 (by decide) rfl ?_
        refine j_iconst O (v := 0) dT_gather_24 (by decide) ?_
        refine j_istore O [(6, .int 0), (5, .int (nI 0)), (4, .ref ra), (0, .ref a), (1, .int s), (2, .ref q), (3, .int (nI (d + 1)))] dT_gather_25 (by decide) rfl ?_
        refine j_iload O dT_gather_27 rfl ?_
        refine j_iload O dT_gather_29 rfl ?_
        refine j_icmp_ge O 53 dT_gather_31 (by decide) (fun c => ?_) (fun c => absurd (by decide) c)
        refine j_aload_n O 0 dT_gather_53 rfl rfl ?_
        refine j_get O uwN hac rfl 2 (by decide) w136 rfl rfl dT_gather_54 ?_
        refine j_astore O [(4, .ref ba), (6, .int 0), (5, .int (nI 0)), (0, .ref a), (1, .int s), (2, .ref q), (3, .int (nI (d + 1)))] dT_gather_57 (by decide) rfl ?_
        refine j_aload O dT_gather_59 rfl ?_
        refine j_alen O hba 2 rfl dT_gather_61 ?_
        refine j_istore O [(5, .int (nI ((K a).length))), (4, .ref ba), (6, .int 0), (0, .ref a), (1, .int s), (2, .ref q), (3, .int (nI (d + 1)))] dT_gather_62 (by decide) rfl ?_
        refine j_iconst O (v := 0) dT_gather_64 (by decide) ?_
        refine j_istore O [(6, .int 0), (5, .int (nI ((K a).length))), (4, .ref ba), (0, .ref a), (1, .int s), (2, .ref q), (3, .int (nI (d + 1)))] dT_gather_65 (by decide) rfl ?_
        refine J.pk [3, 4, 5, 6, 2, 1, 0] rfl ?_
        exact gather_loop (d := d) O M hba iB hfb hkl hIq hIb hno hlen ⟨Nat.le_refl _, Nat.le_refl _⟩ (fun c g1 ds1 hc hN1 hrl1 hl1 => by
          obtain ⟨i, hi, rfl⟩ := List.getElem_of_mem hc
          obtain ⟨q1, q2⟩ := h8 h hvh
          rw [hlX]
          exact IH _ _ h g1 ds1 (q2 i hi (by rw [← q1]; exact hi)) rfl (by omega) (by omega) hN1 hrl1 hl1) (K a).length 0 g (Nat.zero_add _) (by rw [List.take_zero, List.flatMap_nil, List.append_nil]; exact hrl) hN Kp.rf
    · exact j_vret O M (Nat.le_of_ble_eq_true rfl) (Nat.le_of_ble_eq_true rfl) ⟨rfl, by cases h <;> (rw [gth, if_pos c1, List.append_nil]; exact hrl), Kp.rf⟩ dT_gather_12
end
section
/-- stamps and pointers are as they were -/
def muA (mu mu' : Nat → MU) : Prop := ∀ x, (mu' x).2.2 = (mu x).2.2
theorem muA.rf {mu : Nat → MU} : muA mu mu := fun _ => rfl
theorem muA.tr {m1 m2 m3 : Nat → MU} (h : muA m1 m2) (h' : muA m2 m3) : muA m1 m3 := fun x => (h' x).trans (h x)
def nadB (h : Nat) (qs : List (List RV)) : Int64 := qs.foldl (fun a q => adM a (nad h q)) (adM 1469598103934665603 (nI (h + 1)).toInt64)
theorem nadB_take (h : Nat) (qs : List (List RV)) (i : Nat) (hi : i < qs.length) : nadB h (qs.take (i + 1)) = adM (nadB h (qs.take i)) (nad h qs[i]) := by
  unfold nadB
  rw [List.take_succ_eq_append_getElem hi, List.foldl_append]
  rfl
def nadL (rs : List RV) : Int64 := rs.foldl rad (adM 1469598103934665603 0)
theorem nadL_take (rs : List RV) (i : Nat) (hi : i < rs.length) : nadL (rs.take (i + 1)) = rad (nadL (rs.take i)) rs[i] := by
  unfold nadL
  rw [List.take_succ_eq_append_getElem hi, List.foldl_append]
  rfl
set_option maxRecDepth 100000 in
set_option maxHeartbeats 1000000 in
theorem addressOf_rows {X : CX} {D : va_G} {t : Nat → ClassId} {A : Nat → Prop} {rm : Room} {g : GH} {k0 n0 : Nat} {I : Nat → Prop} {a d ra : Nat} {fr : Nat → Option Nat} {rs : List RV} (O : Ok X bT_addressOf 8 "TwinTrees" (zz D t A) rm) (hra : gAt g ra (eRs t rs.length fr)) (hr : rowsI t g I fr 0 rs) (hl : rs.length ≤ 300) (hw : ∀ r ∈ rs, r.2.1.length ≤ 6) (hrm : 2 ≤ rm.frames ∧ 60 ≤ rm.locals ∧ k0 + 0 ≤ rm.cells ∧ n0 + 0 ≤ rm.slots) (HK : J X 8 (zz D t A) g k0 n0 69 [(0, .ref a), (1, .int (nI d)), (2, .long (nadL rs))] []) : ∀ (k i : Nat), i + k = rs.length → J X 8 (zz D t A) g k0 n0 42 [(0, .ref a), (1, .int (nI d)), (2, .long (nadL (rs.take i))), (4, .ref ra), (5, .int (nI rs.length)), (6, .int (nI i))] [] := by
  intro k
  induction k with
  | zero =>
    intro i hi
    have hi : i = rs.length := by omega
    subst hi
    rw [List.take_length]
    refine j_iload O dT_addressOf_42 rfl ?_
    refine j_iload O dT_addressOf_44 rfl ?_
    refine j_icmp_ge O 69 dT_addressOf_46 (by decide) (fun c => ?_) (fun c => absurd (nI_le (Nat.le_refl _) (by omega)) c)
    refine J.pk [0, 1, 2] rfl ?_
    exact HK
  | succ k ih =>
    intro i hi
    have hi1 : i < rs.length := by omega
    obtain ⟨x, hfx, hx⟩ := hr i hi1
    rw [Nat.zero_add] at hfx
    refine j_iload O dT_addressOf_42 rfl ?_
    refine j_iload O dT_addressOf_44 rfl ?_
    refine j_icmp_ge O 69 dT_addressOf_46 (by decide) (fun c => absurd c (nI_ge hi1 (by omega))) (fun c => ?_)
    refine j_aload O dT_addressOf_49 rfl ?_
    refine j_iload O dT_addressOf_51 rfl ?_
    refine j_aald O hra 1 rfl (by omega) (by omega) dT_addressOf_53 ?_
    refine j_some x hfx ?_
    refine j_astore O [(7, .ref x), (0, .ref a), (1, .int (nI d)), (2, .long (nadL (rs.take i))), (4, .ref ra), (5, .int (nI rs.length)), (6, .int (nI i))] dT_addressOf_54 (by decide) rfl ?_
    refine j_lload_n O 2 dT_addressOf_56 rfl rfl ?_
    refine j_aload O dT_addressOf_57 rfl ?_
    refine j_callS O [.long (nadL (rs.take i)), .ref x] (c_mixedRow X.2.1 D t A g _ x rs[i] hx.at (Nat.le_trans (hw _ (List.getElem_mem _)) (by decide))) w369 w370 w23 w371 2 rfl rfl rfl (by decide +kernel) ⟨(by show 1 + 1 ≤ _; omega), (by show 8 + (6 + 11) + 30 ≤ _; omega)⟩ rfl (Nat.le_of_ble_eq_true rfl) dT_addressOf_59 ⟨hrm.2.2.1, hrm.2.2.2⟩ (fun vw1 gw2 hpw3 => ?_)
    obtain ⟨rfl, hgw4⟩ := hpw3
    have hgw4 := hgw4.symm
    subst hgw4
    refine j_eql (nadL (rs.take (i + 1))) (nadL_take rs i hi1).symm ?_
    refine j_lstore_n O 2 [(2, .long (nadL (rs.take (i + 1)))), (7, .ref x), (0, .ref a), (1, .int (nI d)), (4, .ref ra), (5, .int (nI rs.length)), (6, .int (nI i))] dT_addressOf_62 rfl (by decide) rfl ?_
    refine j_iinc O (nI (i + 1)) [(6, .int (nI (i + 1))), (2, .long (nadL (rs.take (i + 1)))), (7, .ref x), (0, .ref a), (1, .int (nI d)), (4, .ref ra), (5, .int (nI rs.length))] dT_addressOf_63 rfl (nI_1 _) (by decide) rfl ?_
    refine j_goto O 42 dT_addressOf_66 (by decide) ?_
    refine J.pk [3, 4, 1, 5, 6, 0] rfl ?_
    exact ih (i + 1) (by omega)
set_option maxRecDepth 100000 in
set_option maxHeartbeats 1000000 in
theorem addressOf_loop {X : CX} {D : va_G} {t : Nat → ClassId} {A : Nat → Prop} {rm : Room} {g : GH} {k0 n0 : Nat} {N : NM} {K : Nat → List Nat} {mu : Nat → MU} {I : Nat → Prop} {R : (Nat → List Nat) × List Nat} {a d ba h : Nat} {fb : Nat → Option Nat} {ks : List Nat} {qs : List (List RV)} (O : Ok X bT_addressOf 8 "TwinTrees" (zz D t A) rm) (hba : gAt g ba (eNs t ks.length fb)) (hbaN : N ba = none) (hfb : ∀ i (hi : i < ks.length), fb i = some ks[i]) (hkl : ks.length ≤ 300) (hkq : ks.length = qs.length) (hrm : d + 3 ≤ rm.frames ∧ 30 * (d + 1) + 60 ≤ rm.locals ∧ k0 + 0 ≤ rm.cells ∧ n0 + 0 ≤ rm.slots) (IH : ∀ (i : Nat) (hi : i < ks.length) (hj : i < qs.length) (g1 : GH) (mu1 : Nat → MU), NI t g1 (N, K, mu1, I, R) → Ct X.2.1 yT_addressOf sT_addressOf { frames := d + 2, cells := 0, slots := 0, locals := 30 * d + 60 } (zz D t A) [.ref ks[i], .int (nI d)] g1 0 0 (fun v g' => v = some (.long (nad h qs[i])) ∧ ∃ mu', NI t g' (N, K, mu', I, R) ∧ muA mu1 mu' ∧ KN [] N g1 g')) (HK : ∀ (g1 : GH) (mu1 : Nat → MU), NI t g1 (N, K, mu1, I, R) → muA mu mu1 → KN [] N g g1 → J X 8 (zz D t A) g1 k0 n0 116 [(0, .ref a), (1, .int (nI (d + 1))), (2, .long (nadB h qs))] []) : ∀ (k i : Nat) (g1 : GH) (mu1 : Nat → MU), i + k = ks.length → NI t g1 (N, K, mu1, I, R) → muA mu mu1 → KN [] N g g1 → J X 8 (zz D t A) g1 k0 n0 83 [(0, .ref a), (1, .int (nI (d + 1))), (2, .long (nadB h (qs.take i))), (4, .ref ba), (5, .int (nI ks.length)), (6, .int (nI i))] [] := by
  intro k
  induction k with
  | zero =>
    intro i g1 mu1 hi hN hm hk
    have hi : i = ks.length := by omega
    subst hi
    have e : qs.take ks.length = qs := by rw [hkq, List.take_length]
    rw [e]
    refine j_iload O dT_addressOf_83 rfl ?_
    refine j_iload O dT_addressOf_85 rfl ?_
    refine j_icmp_ge O 116 dT_addressOf_87 (by decide) (fun c => ?_) (fun c => absurd (nI_le (Nat.le_refl _) (by omega)) c)
    refine J.pk [0, 1, 2] rfl ?_
    exact HK g1 mu1 hN hm hk
  | succ k ih =>
    intro i g1 mu1 hi hN hm hk
    have hi1 : i < ks.length := by omega
    have hj1 : i < qs.length := by omega
    have hba1 := hk.2 ba _ List.not_mem_nil hbaN hba
    refine j_iload O dT_addressOf_83 rfl ?_
    refine j_iload O dT_addressOf_85 rfl ?_
    refine j_icmp_ge O 116 dT_addressOf_87 (by decide) (fun c => absurd c (nI_ge hi1 (by omega))) (fun c => ?_)
    refine j_aload O dT_addressOf_90 rfl ?_
    refine j_iload O dT_addressOf_92 rfl ?_
    refine j_aald O hba1 2 rfl (by omega) (by omega) dT_addressOf_94 ?_
    refine j_some (ks[i]) (hfb i hi1) ?_
    refine j_astore O [(7, .ref (ks[i])), (0, .ref a), (1, .int (nI (d + 1))), (2, .long (nadB h (qs.take i))), (4, .ref ba), (5, .int (nI ks.length)), (6, .int (nI i))] dT_addressOf_95 (by decide) rfl ?_
    refine j_lload_n O 2 dT_addressOf_97 rfl rfl ?_
    refine j_aload O dT_addressOf_98 rfl ?_
    refine j_iload_n O 1 dT_addressOf_100 rfl rfl ?_
    refine j_iconst O (v := 1) dT_addressOf_101 (by decide) ?_
    refine j_isub O dT_addressOf_102 ?_
    refine j_eqi (nI (d + 1 - 1)) (pk_sub (b := 1) (by omega)) ?_
    refine j_eqi (nI d) (by rw [Nat.add_sub_cancel]) ?_
    refine j_callS O [.ref (ks[i]), .int (nI d)] (IH i hi1 hj1 g1 mu1 hN) w361 w362 w23 w363 2 rfl rfl rfl (by decide +kernel) ⟨(by show d + 2 + 1 ≤ _; omega), (by show 8 + (8 + 11) + (30 * d + 60) ≤ _; omega)⟩ rfl (Nat.le_of_ble_eq_true rfl) dT_addressOf_103 ⟨hrm.2.2.1, hrm.2.2.2⟩ (fun vw5 gw6 hpw7 => ?_)
    obtain ⟨rfl, mu2, hN2, hm2, hk2⟩ := hpw7
    refine j_callS O [.long (nadB h (qs.take i)), .long (nad h qs[i])] (c_mixed X.2.1 D t A gw6 _ _) w365 w366 w23 w367 2 rfl rfl rfl (by decide +kernel) ⟨(by show 0 + 1 ≤ _; omega), (by show 8 + (4 + 11) + 0 ≤ _; omega)⟩ rfl (Nat.le_of_ble_eq_true rfl) dT_addressOf_106 ⟨hrm.2.2.1, hrm.2.2.2⟩ (fun vw8 gw9 hpw10 => ?_)
    obtain ⟨rfl, hgw11⟩ := hpw10
    have hgw11 := hgw11.symm
    subst hgw11
    refine j_eql (nadB h (qs.take (i + 1))) (nadB_take h qs i hj1).symm ?_
    refine j_lstore_n O 2 [(2, .long (nadB h (qs.take (i + 1)))), (7, .ref (ks[i])), (0, .ref a), (1, .int (nI (d + 1))), (4, .ref ba), (5, .int (nI ks.length)), (6, .int (nI i))] dT_addressOf_109 rfl (by decide) rfl ?_
    refine j_iinc O (nI (i + 1)) [(6, .int (nI (i + 1))), (2, .long (nadB h (qs.take (i + 1)))), (7, .ref (ks[i])), (0, .ref a), (1, .int (nI (d + 1))), (4, .ref ba), (5, .int (nI ks.length))] dT_addressOf_110 rfl (nI_1 _) (by decide) rfl ?_
    refine j_goto O 83 dT_addressOf_113 (by decide) ?_
    refine J.pk [3, 4, 1, 5, 6, 0] rfl ?_
    exact ih (i + 1) gw6 mu2 (by omega) hN2 (hm.tr hm2) (hk.tr hk2)
set_option maxRecDepth 100000 in
set_option maxHeartbeats 1000000 in
theorem c_addressOf (l : Launch) (D : va_G) (t : Nat → ClassId) (A : Nat → Prop) (N : NM) (K : Nat → List Nat) (I : Nat → Prop) (R : (Nat → List Nat) × List Nat) : ∀ (d : Nat) (a : Nat) (v : NV) (g : GH) (mu : Nat → MU), N a = some v → v.1 ≤ d → d ≤ 5 → NI t g (N, K, mu, I, R) → Ct l yT_addressOf sT_addressOf { frames := d + 2, cells := 0, slots := 0, locals := 30 * d + 60 } (zz D t A) [.ref a, .int (nI d)] g 0 0 (fun r g' => r = some (.long (nad v.1 v.2)) ∧ ∃ mu', NI t g' (N, K, mu', I, R) ∧ muA mu mu' ∧ KN [] N g g') := by
  intro d
  induction d with
  | zero =>
    intro a v g mu hv hvd hd5 hN
    have hv0 : v.1 = 0 := by omega
    obtain ⟨hvo, hIa, ⟨ra, ba, nr, fr, fb, iA, iB, hac, hra, hba, -, h0, h0', hfb, h8⟩, had⟩ := hN a v hv
    dsimp only at hac hba h0 hfb h8 had hIa iA iB hra
    have hbaN : N ba = none := hN.no hba (fun _ _ _ _ _ => by simp)
    have hkl : (K a).length ≤ 300 := by
      cases hv1 : v.1 with
      | zero => rw [(h0 hv1).2.1]; exact Nat.zero_le _
      | succ h' =>
        rw [(h8 h' hv1).1]
        exact Nat.le_trans (runs_len_le _ _) hvo.2.1
    refine Ct.of (cc := bT_addressOf) (maxL := 8) (ret := (some .long)) (by decide) (Nat.le_of_ble_eq_true rfl) (fun X hlX O M hNn => ?_)
    show J X 8 (zz D t A) g 0 0 0 [(0, .ref a), (1, .int (nI 0))] []
    refine j_iload_n O 1 dT_addressOf_0 rfl rfl ?_
    refine j_if_lt O 11 dT_addressOf_1 (by decide) (fun c => absurd c (nI_pos (by omega))) (fun c => ?_)
    refine j_aload_n O 0 dT_addressOf_4 rfl rfl ?_
    refine j_get O uwN hac rfl 9 (by decide) w150 rfl rfl dT_addressOf_5 ?_
    refine j_if_eq O 16 dT_addressOf_8 (by decide) (fun c1 => ?_) (fun c1 => ?_)
    · refine j_ldc2 O 1469598103934665603 w364 dT_addressOf_16 ?_
      refine j_aload_n O 0 dT_addressOf_19 rfl rfl ?_
      refine j_get O uwN hac rfl 0 (by decide) w132 rfl rfl dT_addressOf_20 ?_
      refine j_i2l O dT_addressOf_23 ?_
      refine j_callS O [.long 1469598103934665603, .long ((nI v.1).toInt64)] (c_mixed X.2.1 D t A g _ _) w365 w366 w23 w367 2 rfl rfl rfl (by decide +kernel) ⟨(by show 0 + 1 ≤ 0 + 2; omega), (by show 8 + (4 + 11) + 0 ≤ 30 * 0 + 60; omega)⟩ rfl (Nat.le_of_ble_eq_true rfl) dT_addressOf_24 ⟨(Nat.le_of_ble_eq_true rfl), (Nat.le_of_ble_eq_true rfl)⟩ (fun vw12 gw13 hpw14 => ?_)
      obtain ⟨rfl, hgw15⟩ := hpw14
      have hgw15 := hgw15.symm
      subst hgw15
      obtain ⟨hnr, hk0, hrr⟩ := h0 hv0
      subst hnr
      have e0 : adM 1469598103934665603 (nI v.1).toInt64 = nadL (v.2.take 0) := by rw [hv0]; rfl
      refine j_eql (nadL (v.2.take 0)) e0 ?_
      refine j_lstore_n O 2 [(2, .long (nadL (v.2.take 0))), (0, .ref a), (1, .int (nI 0))] dT_addressOf_27 rfl (by decide) rfl ?_
      refine j_aload_n O 0 dT_addressOf_28 rfl rfl ?_
      refine j_get O uwN hac rfl 1 (by decide) w134 rfl rfl dT_addressOf_29 ?_
      refine j_astore O [(4, .ref ra), (2, .long (nadL (v.2.take 0))), (0, .ref a), (1, .int (nI 0))] dT_addressOf_32 (by decide) rfl ?_
      refine j_aload O dT_addressOf_34 rfl ?_
      refine j_alen O hra 1 rfl dT_addressOf_36 ?_
      refine j_istore O [(5, .int (nI v.2.length)), (4, .ref ra), (2, .long (nadL (v.2.take 0))), (0, .ref a), (1, .int (nI 0))] dT_addressOf_37 (by decide) rfl ?_
      refine j_iconst O (v := 0) dT_addressOf_39 (by decide) ?_
      refine j_istore O [(6, .int 0), (5, .int (nI v.2.length)), (4, .ref ra), (2, .long (nadL (v.2.take 0))), (0, .ref a), (1, .int (nI 0))] dT_addressOf_40 (by decide) rfl ?_
      refine J.pk [4, 5, 3, 2, 1, 0] rfl ?_
      refine addressOf_rows (k0 := 0) (n0 := 0) O hra hrr hvo.2.1 hvo.2.2.1 ⟨Nat.le_add_left _ _, by show 60 ≤ 30 * 0 + 60; omega, Nat.le_refl _, Nat.le_refl _⟩ ?_ v.2.length 0 (Nat.zero_add _)
      have hkl0 : (K a).length = 0 := by rw [hk0]; rfl
      have hval : nadL v.2 = nad v.1 v.2 := by rw [hv0]; rfl
      refine j_aload_n O 0 dT_addressOf_69 rfl rfl ?_
      refine j_get O uwN hac rfl 2 (by decide) w136 rfl rfl dT_addressOf_70 ?_
      refine j_astore O [(4, .ref ba), (0, .ref a), (1, .int (nI 0)), (2, .long (nadL v.2))] dT_addressOf_73 (by decide) rfl ?_
      refine j_aload O dT_addressOf_75 rfl ?_
      refine j_alen O hba 2 rfl dT_addressOf_77 ?_
      refine j_istore O [(5, .int (nI ((K a).length))), (4, .ref ba), (0, .ref a), (1, .int (nI 0)), (2, .long (nadL v.2))] dT_addressOf_78 (by decide) rfl ?_
      refine j_iconst O (v := 0) dT_addressOf_80 (by decide) ?_
      refine j_istore O [(6, .int 0), (5, .int (nI ((K a).length))), (4, .ref ba), (0, .ref a), (1, .int (nI 0)), (2, .long (nadL v.2))] dT_addressOf_81 (by decide) rfl ?_
      refine j_iload O dT_addressOf_83 rfl ?_
      refine j_iload O dT_addressOf_85 rfl ?_
      refine j_icmp_ge O 116 dT_addressOf_87 (by decide) (fun c => ?_) (fun c => absurd (by rw [hkl0]; decide) c)
      refine J.pk [3, 4, 5] rfl ?_
      obtain ⟨ra9, ba9, hac9⟩ := hN.cell hv
      have kp0 : Kp [a] g g := Kp.rf
      refine j_aload_n O 0 dT_addressOf_116 rfl rfl ?_
      refine j_lload_n O 2 dT_addressOf_117 rfl rfl ?_
      refine j_put O uwN hac9 rfl 8 (by decide) w148 rfl tN ftN fnN rfl (.long) (by decide +kernel) rfl rfl (Nat.le_of_ble_eq_true rfl) [.int (nI v.1), .ref ra9, .ref ba9, .int (nI v.2.length), .int (nI (nsz v.1 v.2)), .int (lastK v.2), .int (nI (lastL v.2)), .int (nprt v.1 v.2), .long (nadL v.2), .int ((mu a).2.1), .int ((mu a).2.2.1), va_rf ((mu a).2.2.2)] rfl dT_addressOf_118 (fun gw16 ew17 => ?_)
      have hw18 := gUp_self (e' := .inr (2, [.int (nI v.1), .ref ra9, .ref ba9, .int (nI v.2.length), .int (nI (nsz v.1 v.2)), .int (lastK v.2), .int (nI (lastL v.2)), .int (nprt v.1 v.2), .long (nadL v.2), .int ((mu a).2.1), .int ((mu a).2.2.1), va_rf ((mu a).2.2.2)])) hac9
      rw [← ew17] at hw18
      have kpw19 := kp0.up (a := a) (e := .inr (2, [.int (nI v.1), .ref ra9, .ref ba9, .int (nI v.2.length), .int (nI (nsz v.1 v.2)), .int (lastK v.2), .int (nI (lastL v.2)), .int (nprt v.1 v.2), .long (nadL v.2), .int ((mu a).2.1), .int ((mu a).2.2.1), va_rf ((mu a).2.2.2)])) (by simp)
      rw [← ew17] at kpw19
      refine j_aload_n O 0 dT_addressOf_121 rfl rfl ?_
      refine j_iconst O (v := 1) dT_addressOf_122 (by decide) ?_
      refine j_put O uwN hw18 rfl 9 (by decide) w150 rfl tN ftN fnN rfl (.boolean) (by decide +kernel) rfl rfl (Nat.le_of_ble_eq_true rfl) [.int (nI v.1), .ref ra9, .ref ba9, .int (nI v.2.length), .int (nI (nsz v.1 v.2)), .int (lastK v.2), .int (nI (lastL v.2)), .int (nprt v.1 v.2), .long (nadL v.2), .int 1, .int ((mu a).2.2.1), va_rf ((mu a).2.2.2)] rfl dT_addressOf_123 (fun gw20 ew21 => ?_)
      have hw22 := gUp_self (e' := .inr (2, [.int (nI v.1), .ref ra9, .ref ba9, .int (nI v.2.length), .int (nI (nsz v.1 v.2)), .int (lastK v.2), .int (nI (lastL v.2)), .int (nprt v.1 v.2), .long (nadL v.2), .int 1, .int ((mu a).2.2.1), va_rf ((mu a).2.2.2)])) hw18
      rw [← ew21] at hw22
      have kpw23 := kpw19.up (a := a) (e := .inr (2, [.int (nI v.1), .ref ra9, .ref ba9, .int (nI v.2.length), .int (nI (nsz v.1 v.2)), .int (lastK v.2), .int (nI (lastL v.2)), .int (nprt v.1 v.2), .long (nadL v.2), .int 1, .int ((mu a).2.2.1), va_rf ((mu a).2.2.2)])) (by simp)
      rw [← ew21] at kpw23
      refine j_lload_n O 2 dT_addressOf_126 rfl rfl ?_
      have hN9 : NI t gw20 (N, K, va_up mu a (nadL v.2, 1, (mu a).2.2), I, R) := by
        refine hN.mut hv (Or.inr ⟨rfl, hval⟩) (fun x e hx _ he => kpw23.2 x e (one_ne hx) he) (fun ra' ba' hc => ?_)
        have e := hac9.eq hc
        simp only [Sum.inr.injEq, Prod.mk.injEq, List.cons.injEq, Value.ref.injEq, true_and, and_true] at e
        rw [← e.1, ← e.2]
        exact hw22
      exact j_lret O M (Nat.le_of_ble_eq_true rfl) (Nat.le_of_ble_eq_true rfl) ⟨by rw [← hval], _, hN9, muA.rf (mu := mu).tr (fun x => by
            by_cases hx : x = a
            · subst hx; rw [va_up_self]
            · rw [va_up_ne _ _ hx]), (KN.rf (M := []) (N := N) (g := g)).tr ⟨kpw23.1, fun x e _ n2 he => kpw23.2 x e (one_ne (fun z => by rw [z, hv] at n2; cases n2)) he⟩⟩ dT_addressOf_127
    · have hq : (mu a).1 = nad v.1 v.2 := by
        rcases had with z | z
        · exact absurd z c1
        · exact z.2
      refine j_aload_n O 0 dT_addressOf_11 rfl rfl ?_
      refine j_get O uwN hac rfl 8 (by decide) w148 rfl rfl dT_addressOf_12 ?_
      exact j_lret O M (Nat.le_of_ble_eq_true rfl) (Nat.le_of_ble_eq_true rfl) ⟨by rw [hq], mu, hN, muA.rf, KN.rf⟩ dT_addressOf_15
  | succ d IH =>
    intro a v g mu hv hvd hd5 hN
    obtain ⟨hvo, hIa, ⟨ra, ba, nr, fr, fb, iA, iB, hac, hra, hba, -, h0, h0', hfb, h8⟩, had⟩ := hN a v hv
    dsimp only at hac hba h0 hfb h8 had hIa iA iB hra
    have hbaN : N ba = none := hN.no hba (fun _ _ _ _ _ => by simp)
    have hkl : (K a).length ≤ 300 := by
      cases hv1 : v.1 with
      | zero => rw [(h0 hv1).2.1]; exact Nat.zero_le _
      | succ h' =>
        rw [(h8 h' hv1).1]
        exact Nat.le_trans (runs_len_le _ _) hvo.2.1
    refine Ct.of (cc := bT_addressOf) (maxL := 8) (ret := (some .long)) (by decide) (Nat.le_of_ble_eq_true rfl) (fun X hlX O M hNn => ?_)
    show J X 8 (zz D t A) g 0 0 0 [(0, .ref a), (1, .int (nI (d + 1)))] []
    refine j_iload_n O 1 dT_addressOf_0 rfl rfl ?_
    refine j_if_lt O 11 dT_addressOf_1 (by decide) (fun c => absurd c (nI_pos (by omega))) (fun c => ?_)
    refine j_aload_n O 0 dT_addressOf_4 rfl rfl ?_
    refine j_get O uwN hac rfl 9 (by decide) w150 rfl rfl dT_addressOf_5 ?_
    refine j_if_eq O 16 dT_addressOf_8 (by decide) (fun c1 => ?_) (fun c1 => ?_)
    · refine j_ldc2 O 1469598103934665603 w364 dT_addressOf_16 ?_
      refine j_aload_n O 0 dT_addressOf_19 rfl rfl ?_
      refine j_get O uwN hac rfl 0 (by decide) w132 rfl rfl dT_addressOf_20 ?_
      refine j_i2l O dT_addressOf_23 ?_
      refine j_callS O [.long 1469598103934665603, .long ((nI v.1).toInt64)] (c_mixed X.2.1 D t A g _ _) w365 w366 w23 w367 2 rfl rfl rfl (by decide +kernel) ⟨(by show 0 + 1 ≤ (d + 1) + 2; omega), (by show 8 + (4 + 11) + 0 ≤ 30 * (d + 1) + 60; omega)⟩ rfl (Nat.le_of_ble_eq_true rfl) dT_addressOf_24 ⟨(Nat.le_of_ble_eq_true rfl), (Nat.le_of_ble_eq_true rfl)⟩ (fun vw24 gw25 hpw26 => ?_)
      obtain ⟨rfl, hgw27⟩ := hpw26
      have hgw27 := hgw27.symm
      subst hgw27
      rcases Nat.eq_zero_or_pos v.1 with hv0 | hvp
      · obtain ⟨hnr, hk0, hrr⟩ := h0 hv0
        subst hnr
        have e0 : adM 1469598103934665603 (nI v.1).toInt64 = nadL (v.2.take 0) := by rw [hv0]; rfl
        refine j_eql (nadL (v.2.take 0)) e0 ?_
        refine j_lstore_n O 2 [(2, .long (nadL (v.2.take 0))), (0, .ref a), (1, .int (nI (d + 1)))] dT_addressOf_27 rfl (by decide) rfl ?_
        refine j_aload_n O 0 dT_addressOf_28 rfl rfl ?_
        refine j_get O uwN hac rfl 1 (by decide) w134 rfl rfl dT_addressOf_29 ?_
        refine j_astore O [(4, .ref ra), (2, .long (nadL (v.2.take 0))), (0, .ref a), (1, .int (nI (d + 1)))] dT_addressOf_32 (by decide) rfl ?_
        refine j_aload O dT_addressOf_34 rfl ?_
        refine j_alen O hra 1 rfl dT_addressOf_36 ?_
        refine j_istore O [(5, .int (nI v.2.length)), (4, .ref ra), (2, .long (nadL (v.2.take 0))), (0, .ref a), (1, .int (nI (d + 1)))] dT_addressOf_37 (by decide) rfl ?_
        refine j_iconst O (v := 0) dT_addressOf_39 (by decide) ?_
        refine j_istore O [(6, .int 0), (5, .int (nI v.2.length)), (4, .ref ra), (2, .long (nadL (v.2.take 0))), (0, .ref a), (1, .int (nI (d + 1)))] dT_addressOf_40 (by decide) rfl ?_
        refine J.pk [4, 5, 3, 2, 1, 0] rfl ?_
        refine addressOf_rows (k0 := 0) (n0 := 0) O hra hrr hvo.2.1 hvo.2.2.1 ⟨Nat.le_add_left _ _, by show 60 ≤ 30 * (d + 1) + 60; omega, Nat.le_refl _, Nat.le_refl _⟩ ?_ v.2.length 0 (Nat.zero_add _)
        have hkl0 : (K a).length = 0 := by rw [hk0]; rfl
        have hval : nadL v.2 = nad v.1 v.2 := by rw [hv0]; rfl
        refine j_aload_n O 0 dT_addressOf_69 rfl rfl ?_
        refine j_get O uwN hac rfl 2 (by decide) w136 rfl rfl dT_addressOf_70 ?_
        refine j_astore O [(4, .ref ba), (0, .ref a), (1, .int (nI (d + 1))), (2, .long (nadL v.2))] dT_addressOf_73 (by decide) rfl ?_
        refine j_aload O dT_addressOf_75 rfl ?_
        refine j_alen O hba 2 rfl dT_addressOf_77 ?_
        refine j_istore O [(5, .int (nI ((K a).length))), (4, .ref ba), (0, .ref a), (1, .int (nI (d + 1))), (2, .long (nadL v.2))] dT_addressOf_78 (by decide) rfl ?_
        refine j_iconst O (v := 0) dT_addressOf_80 (by decide) ?_
        refine j_istore O [(6, .int 0), (5, .int (nI ((K a).length))), (4, .ref ba), (0, .ref a), (1, .int (nI (d + 1))), (2, .long (nadL v.2))] dT_addressOf_81 (by decide) rfl ?_
        refine j_iload O dT_addressOf_83 rfl ?_
        refine j_iload O dT_addressOf_85 rfl ?_
        refine j_icmp_ge O 116 dT_addressOf_87 (by decide) (fun c => ?_) (fun c => absurd (by rw [hkl0]; decide) c)
        refine J.pk [3, 4, 5] rfl ?_
        obtain ⟨ra9, ba9, hac9⟩ := hN.cell hv
        have kp0 : Kp [a] g g := Kp.rf
        refine j_aload_n O 0 dT_addressOf_116 rfl rfl ?_
        refine j_lload_n O 2 dT_addressOf_117 rfl rfl ?_
        refine j_put O uwN hac9 rfl 8 (by decide) w148 rfl tN ftN fnN rfl (.long) (by decide +kernel) rfl rfl (Nat.le_of_ble_eq_true rfl) [.int (nI v.1), .ref ra9, .ref ba9, .int (nI v.2.length), .int (nI (nsz v.1 v.2)), .int (lastK v.2), .int (nI (lastL v.2)), .int (nprt v.1 v.2), .long (nadL v.2), .int ((mu a).2.1), .int ((mu a).2.2.1), va_rf ((mu a).2.2.2)] rfl dT_addressOf_118 (fun gw28 ew29 => ?_)
        have hw30 := gUp_self (e' := .inr (2, [.int (nI v.1), .ref ra9, .ref ba9, .int (nI v.2.length), .int (nI (nsz v.1 v.2)), .int (lastK v.2), .int (nI (lastL v.2)), .int (nprt v.1 v.2), .long (nadL v.2), .int ((mu a).2.1), .int ((mu a).2.2.1), va_rf ((mu a).2.2.2)])) hac9
        rw [← ew29] at hw30
        have kpw31 := kp0.up (a := a) (e := .inr (2, [.int (nI v.1), .ref ra9, .ref ba9, .int (nI v.2.length), .int (nI (nsz v.1 v.2)), .int (lastK v.2), .int (nI (lastL v.2)), .int (nprt v.1 v.2), .long (nadL v.2), .int ((mu a).2.1), .int ((mu a).2.2.1), va_rf ((mu a).2.2.2)])) (by simp)
        rw [← ew29] at kpw31
        refine j_aload_n O 0 dT_addressOf_121 rfl rfl ?_
        refine j_iconst O (v := 1) dT_addressOf_122 (by decide) ?_
        refine j_put O uwN hw30 rfl 9 (by decide) w150 rfl tN ftN fnN rfl (.boolean) (by decide +kernel) rfl rfl (Nat.le_of_ble_eq_true rfl) [.int (nI v.1), .ref ra9, .ref ba9, .int (nI v.2.length), .int (nI (nsz v.1 v.2)), .int (lastK v.2), .int (nI (lastL v.2)), .int (nprt v.1 v.2), .long (nadL v.2), .int 1, .int ((mu a).2.2.1), va_rf ((mu a).2.2.2)] rfl dT_addressOf_123 (fun gw32 ew33 => ?_)
        have hw34 := gUp_self (e' := .inr (2, [.int (nI v.1), .ref ra9, .ref ba9, .int (nI v.2.length), .int (nI (nsz v.1 v.2)), .int (lastK v.2), .int (nI (lastL v.2)), .int (nprt v.1 v.2), .long (nadL v.2), .int 1, .int ((mu a).2.2.1), va_rf ((mu a).2.2.2)])) hw30
        rw [← ew33] at hw34
        have kpw35 := kpw31.up (a := a) (e := .inr (2, [.int (nI v.1), .ref ra9, .ref ba9, .int (nI v.2.length), .int (nI (nsz v.1 v.2)), .int (lastK v.2), .int (nI (lastL v.2)), .int (nprt v.1 v.2), .long (nadL v.2), .int 1, .int ((mu a).2.2.1), va_rf ((mu a).2.2.2)])) (by simp)
        rw [← ew33] at kpw35
        refine j_lload_n O 2 dT_addressOf_126 rfl rfl ?_
        have hN9 : NI t gw32 (N, K, va_up mu a (nadL v.2, 1, (mu a).2.2), I, R) := by
          refine hN.mut hv (Or.inr ⟨rfl, hval⟩) (fun x e hx _ he => kpw35.2 x e (one_ne hx) he) (fun ra' ba' hc => ?_)
          have e := hac9.eq hc
          simp only [Sum.inr.injEq, Prod.mk.injEq, List.cons.injEq, Value.ref.injEq, true_and, and_true] at e
          rw [← e.1, ← e.2]
          exact hw34
        exact j_lret O M (Nat.le_of_ble_eq_true rfl) (Nat.le_of_ble_eq_true rfl) ⟨by rw [← hval], _, hN9, muA.rf (mu := mu).tr (fun x => by
              by_cases hx : x = a
              · subst hx; rw [va_up_self]
              · rw [va_up_ne _ _ hx]), (KN.rf (M := []) (N := N) (g := g)).tr ⟨kpw35.1, fun x e _ n2 he => kpw35.2 x e (one_ne (fun z => by rw [z, hv] at n2; cases n2)) he⟩⟩ dT_addressOf_127
      · obtain ⟨h, hvh⟩ : ∃ h, v.1 = h + 1 := ⟨v.1 - 1, by omega⟩
        have hnr := h0' (by omega)
        subst hnr
        obtain ⟨q1, q2⟩ := h8 h hvh
        have e0 : adM 1469598103934665603 (nI v.1).toInt64 = nadB h ((runs (h + 1) v.2).take 0) := by rw [hvh]; rfl
        have hval : nadB h (runs (h + 1) v.2) = nad v.1 v.2 := by rw [hvh]; rfl
        refine j_eql (nadB h ((runs (h + 1) v.2).take 0)) e0 ?_
        refine j_lstore_n O 2 [(2, .long (nadB h ((runs (h + 1) v.2).take 0))), (0, .ref a), (1, .int (nI (d + 1)))] dT_addressOf_27 rfl (by decide) rfl ?_
        refine j_aload_n O 0 dT_addressOf_28 rfl rfl ?_
        refine j_get O uwN hac rfl 1 (by decide) w134 rfl rfl dT_addressOf_29 ?_
        refine j_astore O [(4, .ref ra), (2, .long (nadB h ((runs (h + 1) v.2).take 0))), (0, .ref a), (1, .int (nI (d + 1)))] dT_addressOf_32 (by decide) rfl ?_
        refine j_aload O dT_addressOf_34 rfl ?_
        refine j_alen O hra 1 rfl dT_addressOf_36 ?_
        refine j_istore O [(5, .int (nI 0)), (4, .ref ra), (2, .long (nadB h ((runs (h + 1) v.2).take 0))), (0, .ref a), (1, .int (nI (d + 1)))] dT_addressOf_37 (by decide) rfl ?_
        refine j_iconst O (v := 0) dT_addressOf_39 (by decide) ?_
        refine j_istore O [(6, .int 0), (5, .int (nI 0)), (4, .ref ra), (2, .long (nadB h ((runs (h + 1) v.2).take 0))), (0, .ref a), (1, .int (nI (d + 1)))] dT_addressOf_40 (by decide) rfl ?_
        refine j_iload O dT_addressOf_42 rfl ?_
        refine j_iload O dT_addressOf_44 rfl ?_
        refine j_icmp_ge O 69 dT_addressOf_46 (by decide) (fun c => ?_) (fun c => absurd (by decide) c)
        refine j_aload_n O 0 dT_addressOf_69 rfl rfl ?_
        refine j_get O uwN hac rfl 2 (by decide) w136 rfl rfl dT_addressOf_70 ?_
        refine j_astore O [(4, .ref ba), (6, .int 0), (5, .int (nI 0)), (2, .long (nadB h ((runs (h + 1) v.2).take 0))), (0, .ref a), (1, .int (nI (d + 1)))] dT_addressOf_73 (by decide) rfl ?_
        refine j_aload O dT_addressOf_75 rfl ?_
        refine j_alen O hba 2 rfl dT_addressOf_77 ?_
        refine j_istore O [(5, .int (nI ((K a).length))), (4, .ref ba), (6, .int 0), (2, .long (nadB h ((runs (h + 1) v.2).take 0))), (0, .ref a), (1, .int (nI (d + 1)))] dT_addressOf_78 (by decide) rfl ?_
        refine j_iconst O (v := 0) dT_addressOf_80 (by decide) ?_
        refine j_istore O [(6, .int 0), (5, .int (nI ((K a).length))), (4, .ref ba), (2, .long (nadB h ((runs (h + 1) v.2).take 0))), (0, .ref a), (1, .int (nI (d + 1)))] dT_addressOf_81 (by decide) rfl ?_
        refine J.pk [4, 5, 3, 2, 1, 0] rfl ?_
        refine addressOf_loop (k0 := 0) (n0 := 0) (mu := mu) (d := d) O hba hbaN hfb hkl q1 ⟨Nat.le_refl _, Nat.le_refl _, Nat.le_refl _, Nat.le_refl _⟩ (fun i hi hj g1 mu1 hN1 => by rw [hlX]; exact IH _ _ g1 mu1 (q2 i hi hj) (by omega) (by omega) hN1) (fun g1 mu1 hN1 hm1 hk1 => ?_) (K a).length 0 g mu (Nat.zero_add _) hN muA.rf KN.rf
        obtain ⟨ra9, ba9, hac9⟩ := hN1.cell hv
        have kp0 : Kp [a] g1 g1 := Kp.rf
        refine j_aload_n O 0 dT_addressOf_116 rfl rfl ?_
        refine j_lload_n O 2 dT_addressOf_117 rfl rfl ?_
        refine j_put O uwN hac9 rfl 8 (by decide) w148 rfl tN ftN fnN rfl (.long) (by decide +kernel) rfl rfl (Nat.le_of_ble_eq_true rfl) [.int (nI v.1), .ref ra9, .ref ba9, .int (nI v.2.length), .int (nI (nsz v.1 v.2)), .int (lastK v.2), .int (nI (lastL v.2)), .int (nprt v.1 v.2), .long (nadB h (runs (h + 1) v.2)), .int ((mu1 a).2.1), .int ((mu1 a).2.2.1), va_rf ((mu1 a).2.2.2)] rfl dT_addressOf_118 (fun gw36 ew37 => ?_)
        have hw38 := gUp_self (e' := .inr (2, [.int (nI v.1), .ref ra9, .ref ba9, .int (nI v.2.length), .int (nI (nsz v.1 v.2)), .int (lastK v.2), .int (nI (lastL v.2)), .int (nprt v.1 v.2), .long (nadB h (runs (h + 1) v.2)), .int ((mu1 a).2.1), .int ((mu1 a).2.2.1), va_rf ((mu1 a).2.2.2)])) hac9
        rw [← ew37] at hw38
        have kpw39 := kp0.up (a := a) (e := .inr (2, [.int (nI v.1), .ref ra9, .ref ba9, .int (nI v.2.length), .int (nI (nsz v.1 v.2)), .int (lastK v.2), .int (nI (lastL v.2)), .int (nprt v.1 v.2), .long (nadB h (runs (h + 1) v.2)), .int ((mu1 a).2.1), .int ((mu1 a).2.2.1), va_rf ((mu1 a).2.2.2)])) (by simp)
        rw [← ew37] at kpw39
        refine j_aload_n O 0 dT_addressOf_121 rfl rfl ?_
        refine j_iconst O (v := 1) dT_addressOf_122 (by decide) ?_
        refine j_put O uwN hw38 rfl 9 (by decide) w150 rfl tN ftN fnN rfl (.boolean) (by decide +kernel) rfl rfl (Nat.le_of_ble_eq_true rfl) [.int (nI v.1), .ref ra9, .ref ba9, .int (nI v.2.length), .int (nI (nsz v.1 v.2)), .int (lastK v.2), .int (nI (lastL v.2)), .int (nprt v.1 v.2), .long (nadB h (runs (h + 1) v.2)), .int 1, .int ((mu1 a).2.2.1), va_rf ((mu1 a).2.2.2)] rfl dT_addressOf_123 (fun gw40 ew41 => ?_)
        have hw42 := gUp_self (e' := .inr (2, [.int (nI v.1), .ref ra9, .ref ba9, .int (nI v.2.length), .int (nI (nsz v.1 v.2)), .int (lastK v.2), .int (nI (lastL v.2)), .int (nprt v.1 v.2), .long (nadB h (runs (h + 1) v.2)), .int 1, .int ((mu1 a).2.2.1), va_rf ((mu1 a).2.2.2)])) hw38
        rw [← ew41] at hw42
        have kpw43 := kpw39.up (a := a) (e := .inr (2, [.int (nI v.1), .ref ra9, .ref ba9, .int (nI v.2.length), .int (nI (nsz v.1 v.2)), .int (lastK v.2), .int (nI (lastL v.2)), .int (nprt v.1 v.2), .long (nadB h (runs (h + 1) v.2)), .int 1, .int ((mu1 a).2.2.1), va_rf ((mu1 a).2.2.2)])) (by simp)
        rw [← ew41] at kpw43
        refine j_lload_n O 2 dT_addressOf_126 rfl rfl ?_
        have hN9 : NI t gw40 (N, K, va_up mu1 a (nadB h (runs (h + 1) v.2), 1, (mu1 a).2.2), I, R) := by
          refine hN1.mut hv (Or.inr ⟨rfl, hval⟩) (fun x e hx _ he => kpw43.2 x e (one_ne hx) he) (fun ra' ba' hc => ?_)
          have e := hac9.eq hc
          simp only [Sum.inr.injEq, Prod.mk.injEq, List.cons.injEq, Value.ref.injEq, true_and, and_true] at e
          rw [← e.1, ← e.2]
          exact hw42
        exact j_lret O M (Nat.le_of_ble_eq_true rfl) (Nat.le_of_ble_eq_true rfl) ⟨by rw [← hval], _, hN9, hm1.tr (fun x => by
              by_cases hx : x = a
              · subst hx; rw [va_up_self]
              · rw [va_up_ne _ _ hx]), hk1.tr ⟨kpw43.1, fun x e _ n2 he => kpw43.2 x e (one_ne (fun z => by rw [z, hv] at n2; cases n2)) he⟩⟩ dT_addressOf_127
    · have hq : (mu a).1 = nad v.1 v.2 := by
        rcases had with z | z
        · exact absurd z c1
        · exact z.2
      refine j_aload_n O 0 dT_addressOf_11 rfl rfl ?_
      refine j_get O uwN hac rfl 8 (by decide) w148 rfl rfl dT_addressOf_12 ?_
      exact j_lret O M (Nat.le_of_ble_eq_true rfl) (Nat.le_of_ble_eq_true rfl) ⟨by rw [hq], mu, hN, muA.rf, KN.rf⟩ dT_addressOf_15
end
section
def lkp (key : Int32) (rs : List RV) : Option RV := rs.find? (fun r => decide (r.1 = key))
theorem lkp_none {key : Int32} {rs : List RV} (h : ∀ r ∈ rs, r.1 ≠ key) : lkp key rs = none := by
  unfold lkp
  rw [List.find?_eq_none]
  intro r hr
  simpa using h r hr
theorem lkp_app {key : Int32} {xs ys : List RV} (h : ∀ r ∈ xs, r.1 ≠ key) : lkp key (xs ++ ys) = lkp key ys := by
  have := lkp_none h
  unfold lkp at *
  rw [List.find?_append, this]
  rfl
theorem lkp_app2 {key : Int32} {xs ys : List RV} (h : ∀ r ∈ ys, r.1 ≠ key) : lkp key (xs ++ ys) = lkp key xs := by
  have := lkp_none h
  unfold lkp at *
  rw [List.find?_append, this]
  cases xs.find? _ <;> rfl
theorem lkp_at {key : Int32} {rs : List RV} {i : Nat} (hi : i < rs.length) (h1 : ∀ j (hj : j < rs.length), j < i → rs[j].1 ≠ key) (h2 : rs[i].1 = key) : lkp key rs = some rs[i] := by
  have e : rs = rs.take i ++ rs[i] :: rs.drop (i + 1) := by rw [← List.drop_eq_getElem_cons hi, List.take_append_drop]
  have h3 : ∀ r ∈ rs.take i, r.1 ≠ key := by
    intro r hr
    obtain ⟨j, hj, rfl⟩ := List.getElem_of_mem hr
    rw [List.length_take] at hj
    rw [List.getElem_take]
    exact h1 j (by omega) (by omega)
  have e2 : lkp key rs = lkp key (rs.take i ++ rs[i] :: rs.drop (i + 1)) := congrArg (lkp key) e
  rw [e2, lkp_app h3]
  unfold lkp
  rw [List.find?_cons_of_pos (by simpa using h2)]
theorem srt_flat {qs : List (List RV)} (h : srt qs.flatten) {i : Nat} (hi : i < qs.length) : srt qs[i] := by
  unfold srt at *
  rw [List.pairwise_flatten] at h
  exact h.1 _ (List.getElem_mem _)
theorem flat_split {qs : List (List RV)} {i : Nat} (hi : i < qs.length) : qs.flatten = (qs.take i).flatten ++ (qs[i] ++ (qs.drop (i + 1)).flatten) := by
  have e : qs = qs.take i ++ qs[i] :: qs.drop (i + 1) := by rw [← List.drop_eq_getElem_cons hi, List.take_append_drop]
  have := congrArg List.flatten e
  rw [List.flatten_append, List.flatten_cons] at this
  exact this
theorem lastK_ge {rs : List RV} (h : srt rs) : ∀ r ∈ rs, r.1 ≤ lastK rs := by
  intro r hr
  obtain ⟨i, hi, rfl⟩ := List.getElem_of_mem hr
  obtain ⟨n, hn⟩ : ∃ n, rs.length = n + 1 := ⟨rs.length - 1, by omega⟩
  rw [lastK_at hn]
  rcases Nat.lt_or_ge i n with z | z
  · exact Int32.le_of_lt ((List.pairwise_iff_getElem.mp h) i n hi (by omega) z)
  · have : i = n := by omega
    subst this
    exact Int32.le_refl _
/-- the node below in which the key must be -/
theorem lkp_child {qs : List (List RV)} {key : Int32} {i : Nat} (hs : srt qs.flatten) (hn : ∀ q ∈ qs, q ≠ []) (hi : i < qs.length) (h1 : ∀ j (hj : j < qs.length), j < i → lastK qs[j] < key) (h2 : i + 1 = qs.length ∨ ¬ lastK qs[i] < key) : lkp key qs.flatten = lkp key qs[i] := by
  rw [flat_split hi]
  have hb : ∀ r ∈ (qs.take i).flatten, r.1 ≠ key := by
    intro r hr
    obtain ⟨q, hq, hrq⟩ := List.mem_flatten.mp hr
    obtain ⟨j, hj, rfl⟩ := List.getElem_of_mem hq
    rw [List.length_take] at hj
    rw [List.getElem_take] at hrq
    have e1 := lastK_ge (srt_flat hs (show j < qs.length by omega)) r hrq
    have e2 := h1 j (by omega) (by omega)
    intro z
    subst z
    exact absurd (Int32.lt_of_le_of_lt e1 e2) (Int32.lt_irrefl)
  rw [lkp_app hb]
  refine lkp_app2 (fun r hr => ?_)
  rcases h2 with h2 | h2
  · rw [show qs.drop (i + 1) = [] from List.drop_eq_nil_of_le (by omega)] at hr
    cases hr
  · have hs2 := hs
    unfold srt at hs2
    rw [flat_split hi, List.pairwise_append] at hs2
    have hs3 := (List.pairwise_append.mp hs2.2.1).2.2
    obtain ⟨n, hn2⟩ : ∃ n, qs[i].length = n + 1 := by
      have := List.length_pos_iff.mpr (hn _ (List.getElem_mem hi))
      exact ⟨qs[i].length - 1, by omega⟩
    have h4 := hs3 (qs[i][n]'(by omega)) (List.getElem_mem _) r hr
    rw [← lastK_at hn2] at h4
    intro z
    subst z
    exact h2 h4
set_option maxRecDepth 100000 in
set_option maxHeartbeats 1000000 in
theorem rowWithKey_rows {X : CX} {D : va_G} {t : Nat → ClassId} {A : Nat → Prop} {rm : Room} {g : GH} {I : Nat → Prop} {ra : Nat} {fr : Nat → Option Nat} {rs : List RV} {key : Int32} {res : Option RV} (O : Ok X bT_rowWithKey 7 "TwinTrees" (zz D t A) rm) (M : Om X (zz D t A) (some (.object "TwinTrees$Row")) 0 0 (fun r g' => ∃ o : Option Nat, r = some (va_rf o) ∧ ((∃ x rv, o = some x ∧ res = some rv ∧ rowI t g I x rv) ∨ (o = none ∧ res = none)) ∧ g' = g)) (hra : gAt g ra (eRs t rs.length fr)) (hr : rowsI t g I fr 0 rs) (hl : rs.length ≤ 300) (hres : lkp key rs = res) : ∀ (k i : Nat), i + k = rs.length → (∀ j (hj : j < rs.length), j < i → rs[j].1 ≠ key) → J X 7 (zz D t A) g 0 0 76 [(1, .int key), (3, .ref ra), (4, .int (nI rs.length)), (5, .int (nI i))] [] := by
  intro k
  induction k with
  | zero =>
    intro i hi hlow
    have hi : i = rs.length := by omega
    subst hi
    have hn : res = none := by
      rw [← hres]
      refine lkp_none (fun r hr => ?_)
      obtain ⟨j, hj, rfl⟩ := List.getElem_of_mem hr
      exact hlow j hj hj
    refine j_iload O dT_rowWithKey_76 rfl ?_
    refine j_iload O dT_rowWithKey_78 rfl ?_
    refine j_icmp_ge O 107 dT_rowWithKey_80 (by decide) (fun c => ?_) (fun c => absurd (nI_le (Nat.le_refl _) (by omega)) c)
    refine j_null O dT_rowWithKey_107 ?_
    exact j_aret (o := none) O (Or.inl ⟨_, rfl⟩) M (Nat.le_refl _) (Nat.le_refl _) ⟨none, rfl, Or.inr ⟨rfl, hn⟩, rfl⟩ dT_rowWithKey_108
  | succ k ih =>
    intro i hi hlow
    have hi1 : i < rs.length := by omega
    obtain ⟨x, hfx, hx⟩ := hr i hi1
    rw [Nat.zero_add] at hfx
    obtain ⟨xc, xf, hxc, -, -⟩ := hx.at
    refine j_iload O dT_rowWithKey_76 rfl ?_
    refine j_iload O dT_rowWithKey_78 rfl ?_
    refine j_icmp_ge O 107 dT_rowWithKey_80 (by decide) (fun c => absurd c (nI_ge hi1 (by omega))) (fun c => ?_)
    refine j_aload_n O 3 dT_rowWithKey_83 rfl rfl ?_
    refine j_iload O dT_rowWithKey_84 rfl ?_
    refine j_aald O hra 1 rfl (by omega) (by omega) dT_rowWithKey_86 ?_
    refine j_some x hfx ?_
    refine j_astore O [(6, .ref x), (1, .int key), (3, .ref ra), (4, .int (nI rs.length)), (5, .int (nI i))] dT_rowWithKey_87 (by decide) rfl ?_
    refine j_aload O dT_rowWithKey_89 rfl ?_
    refine j_get O uwR hxc rfl 0 (by decide) w288 rfl rfl dT_rowWithKey_91 ?_
    refine j_iload_n O 1 dT_rowWithKey_94 rfl rfl ?_
    refine j_icmp_ne O 101 dT_rowWithKey_95 (by decide) (fun c1 => ?_) (fun c1 => ?_)
    · refine j_iinc O (nI (i + 1)) [(5, .int (nI (i + 1))), (6, .ref x), (1, .int key), (3, .ref ra), (4, .int (nI rs.length))] dT_rowWithKey_101 rfl (nI_1 _) (by decide) rfl ?_
      refine j_goto O 76 dT_rowWithKey_104 (by decide) ?_
      refine J.pk [2, 3, 4, 0] rfl ?_
      refine ih (i + 1) (by omega) (fun j hj hji => ?_)
      rcases Nat.lt_or_ge j i with z | z
      · exact hlow j hj z
      · have : j = i := by omega
        subst this
        exact c1
    · refine j_aload O dT_rowWithKey_98 rfl ?_
      exact j_aret (o := (some x)) O (Or.inl ⟨_, rfl⟩) M (Nat.le_of_ble_eq_true rfl) (Nat.le_of_ble_eq_true rfl) ⟨some x, rfl, Or.inl ⟨x, rs[i], rfl, by rw [← hres]; exact lkp_at hi1 hlow c1, hx⟩, rfl⟩ dT_rowWithKey_100
set_option maxRecDepth 100000 in
set_option maxHeartbeats 1000000 in
theorem rowWithKey_child {X : CX} {D : va_G} {t : Nat → ClassId} {A : Nat → Prop} {rm : Room} {g : GH} {k0 n0 : Nat} {a d ra ba h : Nat} {u : NV} {mu : MU} {fb : Nat → Option Nat} {ks : List Nat} {qs : List (List RV)} {key : Int32} (O : Ok X bT_rowWithKey 7 "TwinTrees" (zz D t A) rm) (hac : gAt g a (nCell u.1 u.2 ra ba mu)) (hba : gAt g ba (eNs t ks.length fb)) (hfb : ∀ i (hi : i < ks.length), fb i = some ks[i]) (hkl : ks.length ≤ 300) (hkq : ks.length = qs.length) (hkc : ∀ i (hi : i < ks.length) (hj : i < qs.length), nodeC g ks[i] h qs[i]) (HK : ∀ (i : Nat) (hi : i < ks.length) (hj : i < qs.length), (∀ j (hj : j < qs.length), j < i → lastK qs[j] < key) → (i + 1 = qs.length ∨ ¬ lastK qs[i] < key) → J X 7 (zz D t A) g k0 n0 50 [(1, .int key), (2, .ref a), (3, .int (nI d)), (4, .int (nI i))] []) : ∀ (k i : Nat), i + k + 1 = ks.length → (∀ j (hj : j < qs.length), j < i → lastK qs[j] < key) → J X 7 (zz D t A) g k0 n0 18 [(1, .int key), (2, .ref a), (3, .int (nI d)), (4, .int (nI i))] [] := by
  intro k
  induction k with
  | zero =>
    intro i hi hlow
    refine j_iload O dT_rowWithKey_18 rfl ?_
    refine j_iconst O (v := 1) dT_rowWithKey_20 (by decide) ?_
    refine j_iadd O dT_rowWithKey_21 ?_
    refine j_eqi (nI (i + 1)) (nI_1 _) ?_
    refine j_aload_n O 2 dT_rowWithKey_22 rfl rfl ?_
    refine j_get O uwN hac rfl 2 (by decide) w136 rfl rfl dT_rowWithKey_23 ?_
    refine j_alen O hba 2 rfl dT_rowWithKey_26 ?_
    refine j_icmp_ge O 50 dT_rowWithKey_27 (by decide) (fun c => ?_) (fun c => absurd (nI_le (by omega) (by omega)) c)
    refine J.pk [0, 1, 2, 3] rfl ?_
    exact HK i (by omega) (by omega) hlow (Or.inl (by omega))
  | succ k ih =>
    intro i hi hlow
    have hi1 : i < ks.length := by omega
    obtain ⟨xra, xba, xmu, hxc⟩ := hkc i hi1 (by omega)
    refine j_iload O dT_rowWithKey_18 rfl ?_
    refine j_iconst O (v := 1) dT_rowWithKey_20 (by decide) ?_
    refine j_iadd O dT_rowWithKey_21 ?_
    refine j_eqi (nI (i + 1)) (nI_1 _) ?_
    refine j_aload_n O 2 dT_rowWithKey_22 rfl rfl ?_
    refine j_get O uwN hac rfl 2 (by decide) w136 rfl rfl dT_rowWithKey_23 ?_
    refine j_alen O hba 2 rfl dT_rowWithKey_26 ?_
    refine j_icmp_ge O 50 dT_rowWithKey_27 (by decide) (fun c => absurd c (nI_ge (by omega) (by omega))) (fun c => ?_)
    refine j_aload_n O 2 dT_rowWithKey_30 rfl rfl ?_
    refine j_get O uwN hac rfl 2 (by decide) w136 rfl rfl dT_rowWithKey_31 ?_
    refine j_iload O dT_rowWithKey_34 rfl ?_
    refine j_aald O hba 2 rfl (by omega) (by omega) dT_rowWithKey_36 ?_
    refine j_some (ks[i]) (hfb i hi1) ?_
    refine j_get O uwN hxc rfl 5 (by decide) w142 rfl rfl dT_rowWithKey_37 ?_
    refine j_iload_n O 1 dT_rowWithKey_40 rfl rfl ?_
    refine j_icmp_ge O 50 dT_rowWithKey_41 (by decide) (fun c1 => ?_) (fun c1 => ?_)
    · refine J.pk [0, 1, 2, 3] rfl ?_
      exact HK i hi1 (by omega) hlow (Or.inr (Int32.not_lt.mpr c1))
    · refine j_iinc O (nI (i + 1)) [(4, .int (nI (i + 1))), (1, .int key), (2, .ref a), (3, .int (nI d))] dT_rowWithKey_44 rfl (nI_1 _) (by decide) rfl ?_
      refine j_goto O 18 dT_rowWithKey_47 (by decide) ?_
      refine J.pk [1, 2, 3, 0] rfl ?_
      refine ih (i + 1) (by omega) (fun j hj hji => ?_)
      rcases Nat.lt_or_ge j i with z | z
      · exact hlow j hj z
      · have : j = i := by omega
        subst this
        exact Int32.not_le.mp c1
set_option maxRecDepth 100000 in
set_option maxHeartbeats 1000000 in
theorem rowWithKey_loop {X : CX} {D : va_G} {t : Nat → ClassId} {A : Nat → Prop} {rm : Room} {g : GH} {w : GD} {I : Nat → Prop} {key : Int32} {res : Option RV} (O : Ok X bT_rowWithKey 7 "TwinTrees" (zz D t A) rm) (M : Om X (zz D t A) (some (.object "TwinTrees$Row")) 0 0 (fun r g' => ∃ o : Option Nat, r = some (va_rf o) ∧ ((∃ x rv, o = some x ∧ res = some rv ∧ rowI t g I x rv) ∨ (o = none ∧ res = none)) ∧ g' = g)) (hN : NI t g w) (hI : w.2.2.2.1 = I) : ∀ (h : Nat) (a : Nat) (u : NV) (d : Nat), w.1 a = some u → u.1 = h → h ≤ d → d ≤ 5 → srt u.2 → lkp key u.2 = res → J X 7 (zz D t A) g 0 0 4 [(1, .int key), (2, .ref a), (3, .int (nI d))] [] := by
  subst hI
  intro h
  induction h with
  | zero =>
    intro a u d hu hu0 hhd hd5 hs hres
    obtain ⟨hvo, hIa, ⟨ra, ba, nr, fr, fb, iA, iB, hac, hra, hba, -, h0, -, hfb, h8⟩, had⟩ := hN a u hu
    obtain ⟨hnr, -, hrr⟩ := h0 hu0
    subst hnr
    refine j_iload_n O 3 dT_rowWithKey_4 rfl rfl ?_
    refine j_if_le O 64 dT_rowWithKey_5 (by decide) (fun c1 => ?_) (fun c1 => ?_)
    · refine j_aload_n O 2 dT_rowWithKey_64 rfl rfl ?_
      refine j_get O uwN hac rfl 1 (by decide) w134 rfl rfl dT_rowWithKey_65 ?_
      refine j_astore_n O 3 [(3, .ref ra), (1, .int key), (2, .ref a)] dT_rowWithKey_68 rfl (by decide) rfl ?_
      refine j_aload_n O 3 dT_rowWithKey_69 rfl rfl ?_
      refine j_alen O hra 1 rfl dT_rowWithKey_70 ?_
      refine j_istore O [(4, .int (nI u.2.length)), (3, .ref ra), (1, .int key), (2, .ref a)] dT_rowWithKey_71 (by decide) rfl ?_
      refine j_iconst O (v := 0) dT_rowWithKey_73 (by decide) ?_
      refine j_istore O [(5, .int 0), (4, .int (nI u.2.length)), (3, .ref ra), (1, .int key), (2, .ref a)] dT_rowWithKey_74 (by decide) rfl ?_
      refine J.pk [3, 2, 1, 0] rfl ?_
      exact rowWithKey_rows O M hra hrr hvo.2.1 hres u.2.length 0 (Nat.zero_add _) (fun j _ h => by omega)
    · refine j_aload_n O 2 dT_rowWithKey_8 rfl rfl ?_
      refine j_get O uwN hac rfl 0 (by decide) w132 rfl rfl dT_rowWithKey_9 ?_
      refine j_if_le O 64 dT_rowWithKey_12 (by decide) (fun c => ?_) (fun c => absurd (by rw [hu0]; decide) c)
      refine j_aload_n O 2 dT_rowWithKey_64 rfl rfl ?_
      refine j_get O uwN hac rfl 1 (by decide) w134 rfl rfl dT_rowWithKey_65 ?_
      refine j_astore_n O 3 [(3, .ref ra), (1, .int key), (2, .ref a)] dT_rowWithKey_68 rfl (by decide) rfl ?_
      refine j_aload_n O 3 dT_rowWithKey_69 rfl rfl ?_
      refine j_alen O hra 1 rfl dT_rowWithKey_70 ?_
      refine j_istore O [(4, .int (nI u.2.length)), (3, .ref ra), (1, .int key), (2, .ref a)] dT_rowWithKey_71 (by decide) rfl ?_
      refine j_iconst O (v := 0) dT_rowWithKey_73 (by decide) ?_
      refine j_istore O [(5, .int 0), (4, .int (nI u.2.length)), (3, .ref ra), (1, .int key), (2, .ref a)] dT_rowWithKey_74 (by decide) rfl ?_
      refine J.pk [3, 2, 1, 0] rfl ?_
      exact rowWithKey_rows O M hra hrr hvo.2.1 hres u.2.length 0 (Nat.zero_add _) (fun j _ h => by omega)
  | succ h ih =>
    intro a u d hu hu0 hhd hd5 hs hres
    obtain ⟨hvo, hIa, ⟨ra, ba, nr, fr, fb, iA, iB, hac, hra, hba, -, h0, -, hfb, h8⟩, had⟩ := hN a u hu
    obtain ⟨q1, q2⟩ := h8 h hu0
    have hfl : (runs (h + 1) u.2).flatten = u.2 := runsP_flat _ _
    have hne : ∀ q ∈ runs (h + 1) u.2, q ≠ [] := fun q hq => runsP_ne _ _ q hq
    have hkl : (w.2.1 a).length ≤ 300 := by rw [q1]; exact Nat.le_trans (runs_len_le _ _) hvo.2.1
    obtain ⟨d, rfl⟩ : ∃ e, d = e + 1 := ⟨d - 1, by omega⟩
    refine j_iload_n O 3 dT_rowWithKey_4 rfl rfl ?_
    refine j_if_le O 64 dT_rowWithKey_5 (by decide) (fun c => absurd c (nI_nle (by omega) (by omega))) (fun c => ?_)
    refine j_aload_n O 2 dT_rowWithKey_8 rfl rfl ?_
    refine j_get O uwN hac rfl 0 (by decide) w132 rfl rfl dT_rowWithKey_9 ?_
    refine j_if_le O 64 dT_rowWithKey_12 (by decide) (fun c => absurd c (by rw [hu0]; exact nI_nle (by omega) (by omega))) (fun c => ?_)
    refine j_iconst O (v := 0) dT_rowWithKey_15 (by decide) ?_
    refine j_istore O [(4, .int 0), (1, .int key), (2, .ref a), (3, .int (nI (d + 1)))] dT_rowWithKey_16 (by decide) rfl ?_
    refine J.pk [1, 2, 3, 0] rfl ?_
    refine (Nat.eq_zero_or_pos (w.2.1 a).length).elim (fun hz => ?_) (fun hp => ?_)
    · exfalso
      rw [q1] at hz
      have := runsP_nil _ (List.length_eq_zero_iff.mp hz)
      exact hvo.2.2.2.1 (by omega) this
    · refine rowWithKey_child (k0 := 0) (n0 := 0) (h := h) (key := key) O hac hba hfb hkl q1 (fun i hi hj => ?_) (fun i hi hj hlow hstop => ?_) ((w.2.1 a).length - 1) 0 (by omega) (fun j _ h => by omega)
      · obtain ⟨xra, xba, hc⟩ := hN.cell (q2 i hi hj)
        exact ⟨xra, xba, _, hc⟩
      · refine j_aload_n O 2 dT_rowWithKey_50 rfl rfl ?_
        refine j_get O uwN hac rfl 2 (by decide) w136 rfl rfl dT_rowWithKey_51 ?_
        refine j_iload O dT_rowWithKey_54 rfl ?_
        refine j_aald O hba 2 rfl (by omega) (by omega) dT_rowWithKey_56 ?_
        refine j_some ((w.2.1 a)[i]) (hfb i hi) ?_
        refine j_astore_n O 2 [(2, .ref ((w.2.1 a)[i])), (1, .int key), (3, .int (nI (d + 1))), (4, .int (nI i))] dT_rowWithKey_57 rfl (by decide) rfl ?_
        refine j_iinc O (nI (d + 1 - 1)) [(3, .int (nI (d + 1 - 1))), (2, .ref ((w.2.1 a)[i])), (1, .int key), (4, .int (nI i))] dT_rowWithKey_58 rfl (sb_m1 (by omega)) (by decide) rfl ?_
        refine j_goto O 4 dT_rowWithKey_61 (by decide) ?_
        refine J.pk [2, 1, 0] rfl ?_
        refine ih _ _ d (q2 i hi hj) rfl (by omega) (by omega) (srt_flat (by rw [hfl]; exact hs) hj) ?_
        rw [← hres, ← lkp_child (by rw [hfl]; exact hs) hne hj hlow hstop, hfl]
set_option maxRecDepth 100000 in
set_option maxHeartbeats 1000000 in
theorem c_rowWithKey (l : Launch) (D : va_G) (t : Nat → ClassId) (A : Nat → Prop) (g : GH) (a : Nat) (key : Int32) (w : GD) (v0 : NV) (hN : NI t g w) (hv : w.1 a = some v0) : Ct l yT_rowWithKey sT_rowWithKey { frames := 0, cells := 0, slots := 0, locals := 0 } (zz D t A) [.ref a, .int key] g 0 0 (fun v g' => ∃ o : Option Nat, v = some (va_rf o) ∧ ((∃ x rv, o = some x ∧ lkp key v0.2 = some rv ∧ rowI t g w.2.2.2.1 x rv) ∨ (o = none ∧ lkp key v0.2 = none)) ∧ g' = g) := by
  refine Ct.of (cc := bT_rowWithKey) (maxL := 7) (ret := (some (.object "TwinTrees$Row"))) (by decide) (Nat.le_of_ble_eq_true rfl) (fun X hlX O M hNn => ?_)
  show J X 7 (zz D t A) g 0 0 0 [(0, .ref a), (1, .int key)] []
  have hvo := (hN a v0 hv).1
  refine j_aload_n O 0 dT_rowWithKey_0 rfl rfl ?_
  refine j_astore_n O 2 [(2, .ref a), (0, .ref a), (1, .int key)] dT_rowWithKey_1 rfl (by decide) rfl ?_
  refine j_iconst O (v := 5) dT_rowWithKey_2 (by decide) ?_
  refine j_istore_n O 3 [(3, .int 5), (2, .ref a), (0, .ref a), (1, .int key)] dT_rowWithKey_3 rfl (by decide) rfl ?_
  refine J.pk [3, 1, 0] rfl ?_
  exact rowWithKey_loop O M hN rfl v0.1 a v0 5 hv rfl hvo.1 (Nat.le_refl _) hvo.2.2.2.2 rfl
theorem flat_at {qs : List (List RV)} {i l : Nat} (hi : i < qs.length) (hl : l < qs[i].length) (h : (qs.take i).flatten.length + l < qs.flatten.length) : qs.flatten[(qs.take i).flatten.length + l] = qs[i][l] := by
  have e := flat_split hi
  have : qs.flatten[(qs.take i).flatten.length + l] = ((qs.take i).flatten ++ (qs[i] ++ (qs.drop (i + 1)).flatten))[(qs.take i).flatten.length + l]'(by rw [← e]; exact h) := by simp only [e]
  rw [this, List.getElem_append_right (by omega)]
  simp only [Nat.add_sub_cancel_left]
  rw [List.getElem_append_left hl]
set_option maxRecDepth 100000 in
set_option maxHeartbeats 1000000 in
theorem keyInOrder_child {X : CX} {D : va_G} {t : Nat → ClassId} {A : Nat → Prop} {rm : Room} {g : GH} {k0 n0 : Nat} {a d ra ba h : Nat} {u : NV} {mu : MU} {fb : Nat → Option Nat} {ks : List Nat} {qs : List (List RV)} {left0 : Nat} (O : Ok X bT_keyInOrder 6 "TwinTrees" (zz D t A) rm) (hac : gAt g a (nCell u.1 u.2 ra ba mu)) (hba : gAt g ba (eNs t ks.length fb)) (hfb : ∀ i (hi : i < ks.length), fb i = some ks[i]) (hkl : ks.length ≤ 300) (hkq : ks.length = qs.length) (hkc : ∀ i (hi : i < ks.length) (hj : i < qs.length), nodeC g ks[i] h qs[i]) (hfl : qs.flatten.length ≤ 300) (hlt : left0 < qs.flatten.length) (HK : ∀ (i left : Nat) (hi : i < ks.length) (hj : i < qs.length), left0 = (qs.take i).flatten.length + left → left < qs[i].length → J X 6 (zz D t A) g k0 n0 67 [(2, .ref a), (3, .int (nI left)), (4, .int (nI d)), (5, .int (nI i))] []) : ∀ (k i left : Nat), i + k + 1 = ks.length → left0 = (qs.take i).flatten.length + left → J X 6 (zz D t A) g k0 n0 22 [(2, .ref a), (3, .int (nI left)), (4, .int (nI d)), (5, .int (nI i))] [] := by
  intro k
  induction k with
  | zero =>
    intro i left hi hle
    have hj : i < qs.length := by omega
    have hfs := flat_split hj
    have hd0 : qs.drop (i + 1) = [] := List.drop_eq_nil_of_le (by omega)
    have hll : left < qs[i].length := by
      rw [hfs, hd0, List.length_append, List.flatten_nil, List.append_nil] at hlt
      omega
    refine j_iload O dT_keyInOrder_22 rfl ?_
    refine j_iconst O (v := 1) dT_keyInOrder_24 (by decide) ?_
    refine j_iadd O dT_keyInOrder_25 ?_
    refine j_eqi (nI (i + 1)) (nI_1 _) ?_
    refine j_aload_n O 2 dT_keyInOrder_26 rfl rfl ?_
    refine j_get O uwN hac rfl 2 (by decide) w136 rfl rfl dT_keyInOrder_27 ?_
    refine j_alen O hba 2 rfl dT_keyInOrder_30 ?_
    refine j_icmp_ge O 67 dT_keyInOrder_31 (by decide) (fun c => ?_) (fun c => absurd (nI_le (by omega) (by omega)) c)
    refine J.pk [0, 1, 2, 3] rfl ?_
    exact HK i left (by omega) hj hle hll
  | succ k ih =>
    intro i left hi hle
    have hi1 : i < ks.length := by omega
    have hj : i < qs.length := by omega
    obtain ⟨xra, xba, xmu, hxc⟩ := hkc i hi1 hj
    have hft := flat_take qs i hj
    have hq300 : qs[i].length ≤ 300 := by
      have hfs := congrArg List.length (flat_split hj)
      rw [List.length_append, List.length_append] at hfs
      omega
    refine j_iload O dT_keyInOrder_22 rfl ?_
    refine j_iconst O (v := 1) dT_keyInOrder_24 (by decide) ?_
    refine j_iadd O dT_keyInOrder_25 ?_
    refine j_eqi (nI (i + 1)) (nI_1 _) ?_
    refine j_aload_n O 2 dT_keyInOrder_26 rfl rfl ?_
    refine j_get O uwN hac rfl 2 (by decide) w136 rfl rfl dT_keyInOrder_27 ?_
    refine j_alen O hba 2 rfl dT_keyInOrder_30 ?_
    refine j_icmp_ge O 67 dT_keyInOrder_31 (by decide) (fun c => absurd c (nI_ge (by omega) (by omega))) (fun c => ?_)
    refine j_iload_n O 3 dT_keyInOrder_34 rfl rfl ?_
    refine j_aload_n O 2 dT_keyInOrder_35 rfl rfl ?_
    refine j_get O uwN hac rfl 2 (by decide) w136 rfl rfl dT_keyInOrder_36 ?_
    refine j_iload O dT_keyInOrder_39 rfl ?_
    refine j_aald O hba 2 rfl (by omega) (by omega) dT_keyInOrder_41 ?_
    refine j_some (ks[i]) (hfb i hi1) ?_
    refine j_get O uwN hxc rfl 3 (by decide) w138 rfl rfl dT_keyInOrder_42 ?_
    refine j_icmp_lt O 67 dT_keyInOrder_45 (by decide) (fun c1 => ?_) (fun c1 => ?_)
    · refine J.pk [0, 1, 2, 3] rfl ?_
      exact HK i left hi1 hj hle ((nI_ltI (by omega) (by omega)).mp c1)
    · have hge : qs[i].length ≤ left := by
        rcases Nat.lt_or_ge left qs[i].length with z | z
        · exact absurd (nI_lt z (by omega)) c1
        · exact z
      refine j_iload_n O 3 dT_keyInOrder_48 rfl rfl ?_
      refine j_aload_n O 2 dT_keyInOrder_49 rfl rfl ?_
      refine j_get O uwN hac rfl 2 (by decide) w136 rfl rfl dT_keyInOrder_50 ?_
      refine j_iload O dT_keyInOrder_53 rfl ?_
      refine j_aald O hba 2 rfl (by omega) (by omega) dT_keyInOrder_55 ?_
      refine j_some (ks[i]) (hfb i hi1) ?_
      refine j_get O uwN hxc rfl 3 (by decide) w138 rfl rfl dT_keyInOrder_56 ?_
      refine j_isub O dT_keyInOrder_59 ?_
      refine j_eqi (nI (left - (qs[i].length))) (pk_sub (by omega)) ?_
      refine j_istore_n O 3 [(3, .int (nI (left - (qs[i].length)))), (2, .ref a), (4, .int (nI d)), (5, .int (nI i))] dT_keyInOrder_60 rfl (by decide) rfl ?_
      refine j_iinc O (nI (i + 1)) [(5, .int (nI (i + 1))), (3, .int (nI (left - (qs[i].length)))), (2, .ref a), (4, .int (nI d))] dT_keyInOrder_61 rfl (nI_1 _) (by decide) rfl ?_
      refine j_goto O 22 dT_keyInOrder_64 (by decide) ?_
      refine J.pk [2, 1, 3, 0] rfl ?_
      exact ih (i + 1) (left - qs[i].length) (by omega) (by rw [hft]; omega)
set_option maxRecDepth 100000 in
set_option maxHeartbeats 1000000 in
theorem keyInOrder_loop {X : CX} {D : va_G} {t : Nat → ClassId} {A : Nat → Prop} {rm : Room} {g : GH} {w : GD} {key : Int32} (O : Ok X bT_keyInOrder 6 "TwinTrees" (zz D t A) rm) (M : Om X (zz D t A) (some .long) 0 0 (fun r g' => r = some (.long key.toInt64) ∧ g' = g)) (hN : NI t g w) : ∀ (h : Nat) (a : Nat) (u : NV) (d left : Nat) (hl : left < u.2.length), w.1 a = some u → u.1 = h → h ≤ d → d ≤ 5 → u.2[left].1 = key → J X 6 (zz D t A) g 0 0 7 [(2, .ref a), (3, .int (nI left)), (4, .int (nI d))] [] := by
  intro h
  induction h with
  | zero =>
    intro a u d left hl hu hu0 hhd hd5 hres
    obtain ⟨hvo, hIa, ⟨ra, ba, nr, fr, fb, iA, iB, hac, hra, hba, -, h0, -, hfb, h8⟩, had⟩ := hN a u hu
    obtain ⟨hnr, -, hrr⟩ := h0 hu0
    subst hnr
    have hv3 := hvo.2.1
    obtain ⟨x, hfx, hx⟩ := hrr left hl
    rw [Nat.zero_add] at hfx
    obtain ⟨xc, xf, hxc, -, -⟩ := hx.at
    refine j_iload O dT_keyInOrder_7 rfl ?_
    refine j_if_le O 81 dT_keyInOrder_9 (by decide) (fun c1 => ?_) (fun c1 => ?_)
    · refine j_iload_n O 3 dT_keyInOrder_81 rfl rfl ?_
      refine j_aload_n O 2 dT_keyInOrder_82 rfl rfl ?_
      refine j_get O uwN hac rfl 1 (by decide) w134 rfl rfl dT_keyInOrder_83 ?_
      refine j_alen O hra 1 rfl dT_keyInOrder_86 ?_
      refine j_icmp_ge O 103 dT_keyInOrder_87 (by decide) (fun c => absurd c (nI_ge hl (by omega))) (fun c => ?_)
      refine j_aload_n O 2 dT_keyInOrder_90 rfl rfl ?_
      refine j_get O uwN hac rfl 1 (by decide) w134 rfl rfl dT_keyInOrder_91 ?_
      refine j_iload_n O 3 dT_keyInOrder_94 rfl rfl ?_
      refine j_aald O hra 1 rfl (by omega) (by omega) dT_keyInOrder_95 ?_
      refine j_some x hfx ?_
      refine j_get O uwR hxc rfl 0 (by decide) w288 rfl rfl dT_keyInOrder_96 ?_
      refine j_i2l O dT_keyInOrder_99 ?_
      refine j_goto O 106 dT_keyInOrder_100 (by decide) ?_
      exact j_lret O M (Nat.le_of_ble_eq_true rfl) (Nat.le_of_ble_eq_true rfl) ⟨by rw [hres], rfl⟩ dT_keyInOrder_106
    · refine j_aload_n O 2 dT_keyInOrder_12 rfl rfl ?_
      refine j_get O uwN hac rfl 0 (by decide) w132 rfl rfl dT_keyInOrder_13 ?_
      refine j_if_le O 81 dT_keyInOrder_16 (by decide) (fun c => ?_) (fun c => absurd (by rw [hu0]; decide) c)
      refine j_iload_n O 3 dT_keyInOrder_81 rfl rfl ?_
      refine j_aload_n O 2 dT_keyInOrder_82 rfl rfl ?_
      refine j_get O uwN hac rfl 1 (by decide) w134 rfl rfl dT_keyInOrder_83 ?_
      refine j_alen O hra 1 rfl dT_keyInOrder_86 ?_
      refine j_icmp_ge O 103 dT_keyInOrder_87 (by decide) (fun c => absurd c (nI_ge hl (by omega))) (fun c => ?_)
      refine j_aload_n O 2 dT_keyInOrder_90 rfl rfl ?_
      refine j_get O uwN hac rfl 1 (by decide) w134 rfl rfl dT_keyInOrder_91 ?_
      refine j_iload_n O 3 dT_keyInOrder_94 rfl rfl ?_
      refine j_aald O hra 1 rfl (by omega) (by omega) dT_keyInOrder_95 ?_
      refine j_some x hfx ?_
      refine j_get O uwR hxc rfl 0 (by decide) w288 rfl rfl dT_keyInOrder_96 ?_
      refine j_i2l O dT_keyInOrder_99 ?_
      refine j_goto O 106 dT_keyInOrder_100 (by decide) ?_
      exact j_lret O M (Nat.le_of_ble_eq_true rfl) (Nat.le_of_ble_eq_true rfl) ⟨by rw [hres], rfl⟩ dT_keyInOrder_106
  | succ h ih =>
    intro a u d left hl hu hu0 hhd hd5 hres
    obtain ⟨hvo, hIa, ⟨ra, ba, nr, fr, fb, iA, iB, hac, hra, hba, -, h0, -, hfb, h8⟩, had⟩ := hN a u hu
    obtain ⟨q1, q2⟩ := h8 h hu0
    have hfl : (runs (h + 1) u.2).flatten = u.2 := runsP_flat _ _
    have hkl : (w.2.1 a).length ≤ 300 := by rw [q1]; exact Nat.le_trans (runs_len_le _ _) hvo.2.1
    obtain ⟨d, rfl⟩ : ∃ e, d = e + 1 := ⟨d - 1, by omega⟩
    have hp : 0 < (w.2.1 a).length := by
      rcases Nat.eq_zero_or_pos (w.2.1 a).length with hz | hp
      · exfalso
        rw [q1] at hz
        have := runsP_nil _ (List.length_eq_zero_iff.mp hz)
        exact hvo.2.2.2.1 (by omega) this
      · exact hp
    refine j_iload O dT_keyInOrder_7 rfl ?_
    refine j_if_le O 81 dT_keyInOrder_9 (by decide) (fun c => absurd c (nI_nle (by omega) (by omega))) (fun c => ?_)
    refine j_aload_n O 2 dT_keyInOrder_12 rfl rfl ?_
    refine j_get O uwN hac rfl 0 (by decide) w132 rfl rfl dT_keyInOrder_13 ?_
    refine j_if_le O 81 dT_keyInOrder_16 (by decide) (fun c => absurd c (by rw [hu0]; exact nI_nle (by omega) (by omega))) (fun c => ?_)
    refine j_iconst O (v := 0) dT_keyInOrder_19 (by decide) ?_
    refine j_istore O [(5, .int 0), (2, .ref a), (3, .int (nI left)), (4, .int (nI (d + 1)))] dT_keyInOrder_20 (by decide) rfl ?_
    refine J.pk [1, 2, 3, 0] rfl ?_
    refine keyInOrder_child (k0 := 0) (n0 := 0) (h := h) (left0 := left) O hac hba hfb hkl q1 (fun i hi hj => ?_) (by rw [hfl]; exact hvo.2.1) (by rw [hfl]; exact hl) (fun i l2 hi hj hle hl2 => ?_) ((w.2.1 a).length - 1) 0 left (by omega) (by simp)
    · obtain ⟨xra, xba, hc⟩ := hN.cell (q2 i hi hj)
      exact ⟨xra, xba, _, hc⟩
    · refine j_aload_n O 2 dT_keyInOrder_67 rfl rfl ?_
      refine j_get O uwN hac rfl 2 (by decide) w136 rfl rfl dT_keyInOrder_68 ?_
      refine j_iload O dT_keyInOrder_71 rfl ?_
      refine j_aald O hba 2 rfl (by omega) (by omega) dT_keyInOrder_73 ?_
      refine j_some ((w.2.1 a)[i]) (hfb i hi) ?_
      refine j_astore_n O 2 [(2, .ref ((w.2.1 a)[i])), (3, .int (nI l2)), (4, .int (nI (d + 1))), (5, .int (nI i))] dT_keyInOrder_74 rfl (by decide) rfl ?_
      refine j_iinc O (nI (d + 1 - 1)) [(4, .int (nI (d + 1 - 1))), (2, .ref ((w.2.1 a)[i])), (3, .int (nI l2)), (5, .int (nI i))] dT_keyInOrder_75 rfl (sb_m1 (by omega)) (by decide) rfl ?_
      refine j_goto O 7 dT_keyInOrder_78 (by decide) ?_
      refine J.pk [1, 2, 0] rfl ?_
      refine ih _ _ d l2 hl2 (q2 i hi hj) rfl (by omega) (by omega) ?_
      have e := flat_at hj hl2 (by rw [← hle, hfl]; exact hl)
      rw [← e, ← hres]
      simp only [← hle, hfl]
set_option maxRecDepth 100000 in
set_option maxHeartbeats 1000000 in
theorem c_keyInOrder (l : Launch) (D : va_G) (t : Nat → ClassId) (A : Nat → Prop) (g : GH) (a k : Nat) (w : GD) (v0 : NV) (hN : NI t g w) (hv : w.1 a = some v0) (hk : k < v0.2.length) : Ct l yT_keyInOrder sT_keyInOrder { frames := 0, cells := 0, slots := 0, locals := 0 } (zz D t A) [.ref a, .int (nI k)] g 0 0 (fun v g' => v = some (.long (v0.2[k].1).toInt64) ∧ g' = g) := by
  refine Ct.of (cc := bT_keyInOrder) (maxL := 6) (ret := (some .long)) (by decide) (Nat.le_of_ble_eq_true rfl) (fun X hlX O M hNn => ?_)
  show J X 6 (zz D t A) g 0 0 0 [(0, .ref a), (1, .int (nI k))] []
  have hvo := (hN a v0 hv).1
  refine j_aload_n O 0 dT_keyInOrder_0 rfl rfl ?_
  refine j_astore_n O 2 [(2, .ref a), (0, .ref a), (1, .int (nI k))] dT_keyInOrder_1 rfl (by decide) rfl ?_
  refine j_iload_n O 1 dT_keyInOrder_2 rfl rfl ?_
  refine j_istore_n O 3 [(3, .int (nI k)), (2, .ref a), (0, .ref a), (1, .int (nI k))] dT_keyInOrder_3 rfl (by decide) rfl ?_
  refine j_iconst O (v := 5) dT_keyInOrder_4 (by decide) ?_
  refine j_istore O [(4, .int 5), (3, .int (nI k)), (2, .ref a), (0, .ref a), (1, .int (nI k))] dT_keyInOrder_5 (by decide) rfl ?_
  refine J.pk [2, 1, 0] rfl ?_
  exact keyInOrder_loop O M hN v0.1 a v0 5 k hk hv rfl hvo.1 (Nat.le_refl _) rfl
end
