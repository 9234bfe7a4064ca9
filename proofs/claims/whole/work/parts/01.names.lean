/-! names, by program: classes, fields, methods; aw: the words that every method gets -/
abbrev kT : String := "TwinTrees"
def fT : u_T := fun k => match k with
  | 0 => ("TwinTrees", "widths", "[I", true)
  | 1 => ("TwinTrees", "roots", "[LTwinTrees$Node;", true)
  | 2 => ("TwinTrees", "store", "LTwinTrees$Store;", true)
  | 3 => ("TwinTrees", "differences", "LTwinTrees$Differences;", true)
  | 4 => ("TwinTrees", "draft", "LTwinTrees$RowList;", true)
  | 5 => ("TwinTrees", "beside", "LTwinTrees$RowList;", true)
  | 6 => ("TwinTrees", "line", "[LTwinTrees$Node;", true)
  | _ => ("TwinTrees", "lastStamp", "I", false)
def tT : Nat → FieldType := fun k => match k with
  | 0 => .array .int
  | 1 => .array (.object "TwinTrees$Node")
  | 2 => .object "TwinTrees$Store"
  | 3 => .object "TwinTrees$Differences"
  | 4 => .object "TwinTrees$RowList"
  | 5 => .object "TwinTrees$RowList"
  | 6 => .array (.object "TwinTrees$Node")
  | _ => .int
theorem fnT : ∀ a, a < 8 → ∀ b, b < 8 → a ≠ b → (fT a).2.1 ≠ (fT b).2.1 := by decide +kernel
theorem ftT : ∀ k, k < 8 → parseFieldDescriptor (fT k).2.2.1 = some (tT k) := by decide +kernel
abbrev kD : String := "TwinTrees$Differences"
def fD : u_T := fun k => match k with
  | 0 => ("TwinTrees$Differences", "keys", "[I", true)
  | 1 => ("TwinTrees$Differences", "sides", "[I", true)
  | 2 => ("TwinTrees$Differences", "unlikes", "[I", true)
  | _ => ("TwinTrees$Differences", "length", "I", false)
def tD : Nat → FieldType := fun k => match k with
  | 0 => .array .int
  | 1 => .array .int
  | 2 => .array .int
  | _ => .int
theorem fnD : ∀ a, a < 4 → ∀ b, b < 4 → a ≠ b → (fD a).2.1 ≠ (fD b).2.1 := by decide +kernel
theorem ftD : ∀ k, k < 4 → parseFieldDescriptor (fD k).2.2.1 = some (tD k) := by decide +kernel
abbrev kN : String := "TwinTrees$Node"
def fN : u_T := fun k => match k with
  | 0 => ("TwinTrees$Node", "height", "I", true)
  | 1 => ("TwinTrees$Node", "rows", "[LTwinTrees$Row;", true)
  | 2 => ("TwinTrees$Node", "below", "[LTwinTrees$Node;", true)
  | 3 => ("TwinTrees$Node", "rowCount", "I", true)
  | 4 => ("TwinTrees$Node", "size", "I", true)
  | 5 => ("TwinTrees$Node", "lastKey", "I", true)
  | 6 => ("TwinTrees$Node", "lastLevel", "I", true)
  | 7 => ("TwinTrees$Node", "print", "I", true)
  | 8 => ("TwinTrees$Node", "address", "J", false)
  | 9 => ("TwinTrees$Node", "hasAddress", "Z", false)
  | 10 => ("TwinTrees$Node", "stamp", "I", false)
  | _ => ("TwinTrees$Node", "next", "LTwinTrees$Node;", false)
def tN : Nat → FieldType := fun k => match k with
  | 0 => .int
  | 1 => .array (.object "TwinTrees$Row")
  | 2 => .array (.object "TwinTrees$Node")
  | 3 => .int
  | 4 => .int
  | 5 => .int
  | 6 => .int
  | 7 => .int
  | 8 => .long
  | 9 => .boolean
  | 10 => .int
  | _ => .object "TwinTrees$Node"
theorem fnN : ∀ a, a < 12 → ∀ b, b < 12 → a ≠ b → (fN a).2.1 ≠ (fN b).2.1 := by decide +kernel
theorem ftN : ∀ k, k < 12 → parseFieldDescriptor (fN k).2.2.1 = some (tN k) := by decide +kernel
abbrev kR : String := "TwinTrees$Row"
def fR : u_T := fun k => match k with
  | 0 => ("TwinTrees$Row", "key", "I", true)
  | 1 => ("TwinTrees$Row", "cells", "[I", true)
  | 2 => ("TwinTrees$Row", "nulls", "I", true)
  | 3 => ("TwinTrees$Row", "level", "I", true)
  | _ => ("TwinTrees$Row", "print", "I", true)
def tR : Nat → FieldType := fun k => match k with
  | 0 => .int
  | 1 => .array .int
  | 2 => .int
  | 3 => .int
  | _ => .int
theorem fnR : ∀ a, a < 5 → ∀ b, b < 5 → a ≠ b → (fR a).2.1 ≠ (fR b).2.1 := by decide +kernel
theorem ftR : ∀ k, k < 5 → parseFieldDescriptor (fR k).2.2.1 = some (tR k) := by decide +kernel
abbrev kQ : String := "TwinTrees$RowList"
def fQ : u_T := fun k => match k with
  | 0 => ("TwinTrees$RowList", "rows", "[LTwinTrees$Row;", true)
  | _ => ("TwinTrees$RowList", "length", "I", false)
def tQ : Nat → FieldType := fun k => match k with
  | 0 => .array (.object "TwinTrees$Row")
  | _ => .int
theorem fnQ : ∀ a, a < 2 → ∀ b, b < 2 → a ≠ b → (fQ a).2.1 ≠ (fQ b).2.1 := by decide +kernel
theorem ftQ : ∀ k, k < 2 → parseFieldDescriptor (fQ k).2.2.1 = some (tQ k) := by decide +kernel
abbrev kS : String := "TwinTrees$Store"
def fS : u_T := fun k => match k with
  | 0 => ("TwinTrees$Store", "buckets", "[LTwinTrees$Node;", true)
  | 1 => ("TwinTrees$Store", "pending", "LTwinTrees$Node;", false)
  | 2 => ("TwinTrees$Store", "nodes", "I", false)
  | _ => ("TwinTrees$Store", "size", "I", false)
def tS : Nat → FieldType := fun k => match k with
  | 0 => .array (.object "TwinTrees$Node")
  | 1 => .object "TwinTrees$Node"
  | 2 => .int
  | _ => .int
theorem fnS : ∀ a, a < 4 → ∀ b, b < 4 → a ≠ b → (fS a).2.1 ≠ (fS b).2.1 := by decide +kernel
theorem ftS : ∀ k, k < 4 → parseFieldDescriptor (fS k).2.2.1 = some (tS k) := by decide +kernel
abbrev kM : String := "TwinTreesModel"
def fM : u_T := fun k => match k with
  | 0 => ("TwinTreesModel", "columns", "[I", true)
  | 1 => ("TwinTreesModel", "many", "[I", true)
  | 2 => ("TwinTreesModel", "key", "[[I", true)
  | 3 => ("TwinTreesModel", "cell", "[[J", true)
  | 4 => ("TwinTreesModel", "oldColumns", "I", false)
  | 5 => ("TwinTreesModel", "oldMany", "I", false)
  | 6 => ("TwinTreesModel", "oldKey", "[I", true)
  | 7 => ("TwinTreesModel", "oldCell", "[J", true)
  | 8 => ("TwinTreesModel", "differKey", "[I", true)
  | 9 => ("TwinTreesModel", "differKind", "[I", true)
  | 10 => ("TwinTreesModel", "differBits", "[I", true)
  | 11 => ("TwinTreesModel", "differences", "I", false)
  | 12 => ("TwinTreesModel", "height", "[I", true)
  | 13 => ("TwinTreesModel", "begins", "[I", true)
  | 14 => ("TwinTreesModel", "long0", "[I", true)
  | 15 => ("TwinTreesModel", "width", "[I", true)
  | 16 => ("TwinTreesModel", "chain", "[I", true)
  | 17 => ("TwinTreesModel", "pool", "[J", true)
  | 18 => ("TwinTreesModel", "bucket", "[I", true)
  | 19 => ("TwinTreesModel", "nodes", "I", false)
  | 20 => ("TwinTreesModel", "used", "I", false)
  | 21 => ("TwinTreesModel", "level", "[I", false)
  | 22 => ("TwinTreesModel", "last", "[I", false)
  | 23 => ("TwinTreesModel", "levelMany", "I", false)
  | 24 => ("TwinTreesModel", "made", "[J", true)
  | 25 => ("TwinTreesModel", "madeMany", "I", false)
  | 26 => ("TwinTreesModel", "tall", "I", false)
  | 27 => ("TwinTreesModel", "counted", "I", false)
  | _ => ("TwinTreesModel", "sized", "I", false)
def tM : Nat → FieldType := fun k => match k with
  | 0 => .array .int
  | 1 => .array .int
  | 2 => .array (.array .int)
  | 3 => .array (.array .long)
  | 4 => .int
  | 5 => .int
  | 6 => .array .int
  | 7 => .array .long
  | 8 => .array .int
  | 9 => .array .int
  | 10 => .array .int
  | 11 => .int
  | 12 => .array .int
  | 13 => .array .int
  | 14 => .array .int
  | 15 => .array .int
  | 16 => .array .int
  | 17 => .array .long
  | 18 => .array .int
  | 19 => .int
  | 20 => .int
  | 21 => .array .int
  | 22 => .array .int
  | 23 => .int
  | 24 => .array .long
  | 25 => .int
  | 26 => .int
  | 27 => .int
  | _ => .int
theorem fnM : ∀ a, a < 29 → ∀ b, b < 29 → a ≠ b → (fM a).2.1 ≠ (fM b).2.1 := by decide +kernel
theorem ftM : ∀ k, k < 29 → parseFieldDescriptor (fM k).2.2.1 = some (tM k) := by decide +kernel
abbrev kL : String := "TwinTreesLaw"
abbrev clA : List vw_C := [(kT, fT, 8), (kD, fD, 4), (kN, fN, 12), (kR, fR, 5), (kQ, fQ, 2), (kS, fS, 4), (kM, fM, 29)]
/-- the words of the tables that go on holding, in the order of lw_tbl -/
def aw0 : List Cond := [.selects "TwinTrees$Store" ⟨"TwinTrees$Store", "pend", "(LTwinTrees$Node;)LTwinTrees$Node;"⟩ ⟨"TwinTrees$Store", "pend", "(LTwinTrees$Node;)LTwinTrees$Node;"⟩,
  .selects "TwinTrees$Store" ⟨"TwinTrees$Store", "link", "(LTwinTrees$Node;)V"⟩ ⟨"TwinTrees$Store", "link", "(LTwinTrees$Node;)V"⟩,
  .selects "TwinTrees" ⟨"TwinTrees", "plantDraft", "(I)I"⟩ ⟨"TwinTrees", "plantDraft", "(I)I"⟩,
  .selects "TwinTrees" ⟨"TwinTrees", "groupRows", "()I"⟩ ⟨"TwinTrees", "groupRows", "()I"⟩,
  .selects "TwinTrees" ⟨"TwinTrees", "groupNodes", "(II)I"⟩ ⟨"TwinTrees", "groupNodes", "(II)I"⟩,
  .selects "TwinTrees" ⟨"TwinTrees", "isColumn", "(II)Z"⟩ ⟨"TwinTrees", "isColumn", "(II)Z"⟩,
  .selects "TwinTrees" ⟨"TwinTrees", "draftRowsOf", "(I)V"⟩ ⟨"TwinTrees", "draftRowsOf", "(I)V"⟩,
  .selects "TwinTrees" ⟨"TwinTrees", "newStamp", "()I"⟩ ⟨"TwinTrees", "newStamp", "()I"⟩,
  .selects "TwinTrees" ⟨"TwinTrees", "gatherUnshared", "(IILTwinTrees$RowList;)V"⟩ ⟨"TwinTrees", "gatherUnshared", "(IILTwinTrees$RowList;)V"⟩,
  .selects "TwinTrees$Differences" ⟨"TwinTrees$Differences", "note", "(III)V"⟩ ⟨"TwinTrees$Differences", "note", "(III)V"⟩,
  .selects "TwinTreesModel" ⟨"TwinTreesModel", "lay", "(I)Z"⟩ ⟨"TwinTreesModel", "lay", "(I)Z"⟩,
  .selects "TwinTreesModel" ⟨"TwinTreesModel", "keep", "(III)Z"⟩ ⟨"TwinTreesModel", "keep", "(III)Z"⟩,
  .selects "TwinTreesModel" ⟨"TwinTreesModel", "node", "(II)I"⟩ ⟨"TwinTreesModel", "node", "(II)I"⟩,
  .selects "TwinTreesModel" ⟨"TwinTreesModel", "hash", "(II)I"⟩ ⟨"TwinTreesModel", "hash", "(II)I"⟩,
  .selects "TwinTreesModel" ⟨"TwinTreesModel", "isMade", "(III)Z"⟩ ⟨"TwinTreesModel", "isMade", "(III)Z"⟩,
  .selects "TwinTreesModel" ⟨"TwinTreesModel", "remember", "(I)V"⟩ ⟨"TwinTreesModel", "remember", "(I)V"⟩,
  .selects "TwinTreesModel" ⟨"TwinTreesModel", "write", "(I)I"⟩ ⟨"TwinTreesModel", "write", "(I)I"⟩,
  .selects "TwinTreesModel" ⟨"TwinTreesModel", "back", "(I)V"⟩ ⟨"TwinTreesModel", "back", "(I)V"⟩,
  .selects "TwinTreesModel" ⟨"TwinTreesModel", "find", "(II)I"⟩ ⟨"TwinTreesModel", "find", "(II)I"⟩,
  .selects "TwinTreesModel" ⟨"TwinTreesModel", "placeOf", "(II)I"⟩ ⟨"TwinTreesModel", "placeOf", "(II)I"⟩,
  .selects "TwinTreesModel" ⟨"TwinTreesModel", "move", "(III)V"⟩ ⟨"TwinTreesModel", "move", "(III)V"⟩,
  .selects "TwinTreesModel" ⟨"TwinTreesModel", "addressOf", "(I)J"⟩ ⟨"TwinTreesModel", "addressOf", "(I)J"⟩,
  .initialized "TwinTreesLaw",
  .initialized "TwinTrees",
  .initialized "TwinTrees$Store",
  .initialized "TwinTrees$Differences",
  .initialized "TwinTrees$RowList",
  .initialized "TwinTrees$Node",
  .initialized "TwinTreesModel",
  .initialized "java/lang/Math",
  .initialized "java/lang/System",
  .initialized "TwinTrees$Row",
  .initialized "java/util/Arrays",
  .classLink "TwinTreesLaw" 7 "TwinTrees",
  .instantiable "TwinTrees" 8,
  .methodLink "TwinTreesLaw" 9 ⟨"TwinTrees", "<init>", "()V"⟩,
  .instanceMethod ⟨"TwinTrees", "<init>", "()V"⟩,
  .code ⟨"TwinTrees", "<init>", "()V"⟩ prog_1_method_1_code 3 none,
  .methodLink "TwinTrees" 1 ⟨"java/lang/Object", "<init>", "()V"⟩,
  .instanceMethod ⟨"java/lang/Object", "<init>", "()V"⟩,
  .code ⟨"java/lang/Object", "<init>", "()V"⟩ object_method_1_code 1 none,
  .classLink "TwinTrees" 13 "TwinTrees$Node",
  .classLink "TwinTrees" 19 "TwinTrees$Store",
  .instantiable "TwinTrees$Store" 4,
  .instanceMethod ⟨"TwinTrees$Store", "<init>", "()V"⟩,
  .code ⟨"TwinTrees$Store", "<init>", "()V"⟩ prog_6_method_1_code 1 none,
  .methodLink "TwinTrees$Store" 3 ⟨"java/lang/Object", "<init>", "()V"⟩,
  .classLink "TwinTrees$Store" 9 "TwinTrees$Node",
  .fieldLink "TwinTrees$Store" 11 "TwinTrees$Store" "buckets" "[LTwinTrees$Node;",
  .fieldLink "TwinTrees$Store" 17 "TwinTrees$Store" "pending" "LTwinTrees$Node;",
  .fieldLink "TwinTrees$Store" 21 "TwinTrees$Store" "nodes" "I",
  .fieldLink "TwinTrees" 161 "TwinTrees$Store" "nodes" "I",
  .fieldLink "TwinTrees$Store" 25 "TwinTrees$Store" "size" "I",
  .fieldLink "TwinTrees" 164 "TwinTrees$Store" "size" "I",
  .laysFinal "TwinTrees$Store" "TwinTrees$Store" "buckets" "[LTwinTrees$Node;",
  .soleField "TwinTrees$Store" "buckets",
  .lays "TwinTrees$Store" "TwinTrees$Store" "pending" "LTwinTrees$Node;",
  .soleField "TwinTrees$Store" "pending",
  .lays "TwinTrees$Store" "TwinTrees$Store" "nodes" "I",
  .soleField "TwinTrees$Store" "nodes",
  .lays "TwinTrees$Store" "TwinTrees$Store" "size" "I",
  .soleField "TwinTrees$Store" "size",
  .superclass "TwinTrees$Store" "java/lang/Object",
  .arrayClass .int]
def aw1 : List Cond := [.classLink "TwinTrees" 26 "TwinTrees$Differences",
  .instantiable "TwinTrees$Differences" 4,
  .instanceMethod ⟨"TwinTrees$Differences", "<init>", "()V"⟩,
  .code ⟨"TwinTrees$Differences", "<init>", "()V"⟩ prog_2_method_1_code 1 none,
  .methodLink "TwinTrees$Differences" 3 ⟨"java/lang/Object", "<init>", "()V"⟩,
  .fieldLink "TwinTrees$Differences" 9 "TwinTrees$Differences" "keys" "[I",
  .fieldLink "TwinTrees" 149 "TwinTrees$Differences" "keys" "[I",
  .fieldLink "TwinTrees$Differences" 15 "TwinTrees$Differences" "sides" "[I",
  .fieldLink "TwinTrees" 152 "TwinTrees$Differences" "sides" "[I",
  .fieldLink "TwinTrees$Differences" 18 "TwinTrees$Differences" "unlikes" "[I",
  .fieldLink "TwinTrees" 155 "TwinTrees$Differences" "unlikes" "[I",
  .fieldLink "TwinTrees$Differences" 21 "TwinTrees$Differences" "length" "I",
  .fieldLink "TwinTrees" 148 "TwinTrees$Differences" "length" "I",
  .laysFinal "TwinTrees$Differences" "TwinTrees$Differences" "keys" "[I",
  .soleField "TwinTrees$Differences" "keys",
  .laysFinal "TwinTrees$Differences" "TwinTrees$Differences" "sides" "[I",
  .soleField "TwinTrees$Differences" "sides",
  .laysFinal "TwinTrees$Differences" "TwinTrees$Differences" "unlikes" "[I",
  .soleField "TwinTrees$Differences" "unlikes",
  .lays "TwinTrees$Differences" "TwinTrees$Differences" "length" "I",
  .soleField "TwinTrees$Differences" "length",
  .superclass "TwinTrees$Differences" "java/lang/Object",
  .classLink "TwinTrees" 33 "TwinTrees$RowList",
  .instantiable "TwinTrees$RowList" 2,
  .instanceMethod ⟨"TwinTrees$RowList", "<init>", "()V"⟩,
  .code ⟨"TwinTrees$RowList", "<init>", "()V"⟩ prog_5_method_1_code 1 none,
  .methodLink "TwinTrees$RowList" 3 ⟨"java/lang/Object", "<init>", "()V"⟩,
  .classLink "TwinTrees$RowList" 9 "TwinTrees$Row",
  .fieldLink "TwinTrees$RowList" 11 "TwinTrees$RowList" "rows" "[LTwinTrees$Row;",
  .fieldLink "TwinTrees$Differences" 28 "TwinTrees$RowList" "rows" "[LTwinTrees$Row;",
  .fieldLink "TwinTrees" 93 "TwinTrees$RowList" "rows" "[LTwinTrees$Row;",
  .fieldLink "TwinTrees$RowList" 17 "TwinTrees$RowList" "length" "I",
  .fieldLink "TwinTrees$Differences" 25 "TwinTrees$RowList" "length" "I",
  .fieldLink "TwinTrees" 64 "TwinTrees$RowList" "length" "I",
  .laysFinal "TwinTrees$RowList" "TwinTrees$RowList" "rows" "[LTwinTrees$Row;",
  .soleField "TwinTrees$RowList" "rows",
  .lays "TwinTrees$RowList" "TwinTrees$RowList" "length" "I",
  .soleField "TwinTrees$RowList" "length",
  .superclass "TwinTrees$RowList" "java/lang/Object",
  .classLink "TwinTrees" 50 "TwinTrees$Row",
  .methodLink "TwinTrees" 52 ⟨"TwinTrees$Store", "leafOf", "([LTwinTrees$Row;II)LTwinTrees$Node;"⟩,
  .instanceMethod ⟨"TwinTrees$Store", "leafOf", "([LTwinTrees$Row;II)LTwinTrees$Node;"⟩,
  .selects "TwinTrees$Store" ⟨"TwinTrees$Store", "leafOf", "([LTwinTrees$Row;II)LTwinTrees$Node;"⟩ ⟨"TwinTrees$Store", "leafOf", "([LTwinTrees$Row;II)LTwinTrees$Node;"⟩,
  .code ⟨"TwinTrees$Store", "leafOf", "([LTwinTrees$Row;II)LTwinTrees$Node;"⟩ prog_6_method_2_code 6 (some (.object "TwinTrees$Node")),
  .methodLink "TwinTrees$Store" 33 ⟨"TwinTrees$Store", "bucketOf", "(I)I"⟩,
  .static ⟨"TwinTrees$Store", "bucketOf", "(I)I"⟩,
  .code ⟨"TwinTrees$Store", "bucketOf", "(I)I"⟩ prog_6_method_8_code 1 (some .int),
  .constant "TwinTrees$Store" 68 (-1640531535),
  .methodLink "TwinTrees$Store" 38 ⟨"TwinTrees$Node", "isLikeLeaf", "([LTwinTrees$Row;II)Z"⟩,
  .instanceMethod ⟨"TwinTrees$Node", "isLikeLeaf", "([LTwinTrees$Row;II)Z"⟩,
  .selects "TwinTrees$Node" ⟨"TwinTrees$Node", "isLikeLeaf", "([LTwinTrees$Row;II)Z"⟩ ⟨"TwinTrees$Node", "isLikeLeaf", "([LTwinTrees$Row;II)Z"⟩,
  .code ⟨"TwinTrees$Node", "isLikeLeaf", "([LTwinTrees$Row;II)Z"⟩ prog_3_method_3_code 5 (some .boolean),
  .methodLink "TwinTrees$Node" 63 ⟨"TwinTrees$Row", "isLike", "(LTwinTrees$Row;)Z"⟩,
  .instanceMethod ⟨"TwinTrees$Row", "isLike", "(LTwinTrees$Row;)Z"⟩,
  .selects "TwinTrees$Row" ⟨"TwinTrees$Row", "isLike", "(LTwinTrees$Row;)Z"⟩ ⟨"TwinTrees$Row", "isLike", "(LTwinTrees$Row;)Z"⟩,
  .code ⟨"TwinTrees$Row", "isLike", "(LTwinTrees$Row;)Z"⟩ prog_4_method_4_code 2 (some .boolean),
  .methodLink "TwinTrees$Row" 40 ⟨"TwinTrees$Row", "unlikeCells", "(LTwinTrees$Row;)I"⟩,
  .instanceMethod ⟨"TwinTrees$Row", "unlikeCells", "(LTwinTrees$Row;)I"⟩,
  .selects "TwinTrees$Row" ⟨"TwinTrees$Row", "unlikeCells", "(LTwinTrees$Row;)I"⟩ ⟨"TwinTrees$Row", "unlikeCells", "(LTwinTrees$Row;)I"⟩,
  .code ⟨"TwinTrees$Row", "unlikeCells", "(LTwinTrees$Row;)I"⟩ prog_4_method_5_code 4 (some .int),
  .instantiable "TwinTrees$Node" 12,
  .methodLink "TwinTrees$Store" 45 ⟨"TwinTrees$Node", "<init>", "([LTwinTrees$Row;III)V"⟩,
  .instanceMethod ⟨"TwinTrees$Node", "<init>", "([LTwinTrees$Row;III)V"⟩,
  .code ⟨"TwinTrees$Node", "<init>", "([LTwinTrees$Row;III)V"⟩ prog_3_method_1_code 7 none]
def aw2 : List Cond := [.methodLink "TwinTrees$Node" 1 ⟨"java/lang/Object", "<init>", "()V"⟩,
  .classLink "TwinTrees$Node" 28 "TwinTrees$Row",
  .classLink "TwinTrees$Node" 8 "TwinTrees$Node",
  .fieldLink "TwinTrees$Node" 25 "TwinTrees$Node" "height" "I",
  .fieldLink "TwinTrees" 123 "TwinTrees$Node" "height" "I",
  .fieldLink "TwinTrees$Node" 30 "TwinTrees$Node" "rows" "[LTwinTrees$Row;",
  .fieldLink "TwinTrees" 194 "TwinTrees$Node" "rows" "[LTwinTrees$Row;",
  .fieldLink "TwinTrees$Node" 34 "TwinTrees$Node" "below" "[LTwinTrees$Node;",
  .fieldLink "TwinTrees" 191 "TwinTrees$Node" "below" "[LTwinTrees$Node;",
  .fieldLink "TwinTrees$Node" 42 "TwinTrees$Node" "rowCount" "I",
  .fieldLink "TwinTrees" 120 "TwinTrees$Node" "rowCount" "I",
  .fieldLink "TwinTrees$Node" 45 "TwinTrees$Node" "size" "I",
  .fieldLink "TwinTrees$Store" 59 "TwinTrees$Node" "size" "I",
  .fieldLink "TwinTrees$Node" 51 "TwinTrees$Node" "lastKey" "I",
  .fieldLink "TwinTrees" 199 "TwinTrees$Node" "lastKey" "I",
  .fieldLink "TwinTrees$Node" 57 "TwinTrees$Node" "lastLevel" "I",
  .fieldLink "TwinTrees" 181 "TwinTrees$Node" "lastLevel" "I",
  .fieldLink "TwinTrees$Node" 60 "TwinTrees$Node" "print" "I",
  .fieldLink "TwinTrees$Store" 37 "TwinTrees$Node" "print" "I",
  .fieldLink "TwinTrees$Node" 7 "TwinTrees$Node" "address" "J",
  .fieldLink "TwinTrees" 209 "TwinTrees$Node" "address" "J",
  .fieldLink "TwinTrees$Node" 13 "TwinTrees$Node" "hasAddress" "Z",
  .fieldLink "TwinTrees" 205 "TwinTrees$Node" "hasAddress" "Z",
  .fieldLink "TwinTrees$Node" 17 "TwinTrees$Node" "stamp" "I",
  .fieldLink "TwinTrees$Store" 65 "TwinTrees$Node" "stamp" "I",
  .fieldLink "TwinTrees" 188 "TwinTrees$Node" "stamp" "I",
  .fieldLink "TwinTrees$Node" 21 "TwinTrees$Node" "next" "LTwinTrees$Node;",
  .fieldLink "TwinTrees$Store" 42 "TwinTrees$Node" "next" "LTwinTrees$Node;",
  .laysFinal "TwinTrees$Node" "TwinTrees$Node" "height" "I",
  .soleField "TwinTrees$Node" "height",
  .laysFinal "TwinTrees$Node" "TwinTrees$Node" "rows" "[LTwinTrees$Row;",
  .soleField "TwinTrees$Node" "rows",
  .laysFinal "TwinTrees$Node" "TwinTrees$Node" "below" "[LTwinTrees$Node;",
  .soleField "TwinTrees$Node" "below",
  .laysFinal "TwinTrees$Node" "TwinTrees$Node" "rowCount" "I",
  .soleField "TwinTrees$Node" "rowCount",
  .laysFinal "TwinTrees$Node" "TwinTrees$Node" "size" "I",
  .soleField "TwinTrees$Node" "size",
  .laysFinal "TwinTrees$Node" "TwinTrees$Node" "lastKey" "I",
  .soleField "TwinTrees$Node" "lastKey",
  .laysFinal "TwinTrees$Node" "TwinTrees$Node" "lastLevel" "I",
  .soleField "TwinTrees$Node" "lastLevel",
  .laysFinal "TwinTrees$Node" "TwinTrees$Node" "print" "I",
  .soleField "TwinTrees$Node" "print",
  .lays "TwinTrees$Node" "TwinTrees$Node" "address" "J",
  .soleField "TwinTrees$Node" "address",
  .lays "TwinTrees$Node" "TwinTrees$Node" "hasAddress" "Z",
  .soleField "TwinTrees$Node" "hasAddress",
  .lays "TwinTrees$Node" "TwinTrees$Node" "stamp" "I",
  .soleField "TwinTrees$Node" "stamp",
  .lays "TwinTrees$Node" "TwinTrees$Node" "next" "LTwinTrees$Node;",
  .soleField "TwinTrees$Node" "next",
  .superclass "TwinTrees$Node" "java/lang/Object",
  .methodLink "TwinTrees$Store" 48 ⟨"TwinTrees$Store", "pend", "(LTwinTrees$Node;)LTwinTrees$Node;"⟩,
  .instanceMethod ⟨"TwinTrees$Store", "pend", "(LTwinTrees$Node;)LTwinTrees$Node;"⟩,
  .code ⟨"TwinTrees$Store", "pend", "(LTwinTrees$Node;)LTwinTrees$Node;"⟩ prog_6_method_6_code 2 (some (.object "TwinTrees$Node")),
  .methodLink "TwinTrees" 56 ⟨"TwinTrees$Store", "keepPending", "()I"⟩,
  .instanceMethod ⟨"TwinTrees$Store", "keepPending", "()I"⟩,
  .selects "TwinTrees$Store" ⟨"TwinTrees$Store", "keepPending", "()I"⟩ ⟨"TwinTrees$Store", "keepPending", "()I"⟩,
  .code ⟨"TwinTrees$Store", "keepPending", "()I"⟩ prog_6_method_4_code 5 (some .int),
  .constant "TwinTrees$Store" 60 60000,
  .methodLink "TwinTrees$Store" 61 ⟨"TwinTrees$Store", "link", "(LTwinTrees$Node;)V"⟩,
  .instanceMethod ⟨"TwinTrees$Store", "link", "(LTwinTrees$Node;)V"⟩,
  .code ⟨"TwinTrees$Store", "link", "(LTwinTrees$Node;)V"⟩ prog_6_method_7_code 3 none]
def aw3 : List Cond := [.fieldLink "TwinTrees" 9 "TwinTrees" "widths" "[I",
  .fieldLink "TwinTrees" 15 "TwinTrees" "roots" "[LTwinTrees$Node;",
  .fieldLink "TwinTrees" 22 "TwinTrees" "store" "LTwinTrees$Store;",
  .fieldLink "TwinTrees" 29 "TwinTrees" "differences" "LTwinTrees$Differences;",
  .fieldLink "TwinTrees" 36 "TwinTrees" "draft" "LTwinTrees$RowList;",
  .fieldLink "TwinTrees" 40 "TwinTrees" "beside" "LTwinTrees$RowList;",
  .fieldLink "TwinTrees" 43 "TwinTrees" "line" "[LTwinTrees$Node;",
  .fieldLink "TwinTrees" 46 "TwinTrees" "lastStamp" "I",
  .laysFinal "TwinTrees" "TwinTrees" "widths" "[I",
  .soleField "TwinTrees" "widths",
  .laysFinal "TwinTrees" "TwinTrees" "roots" "[LTwinTrees$Node;",
  .soleField "TwinTrees" "roots",
  .laysFinal "TwinTrees" "TwinTrees" "store" "LTwinTrees$Store;",
  .soleField "TwinTrees" "store",
  .laysFinal "TwinTrees" "TwinTrees" "differences" "LTwinTrees$Differences;",
  .soleField "TwinTrees" "differences",
  .laysFinal "TwinTrees" "TwinTrees" "draft" "LTwinTrees$RowList;",
  .soleField "TwinTrees" "draft",
  .laysFinal "TwinTrees" "TwinTrees" "beside" "LTwinTrees$RowList;",
  .soleField "TwinTrees" "beside",
  .laysFinal "TwinTrees" "TwinTrees" "line" "[LTwinTrees$Node;",
  .soleField "TwinTrees" "line",
  .lays "TwinTrees" "TwinTrees" "lastStamp" "I",
  .soleField "TwinTrees" "lastStamp",
  .superclass "TwinTrees" "java/lang/Object",
  .methodLink "TwinTreesLaw" 13 ⟨"TwinTrees", "make", "(II)I"⟩,
  .instanceMethod ⟨"TwinTrees", "make", "(II)I"⟩,
  .selects "TwinTrees" ⟨"TwinTrees", "make", "(II)I"⟩ ⟨"TwinTrees", "make", "(II)I"⟩,
  .code ⟨"TwinTrees", "make", "(II)I"⟩ prog_1_method_2_code 4 (some .int),
  .methodLink "TwinTrees" 60 ⟨"TwinTrees", "isTable", "(I)Z"⟩,
  .static ⟨"TwinTrees", "isTable", "(I)Z"⟩,
  .code ⟨"TwinTrees", "isTable", "(I)Z"⟩ prog_1_method_14_code 1 (some .boolean),
  .methodLink "TwinTrees" 67 ⟨"TwinTrees", "plantDraft", "(I)I"⟩,
  .instanceMethod ⟨"TwinTrees", "plantDraft", "(I)I"⟩,
  .code ⟨"TwinTrees", "plantDraft", "(I)I"⟩ prog_1_method_19_code 4 (some .int),
  .methodLink "TwinTrees" 171 ⟨"TwinTrees", "groupRows", "()I"⟩,
  .instanceMethod ⟨"TwinTrees", "groupRows", "()I"⟩,
  .code ⟨"TwinTrees", "groupRows", "()I"⟩ prog_1_method_20_code 4 (some .int),
  .methodLink "TwinTrees" 174 ⟨"TwinTrees", "groupNodes", "(II)I"⟩,
  .instanceMethod ⟨"TwinTrees", "groupNodes", "(II)I"⟩,
  .code ⟨"TwinTrees", "groupNodes", "(II)I"⟩ prog_1_method_21_code 6 (some .int),
  .methodLink "TwinTrees" 184 ⟨"TwinTrees$Store", "branchOf", "(I[LTwinTrees$Node;II)LTwinTrees$Node;"⟩,
  .instanceMethod ⟨"TwinTrees$Store", "branchOf", "(I[LTwinTrees$Node;II)LTwinTrees$Node;"⟩,
  .selects "TwinTrees$Store" ⟨"TwinTrees$Store", "branchOf", "(I[LTwinTrees$Node;II)LTwinTrees$Node;"⟩ ⟨"TwinTrees$Store", "branchOf", "(I[LTwinTrees$Node;II)LTwinTrees$Node;"⟩,
  .code ⟨"TwinTrees$Store", "branchOf", "(I[LTwinTrees$Node;II)LTwinTrees$Node;"⟩ prog_6_method_3_code 7 (some (.object "TwinTrees$Node")),
  .methodLink "TwinTrees$Store" 52 ⟨"TwinTrees$Node", "isLikeBranch", "([LTwinTrees$Node;II)Z"⟩,
  .instanceMethod ⟨"TwinTrees$Node", "isLikeBranch", "([LTwinTrees$Node;II)Z"⟩,
  .selects "TwinTrees$Node" ⟨"TwinTrees$Node", "isLikeBranch", "([LTwinTrees$Node;II)Z"⟩ ⟨"TwinTrees$Node", "isLikeBranch", "([LTwinTrees$Node;II)Z"⟩,
  .code ⟨"TwinTrees$Node", "isLikeBranch", "([LTwinTrees$Node;II)Z"⟩ prog_3_method_4_code 5 (some .boolean),
  .methodLink "TwinTrees$Store" 56 ⟨"TwinTrees$Node", "<init>", "(I[LTwinTrees$Node;III)V"⟩,
  .instanceMethod ⟨"TwinTrees$Node", "<init>", "(I[LTwinTrees$Node;III)V"⟩,
  .code ⟨"TwinTrees$Node", "<init>", "(I[LTwinTrees$Node;III)V"⟩ prog_3_method_2_code 8 none,
  .methodLink "TwinTreesLaw" 18 ⟨"TwinTrees", "put", "(IIIIZ)I"⟩,
  .instanceMethod ⟨"TwinTrees", "put", "(IIIIZ)I"⟩,
  .selects "TwinTrees" ⟨"TwinTrees", "put", "(IIIIZ)I"⟩ ⟨"TwinTrees", "put", "(IIIIZ)I"⟩,
  .code ⟨"TwinTrees", "put", "(IIIIZ)I"⟩ prog_1_method_3_code 7 (some .int),
  .methodLink "TwinTrees" 71 ⟨"TwinTrees", "isColumn", "(II)Z"⟩,
  .instanceMethod ⟨"TwinTrees", "isColumn", "(II)Z"⟩,
  .code ⟨"TwinTrees", "isColumn", "(II)Z"⟩ prog_1_method_15_code 3 (some .boolean),
  .methodLink "TwinTrees" 75 ⟨"TwinTrees", "draftRowsOf", "(I)V"⟩,
  .instanceMethod ⟨"TwinTrees", "draftRowsOf", "(I)V"⟩,
  .code ⟨"TwinTrees", "draftRowsOf", "(I)V"⟩ prog_1_method_17_code 2 none,
  .methodLink "TwinTrees" 126 ⟨"TwinTrees", "newStamp", "()I"⟩,
  .instanceMethod ⟨"TwinTrees", "newStamp", "()I"⟩]
def aw4 : List Cond := [.code ⟨"TwinTrees", "newStamp", "()I"⟩ prog_1_method_16_code 1 (some .int),
  .methodLink "TwinTrees" 167 ⟨"TwinTrees", "gather", "(LTwinTrees$Node;ILTwinTrees$RowList;I)V"⟩,
  .static ⟨"TwinTrees", "gather", "(LTwinTrees$Node;ILTwinTrees$RowList;I)V"⟩,
  .code ⟨"TwinTrees", "gather", "(LTwinTrees$Node;ILTwinTrees$RowList;I)V"⟩ prog_1_method_23_code 8 none,
  .methodLink "TwinTrees" 195 ⟨"TwinTrees$RowList", "append", "(LTwinTrees$Row;)V"⟩,
  .instanceMethod ⟨"TwinTrees$RowList", "append", "(LTwinTrees$Row;)V"⟩,
  .selects "TwinTrees$RowList" ⟨"TwinTrees$RowList", "append", "(LTwinTrees$Row;)V"⟩ ⟨"TwinTrees$RowList", "append", "(LTwinTrees$Row;)V"⟩,
  .code ⟨"TwinTrees$RowList", "append", "(LTwinTrees$Row;)V"⟩ prog_5_method_2_code 2 none,
  .methodLink "TwinTrees" 79 ⟨"TwinTrees$RowList", "placeOf", "(I)I"⟩,
  .instanceMethod ⟨"TwinTrees$RowList", "placeOf", "(I)I"⟩,
  .selects "TwinTrees$RowList" ⟨"TwinTrees$RowList", "placeOf", "(I)I"⟩ ⟨"TwinTrees$RowList", "placeOf", "(I)I"⟩,
  .code ⟨"TwinTrees$RowList", "placeOf", "(I)I"⟩ prog_5_method_3_code 3 (some .int),
  .methodLink "TwinTrees" 82 ⟨"TwinTrees$RowList", "hasKeyAt", "(II)Z"⟩,
  .instanceMethod ⟨"TwinTrees$RowList", "hasKeyAt", "(II)Z"⟩,
  .selects "TwinTrees$RowList" ⟨"TwinTrees$RowList", "hasKeyAt", "(II)Z"⟩ ⟨"TwinTrees$RowList", "hasKeyAt", "(II)Z"⟩,
  .code ⟨"TwinTrees$RowList", "hasKeyAt", "(II)Z"⟩ prog_5_method_4_code 3 (some .boolean),
  .methodLink "TwinTrees" 85 ⟨"TwinTrees", "blankRow", "(II)LTwinTrees$Row;"⟩,
  .static ⟨"TwinTrees", "blankRow", "(II)LTwinTrees$Row;"⟩,
  .code ⟨"TwinTrees", "blankRow", "(II)LTwinTrees$Row;"⟩ prog_1_method_29_code 2 (some (.object "TwinTrees$Row")),
  .instantiable "TwinTrees$Row" 5,
  .methodLink "TwinTrees" 225 ⟨"TwinTrees$Row", "<init>", "(I[II)V"⟩,
  .instanceMethod ⟨"TwinTrees$Row", "<init>", "(I[II)V"⟩,
  .code ⟨"TwinTrees$Row", "<init>", "(I[II)V"⟩ prog_4_method_1_code 9 none,
  .methodLink "TwinTrees$Row" 1 ⟨"java/lang/Object", "<init>", "()V"⟩,
  .static ⟨"TwinTrees", "levelOf", "(I)I"⟩,
  .code ⟨"TwinTrees", "levelOf", "(I)I"⟩ prog_1_method_30_code 3 (some .int),
  .constant "TwinTrees" 228 (-1640531535),
  .constant "TwinTrees" 229 (-2048144777),
  .fieldLink "TwinTrees$Row" 7 "TwinTrees$Row" "key" "I",
  .fieldLink "TwinTrees$Node" 48 "TwinTrees$Row" "key" "I",
  .fieldLink "TwinTrees$Differences" 32 "TwinTrees$Row" "key" "I",
  .fieldLink "TwinTrees$RowList" 21 "TwinTrees$Row" "key" "I",
  .fieldLink "TwinTrees" 202 "TwinTrees$Row" "key" "I",
  .fieldLink "TwinTrees$Row" 13 "TwinTrees$Row" "cells" "[I",
  .fieldLink "TwinTrees$Node" 38 "TwinTrees$Row" "cells" "[I",
  .fieldLink "TwinTrees" 117 "TwinTrees$Row" "cells" "[I",
  .fieldLink "TwinTrees$Row" 17 "TwinTrees$Row" "nulls" "I",
  .fieldLink "TwinTrees$Row" 26 "TwinTrees$Row" "level" "I",
  .fieldLink "TwinTrees$Node" 54 "TwinTrees$Row" "level" "I",
  .fieldLink "TwinTrees" 178 "TwinTrees$Row" "level" "I",
  .fieldLink "TwinTrees$Row" 29 "TwinTrees$Row" "print" "I",
  .fieldLink "TwinTrees$Store" 28 "TwinTrees$Row" "print" "I",
  .laysFinal "TwinTrees$Row" "TwinTrees$Row" "key" "I",
  .soleField "TwinTrees$Row" "key",
  .laysFinal "TwinTrees$Row" "TwinTrees$Row" "cells" "[I",
  .soleField "TwinTrees$Row" "cells",
  .laysFinal "TwinTrees$Row" "TwinTrees$Row" "nulls" "I",
  .soleField "TwinTrees$Row" "nulls",
  .laysFinal "TwinTrees$Row" "TwinTrees$Row" "level" "I",
  .soleField "TwinTrees$Row" "level",
  .laysFinal "TwinTrees$Row" "TwinTrees$Row" "print" "I",
  .soleField "TwinTrees$Row" "print",
  .superclass "TwinTrees$Row" "java/lang/Object",
  .methodLink "TwinTrees" 89 ⟨"TwinTrees$RowList", "insertAt", "(ILTwinTrees$Row;)V"⟩,
  .instanceMethod ⟨"TwinTrees$RowList", "insertAt", "(ILTwinTrees$Row;)V"⟩,
  .selects "TwinTrees$RowList" ⟨"TwinTrees$RowList", "insertAt", "(ILTwinTrees$Row;)V"⟩ ⟨"TwinTrees$RowList", "insertAt", "(ILTwinTrees$Row;)V"⟩,
  .code ⟨"TwinTrees$RowList", "insertAt", "(ILTwinTrees$Row;)V"⟩ prog_5_method_5_code 4 none,
  .methodLink "TwinTrees" 97 ⟨"TwinTrees$Row", "withCell", "(IIZ)LTwinTrees$Row;"⟩,
  .instanceMethod ⟨"TwinTrees$Row", "withCell", "(IIZ)LTwinTrees$Row;"⟩,
  .selects "TwinTrees$Row" ⟨"TwinTrees$Row", "withCell", "(IIZ)LTwinTrees$Row;"⟩ ⟨"TwinTrees$Row", "withCell", "(IIZ)LTwinTrees$Row;"⟩,
  .code ⟨"TwinTrees$Row", "withCell", "(IIZ)LTwinTrees$Row;"⟩ prog_4_method_2_code 6 (some (.object "TwinTrees$Row")),
  .methodLink "TwinTrees$Row" 32 ⟨"[I", "clone", "()Ljava/lang/Object;"⟩,
  .native ⟨"java/lang/Object", "clone", "()Ljava/lang/Object;"⟩,
  .instanceMethod ⟨"java/lang/Object", "clone", "()Ljava/lang/Object;"⟩]
def aw5 : List Cond := [.selects "[I" ⟨"[I", "clone", "()Ljava/lang/Object;"⟩ ⟨"java/lang/Object", "clone", "()Ljava/lang/Object;"⟩,
  .classLink "TwinTrees$Row" 33 "[I",
  .classLink "TwinTrees$Row" 8 "TwinTrees$Row",
  .methodLink "TwinTrees$Row" 37 ⟨"TwinTrees$Row", "<init>", "(I[II)V"⟩,
  .methodLink "TwinTreesLaw" 23 ⟨"TwinTrees", "remove", "(II)I"⟩,
  .instanceMethod ⟨"TwinTrees", "remove", "(II)I"⟩,
  .selects "TwinTrees" ⟨"TwinTrees", "remove", "(II)I"⟩ ⟨"TwinTrees", "remove", "(II)I"⟩,
  .code ⟨"TwinTrees", "remove", "(II)I"⟩ prog_1_method_4_code 4 (some .int),
  .methodLink "TwinTrees" 101 ⟨"TwinTrees$RowList", "takeAt", "(I)V"⟩,
  .instanceMethod ⟨"TwinTrees$RowList", "takeAt", "(I)V"⟩,
  .selects "TwinTrees$RowList" ⟨"TwinTrees$RowList", "takeAt", "(I)V"⟩ ⟨"TwinTrees$RowList", "takeAt", "(I)V"⟩,
  .code ⟨"TwinTrees$RowList", "takeAt", "(I)V"⟩ prog_5_method_6_code 3 none,
  .methodLink "TwinTreesLaw" 27 ⟨"TwinTrees", "copy", "(II)I"⟩,
  .instanceMethod ⟨"TwinTrees", "copy", "(II)I"⟩,
  .selects "TwinTrees" ⟨"TwinTrees", "copy", "(II)I"⟩ ⟨"TwinTrees", "copy", "(II)I"⟩,
  .code ⟨"TwinTrees", "copy", "(II)I"⟩ prog_1_method_5_code 3 (some .int),
  .methodLink "TwinTreesLaw" 31 ⟨"TwinTrees", "get", "(III)J"⟩,
  .instanceMethod ⟨"TwinTrees", "get", "(III)J"⟩,
  .selects "TwinTrees" ⟨"TwinTrees", "get", "(III)J"⟩ ⟨"TwinTrees", "get", "(III)J"⟩,
  .code ⟨"TwinTrees", "get", "(III)J"⟩ prog_1_method_6_code 5 (some .long),
  .constantLong "TwinTrees" 104 1099511627775,
  .methodLink "TwinTrees" 106 ⟨"TwinTrees", "rowWithKey", "(LTwinTrees$Node;I)LTwinTrees$Row;"⟩,
  .static ⟨"TwinTrees", "rowWithKey", "(LTwinTrees$Node;I)LTwinTrees$Row;"⟩,
  .code ⟨"TwinTrees", "rowWithKey", "(LTwinTrees$Node;I)LTwinTrees$Row;"⟩ prog_1_method_24_code 7 (some (.object "TwinTrees$Row")),
  .constantLong "TwinTrees" 110 1099511627774,
  .methodLink "TwinTrees" 112 ⟨"TwinTrees$Row", "isNull", "(I)Z"⟩,
  .instanceMethod ⟨"TwinTrees$Row", "isNull", "(I)Z"⟩,
  .selects "TwinTrees$Row" ⟨"TwinTrees$Row", "isNull", "(I)Z"⟩ ⟨"TwinTrees$Row", "isNull", "(I)Z"⟩,
  .code ⟨"TwinTrees$Row", "isNull", "(I)Z"⟩ prog_4_method_3_code 2 (some .boolean),
  .constantLong "TwinTrees" 115 1099511627776,
  .methodLink "TwinTreesLaw" 36 ⟨"TwinTrees", "measure", "(II)I"⟩,
  .instanceMethod ⟨"TwinTrees", "measure", "(II)I"⟩,
  .selects "TwinTrees" ⟨"TwinTrees", "measure", "(II)I"⟩ ⟨"TwinTrees", "measure", "(II)I"⟩,
  .code ⟨"TwinTrees", "measure", "(II)I"⟩ prog_1_method_7_code 4 (some .int),
  .methodLink "TwinTrees" 129 ⟨"TwinTrees", "stampTree", "(LTwinTrees$Node;II)I"⟩,
  .static ⟨"TwinTrees", "stampTree", "(LTwinTrees$Node;II)I"⟩,
  .code ⟨"TwinTrees", "stampTree", "(LTwinTrees$Node;II)I"⟩ prog_1_method_22_code 8 (some .int),
  .methodLink "TwinTreesLaw" 40 ⟨"TwinTrees", "address", "(I)J"⟩,
  .instanceMethod ⟨"TwinTrees", "address", "(I)J"⟩,
  .selects "TwinTrees" ⟨"TwinTrees", "address", "(I)J"⟩ ⟨"TwinTrees", "address", "(I)J"⟩,
  .code ⟨"TwinTrees", "address", "(I)J"⟩ prog_1_method_8_code 2 (some .long),
  .methodLink "TwinTrees" 133 ⟨"TwinTrees", "addressOf", "(LTwinTrees$Node;I)J"⟩,
  .static ⟨"TwinTrees", "addressOf", "(LTwinTrees$Node;I)J"⟩,
  .code ⟨"TwinTrees", "addressOf", "(LTwinTrees$Node;I)J"⟩ prog_1_method_26_code 8 (some .long),
  .constantLong "TwinTrees" 213 1469598103934665603,
  .methodLink "TwinTrees" 215 ⟨"TwinTrees", "mixed", "(JJ)J"⟩,
  .static ⟨"TwinTrees", "mixed", "(JJ)J"⟩,
  .code ⟨"TwinTrees", "mixed", "(JJ)J"⟩ prog_1_method_28_code 4 (some .long),
  .constantLong "TwinTrees" 223 1099511628211,
  .methodLink "TwinTrees" 219 ⟨"TwinTrees", "mixedRow", "(JLTwinTrees$Row;)J"⟩,
  .static ⟨"TwinTrees", "mixedRow", "(JLTwinTrees$Row;)J"⟩,
  .code ⟨"TwinTrees", "mixedRow", "(JLTwinTrees$Row;)J"⟩ prog_1_method_27_code 6 (some .long),
  .methodLink "TwinTreesLaw" 45 ⟨"TwinTrees", "row", "(II)J"⟩,
  .instanceMethod ⟨"TwinTrees", "row", "(II)J"⟩,
  .selects "TwinTrees" ⟨"TwinTrees", "row", "(II)J"⟩ ⟨"TwinTrees", "row", "(II)J"⟩,
  .code ⟨"TwinTrees", "row", "(II)J"⟩ prog_1_method_9_code 3 (some .long),
  .methodLink "TwinTrees" 137 ⟨"TwinTrees", "keyInOrder", "(LTwinTrees$Node;I)J"⟩,
  .static ⟨"TwinTrees", "keyInOrder", "(LTwinTrees$Node;I)J"⟩,
  .code ⟨"TwinTrees", "keyInOrder", "(LTwinTrees$Node;I)J"⟩ prog_1_method_25_code 6 (some .long),
  .methodLink "TwinTreesLaw" 50 ⟨"TwinTrees", "compare", "(II)I"⟩,
  .instanceMethod ⟨"TwinTrees", "compare", "(II)I"⟩,
  .selects "TwinTrees" ⟨"TwinTrees", "compare", "(II)I"⟩ ⟨"TwinTrees", "compare", "(II)I"⟩,
  .code ⟨"TwinTrees", "compare", "(II)I"⟩ prog_1_method_10_code 3 (some .int),
  .methodLink "TwinTrees" 140 ⟨"TwinTrees", "gatherUnshared", "(IILTwinTrees$RowList;)V"⟩]
def aw6 : List Cond := [.instanceMethod ⟨"TwinTrees", "gatherUnshared", "(IILTwinTrees$RowList;)V"⟩,
  .code ⟨"TwinTrees", "gatherUnshared", "(IILTwinTrees$RowList;)V"⟩ prog_1_method_18_code 5 none,
  .methodLink "TwinTrees" 144 ⟨"TwinTrees$Differences", "collect", "(LTwinTrees$RowList;LTwinTrees$RowList;)V"⟩,
  .instanceMethod ⟨"TwinTrees$Differences", "collect", "(LTwinTrees$RowList;LTwinTrees$RowList;)V"⟩,
  .selects "TwinTrees$Differences" ⟨"TwinTrees$Differences", "collect", "(LTwinTrees$RowList;LTwinTrees$RowList;)V"⟩ ⟨"TwinTrees$Differences", "collect", "(LTwinTrees$RowList;LTwinTrees$RowList;)V"⟩,
  .code ⟨"TwinTrees$Differences", "collect", "(LTwinTrees$RowList;LTwinTrees$RowList;)V"⟩ prog_2_method_2_code 6 none,
  .methodLink "TwinTrees$Differences" 37 ⟨"TwinTrees$Differences", "note", "(III)V"⟩,
  .instanceMethod ⟨"TwinTrees$Differences", "note", "(III)V"⟩,
  .code ⟨"TwinTrees$Differences", "note", "(III)V"⟩ prog_2_method_3_code 4 none,
  .methodLink "TwinTrees$Differences" 41 ⟨"TwinTrees$Row", "unlikeCells", "(LTwinTrees$Row;)I"⟩,
  .methodLink "TwinTreesLaw" 54 ⟨"TwinTrees", "difference", "(II)J"⟩,
  .instanceMethod ⟨"TwinTrees", "difference", "(II)J"⟩,
  .selects "TwinTrees" ⟨"TwinTrees", "difference", "(II)J"⟩ ⟨"TwinTrees", "difference", "(II)J"⟩,
  .code ⟨"TwinTrees", "difference", "(II)J"⟩ prog_1_method_11_code 3 (some .long),
  .methodLink "TwinTreesLaw" 58 ⟨"TwinTrees", "sweep", "()I"⟩,
  .instanceMethod ⟨"TwinTrees", "sweep", "()I"⟩,
  .selects "TwinTrees" ⟨"TwinTrees", "sweep", "()I"⟩ ⟨"TwinTrees", "sweep", "()I"⟩,
  .code ⟨"TwinTrees", "sweep", "()I"⟩ prog_1_method_12_code 6 (some .int),
  .methodLink "TwinTrees" 158 ⟨"TwinTrees$Store", "dropWithout", "(I)I"⟩,
  .instanceMethod ⟨"TwinTrees$Store", "dropWithout", "(I)I"⟩,
  .selects "TwinTrees$Store" ⟨"TwinTrees$Store", "dropWithout", "(I)I"⟩ ⟨"TwinTrees$Store", "dropWithout", "(I)I"⟩,
  .code ⟨"TwinTrees$Store", "dropWithout", "(I)I"⟩ prog_6_method_5_code 6 (some .int),
  .methodLink "TwinTreesLaw" 63 ⟨"TwinTrees", "count", "(I)I"⟩,
  .instanceMethod ⟨"TwinTrees", "count", "(I)I"⟩,
  .selects "TwinTrees" ⟨"TwinTrees", "count", "(I)I"⟩ ⟨"TwinTrees", "count", "(I)I"⟩,
  .code ⟨"TwinTrees", "count", "(I)I"⟩ prog_1_method_13_code 2 (some .int),
  .classLink "TwinTreesLaw" 10 "TwinTreesModel",
  .instantiable "TwinTreesModel" 29,
  .methodLink "TwinTreesLaw" 12 ⟨"TwinTreesModel", "<init>", "()V"⟩,
  .instanceMethod ⟨"TwinTreesModel", "<init>", "()V"⟩,
  .code ⟨"TwinTreesModel", "<init>", "()V"⟩ prog_8_method_1_code 2 none,
  .methodLink "TwinTreesModel" 3 ⟨"java/lang/Object", "<init>", "()V"⟩,
  .classLink "TwinTreesModel" 18 "[[I",
  .classLink "TwinTreesModel" 23 "[[J",
  .constant "TwinTreesModel" 44 60000,
  .methodLink "TwinTreesModel" 75 ⟨"TwinTreesModel", "lay", "(I)Z"⟩,
  .instanceMethod ⟨"TwinTreesModel", "lay", "(I)Z"⟩,
  .code ⟨"TwinTreesModel", "lay", "(I)Z"⟩ prog_8_method_8_code 7 (some .boolean),
  .methodLink "TwinTreesModel" 126 ⟨"TwinTreesModel", "levelOf", "(I)I"⟩,
  .static ⟨"TwinTreesModel", "levelOf", "(I)I"⟩,
  .code ⟨"TwinTreesModel", "levelOf", "(I)I"⟩ prog_8_method_3_code 3 (some .int),
  .constant "TwinTreesModel" 79 (-1640531535),
  .constant "TwinTreesModel" 80 (-2048144777),
  .methodLink "TwinTreesModel" 81 ⟨"java/lang/Math", "min", "(II)I"⟩,
  .static ⟨"java/lang/Math", "min", "(II)I"⟩,
  .code ⟨"java/lang/Math", "min", "(II)I"⟩ prog_10_method_69_code 2 (some .int),
  .methodLink "TwinTreesModel" 130 ⟨"TwinTreesModel", "keep", "(III)Z"⟩,
  .instanceMethod ⟨"TwinTreesModel", "keep", "(III)Z"⟩,
  .code ⟨"TwinTreesModel", "keep", "(III)Z"⟩ prog_8_method_9_code 5 (some .boolean),
  .methodLink "TwinTreesModel" 133 ⟨"TwinTreesModel", "node", "(II)I"⟩,
  .instanceMethod ⟨"TwinTreesModel", "node", "(II)I"⟩,
  .code ⟨"TwinTreesModel", "node", "(II)I"⟩ prog_8_method_6_code 5 (some .int),
  .methodLink "TwinTreesModel" 95 ⟨"TwinTreesModel", "hash", "(II)I"⟩,
  .instanceMethod ⟨"TwinTreesModel", "hash", "(II)I"⟩,
  .code ⟨"TwinTreesModel", "hash", "(II)I"⟩ prog_8_method_4_code 6 (some .int),
  .constantLong "TwinTreesModel" 87 31,
  .constantLong "TwinTreesModel" 93 1000003,
  .methodLink "TwinTreesModel" 98 ⟨"TwinTreesModel", "isMade", "(III)Z"⟩,
  .instanceMethod ⟨"TwinTreesModel", "isMade", "(III)Z"⟩,
  .code ⟨"TwinTreesModel", "isMade", "(III)Z"⟩ prog_8_method_5_code 5 (some .boolean),
  .methodLink "TwinTreesModel" 108 ⟨"java/lang/System", "arraycopy", "(Ljava/lang/Object;ILjava/lang/Object;II)V"⟩,
  .static ⟨"java/lang/System", "arraycopy", "(Ljava/lang/Object;ILjava/lang/Object;II)V"⟩,
  .native ⟨"java/lang/System", "arraycopy", "(Ljava/lang/Object;ILjava/lang/Object;II)V"⟩,
  .fieldLink "TwinTreesModel" 11 "TwinTreesModel" "columns" "[I"]
def aw7 : List Cond := [.fieldLink "TwinTreesModel" 15 "TwinTreesModel" "many" "[I",
  .fieldLink "TwinTreesModel" 20 "TwinTreesModel" "key" "[[I",
  .fieldLink "TwinTreesModel" 25 "TwinTreesModel" "cell" "[[J",
  .fieldLink "TwinTreesModel" 150 "TwinTreesModel" "oldColumns" "I",
  .fieldLink "TwinTreesModel" 153 "TwinTreesModel" "oldMany" "I",
  .fieldLink "TwinTreesModel" 28 "TwinTreesModel" "oldKey" "[I",
  .fieldLink "TwinTreesModel" 31 "TwinTreesModel" "oldCell" "[J",
  .fieldLink "TwinTreesModel" 35 "TwinTreesModel" "differKey" "[I",
  .fieldLink "TwinTreesModel" 38 "TwinTreesModel" "differKind" "[I",
  .fieldLink "TwinTreesModel" 41 "TwinTreesModel" "differBits" "[I",
  .fieldLink "TwinTreesModel" 185 "TwinTreesModel" "differences" "I",
  .fieldLink "TwinTreesModel" 45 "TwinTreesModel" "height" "[I",
  .fieldLink "TwinTreesModel" 48 "TwinTreesModel" "begins" "[I",
  .fieldLink "TwinTreesModel" 51 "TwinTreesModel" "long0" "[I",
  .fieldLink "TwinTreesModel" 54 "TwinTreesModel" "width" "[I",
  .fieldLink "TwinTreesModel" 57 "TwinTreesModel" "chain" "[I",
  .fieldLink "TwinTreesModel" 60 "TwinTreesModel" "pool" "[J",
  .fieldLink "TwinTreesModel" 63 "TwinTreesModel" "bucket" "[I",
  .fieldLink "TwinTreesModel" 105 "TwinTreesModel" "nodes" "I",
  .fieldLink "TwinTreesModel" 102 "TwinTreesModel" "used" "I",
  .fieldLink "TwinTreesModel" 66 "TwinTreesModel" "level" "[I",
  .fieldLink "TwinTreesModel" 69 "TwinTreesModel" "last" "[I",
  .fieldLink "TwinTreesModel" 114 "TwinTreesModel" "levelMany" "I",
  .fieldLink "TwinTreesModel" 72 "TwinTreesModel" "made" "[J",
  .fieldLink "TwinTreesModel" 89 "TwinTreesModel" "madeMany" "I",
  .fieldLink "TwinTreesModel" 117 "TwinTreesModel" "tall" "I",
  .fieldLink "TwinTreesModel" 120 "TwinTreesModel" "counted" "I",
  .fieldLink "TwinTreesModel" 123 "TwinTreesModel" "sized" "I",
  .laysFinal "TwinTreesModel" "TwinTreesModel" "columns" "[I",
  .soleField "TwinTreesModel" "columns",
  .laysFinal "TwinTreesModel" "TwinTreesModel" "many" "[I",
  .soleField "TwinTreesModel" "many",
  .laysFinal "TwinTreesModel" "TwinTreesModel" "key" "[[I",
  .soleField "TwinTreesModel" "key",
  .laysFinal "TwinTreesModel" "TwinTreesModel" "cell" "[[J",
  .soleField "TwinTreesModel" "cell",
  .lays "TwinTreesModel" "TwinTreesModel" "oldColumns" "I",
  .soleField "TwinTreesModel" "oldColumns",
  .lays "TwinTreesModel" "TwinTreesModel" "oldMany" "I",
  .soleField "TwinTreesModel" "oldMany",
  .laysFinal "TwinTreesModel" "TwinTreesModel" "oldKey" "[I",
  .soleField "TwinTreesModel" "oldKey",
  .laysFinal "TwinTreesModel" "TwinTreesModel" "oldCell" "[J",
  .soleField "TwinTreesModel" "oldCell",
  .laysFinal "TwinTreesModel" "TwinTreesModel" "differKey" "[I",
  .soleField "TwinTreesModel" "differKey",
  .laysFinal "TwinTreesModel" "TwinTreesModel" "differKind" "[I",
  .soleField "TwinTreesModel" "differKind",
  .laysFinal "TwinTreesModel" "TwinTreesModel" "differBits" "[I",
  .soleField "TwinTreesModel" "differBits",
  .lays "TwinTreesModel" "TwinTreesModel" "differences" "I",
  .soleField "TwinTreesModel" "differences",
  .laysFinal "TwinTreesModel" "TwinTreesModel" "height" "[I",
  .soleField "TwinTreesModel" "height",
  .laysFinal "TwinTreesModel" "TwinTreesModel" "begins" "[I",
  .soleField "TwinTreesModel" "begins",
  .laysFinal "TwinTreesModel" "TwinTreesModel" "long0" "[I",
  .soleField "TwinTreesModel" "long0",
  .laysFinal "TwinTreesModel" "TwinTreesModel" "width" "[I",
  .soleField "TwinTreesModel" "width",
  .laysFinal "TwinTreesModel" "TwinTreesModel" "chain" "[I",
  .soleField "TwinTreesModel" "chain",
  .laysFinal "TwinTreesModel" "TwinTreesModel" "pool" "[J",
  .soleField "TwinTreesModel" "pool"]
def aw8 : List Cond := [.laysFinal "TwinTreesModel" "TwinTreesModel" "bucket" "[I",
  .soleField "TwinTreesModel" "bucket",
  .lays "TwinTreesModel" "TwinTreesModel" "nodes" "I",
  .soleField "TwinTreesModel" "nodes",
  .lays "TwinTreesModel" "TwinTreesModel" "used" "I",
  .soleField "TwinTreesModel" "used",
  .lays "TwinTreesModel" "TwinTreesModel" "level" "[I",
  .soleField "TwinTreesModel" "level",
  .lays "TwinTreesModel" "TwinTreesModel" "last" "[I",
  .soleField "TwinTreesModel" "last",
  .lays "TwinTreesModel" "TwinTreesModel" "levelMany" "I",
  .soleField "TwinTreesModel" "levelMany",
  .laysFinal "TwinTreesModel" "TwinTreesModel" "made" "[J",
  .soleField "TwinTreesModel" "made",
  .lays "TwinTreesModel" "TwinTreesModel" "madeMany" "I",
  .soleField "TwinTreesModel" "madeMany",
  .lays "TwinTreesModel" "TwinTreesModel" "tall" "I",
  .soleField "TwinTreesModel" "tall",
  .lays "TwinTreesModel" "TwinTreesModel" "counted" "I",
  .soleField "TwinTreesModel" "counted",
  .lays "TwinTreesModel" "TwinTreesModel" "sized" "I",
  .soleField "TwinTreesModel" "sized",
  .superclass "TwinTreesModel" "java/lang/Object",
  .arrayClass .long,
  .methodLink "TwinTreesLaw" 17 ⟨"TwinTreesModel", "make", "(II)I"⟩,
  .instanceMethod ⟨"TwinTreesModel", "make", "(II)I"⟩,
  .selects "TwinTreesModel" ⟨"TwinTreesModel", "make", "(II)I"⟩ ⟨"TwinTreesModel", "make", "(II)I"⟩,
  .code ⟨"TwinTreesModel", "make", "(II)I"⟩ prog_8_method_17_code 3 (some .int),
  .methodLink "TwinTreesModel" 163 ⟨"TwinTreesModel", "in", "(III)Z"⟩,
  .static ⟨"TwinTreesModel", "in", "(III)Z"⟩,
  .code ⟨"TwinTreesModel", "in", "(III)Z"⟩ prog_8_method_2_code 3 (some .boolean),
  .methodLink "TwinTreesModel" 166 ⟨"TwinTreesModel", "remember", "(I)V"⟩,
  .instanceMethod ⟨"TwinTreesModel", "remember", "(I)V"⟩,
  .code ⟨"TwinTreesModel", "remember", "(I)V"⟩ prog_8_method_12_code 2 none,
  .methodLink "TwinTreesModel" 169 ⟨"TwinTreesModel", "write", "(I)I"⟩,
  .instanceMethod ⟨"TwinTreesModel", "write", "(I)I"⟩,
  .code ⟨"TwinTreesModel", "write", "(I)I"⟩ prog_8_method_13_code 3 (some .int),
  .methodLink "TwinTreesModel" 156 ⟨"TwinTreesModel", "back", "(I)V"⟩,
  .instanceMethod ⟨"TwinTreesModel", "back", "(I)V"⟩,
  .code ⟨"TwinTreesModel", "back", "(I)V"⟩ prog_8_method_7_code 2 none,
  .methodLink "TwinTreesLaw" 22 ⟨"TwinTreesModel", "put", "(IIIIZ)I"⟩,
  .instanceMethod ⟨"TwinTreesModel", "put", "(IIIIZ)I"⟩,
  .selects "TwinTreesModel" ⟨"TwinTreesModel", "put", "(IIIIZ)I"⟩ ⟨"TwinTreesModel", "put", "(IIIIZ)I"⟩,
  .code ⟨"TwinTreesModel", "put", "(IIIIZ)I"⟩ prog_8_method_18_code 8 (some .int),
  .methodLink "TwinTreesModel" 172 ⟨"TwinTreesModel", "find", "(II)I"⟩,
  .instanceMethod ⟨"TwinTreesModel", "find", "(II)I"⟩,
  .code ⟨"TwinTreesModel", "find", "(II)I"⟩ prog_8_method_15_code 4 (some .int),
  .methodLink "TwinTreesModel" 160 ⟨"TwinTreesModel", "placeOf", "(II)I"⟩,
  .instanceMethod ⟨"TwinTreesModel", "placeOf", "(II)I"⟩,
  .code ⟨"TwinTreesModel", "placeOf", "(II)I"⟩ prog_8_method_14_code 4 (some .int),
  .methodLink "TwinTreesModel" 175 ⟨"TwinTreesModel", "move", "(III)V"⟩,
  .instanceMethod ⟨"TwinTreesModel", "move", "(III)V"⟩,
  .code ⟨"TwinTreesModel", "move", "(III)V"⟩ prog_8_method_16_code 5 none,
  .constantLong "TwinTreesModel" 146 (-9223372036854775808),
  .methodLink "TwinTreesLaw" 26 ⟨"TwinTreesModel", "remove", "(II)I"⟩,
  .instanceMethod ⟨"TwinTreesModel", "remove", "(II)I"⟩,
  .selects "TwinTreesModel" ⟨"TwinTreesModel", "remove", "(II)I"⟩ ⟨"TwinTreesModel", "remove", "(II)I"⟩,
  .code ⟨"TwinTreesModel", "remove", "(II)I"⟩ prog_8_method_19_code 5 (some .int),
  .methodLink "TwinTreesLaw" 30 ⟨"TwinTreesModel", "copy", "(II)I"⟩,
  .instanceMethod ⟨"TwinTreesModel", "copy", "(II)I"⟩,
  .selects "TwinTreesModel" ⟨"TwinTreesModel", "copy", "(II)I"⟩ ⟨"TwinTreesModel", "copy", "(II)I"⟩,
  .code ⟨"TwinTreesModel", "copy", "(II)I"⟩ prog_8_method_20_code 3 (some .int),
  .methodLink "TwinTreesLaw" 35 ⟨"TwinTreesModel", "get", "(III)J"⟩,
  .instanceMethod ⟨"TwinTreesModel", "get", "(III)J"⟩]
def aw9 : List Cond := [.selects "TwinTreesModel" ⟨"TwinTreesModel", "get", "(III)J"⟩ ⟨"TwinTreesModel", "get", "(III)J"⟩,
  .code ⟨"TwinTreesModel", "get", "(III)J"⟩ prog_8_method_21_code 7 (some .long),
  .constantLong "TwinTreesModel" 179 1099511627775,
  .constantLong "TwinTreesModel" 181 1099511627774,
  .constantLong "TwinTreesModel" 183 1099511627776,
  .methodLink "TwinTreesLaw" 39 ⟨"TwinTreesModel", "measure", "(II)I"⟩,
  .instanceMethod ⟨"TwinTreesModel", "measure", "(II)I"⟩,
  .selects "TwinTreesModel" ⟨"TwinTreesModel", "measure", "(II)I"⟩ ⟨"TwinTreesModel", "measure", "(II)I"⟩,
  .code ⟨"TwinTreesModel", "measure", "(II)I"⟩ prog_8_method_22_code 3 (some .int),
  .methodLink "TwinTreesLaw" 44 ⟨"TwinTreesModel", "address", "(I)J"⟩,
  .instanceMethod ⟨"TwinTreesModel", "address", "(I)J"⟩,
  .selects "TwinTreesModel" ⟨"TwinTreesModel", "address", "(I)J"⟩ ⟨"TwinTreesModel", "address", "(I)J"⟩,
  .code ⟨"TwinTreesModel", "address", "(I)J"⟩ prog_8_method_23_code 2 (some .long),
  .methodLink "TwinTreesModel" 142 ⟨"TwinTreesModel", "addressOf", "(I)J"⟩,
  .instanceMethod ⟨"TwinTreesModel", "addressOf", "(I)J"⟩,
  .code ⟨"TwinTreesModel", "addressOf", "(I)J"⟩ prog_8_method_10_code 8 (some .long),
  .constantLong "TwinTreesModel" 136 1469598103934665603,
  .methodLink "TwinTreesModel" 138 ⟨"TwinTreesModel", "step", "(JJ)J"⟩,
  .static ⟨"TwinTreesModel", "step", "(JJ)J"⟩,
  .code ⟨"TwinTreesModel", "step", "(JJ)J"⟩ prog_8_method_11_code 4 (some .long),
  .constantLong "TwinTreesModel" 148 1099511628211,
  .methodLink "TwinTreesLaw" 49 ⟨"TwinTreesModel", "row", "(II)J"⟩,
  .instanceMethod ⟨"TwinTreesModel", "row", "(II)J"⟩,
  .selects "TwinTreesModel" ⟨"TwinTreesModel", "row", "(II)J"⟩ ⟨"TwinTreesModel", "row", "(II)J"⟩,
  .code ⟨"TwinTreesModel", "row", "(II)J"⟩ prog_8_method_24_code 3 (some .long),
  .methodLink "TwinTreesLaw" 53 ⟨"TwinTreesModel", "compare", "(II)I"⟩,
  .instanceMethod ⟨"TwinTreesModel", "compare", "(II)I"⟩,
  .selects "TwinTreesModel" ⟨"TwinTreesModel", "compare", "(II)I"⟩ ⟨"TwinTreesModel", "compare", "(II)I"⟩,
  .code ⟨"TwinTreesModel", "compare", "(II)I"⟩ prog_8_method_25_code 10 (some .int),
  .methodLink "TwinTreesLaw" 57 ⟨"TwinTreesModel", "difference", "(II)J"⟩,
  .instanceMethod ⟨"TwinTreesModel", "difference", "(II)J"⟩,
  .selects "TwinTreesModel" ⟨"TwinTreesModel", "difference", "(II)J"⟩ ⟨"TwinTreesModel", "difference", "(II)J"⟩,
  .code ⟨"TwinTreesModel", "difference", "(II)J"⟩ prog_8_method_26_code 3 (some .long),
  .methodLink "TwinTreesLaw" 62 ⟨"TwinTreesModel", "sweep", "()I"⟩,
  .instanceMethod ⟨"TwinTreesModel", "sweep", "()I"⟩,
  .selects "TwinTreesModel" ⟨"TwinTreesModel", "sweep", "()I"⟩ ⟨"TwinTreesModel", "sweep", "()I"⟩,
  .code ⟨"TwinTreesModel", "sweep", "()I"⟩ prog_8_method_27_code 3 (some .int),
  .methodLink "TwinTreesModel" 188 ⟨"java/util/Arrays", "fill", "([II)V"⟩,
  .static ⟨"java/util/Arrays", "fill", "([II)V"⟩,
  .code ⟨"java/util/Arrays", "fill", "([II)V"⟩ prog_12_method_103_code 4 none,
  .methodLink "TwinTreesLaw" 67 ⟨"TwinTreesModel", "count", "(I)I"⟩,
  .instanceMethod ⟨"TwinTreesModel", "count", "(I)I"⟩,
  .selects "TwinTreesModel" ⟨"TwinTreesModel", "count", "(I)I"⟩ ⟨"TwinTreesModel", "count", "(I)I"⟩,
  .code ⟨"TwinTreesModel", "count", "(I)I"⟩ prog_8_method_28_code 2 (some .int)]
def aw : List Cond := aw0 ++ (aw1 ++ (aw2 ++ (aw3 ++ (aw4 ++ (aw5 ++ (aw6 ++ (aw7 ++ (aw8 ++ (aw9)))))))))
theorem aw0_in : ∀ w ∈ aw0, w ∈ aw := fun w h => List.mem_append_left _ h
theorem aw0_good : aw0.all goodWord = true := by decide +kernel
theorem aw1_in : ∀ w ∈ aw1, w ∈ aw := fun w h => List.mem_append_right _ (List.mem_append_left _ h)
theorem aw1_good : aw1.all goodWord = true := by decide +kernel
theorem aw2_in : ∀ w ∈ aw2, w ∈ aw := fun w h => List.mem_append_right _ (List.mem_append_right _ (List.mem_append_left _ h))
theorem aw2_good : aw2.all goodWord = true := by decide +kernel
theorem aw3_in : ∀ w ∈ aw3, w ∈ aw := fun w h => List.mem_append_right _ (List.mem_append_right _ (List.mem_append_right _ (List.mem_append_left _ h)))
theorem aw3_good : aw3.all goodWord = true := by decide +kernel
theorem aw4_in : ∀ w ∈ aw4, w ∈ aw := fun w h => List.mem_append_right _ (List.mem_append_right _ (List.mem_append_right _ (List.mem_append_right _ (List.mem_append_left _ h))))
theorem aw4_good : aw4.all goodWord = true := by decide +kernel
theorem aw5_in : ∀ w ∈ aw5, w ∈ aw := fun w h => List.mem_append_right _ (List.mem_append_right _ (List.mem_append_right _ (List.mem_append_right _ (List.mem_append_right _ (List.mem_append_left _ h)))))
theorem aw5_good : aw5.all goodWord = true := by decide +kernel
theorem aw6_in : ∀ w ∈ aw6, w ∈ aw := fun w h => List.mem_append_right _ (List.mem_append_right _ (List.mem_append_right _ (List.mem_append_right _ (List.mem_append_right _ (List.mem_append_right _ (List.mem_append_left _ h))))))
theorem aw6_good : aw6.all goodWord = true := by decide +kernel
theorem aw7_in : ∀ w ∈ aw7, w ∈ aw := fun w h => List.mem_append_right _ (List.mem_append_right _ (List.mem_append_right _ (List.mem_append_right _ (List.mem_append_right _ (List.mem_append_right _ (List.mem_append_right _ (List.mem_append_left _ h)))))))
theorem aw7_good : aw7.all goodWord = true := by decide +kernel
theorem aw8_in : ∀ w ∈ aw8, w ∈ aw := fun w h => List.mem_append_right _ (List.mem_append_right _ (List.mem_append_right _ (List.mem_append_right _ (List.mem_append_right _ (List.mem_append_right _ (List.mem_append_right _ (List.mem_append_right _ (List.mem_append_left _ h))))))))
theorem aw8_good : aw8.all goodWord = true := by decide +kernel
theorem aw9_in : ∀ w ∈ aw9, w ∈ aw := fun w h => List.mem_append_right _ (List.mem_append_right _ (List.mem_append_right _ (List.mem_append_right _ (List.mem_append_right _ (List.mem_append_right _ (List.mem_append_right _ (List.mem_append_right _ (List.mem_append_right _ (h)))))))))
theorem aw9_good : aw9.all goodWord = true := by decide +kernel
theorem w0 : Cond.selects "TwinTrees$Store" ⟨"TwinTrees$Store", "pend", "(LTwinTrees$Node;)LTwinTrees$Node;"⟩ ⟨"TwinTrees$Store", "pend", "(LTwinTrees$Node;)LTwinTrees$Node;"⟩ ∈ aw := aw0_in _ (List.mem_of_getElem? (i := 0) rfl)
theorem w1 : Cond.selects "TwinTrees$Store" ⟨"TwinTrees$Store", "link", "(LTwinTrees$Node;)V"⟩ ⟨"TwinTrees$Store", "link", "(LTwinTrees$Node;)V"⟩ ∈ aw := aw0_in _ (List.mem_of_getElem? (i := 1) rfl)
theorem w2 : Cond.selects "TwinTrees" ⟨"TwinTrees", "plantDraft", "(I)I"⟩ ⟨"TwinTrees", "plantDraft", "(I)I"⟩ ∈ aw := aw0_in _ (List.mem_of_getElem? (i := 2) rfl)
theorem w3 : Cond.selects "TwinTrees" ⟨"TwinTrees", "groupRows", "()I"⟩ ⟨"TwinTrees", "groupRows", "()I"⟩ ∈ aw := aw0_in _ (List.mem_of_getElem? (i := 3) rfl)
theorem w4 : Cond.selects "TwinTrees" ⟨"TwinTrees", "groupNodes", "(II)I"⟩ ⟨"TwinTrees", "groupNodes", "(II)I"⟩ ∈ aw := aw0_in _ (List.mem_of_getElem? (i := 4) rfl)
theorem w5 : Cond.selects "TwinTrees" ⟨"TwinTrees", "isColumn", "(II)Z"⟩ ⟨"TwinTrees", "isColumn", "(II)Z"⟩ ∈ aw := aw0_in _ (List.mem_of_getElem? (i := 5) rfl)
theorem w6 : Cond.selects "TwinTrees" ⟨"TwinTrees", "draftRowsOf", "(I)V"⟩ ⟨"TwinTrees", "draftRowsOf", "(I)V"⟩ ∈ aw := aw0_in _ (List.mem_of_getElem? (i := 6) rfl)
theorem w7 : Cond.selects "TwinTrees" ⟨"TwinTrees", "newStamp", "()I"⟩ ⟨"TwinTrees", "newStamp", "()I"⟩ ∈ aw := aw0_in _ (List.mem_of_getElem? (i := 7) rfl)
theorem w8 : Cond.selects "TwinTrees" ⟨"TwinTrees", "gatherUnshared", "(IILTwinTrees$RowList;)V"⟩ ⟨"TwinTrees", "gatherUnshared", "(IILTwinTrees$RowList;)V"⟩ ∈ aw := aw0_in _ (List.mem_of_getElem? (i := 8) rfl)
theorem w9 : Cond.selects "TwinTrees$Differences" ⟨"TwinTrees$Differences", "note", "(III)V"⟩ ⟨"TwinTrees$Differences", "note", "(III)V"⟩ ∈ aw := aw0_in _ (List.mem_of_getElem? (i := 9) rfl)
theorem w10 : Cond.selects "TwinTreesModel" ⟨"TwinTreesModel", "lay", "(I)Z"⟩ ⟨"TwinTreesModel", "lay", "(I)Z"⟩ ∈ aw := aw0_in _ (List.mem_of_getElem? (i := 10) rfl)
theorem w11 : Cond.selects "TwinTreesModel" ⟨"TwinTreesModel", "keep", "(III)Z"⟩ ⟨"TwinTreesModel", "keep", "(III)Z"⟩ ∈ aw := aw0_in _ (List.mem_of_getElem? (i := 11) rfl)
theorem w12 : Cond.selects "TwinTreesModel" ⟨"TwinTreesModel", "node", "(II)I"⟩ ⟨"TwinTreesModel", "node", "(II)I"⟩ ∈ aw := aw0_in _ (List.mem_of_getElem? (i := 12) rfl)
theorem w13 : Cond.selects "TwinTreesModel" ⟨"TwinTreesModel", "hash", "(II)I"⟩ ⟨"TwinTreesModel", "hash", "(II)I"⟩ ∈ aw := aw0_in _ (List.mem_of_getElem? (i := 13) rfl)
theorem w14 : Cond.selects "TwinTreesModel" ⟨"TwinTreesModel", "isMade", "(III)Z"⟩ ⟨"TwinTreesModel", "isMade", "(III)Z"⟩ ∈ aw := aw0_in _ (List.mem_of_getElem? (i := 14) rfl)
theorem w15 : Cond.selects "TwinTreesModel" ⟨"TwinTreesModel", "remember", "(I)V"⟩ ⟨"TwinTreesModel", "remember", "(I)V"⟩ ∈ aw := aw0_in _ (List.mem_of_getElem? (i := 15) rfl)
theorem w16 : Cond.selects "TwinTreesModel" ⟨"TwinTreesModel", "write", "(I)I"⟩ ⟨"TwinTreesModel", "write", "(I)I"⟩ ∈ aw := aw0_in _ (List.mem_of_getElem? (i := 16) rfl)
theorem w17 : Cond.selects "TwinTreesModel" ⟨"TwinTreesModel", "back", "(I)V"⟩ ⟨"TwinTreesModel", "back", "(I)V"⟩ ∈ aw := aw0_in _ (List.mem_of_getElem? (i := 17) rfl)
theorem w18 : Cond.selects "TwinTreesModel" ⟨"TwinTreesModel", "find", "(II)I"⟩ ⟨"TwinTreesModel", "find", "(II)I"⟩ ∈ aw := aw0_in _ (List.mem_of_getElem? (i := 18) rfl)
theorem w19 : Cond.selects "TwinTreesModel" ⟨"TwinTreesModel", "placeOf", "(II)I"⟩ ⟨"TwinTreesModel", "placeOf", "(II)I"⟩ ∈ aw := aw0_in _ (List.mem_of_getElem? (i := 19) rfl)
theorem w20 : Cond.selects "TwinTreesModel" ⟨"TwinTreesModel", "move", "(III)V"⟩ ⟨"TwinTreesModel", "move", "(III)V"⟩ ∈ aw := aw0_in _ (List.mem_of_getElem? (i := 20) rfl)
theorem w21 : Cond.selects "TwinTreesModel" ⟨"TwinTreesModel", "addressOf", "(I)J"⟩ ⟨"TwinTreesModel", "addressOf", "(I)J"⟩ ∈ aw := aw0_in _ (List.mem_of_getElem? (i := 21) rfl)
theorem w22 : Cond.initialized "TwinTreesLaw" ∈ aw := aw0_in _ (List.mem_of_getElem? (i := 22) rfl)
theorem w23 : Cond.initialized "TwinTrees" ∈ aw := aw0_in _ (List.mem_of_getElem? (i := 23) rfl)
theorem w24 : Cond.initialized "TwinTrees$Store" ∈ aw := aw0_in _ (List.mem_of_getElem? (i := 24) rfl)
theorem w25 : Cond.initialized "TwinTrees$Differences" ∈ aw := aw0_in _ (List.mem_of_getElem? (i := 25) rfl)
theorem w26 : Cond.initialized "TwinTrees$RowList" ∈ aw := aw0_in _ (List.mem_of_getElem? (i := 26) rfl)
theorem w27 : Cond.initialized "TwinTrees$Node" ∈ aw := aw0_in _ (List.mem_of_getElem? (i := 27) rfl)
theorem w28 : Cond.initialized "TwinTreesModel" ∈ aw := aw0_in _ (List.mem_of_getElem? (i := 28) rfl)
theorem w29 : Cond.initialized "java/lang/Math" ∈ aw := aw0_in _ (List.mem_of_getElem? (i := 29) rfl)
theorem w30 : Cond.initialized "java/lang/System" ∈ aw := aw0_in _ (List.mem_of_getElem? (i := 30) rfl)
theorem w31 : Cond.initialized "TwinTrees$Row" ∈ aw := aw0_in _ (List.mem_of_getElem? (i := 31) rfl)
theorem w32 : Cond.initialized "java/util/Arrays" ∈ aw := aw0_in _ (List.mem_of_getElem? (i := 32) rfl)
theorem w33 : Cond.classLink "TwinTreesLaw" 7 "TwinTrees" ∈ aw := aw0_in _ (List.mem_of_getElem? (i := 33) rfl)
theorem w34 : Cond.instantiable "TwinTrees" 8 ∈ aw := aw0_in _ (List.mem_of_getElem? (i := 34) rfl)
theorem w35 : Cond.methodLink "TwinTreesLaw" 9 ⟨"TwinTrees", "<init>", "()V"⟩ ∈ aw := aw0_in _ (List.mem_of_getElem? (i := 35) rfl)
theorem w36 : Cond.instanceMethod ⟨"TwinTrees", "<init>", "()V"⟩ ∈ aw := aw0_in _ (List.mem_of_getElem? (i := 36) rfl)
theorem w37 : Cond.code ⟨"TwinTrees", "<init>", "()V"⟩ prog_1_method_1_code 3 none ∈ aw := aw0_in _ (List.mem_of_getElem? (i := 37) rfl)
theorem w38 : Cond.methodLink "TwinTrees" 1 ⟨"java/lang/Object", "<init>", "()V"⟩ ∈ aw := aw0_in _ (List.mem_of_getElem? (i := 38) rfl)
theorem w39 : Cond.instanceMethod ⟨"java/lang/Object", "<init>", "()V"⟩ ∈ aw := aw0_in _ (List.mem_of_getElem? (i := 39) rfl)
theorem w40 : Cond.code ⟨"java/lang/Object", "<init>", "()V"⟩ object_method_1_code 1 none ∈ aw := aw0_in _ (List.mem_of_getElem? (i := 40) rfl)
theorem w41 : Cond.classLink "TwinTrees" 13 "TwinTrees$Node" ∈ aw := aw0_in _ (List.mem_of_getElem? (i := 41) rfl)
theorem w42 : Cond.classLink "TwinTrees" 19 "TwinTrees$Store" ∈ aw := aw0_in _ (List.mem_of_getElem? (i := 42) rfl)
theorem w43 : Cond.instantiable "TwinTrees$Store" 4 ∈ aw := aw0_in _ (List.mem_of_getElem? (i := 43) rfl)
theorem w44 : Cond.instanceMethod ⟨"TwinTrees$Store", "<init>", "()V"⟩ ∈ aw := aw0_in _ (List.mem_of_getElem? (i := 44) rfl)
theorem w45 : Cond.code ⟨"TwinTrees$Store", "<init>", "()V"⟩ prog_6_method_1_code 1 none ∈ aw := aw0_in _ (List.mem_of_getElem? (i := 45) rfl)
theorem w46 : Cond.methodLink "TwinTrees$Store" 3 ⟨"java/lang/Object", "<init>", "()V"⟩ ∈ aw := aw0_in _ (List.mem_of_getElem? (i := 46) rfl)
theorem w47 : Cond.classLink "TwinTrees$Store" 9 "TwinTrees$Node" ∈ aw := aw0_in _ (List.mem_of_getElem? (i := 47) rfl)
theorem w48 : Cond.fieldLink "TwinTrees$Store" 11 "TwinTrees$Store" "buckets" "[LTwinTrees$Node;" ∈ aw := aw0_in _ (List.mem_of_getElem? (i := 48) rfl)
theorem w49 : Cond.fieldLink "TwinTrees$Store" 17 "TwinTrees$Store" "pending" "LTwinTrees$Node;" ∈ aw := aw0_in _ (List.mem_of_getElem? (i := 49) rfl)
theorem w50 : Cond.fieldLink "TwinTrees$Store" 21 "TwinTrees$Store" "nodes" "I" ∈ aw := aw0_in _ (List.mem_of_getElem? (i := 50) rfl)
theorem w51 : Cond.fieldLink "TwinTrees" 161 "TwinTrees$Store" "nodes" "I" ∈ aw := aw0_in _ (List.mem_of_getElem? (i := 51) rfl)
theorem w52 : Cond.fieldLink "TwinTrees$Store" 25 "TwinTrees$Store" "size" "I" ∈ aw := aw0_in _ (List.mem_of_getElem? (i := 52) rfl)
theorem w53 : Cond.fieldLink "TwinTrees" 164 "TwinTrees$Store" "size" "I" ∈ aw := aw0_in _ (List.mem_of_getElem? (i := 53) rfl)
theorem w54 : Cond.laysFinal "TwinTrees$Store" "TwinTrees$Store" "buckets" "[LTwinTrees$Node;" ∈ aw := aw0_in _ (List.mem_of_getElem? (i := 54) rfl)
theorem w55 : Cond.soleField "TwinTrees$Store" "buckets" ∈ aw := aw0_in _ (List.mem_of_getElem? (i := 55) rfl)
theorem w56 : Cond.lays "TwinTrees$Store" "TwinTrees$Store" "pending" "LTwinTrees$Node;" ∈ aw := aw0_in _ (List.mem_of_getElem? (i := 56) rfl)
theorem w57 : Cond.soleField "TwinTrees$Store" "pending" ∈ aw := aw0_in _ (List.mem_of_getElem? (i := 57) rfl)
theorem w58 : Cond.lays "TwinTrees$Store" "TwinTrees$Store" "nodes" "I" ∈ aw := aw0_in _ (List.mem_of_getElem? (i := 58) rfl)
theorem w59 : Cond.soleField "TwinTrees$Store" "nodes" ∈ aw := aw0_in _ (List.mem_of_getElem? (i := 59) rfl)
theorem w60 : Cond.lays "TwinTrees$Store" "TwinTrees$Store" "size" "I" ∈ aw := aw0_in _ (List.mem_of_getElem? (i := 60) rfl)
theorem w61 : Cond.soleField "TwinTrees$Store" "size" ∈ aw := aw0_in _ (List.mem_of_getElem? (i := 61) rfl)
theorem w62 : Cond.superclass "TwinTrees$Store" "java/lang/Object" ∈ aw := aw0_in _ (List.mem_of_getElem? (i := 62) rfl)
theorem w63 : Cond.arrayClass .int ∈ aw := aw0_in _ (List.mem_of_getElem? (i := 63) rfl)
theorem w64 : Cond.classLink "TwinTrees" 26 "TwinTrees$Differences" ∈ aw := aw1_in _ (List.mem_of_getElem? (i := 0) rfl)
theorem w65 : Cond.instantiable "TwinTrees$Differences" 4 ∈ aw := aw1_in _ (List.mem_of_getElem? (i := 1) rfl)
theorem w66 : Cond.instanceMethod ⟨"TwinTrees$Differences", "<init>", "()V"⟩ ∈ aw := aw1_in _ (List.mem_of_getElem? (i := 2) rfl)
theorem w67 : Cond.code ⟨"TwinTrees$Differences", "<init>", "()V"⟩ prog_2_method_1_code 1 none ∈ aw := aw1_in _ (List.mem_of_getElem? (i := 3) rfl)
theorem w68 : Cond.methodLink "TwinTrees$Differences" 3 ⟨"java/lang/Object", "<init>", "()V"⟩ ∈ aw := aw1_in _ (List.mem_of_getElem? (i := 4) rfl)
theorem w69 : Cond.fieldLink "TwinTrees$Differences" 9 "TwinTrees$Differences" "keys" "[I" ∈ aw := aw1_in _ (List.mem_of_getElem? (i := 5) rfl)
theorem w70 : Cond.fieldLink "TwinTrees" 149 "TwinTrees$Differences" "keys" "[I" ∈ aw := aw1_in _ (List.mem_of_getElem? (i := 6) rfl)
theorem w71 : Cond.fieldLink "TwinTrees$Differences" 15 "TwinTrees$Differences" "sides" "[I" ∈ aw := aw1_in _ (List.mem_of_getElem? (i := 7) rfl)
theorem w72 : Cond.fieldLink "TwinTrees" 152 "TwinTrees$Differences" "sides" "[I" ∈ aw := aw1_in _ (List.mem_of_getElem? (i := 8) rfl)
theorem w73 : Cond.fieldLink "TwinTrees$Differences" 18 "TwinTrees$Differences" "unlikes" "[I" ∈ aw := aw1_in _ (List.mem_of_getElem? (i := 9) rfl)
theorem w74 : Cond.fieldLink "TwinTrees" 155 "TwinTrees$Differences" "unlikes" "[I" ∈ aw := aw1_in _ (List.mem_of_getElem? (i := 10) rfl)
theorem w75 : Cond.fieldLink "TwinTrees$Differences" 21 "TwinTrees$Differences" "length" "I" ∈ aw := aw1_in _ (List.mem_of_getElem? (i := 11) rfl)
theorem w76 : Cond.fieldLink "TwinTrees" 148 "TwinTrees$Differences" "length" "I" ∈ aw := aw1_in _ (List.mem_of_getElem? (i := 12) rfl)
theorem w77 : Cond.laysFinal "TwinTrees$Differences" "TwinTrees$Differences" "keys" "[I" ∈ aw := aw1_in _ (List.mem_of_getElem? (i := 13) rfl)
theorem w78 : Cond.soleField "TwinTrees$Differences" "keys" ∈ aw := aw1_in _ (List.mem_of_getElem? (i := 14) rfl)
theorem w79 : Cond.laysFinal "TwinTrees$Differences" "TwinTrees$Differences" "sides" "[I" ∈ aw := aw1_in _ (List.mem_of_getElem? (i := 15) rfl)
theorem w80 : Cond.soleField "TwinTrees$Differences" "sides" ∈ aw := aw1_in _ (List.mem_of_getElem? (i := 16) rfl)
theorem w81 : Cond.laysFinal "TwinTrees$Differences" "TwinTrees$Differences" "unlikes" "[I" ∈ aw := aw1_in _ (List.mem_of_getElem? (i := 17) rfl)
theorem w82 : Cond.soleField "TwinTrees$Differences" "unlikes" ∈ aw := aw1_in _ (List.mem_of_getElem? (i := 18) rfl)
theorem w83 : Cond.lays "TwinTrees$Differences" "TwinTrees$Differences" "length" "I" ∈ aw := aw1_in _ (List.mem_of_getElem? (i := 19) rfl)
theorem w84 : Cond.soleField "TwinTrees$Differences" "length" ∈ aw := aw1_in _ (List.mem_of_getElem? (i := 20) rfl)
theorem w85 : Cond.superclass "TwinTrees$Differences" "java/lang/Object" ∈ aw := aw1_in _ (List.mem_of_getElem? (i := 21) rfl)
theorem w86 : Cond.classLink "TwinTrees" 33 "TwinTrees$RowList" ∈ aw := aw1_in _ (List.mem_of_getElem? (i := 22) rfl)
theorem w87 : Cond.instantiable "TwinTrees$RowList" 2 ∈ aw := aw1_in _ (List.mem_of_getElem? (i := 23) rfl)
theorem w88 : Cond.instanceMethod ⟨"TwinTrees$RowList", "<init>", "()V"⟩ ∈ aw := aw1_in _ (List.mem_of_getElem? (i := 24) rfl)
theorem w89 : Cond.code ⟨"TwinTrees$RowList", "<init>", "()V"⟩ prog_5_method_1_code 1 none ∈ aw := aw1_in _ (List.mem_of_getElem? (i := 25) rfl)
theorem w90 : Cond.methodLink "TwinTrees$RowList" 3 ⟨"java/lang/Object", "<init>", "()V"⟩ ∈ aw := aw1_in _ (List.mem_of_getElem? (i := 26) rfl)
theorem w91 : Cond.classLink "TwinTrees$RowList" 9 "TwinTrees$Row" ∈ aw := aw1_in _ (List.mem_of_getElem? (i := 27) rfl)
theorem w92 : Cond.fieldLink "TwinTrees$RowList" 11 "TwinTrees$RowList" "rows" "[LTwinTrees$Row;" ∈ aw := aw1_in _ (List.mem_of_getElem? (i := 28) rfl)
theorem w93 : Cond.fieldLink "TwinTrees$Differences" 28 "TwinTrees$RowList" "rows" "[LTwinTrees$Row;" ∈ aw := aw1_in _ (List.mem_of_getElem? (i := 29) rfl)
theorem w94 : Cond.fieldLink "TwinTrees" 93 "TwinTrees$RowList" "rows" "[LTwinTrees$Row;" ∈ aw := aw1_in _ (List.mem_of_getElem? (i := 30) rfl)
theorem w95 : Cond.fieldLink "TwinTrees$RowList" 17 "TwinTrees$RowList" "length" "I" ∈ aw := aw1_in _ (List.mem_of_getElem? (i := 31) rfl)
theorem w96 : Cond.fieldLink "TwinTrees$Differences" 25 "TwinTrees$RowList" "length" "I" ∈ aw := aw1_in _ (List.mem_of_getElem? (i := 32) rfl)
theorem w97 : Cond.fieldLink "TwinTrees" 64 "TwinTrees$RowList" "length" "I" ∈ aw := aw1_in _ (List.mem_of_getElem? (i := 33) rfl)
theorem w98 : Cond.laysFinal "TwinTrees$RowList" "TwinTrees$RowList" "rows" "[LTwinTrees$Row;" ∈ aw := aw1_in _ (List.mem_of_getElem? (i := 34) rfl)
theorem w99 : Cond.soleField "TwinTrees$RowList" "rows" ∈ aw := aw1_in _ (List.mem_of_getElem? (i := 35) rfl)
theorem w100 : Cond.lays "TwinTrees$RowList" "TwinTrees$RowList" "length" "I" ∈ aw := aw1_in _ (List.mem_of_getElem? (i := 36) rfl)
theorem w101 : Cond.soleField "TwinTrees$RowList" "length" ∈ aw := aw1_in _ (List.mem_of_getElem? (i := 37) rfl)
theorem w102 : Cond.superclass "TwinTrees$RowList" "java/lang/Object" ∈ aw := aw1_in _ (List.mem_of_getElem? (i := 38) rfl)
theorem w103 : Cond.classLink "TwinTrees" 50 "TwinTrees$Row" ∈ aw := aw1_in _ (List.mem_of_getElem? (i := 39) rfl)
theorem w104 : Cond.methodLink "TwinTrees" 52 ⟨"TwinTrees$Store", "leafOf", "([LTwinTrees$Row;II)LTwinTrees$Node;"⟩ ∈ aw := aw1_in _ (List.mem_of_getElem? (i := 40) rfl)
theorem w105 : Cond.instanceMethod ⟨"TwinTrees$Store", "leafOf", "([LTwinTrees$Row;II)LTwinTrees$Node;"⟩ ∈ aw := aw1_in _ (List.mem_of_getElem? (i := 41) rfl)
theorem w106 : Cond.selects "TwinTrees$Store" ⟨"TwinTrees$Store", "leafOf", "([LTwinTrees$Row;II)LTwinTrees$Node;"⟩ ⟨"TwinTrees$Store", "leafOf", "([LTwinTrees$Row;II)LTwinTrees$Node;"⟩ ∈ aw := aw1_in _ (List.mem_of_getElem? (i := 42) rfl)
theorem w107 : Cond.code ⟨"TwinTrees$Store", "leafOf", "([LTwinTrees$Row;II)LTwinTrees$Node;"⟩ prog_6_method_2_code 6 (some (.object "TwinTrees$Node")) ∈ aw := aw1_in _ (List.mem_of_getElem? (i := 43) rfl)
theorem w108 : Cond.methodLink "TwinTrees$Store" 33 ⟨"TwinTrees$Store", "bucketOf", "(I)I"⟩ ∈ aw := aw1_in _ (List.mem_of_getElem? (i := 44) rfl)
theorem w109 : Cond.static ⟨"TwinTrees$Store", "bucketOf", "(I)I"⟩ ∈ aw := aw1_in _ (List.mem_of_getElem? (i := 45) rfl)
theorem w110 : Cond.code ⟨"TwinTrees$Store", "bucketOf", "(I)I"⟩ prog_6_method_8_code 1 (some .int) ∈ aw := aw1_in _ (List.mem_of_getElem? (i := 46) rfl)
theorem w111 : Cond.constant "TwinTrees$Store" 68 (-1640531535) ∈ aw := aw1_in _ (List.mem_of_getElem? (i := 47) rfl)
theorem w112 : Cond.methodLink "TwinTrees$Store" 38 ⟨"TwinTrees$Node", "isLikeLeaf", "([LTwinTrees$Row;II)Z"⟩ ∈ aw := aw1_in _ (List.mem_of_getElem? (i := 48) rfl)
theorem w113 : Cond.instanceMethod ⟨"TwinTrees$Node", "isLikeLeaf", "([LTwinTrees$Row;II)Z"⟩ ∈ aw := aw1_in _ (List.mem_of_getElem? (i := 49) rfl)
theorem w114 : Cond.selects "TwinTrees$Node" ⟨"TwinTrees$Node", "isLikeLeaf", "([LTwinTrees$Row;II)Z"⟩ ⟨"TwinTrees$Node", "isLikeLeaf", "([LTwinTrees$Row;II)Z"⟩ ∈ aw := aw1_in _ (List.mem_of_getElem? (i := 50) rfl)
theorem w115 : Cond.code ⟨"TwinTrees$Node", "isLikeLeaf", "([LTwinTrees$Row;II)Z"⟩ prog_3_method_3_code 5 (some .boolean) ∈ aw := aw1_in _ (List.mem_of_getElem? (i := 51) rfl)
theorem w116 : Cond.methodLink "TwinTrees$Node" 63 ⟨"TwinTrees$Row", "isLike", "(LTwinTrees$Row;)Z"⟩ ∈ aw := aw1_in _ (List.mem_of_getElem? (i := 52) rfl)
theorem w117 : Cond.instanceMethod ⟨"TwinTrees$Row", "isLike", "(LTwinTrees$Row;)Z"⟩ ∈ aw := aw1_in _ (List.mem_of_getElem? (i := 53) rfl)
theorem w118 : Cond.selects "TwinTrees$Row" ⟨"TwinTrees$Row", "isLike", "(LTwinTrees$Row;)Z"⟩ ⟨"TwinTrees$Row", "isLike", "(LTwinTrees$Row;)Z"⟩ ∈ aw := aw1_in _ (List.mem_of_getElem? (i := 54) rfl)
theorem w119 : Cond.code ⟨"TwinTrees$Row", "isLike", "(LTwinTrees$Row;)Z"⟩ prog_4_method_4_code 2 (some .boolean) ∈ aw := aw1_in _ (List.mem_of_getElem? (i := 55) rfl)
theorem w120 : Cond.methodLink "TwinTrees$Row" 40 ⟨"TwinTrees$Row", "unlikeCells", "(LTwinTrees$Row;)I"⟩ ∈ aw := aw1_in _ (List.mem_of_getElem? (i := 56) rfl)
theorem w121 : Cond.instanceMethod ⟨"TwinTrees$Row", "unlikeCells", "(LTwinTrees$Row;)I"⟩ ∈ aw := aw1_in _ (List.mem_of_getElem? (i := 57) rfl)
theorem w122 : Cond.selects "TwinTrees$Row" ⟨"TwinTrees$Row", "unlikeCells", "(LTwinTrees$Row;)I"⟩ ⟨"TwinTrees$Row", "unlikeCells", "(LTwinTrees$Row;)I"⟩ ∈ aw := aw1_in _ (List.mem_of_getElem? (i := 58) rfl)
theorem w123 : Cond.code ⟨"TwinTrees$Row", "unlikeCells", "(LTwinTrees$Row;)I"⟩ prog_4_method_5_code 4 (some .int) ∈ aw := aw1_in _ (List.mem_of_getElem? (i := 59) rfl)
theorem w124 : Cond.instantiable "TwinTrees$Node" 12 ∈ aw := aw1_in _ (List.mem_of_getElem? (i := 60) rfl)
theorem w125 : Cond.methodLink "TwinTrees$Store" 45 ⟨"TwinTrees$Node", "<init>", "([LTwinTrees$Row;III)V"⟩ ∈ aw := aw1_in _ (List.mem_of_getElem? (i := 61) rfl)
theorem w126 : Cond.instanceMethod ⟨"TwinTrees$Node", "<init>", "([LTwinTrees$Row;III)V"⟩ ∈ aw := aw1_in _ (List.mem_of_getElem? (i := 62) rfl)
theorem w127 : Cond.code ⟨"TwinTrees$Node", "<init>", "([LTwinTrees$Row;III)V"⟩ prog_3_method_1_code 7 none ∈ aw := aw1_in _ (List.mem_of_getElem? (i := 63) rfl)
theorem w128 : Cond.methodLink "TwinTrees$Node" 1 ⟨"java/lang/Object", "<init>", "()V"⟩ ∈ aw := aw2_in _ (List.mem_of_getElem? (i := 0) rfl)
theorem w129 : Cond.classLink "TwinTrees$Node" 28 "TwinTrees$Row" ∈ aw := aw2_in _ (List.mem_of_getElem? (i := 1) rfl)
theorem w130 : Cond.classLink "TwinTrees$Node" 8 "TwinTrees$Node" ∈ aw := aw2_in _ (List.mem_of_getElem? (i := 2) rfl)
theorem w131 : Cond.fieldLink "TwinTrees$Node" 25 "TwinTrees$Node" "height" "I" ∈ aw := aw2_in _ (List.mem_of_getElem? (i := 3) rfl)
theorem w132 : Cond.fieldLink "TwinTrees" 123 "TwinTrees$Node" "height" "I" ∈ aw := aw2_in _ (List.mem_of_getElem? (i := 4) rfl)
theorem w133 : Cond.fieldLink "TwinTrees$Node" 30 "TwinTrees$Node" "rows" "[LTwinTrees$Row;" ∈ aw := aw2_in _ (List.mem_of_getElem? (i := 5) rfl)
theorem w134 : Cond.fieldLink "TwinTrees" 194 "TwinTrees$Node" "rows" "[LTwinTrees$Row;" ∈ aw := aw2_in _ (List.mem_of_getElem? (i := 6) rfl)
theorem w135 : Cond.fieldLink "TwinTrees$Node" 34 "TwinTrees$Node" "below" "[LTwinTrees$Node;" ∈ aw := aw2_in _ (List.mem_of_getElem? (i := 7) rfl)
theorem w136 : Cond.fieldLink "TwinTrees" 191 "TwinTrees$Node" "below" "[LTwinTrees$Node;" ∈ aw := aw2_in _ (List.mem_of_getElem? (i := 8) rfl)
theorem w137 : Cond.fieldLink "TwinTrees$Node" 42 "TwinTrees$Node" "rowCount" "I" ∈ aw := aw2_in _ (List.mem_of_getElem? (i := 9) rfl)
theorem w138 : Cond.fieldLink "TwinTrees" 120 "TwinTrees$Node" "rowCount" "I" ∈ aw := aw2_in _ (List.mem_of_getElem? (i := 10) rfl)
theorem w139 : Cond.fieldLink "TwinTrees$Node" 45 "TwinTrees$Node" "size" "I" ∈ aw := aw2_in _ (List.mem_of_getElem? (i := 11) rfl)
theorem w140 : Cond.fieldLink "TwinTrees$Store" 59 "TwinTrees$Node" "size" "I" ∈ aw := aw2_in _ (List.mem_of_getElem? (i := 12) rfl)
theorem w141 : Cond.fieldLink "TwinTrees$Node" 51 "TwinTrees$Node" "lastKey" "I" ∈ aw := aw2_in _ (List.mem_of_getElem? (i := 13) rfl)
theorem w142 : Cond.fieldLink "TwinTrees" 199 "TwinTrees$Node" "lastKey" "I" ∈ aw := aw2_in _ (List.mem_of_getElem? (i := 14) rfl)
theorem w143 : Cond.fieldLink "TwinTrees$Node" 57 "TwinTrees$Node" "lastLevel" "I" ∈ aw := aw2_in _ (List.mem_of_getElem? (i := 15) rfl)
theorem w144 : Cond.fieldLink "TwinTrees" 181 "TwinTrees$Node" "lastLevel" "I" ∈ aw := aw2_in _ (List.mem_of_getElem? (i := 16) rfl)
theorem w145 : Cond.fieldLink "TwinTrees$Node" 60 "TwinTrees$Node" "print" "I" ∈ aw := aw2_in _ (List.mem_of_getElem? (i := 17) rfl)
theorem w146 : Cond.fieldLink "TwinTrees$Store" 37 "TwinTrees$Node" "print" "I" ∈ aw := aw2_in _ (List.mem_of_getElem? (i := 18) rfl)
theorem w147 : Cond.fieldLink "TwinTrees$Node" 7 "TwinTrees$Node" "address" "J" ∈ aw := aw2_in _ (List.mem_of_getElem? (i := 19) rfl)
theorem w148 : Cond.fieldLink "TwinTrees" 209 "TwinTrees$Node" "address" "J" ∈ aw := aw2_in _ (List.mem_of_getElem? (i := 20) rfl)
theorem w149 : Cond.fieldLink "TwinTrees$Node" 13 "TwinTrees$Node" "hasAddress" "Z" ∈ aw := aw2_in _ (List.mem_of_getElem? (i := 21) rfl)
theorem w150 : Cond.fieldLink "TwinTrees" 205 "TwinTrees$Node" "hasAddress" "Z" ∈ aw := aw2_in _ (List.mem_of_getElem? (i := 22) rfl)
theorem w151 : Cond.fieldLink "TwinTrees$Node" 17 "TwinTrees$Node" "stamp" "I" ∈ aw := aw2_in _ (List.mem_of_getElem? (i := 23) rfl)
theorem w152 : Cond.fieldLink "TwinTrees$Store" 65 "TwinTrees$Node" "stamp" "I" ∈ aw := aw2_in _ (List.mem_of_getElem? (i := 24) rfl)
theorem w153 : Cond.fieldLink "TwinTrees" 188 "TwinTrees$Node" "stamp" "I" ∈ aw := aw2_in _ (List.mem_of_getElem? (i := 25) rfl)
theorem w154 : Cond.fieldLink "TwinTrees$Node" 21 "TwinTrees$Node" "next" "LTwinTrees$Node;" ∈ aw := aw2_in _ (List.mem_of_getElem? (i := 26) rfl)
theorem w155 : Cond.fieldLink "TwinTrees$Store" 42 "TwinTrees$Node" "next" "LTwinTrees$Node;" ∈ aw := aw2_in _ (List.mem_of_getElem? (i := 27) rfl)
theorem w156 : Cond.laysFinal "TwinTrees$Node" "TwinTrees$Node" "height" "I" ∈ aw := aw2_in _ (List.mem_of_getElem? (i := 28) rfl)
theorem w157 : Cond.soleField "TwinTrees$Node" "height" ∈ aw := aw2_in _ (List.mem_of_getElem? (i := 29) rfl)
theorem w158 : Cond.laysFinal "TwinTrees$Node" "TwinTrees$Node" "rows" "[LTwinTrees$Row;" ∈ aw := aw2_in _ (List.mem_of_getElem? (i := 30) rfl)
theorem w159 : Cond.soleField "TwinTrees$Node" "rows" ∈ aw := aw2_in _ (List.mem_of_getElem? (i := 31) rfl)
theorem w160 : Cond.laysFinal "TwinTrees$Node" "TwinTrees$Node" "below" "[LTwinTrees$Node;" ∈ aw := aw2_in _ (List.mem_of_getElem? (i := 32) rfl)
theorem w161 : Cond.soleField "TwinTrees$Node" "below" ∈ aw := aw2_in _ (List.mem_of_getElem? (i := 33) rfl)
theorem w162 : Cond.laysFinal "TwinTrees$Node" "TwinTrees$Node" "rowCount" "I" ∈ aw := aw2_in _ (List.mem_of_getElem? (i := 34) rfl)
theorem w163 : Cond.soleField "TwinTrees$Node" "rowCount" ∈ aw := aw2_in _ (List.mem_of_getElem? (i := 35) rfl)
theorem w164 : Cond.laysFinal "TwinTrees$Node" "TwinTrees$Node" "size" "I" ∈ aw := aw2_in _ (List.mem_of_getElem? (i := 36) rfl)
theorem w165 : Cond.soleField "TwinTrees$Node" "size" ∈ aw := aw2_in _ (List.mem_of_getElem? (i := 37) rfl)
theorem w166 : Cond.laysFinal "TwinTrees$Node" "TwinTrees$Node" "lastKey" "I" ∈ aw := aw2_in _ (List.mem_of_getElem? (i := 38) rfl)
theorem w167 : Cond.soleField "TwinTrees$Node" "lastKey" ∈ aw := aw2_in _ (List.mem_of_getElem? (i := 39) rfl)
theorem w168 : Cond.laysFinal "TwinTrees$Node" "TwinTrees$Node" "lastLevel" "I" ∈ aw := aw2_in _ (List.mem_of_getElem? (i := 40) rfl)
theorem w169 : Cond.soleField "TwinTrees$Node" "lastLevel" ∈ aw := aw2_in _ (List.mem_of_getElem? (i := 41) rfl)
theorem w170 : Cond.laysFinal "TwinTrees$Node" "TwinTrees$Node" "print" "I" ∈ aw := aw2_in _ (List.mem_of_getElem? (i := 42) rfl)
theorem w171 : Cond.soleField "TwinTrees$Node" "print" ∈ aw := aw2_in _ (List.mem_of_getElem? (i := 43) rfl)
theorem w172 : Cond.lays "TwinTrees$Node" "TwinTrees$Node" "address" "J" ∈ aw := aw2_in _ (List.mem_of_getElem? (i := 44) rfl)
theorem w173 : Cond.soleField "TwinTrees$Node" "address" ∈ aw := aw2_in _ (List.mem_of_getElem? (i := 45) rfl)
theorem w174 : Cond.lays "TwinTrees$Node" "TwinTrees$Node" "hasAddress" "Z" ∈ aw := aw2_in _ (List.mem_of_getElem? (i := 46) rfl)
theorem w175 : Cond.soleField "TwinTrees$Node" "hasAddress" ∈ aw := aw2_in _ (List.mem_of_getElem? (i := 47) rfl)
theorem w176 : Cond.lays "TwinTrees$Node" "TwinTrees$Node" "stamp" "I" ∈ aw := aw2_in _ (List.mem_of_getElem? (i := 48) rfl)
theorem w177 : Cond.soleField "TwinTrees$Node" "stamp" ∈ aw := aw2_in _ (List.mem_of_getElem? (i := 49) rfl)
theorem w178 : Cond.lays "TwinTrees$Node" "TwinTrees$Node" "next" "LTwinTrees$Node;" ∈ aw := aw2_in _ (List.mem_of_getElem? (i := 50) rfl)
theorem w179 : Cond.soleField "TwinTrees$Node" "next" ∈ aw := aw2_in _ (List.mem_of_getElem? (i := 51) rfl)
theorem w180 : Cond.superclass "TwinTrees$Node" "java/lang/Object" ∈ aw := aw2_in _ (List.mem_of_getElem? (i := 52) rfl)
theorem w181 : Cond.methodLink "TwinTrees$Store" 48 ⟨"TwinTrees$Store", "pend", "(LTwinTrees$Node;)LTwinTrees$Node;"⟩ ∈ aw := aw2_in _ (List.mem_of_getElem? (i := 53) rfl)
theorem w182 : Cond.instanceMethod ⟨"TwinTrees$Store", "pend", "(LTwinTrees$Node;)LTwinTrees$Node;"⟩ ∈ aw := aw2_in _ (List.mem_of_getElem? (i := 54) rfl)
theorem w183 : Cond.code ⟨"TwinTrees$Store", "pend", "(LTwinTrees$Node;)LTwinTrees$Node;"⟩ prog_6_method_6_code 2 (some (.object "TwinTrees$Node")) ∈ aw := aw2_in _ (List.mem_of_getElem? (i := 55) rfl)
theorem w184 : Cond.methodLink "TwinTrees" 56 ⟨"TwinTrees$Store", "keepPending", "()I"⟩ ∈ aw := aw2_in _ (List.mem_of_getElem? (i := 56) rfl)
theorem w185 : Cond.instanceMethod ⟨"TwinTrees$Store", "keepPending", "()I"⟩ ∈ aw := aw2_in _ (List.mem_of_getElem? (i := 57) rfl)
theorem w186 : Cond.selects "TwinTrees$Store" ⟨"TwinTrees$Store", "keepPending", "()I"⟩ ⟨"TwinTrees$Store", "keepPending", "()I"⟩ ∈ aw := aw2_in _ (List.mem_of_getElem? (i := 58) rfl)
theorem w187 : Cond.code ⟨"TwinTrees$Store", "keepPending", "()I"⟩ prog_6_method_4_code 5 (some .int) ∈ aw := aw2_in _ (List.mem_of_getElem? (i := 59) rfl)
theorem w188 : Cond.constant "TwinTrees$Store" 60 60000 ∈ aw := aw2_in _ (List.mem_of_getElem? (i := 60) rfl)
theorem w189 : Cond.methodLink "TwinTrees$Store" 61 ⟨"TwinTrees$Store", "link", "(LTwinTrees$Node;)V"⟩ ∈ aw := aw2_in _ (List.mem_of_getElem? (i := 61) rfl)
theorem w190 : Cond.instanceMethod ⟨"TwinTrees$Store", "link", "(LTwinTrees$Node;)V"⟩ ∈ aw := aw2_in _ (List.mem_of_getElem? (i := 62) rfl)
theorem w191 : Cond.code ⟨"TwinTrees$Store", "link", "(LTwinTrees$Node;)V"⟩ prog_6_method_7_code 3 none ∈ aw := aw2_in _ (List.mem_of_getElem? (i := 63) rfl)
theorem w192 : Cond.fieldLink "TwinTrees" 9 "TwinTrees" "widths" "[I" ∈ aw := aw3_in _ (List.mem_of_getElem? (i := 0) rfl)
theorem w193 : Cond.fieldLink "TwinTrees" 15 "TwinTrees" "roots" "[LTwinTrees$Node;" ∈ aw := aw3_in _ (List.mem_of_getElem? (i := 1) rfl)
theorem w194 : Cond.fieldLink "TwinTrees" 22 "TwinTrees" "store" "LTwinTrees$Store;" ∈ aw := aw3_in _ (List.mem_of_getElem? (i := 2) rfl)
theorem w195 : Cond.fieldLink "TwinTrees" 29 "TwinTrees" "differences" "LTwinTrees$Differences;" ∈ aw := aw3_in _ (List.mem_of_getElem? (i := 3) rfl)
theorem w196 : Cond.fieldLink "TwinTrees" 36 "TwinTrees" "draft" "LTwinTrees$RowList;" ∈ aw := aw3_in _ (List.mem_of_getElem? (i := 4) rfl)
theorem w197 : Cond.fieldLink "TwinTrees" 40 "TwinTrees" "beside" "LTwinTrees$RowList;" ∈ aw := aw3_in _ (List.mem_of_getElem? (i := 5) rfl)
theorem w198 : Cond.fieldLink "TwinTrees" 43 "TwinTrees" "line" "[LTwinTrees$Node;" ∈ aw := aw3_in _ (List.mem_of_getElem? (i := 6) rfl)
theorem w199 : Cond.fieldLink "TwinTrees" 46 "TwinTrees" "lastStamp" "I" ∈ aw := aw3_in _ (List.mem_of_getElem? (i := 7) rfl)
theorem w200 : Cond.laysFinal "TwinTrees" "TwinTrees" "widths" "[I" ∈ aw := aw3_in _ (List.mem_of_getElem? (i := 8) rfl)
theorem w201 : Cond.soleField "TwinTrees" "widths" ∈ aw := aw3_in _ (List.mem_of_getElem? (i := 9) rfl)
theorem w202 : Cond.laysFinal "TwinTrees" "TwinTrees" "roots" "[LTwinTrees$Node;" ∈ aw := aw3_in _ (List.mem_of_getElem? (i := 10) rfl)
theorem w203 : Cond.soleField "TwinTrees" "roots" ∈ aw := aw3_in _ (List.mem_of_getElem? (i := 11) rfl)
theorem w204 : Cond.laysFinal "TwinTrees" "TwinTrees" "store" "LTwinTrees$Store;" ∈ aw := aw3_in _ (List.mem_of_getElem? (i := 12) rfl)
theorem w205 : Cond.soleField "TwinTrees" "store" ∈ aw := aw3_in _ (List.mem_of_getElem? (i := 13) rfl)
theorem w206 : Cond.laysFinal "TwinTrees" "TwinTrees" "differences" "LTwinTrees$Differences;" ∈ aw := aw3_in _ (List.mem_of_getElem? (i := 14) rfl)
theorem w207 : Cond.soleField "TwinTrees" "differences" ∈ aw := aw3_in _ (List.mem_of_getElem? (i := 15) rfl)
theorem w208 : Cond.laysFinal "TwinTrees" "TwinTrees" "draft" "LTwinTrees$RowList;" ∈ aw := aw3_in _ (List.mem_of_getElem? (i := 16) rfl)
theorem w209 : Cond.soleField "TwinTrees" "draft" ∈ aw := aw3_in _ (List.mem_of_getElem? (i := 17) rfl)
theorem w210 : Cond.laysFinal "TwinTrees" "TwinTrees" "beside" "LTwinTrees$RowList;" ∈ aw := aw3_in _ (List.mem_of_getElem? (i := 18) rfl)
theorem w211 : Cond.soleField "TwinTrees" "beside" ∈ aw := aw3_in _ (List.mem_of_getElem? (i := 19) rfl)
theorem w212 : Cond.laysFinal "TwinTrees" "TwinTrees" "line" "[LTwinTrees$Node;" ∈ aw := aw3_in _ (List.mem_of_getElem? (i := 20) rfl)
theorem w213 : Cond.soleField "TwinTrees" "line" ∈ aw := aw3_in _ (List.mem_of_getElem? (i := 21) rfl)
theorem w214 : Cond.lays "TwinTrees" "TwinTrees" "lastStamp" "I" ∈ aw := aw3_in _ (List.mem_of_getElem? (i := 22) rfl)
theorem w215 : Cond.soleField "TwinTrees" "lastStamp" ∈ aw := aw3_in _ (List.mem_of_getElem? (i := 23) rfl)
theorem w216 : Cond.superclass "TwinTrees" "java/lang/Object" ∈ aw := aw3_in _ (List.mem_of_getElem? (i := 24) rfl)
theorem w217 : Cond.methodLink "TwinTreesLaw" 13 ⟨"TwinTrees", "make", "(II)I"⟩ ∈ aw := aw3_in _ (List.mem_of_getElem? (i := 25) rfl)
theorem w218 : Cond.instanceMethod ⟨"TwinTrees", "make", "(II)I"⟩ ∈ aw := aw3_in _ (List.mem_of_getElem? (i := 26) rfl)
theorem w219 : Cond.selects "TwinTrees" ⟨"TwinTrees", "make", "(II)I"⟩ ⟨"TwinTrees", "make", "(II)I"⟩ ∈ aw := aw3_in _ (List.mem_of_getElem? (i := 27) rfl)
theorem w220 : Cond.code ⟨"TwinTrees", "make", "(II)I"⟩ prog_1_method_2_code 4 (some .int) ∈ aw := aw3_in _ (List.mem_of_getElem? (i := 28) rfl)
theorem w221 : Cond.methodLink "TwinTrees" 60 ⟨"TwinTrees", "isTable", "(I)Z"⟩ ∈ aw := aw3_in _ (List.mem_of_getElem? (i := 29) rfl)
theorem w222 : Cond.static ⟨"TwinTrees", "isTable", "(I)Z"⟩ ∈ aw := aw3_in _ (List.mem_of_getElem? (i := 30) rfl)
theorem w223 : Cond.code ⟨"TwinTrees", "isTable", "(I)Z"⟩ prog_1_method_14_code 1 (some .boolean) ∈ aw := aw3_in _ (List.mem_of_getElem? (i := 31) rfl)
theorem w224 : Cond.methodLink "TwinTrees" 67 ⟨"TwinTrees", "plantDraft", "(I)I"⟩ ∈ aw := aw3_in _ (List.mem_of_getElem? (i := 32) rfl)
theorem w225 : Cond.instanceMethod ⟨"TwinTrees", "plantDraft", "(I)I"⟩ ∈ aw := aw3_in _ (List.mem_of_getElem? (i := 33) rfl)
theorem w226 : Cond.code ⟨"TwinTrees", "plantDraft", "(I)I"⟩ prog_1_method_19_code 4 (some .int) ∈ aw := aw3_in _ (List.mem_of_getElem? (i := 34) rfl)
theorem w227 : Cond.methodLink "TwinTrees" 171 ⟨"TwinTrees", "groupRows", "()I"⟩ ∈ aw := aw3_in _ (List.mem_of_getElem? (i := 35) rfl)
theorem w228 : Cond.instanceMethod ⟨"TwinTrees", "groupRows", "()I"⟩ ∈ aw := aw3_in _ (List.mem_of_getElem? (i := 36) rfl)
theorem w229 : Cond.code ⟨"TwinTrees", "groupRows", "()I"⟩ prog_1_method_20_code 4 (some .int) ∈ aw := aw3_in _ (List.mem_of_getElem? (i := 37) rfl)
theorem w230 : Cond.methodLink "TwinTrees" 174 ⟨"TwinTrees", "groupNodes", "(II)I"⟩ ∈ aw := aw3_in _ (List.mem_of_getElem? (i := 38) rfl)
theorem w231 : Cond.instanceMethod ⟨"TwinTrees", "groupNodes", "(II)I"⟩ ∈ aw := aw3_in _ (List.mem_of_getElem? (i := 39) rfl)
theorem w232 : Cond.code ⟨"TwinTrees", "groupNodes", "(II)I"⟩ prog_1_method_21_code 6 (some .int) ∈ aw := aw3_in _ (List.mem_of_getElem? (i := 40) rfl)
theorem w233 : Cond.methodLink "TwinTrees" 184 ⟨"TwinTrees$Store", "branchOf", "(I[LTwinTrees$Node;II)LTwinTrees$Node;"⟩ ∈ aw := aw3_in _ (List.mem_of_getElem? (i := 41) rfl)
theorem w234 : Cond.instanceMethod ⟨"TwinTrees$Store", "branchOf", "(I[LTwinTrees$Node;II)LTwinTrees$Node;"⟩ ∈ aw := aw3_in _ (List.mem_of_getElem? (i := 42) rfl)
theorem w235 : Cond.selects "TwinTrees$Store" ⟨"TwinTrees$Store", "branchOf", "(I[LTwinTrees$Node;II)LTwinTrees$Node;"⟩ ⟨"TwinTrees$Store", "branchOf", "(I[LTwinTrees$Node;II)LTwinTrees$Node;"⟩ ∈ aw := aw3_in _ (List.mem_of_getElem? (i := 43) rfl)
theorem w236 : Cond.code ⟨"TwinTrees$Store", "branchOf", "(I[LTwinTrees$Node;II)LTwinTrees$Node;"⟩ prog_6_method_3_code 7 (some (.object "TwinTrees$Node")) ∈ aw := aw3_in _ (List.mem_of_getElem? (i := 44) rfl)
theorem w237 : Cond.methodLink "TwinTrees$Store" 52 ⟨"TwinTrees$Node", "isLikeBranch", "([LTwinTrees$Node;II)Z"⟩ ∈ aw := aw3_in _ (List.mem_of_getElem? (i := 45) rfl)
theorem w238 : Cond.instanceMethod ⟨"TwinTrees$Node", "isLikeBranch", "([LTwinTrees$Node;II)Z"⟩ ∈ aw := aw3_in _ (List.mem_of_getElem? (i := 46) rfl)
theorem w239 : Cond.selects "TwinTrees$Node" ⟨"TwinTrees$Node", "isLikeBranch", "([LTwinTrees$Node;II)Z"⟩ ⟨"TwinTrees$Node", "isLikeBranch", "([LTwinTrees$Node;II)Z"⟩ ∈ aw := aw3_in _ (List.mem_of_getElem? (i := 47) rfl)
theorem w240 : Cond.code ⟨"TwinTrees$Node", "isLikeBranch", "([LTwinTrees$Node;II)Z"⟩ prog_3_method_4_code 5 (some .boolean) ∈ aw := aw3_in _ (List.mem_of_getElem? (i := 48) rfl)
theorem w241 : Cond.methodLink "TwinTrees$Store" 56 ⟨"TwinTrees$Node", "<init>", "(I[LTwinTrees$Node;III)V"⟩ ∈ aw := aw3_in _ (List.mem_of_getElem? (i := 49) rfl)
theorem w242 : Cond.instanceMethod ⟨"TwinTrees$Node", "<init>", "(I[LTwinTrees$Node;III)V"⟩ ∈ aw := aw3_in _ (List.mem_of_getElem? (i := 50) rfl)
theorem w243 : Cond.code ⟨"TwinTrees$Node", "<init>", "(I[LTwinTrees$Node;III)V"⟩ prog_3_method_2_code 8 none ∈ aw := aw3_in _ (List.mem_of_getElem? (i := 51) rfl)
theorem w244 : Cond.methodLink "TwinTreesLaw" 18 ⟨"TwinTrees", "put", "(IIIIZ)I"⟩ ∈ aw := aw3_in _ (List.mem_of_getElem? (i := 52) rfl)
theorem w245 : Cond.instanceMethod ⟨"TwinTrees", "put", "(IIIIZ)I"⟩ ∈ aw := aw3_in _ (List.mem_of_getElem? (i := 53) rfl)
theorem w246 : Cond.selects "TwinTrees" ⟨"TwinTrees", "put", "(IIIIZ)I"⟩ ⟨"TwinTrees", "put", "(IIIIZ)I"⟩ ∈ aw := aw3_in _ (List.mem_of_getElem? (i := 54) rfl)
theorem w247 : Cond.code ⟨"TwinTrees", "put", "(IIIIZ)I"⟩ prog_1_method_3_code 7 (some .int) ∈ aw := aw3_in _ (List.mem_of_getElem? (i := 55) rfl)
theorem w248 : Cond.methodLink "TwinTrees" 71 ⟨"TwinTrees", "isColumn", "(II)Z"⟩ ∈ aw := aw3_in _ (List.mem_of_getElem? (i := 56) rfl)
theorem w249 : Cond.instanceMethod ⟨"TwinTrees", "isColumn", "(II)Z"⟩ ∈ aw := aw3_in _ (List.mem_of_getElem? (i := 57) rfl)
theorem w250 : Cond.code ⟨"TwinTrees", "isColumn", "(II)Z"⟩ prog_1_method_15_code 3 (some .boolean) ∈ aw := aw3_in _ (List.mem_of_getElem? (i := 58) rfl)
theorem w251 : Cond.methodLink "TwinTrees" 75 ⟨"TwinTrees", "draftRowsOf", "(I)V"⟩ ∈ aw := aw3_in _ (List.mem_of_getElem? (i := 59) rfl)
theorem w252 : Cond.instanceMethod ⟨"TwinTrees", "draftRowsOf", "(I)V"⟩ ∈ aw := aw3_in _ (List.mem_of_getElem? (i := 60) rfl)
theorem w253 : Cond.code ⟨"TwinTrees", "draftRowsOf", "(I)V"⟩ prog_1_method_17_code 2 none ∈ aw := aw3_in _ (List.mem_of_getElem? (i := 61) rfl)
theorem w254 : Cond.methodLink "TwinTrees" 126 ⟨"TwinTrees", "newStamp", "()I"⟩ ∈ aw := aw3_in _ (List.mem_of_getElem? (i := 62) rfl)
theorem w255 : Cond.instanceMethod ⟨"TwinTrees", "newStamp", "()I"⟩ ∈ aw := aw3_in _ (List.mem_of_getElem? (i := 63) rfl)
theorem w256 : Cond.code ⟨"TwinTrees", "newStamp", "()I"⟩ prog_1_method_16_code 1 (some .int) ∈ aw := aw4_in _ (List.mem_of_getElem? (i := 0) rfl)
theorem w257 : Cond.methodLink "TwinTrees" 167 ⟨"TwinTrees", "gather", "(LTwinTrees$Node;ILTwinTrees$RowList;I)V"⟩ ∈ aw := aw4_in _ (List.mem_of_getElem? (i := 1) rfl)
theorem w258 : Cond.static ⟨"TwinTrees", "gather", "(LTwinTrees$Node;ILTwinTrees$RowList;I)V"⟩ ∈ aw := aw4_in _ (List.mem_of_getElem? (i := 2) rfl)
theorem w259 : Cond.code ⟨"TwinTrees", "gather", "(LTwinTrees$Node;ILTwinTrees$RowList;I)V"⟩ prog_1_method_23_code 8 none ∈ aw := aw4_in _ (List.mem_of_getElem? (i := 3) rfl)
theorem w260 : Cond.methodLink "TwinTrees" 195 ⟨"TwinTrees$RowList", "append", "(LTwinTrees$Row;)V"⟩ ∈ aw := aw4_in _ (List.mem_of_getElem? (i := 4) rfl)
theorem w261 : Cond.instanceMethod ⟨"TwinTrees$RowList", "append", "(LTwinTrees$Row;)V"⟩ ∈ aw := aw4_in _ (List.mem_of_getElem? (i := 5) rfl)
theorem w262 : Cond.selects "TwinTrees$RowList" ⟨"TwinTrees$RowList", "append", "(LTwinTrees$Row;)V"⟩ ⟨"TwinTrees$RowList", "append", "(LTwinTrees$Row;)V"⟩ ∈ aw := aw4_in _ (List.mem_of_getElem? (i := 6) rfl)
theorem w263 : Cond.code ⟨"TwinTrees$RowList", "append", "(LTwinTrees$Row;)V"⟩ prog_5_method_2_code 2 none ∈ aw := aw4_in _ (List.mem_of_getElem? (i := 7) rfl)
theorem w264 : Cond.methodLink "TwinTrees" 79 ⟨"TwinTrees$RowList", "placeOf", "(I)I"⟩ ∈ aw := aw4_in _ (List.mem_of_getElem? (i := 8) rfl)
theorem w265 : Cond.instanceMethod ⟨"TwinTrees$RowList", "placeOf", "(I)I"⟩ ∈ aw := aw4_in _ (List.mem_of_getElem? (i := 9) rfl)
theorem w266 : Cond.selects "TwinTrees$RowList" ⟨"TwinTrees$RowList", "placeOf", "(I)I"⟩ ⟨"TwinTrees$RowList", "placeOf", "(I)I"⟩ ∈ aw := aw4_in _ (List.mem_of_getElem? (i := 10) rfl)
theorem w267 : Cond.code ⟨"TwinTrees$RowList", "placeOf", "(I)I"⟩ prog_5_method_3_code 3 (some .int) ∈ aw := aw4_in _ (List.mem_of_getElem? (i := 11) rfl)
theorem w268 : Cond.methodLink "TwinTrees" 82 ⟨"TwinTrees$RowList", "hasKeyAt", "(II)Z"⟩ ∈ aw := aw4_in _ (List.mem_of_getElem? (i := 12) rfl)
theorem w269 : Cond.instanceMethod ⟨"TwinTrees$RowList", "hasKeyAt", "(II)Z"⟩ ∈ aw := aw4_in _ (List.mem_of_getElem? (i := 13) rfl)
theorem w270 : Cond.selects "TwinTrees$RowList" ⟨"TwinTrees$RowList", "hasKeyAt", "(II)Z"⟩ ⟨"TwinTrees$RowList", "hasKeyAt", "(II)Z"⟩ ∈ aw := aw4_in _ (List.mem_of_getElem? (i := 14) rfl)
theorem w271 : Cond.code ⟨"TwinTrees$RowList", "hasKeyAt", "(II)Z"⟩ prog_5_method_4_code 3 (some .boolean) ∈ aw := aw4_in _ (List.mem_of_getElem? (i := 15) rfl)
theorem w272 : Cond.methodLink "TwinTrees" 85 ⟨"TwinTrees", "blankRow", "(II)LTwinTrees$Row;"⟩ ∈ aw := aw4_in _ (List.mem_of_getElem? (i := 16) rfl)
theorem w273 : Cond.static ⟨"TwinTrees", "blankRow", "(II)LTwinTrees$Row;"⟩ ∈ aw := aw4_in _ (List.mem_of_getElem? (i := 17) rfl)
theorem w274 : Cond.code ⟨"TwinTrees", "blankRow", "(II)LTwinTrees$Row;"⟩ prog_1_method_29_code 2 (some (.object "TwinTrees$Row")) ∈ aw := aw4_in _ (List.mem_of_getElem? (i := 18) rfl)
theorem w275 : Cond.instantiable "TwinTrees$Row" 5 ∈ aw := aw4_in _ (List.mem_of_getElem? (i := 19) rfl)
theorem w276 : Cond.methodLink "TwinTrees" 225 ⟨"TwinTrees$Row", "<init>", "(I[II)V"⟩ ∈ aw := aw4_in _ (List.mem_of_getElem? (i := 20) rfl)
theorem w277 : Cond.instanceMethod ⟨"TwinTrees$Row", "<init>", "(I[II)V"⟩ ∈ aw := aw4_in _ (List.mem_of_getElem? (i := 21) rfl)
theorem w278 : Cond.code ⟨"TwinTrees$Row", "<init>", "(I[II)V"⟩ prog_4_method_1_code 9 none ∈ aw := aw4_in _ (List.mem_of_getElem? (i := 22) rfl)
theorem w279 : Cond.methodLink "TwinTrees$Row" 1 ⟨"java/lang/Object", "<init>", "()V"⟩ ∈ aw := aw4_in _ (List.mem_of_getElem? (i := 23) rfl)
theorem w280 : Cond.static ⟨"TwinTrees", "levelOf", "(I)I"⟩ ∈ aw := aw4_in _ (List.mem_of_getElem? (i := 24) rfl)
theorem w281 : Cond.code ⟨"TwinTrees", "levelOf", "(I)I"⟩ prog_1_method_30_code 3 (some .int) ∈ aw := aw4_in _ (List.mem_of_getElem? (i := 25) rfl)
theorem w282 : Cond.constant "TwinTrees" 228 (-1640531535) ∈ aw := aw4_in _ (List.mem_of_getElem? (i := 26) rfl)
theorem w283 : Cond.constant "TwinTrees" 229 (-2048144777) ∈ aw := aw4_in _ (List.mem_of_getElem? (i := 27) rfl)
theorem w284 : Cond.fieldLink "TwinTrees$Row" 7 "TwinTrees$Row" "key" "I" ∈ aw := aw4_in _ (List.mem_of_getElem? (i := 28) rfl)
theorem w285 : Cond.fieldLink "TwinTrees$Node" 48 "TwinTrees$Row" "key" "I" ∈ aw := aw4_in _ (List.mem_of_getElem? (i := 29) rfl)
theorem w286 : Cond.fieldLink "TwinTrees$Differences" 32 "TwinTrees$Row" "key" "I" ∈ aw := aw4_in _ (List.mem_of_getElem? (i := 30) rfl)
theorem w287 : Cond.fieldLink "TwinTrees$RowList" 21 "TwinTrees$Row" "key" "I" ∈ aw := aw4_in _ (List.mem_of_getElem? (i := 31) rfl)
theorem w288 : Cond.fieldLink "TwinTrees" 202 "TwinTrees$Row" "key" "I" ∈ aw := aw4_in _ (List.mem_of_getElem? (i := 32) rfl)
theorem w289 : Cond.fieldLink "TwinTrees$Row" 13 "TwinTrees$Row" "cells" "[I" ∈ aw := aw4_in _ (List.mem_of_getElem? (i := 33) rfl)
theorem w290 : Cond.fieldLink "TwinTrees$Node" 38 "TwinTrees$Row" "cells" "[I" ∈ aw := aw4_in _ (List.mem_of_getElem? (i := 34) rfl)
theorem w291 : Cond.fieldLink "TwinTrees" 117 "TwinTrees$Row" "cells" "[I" ∈ aw := aw4_in _ (List.mem_of_getElem? (i := 35) rfl)
theorem w292 : Cond.fieldLink "TwinTrees$Row" 17 "TwinTrees$Row" "nulls" "I" ∈ aw := aw4_in _ (List.mem_of_getElem? (i := 36) rfl)
theorem w293 : Cond.fieldLink "TwinTrees$Row" 26 "TwinTrees$Row" "level" "I" ∈ aw := aw4_in _ (List.mem_of_getElem? (i := 37) rfl)
theorem w294 : Cond.fieldLink "TwinTrees$Node" 54 "TwinTrees$Row" "level" "I" ∈ aw := aw4_in _ (List.mem_of_getElem? (i := 38) rfl)
theorem w295 : Cond.fieldLink "TwinTrees" 178 "TwinTrees$Row" "level" "I" ∈ aw := aw4_in _ (List.mem_of_getElem? (i := 39) rfl)
theorem w296 : Cond.fieldLink "TwinTrees$Row" 29 "TwinTrees$Row" "print" "I" ∈ aw := aw4_in _ (List.mem_of_getElem? (i := 40) rfl)
theorem w297 : Cond.fieldLink "TwinTrees$Store" 28 "TwinTrees$Row" "print" "I" ∈ aw := aw4_in _ (List.mem_of_getElem? (i := 41) rfl)
theorem w298 : Cond.laysFinal "TwinTrees$Row" "TwinTrees$Row" "key" "I" ∈ aw := aw4_in _ (List.mem_of_getElem? (i := 42) rfl)
theorem w299 : Cond.soleField "TwinTrees$Row" "key" ∈ aw := aw4_in _ (List.mem_of_getElem? (i := 43) rfl)
theorem w300 : Cond.laysFinal "TwinTrees$Row" "TwinTrees$Row" "cells" "[I" ∈ aw := aw4_in _ (List.mem_of_getElem? (i := 44) rfl)
theorem w301 : Cond.soleField "TwinTrees$Row" "cells" ∈ aw := aw4_in _ (List.mem_of_getElem? (i := 45) rfl)
theorem w302 : Cond.laysFinal "TwinTrees$Row" "TwinTrees$Row" "nulls" "I" ∈ aw := aw4_in _ (List.mem_of_getElem? (i := 46) rfl)
theorem w303 : Cond.soleField "TwinTrees$Row" "nulls" ∈ aw := aw4_in _ (List.mem_of_getElem? (i := 47) rfl)
theorem w304 : Cond.laysFinal "TwinTrees$Row" "TwinTrees$Row" "level" "I" ∈ aw := aw4_in _ (List.mem_of_getElem? (i := 48) rfl)
theorem w305 : Cond.soleField "TwinTrees$Row" "level" ∈ aw := aw4_in _ (List.mem_of_getElem? (i := 49) rfl)
theorem w306 : Cond.laysFinal "TwinTrees$Row" "TwinTrees$Row" "print" "I" ∈ aw := aw4_in _ (List.mem_of_getElem? (i := 50) rfl)
theorem w307 : Cond.soleField "TwinTrees$Row" "print" ∈ aw := aw4_in _ (List.mem_of_getElem? (i := 51) rfl)
theorem w308 : Cond.superclass "TwinTrees$Row" "java/lang/Object" ∈ aw := aw4_in _ (List.mem_of_getElem? (i := 52) rfl)
theorem w309 : Cond.methodLink "TwinTrees" 89 ⟨"TwinTrees$RowList", "insertAt", "(ILTwinTrees$Row;)V"⟩ ∈ aw := aw4_in _ (List.mem_of_getElem? (i := 53) rfl)
theorem w310 : Cond.instanceMethod ⟨"TwinTrees$RowList", "insertAt", "(ILTwinTrees$Row;)V"⟩ ∈ aw := aw4_in _ (List.mem_of_getElem? (i := 54) rfl)
theorem w311 : Cond.selects "TwinTrees$RowList" ⟨"TwinTrees$RowList", "insertAt", "(ILTwinTrees$Row;)V"⟩ ⟨"TwinTrees$RowList", "insertAt", "(ILTwinTrees$Row;)V"⟩ ∈ aw := aw4_in _ (List.mem_of_getElem? (i := 55) rfl)
theorem w312 : Cond.code ⟨"TwinTrees$RowList", "insertAt", "(ILTwinTrees$Row;)V"⟩ prog_5_method_5_code 4 none ∈ aw := aw4_in _ (List.mem_of_getElem? (i := 56) rfl)
theorem w313 : Cond.methodLink "TwinTrees" 97 ⟨"TwinTrees$Row", "withCell", "(IIZ)LTwinTrees$Row;"⟩ ∈ aw := aw4_in _ (List.mem_of_getElem? (i := 57) rfl)
theorem w314 : Cond.instanceMethod ⟨"TwinTrees$Row", "withCell", "(IIZ)LTwinTrees$Row;"⟩ ∈ aw := aw4_in _ (List.mem_of_getElem? (i := 58) rfl)
theorem w315 : Cond.selects "TwinTrees$Row" ⟨"TwinTrees$Row", "withCell", "(IIZ)LTwinTrees$Row;"⟩ ⟨"TwinTrees$Row", "withCell", "(IIZ)LTwinTrees$Row;"⟩ ∈ aw := aw4_in _ (List.mem_of_getElem? (i := 59) rfl)
theorem w316 : Cond.code ⟨"TwinTrees$Row", "withCell", "(IIZ)LTwinTrees$Row;"⟩ prog_4_method_2_code 6 (some (.object "TwinTrees$Row")) ∈ aw := aw4_in _ (List.mem_of_getElem? (i := 60) rfl)
theorem w317 : Cond.methodLink "TwinTrees$Row" 32 ⟨"[I", "clone", "()Ljava/lang/Object;"⟩ ∈ aw := aw4_in _ (List.mem_of_getElem? (i := 61) rfl)
theorem w318 : Cond.native ⟨"java/lang/Object", "clone", "()Ljava/lang/Object;"⟩ ∈ aw := aw4_in _ (List.mem_of_getElem? (i := 62) rfl)
theorem w319 : Cond.instanceMethod ⟨"java/lang/Object", "clone", "()Ljava/lang/Object;"⟩ ∈ aw := aw4_in _ (List.mem_of_getElem? (i := 63) rfl)
theorem w320 : Cond.selects "[I" ⟨"[I", "clone", "()Ljava/lang/Object;"⟩ ⟨"java/lang/Object", "clone", "()Ljava/lang/Object;"⟩ ∈ aw := aw5_in _ (List.mem_of_getElem? (i := 0) rfl)
theorem w321 : Cond.classLink "TwinTrees$Row" 33 "[I" ∈ aw := aw5_in _ (List.mem_of_getElem? (i := 1) rfl)
theorem w322 : Cond.classLink "TwinTrees$Row" 8 "TwinTrees$Row" ∈ aw := aw5_in _ (List.mem_of_getElem? (i := 2) rfl)
theorem w323 : Cond.methodLink "TwinTrees$Row" 37 ⟨"TwinTrees$Row", "<init>", "(I[II)V"⟩ ∈ aw := aw5_in _ (List.mem_of_getElem? (i := 3) rfl)
theorem w324 : Cond.methodLink "TwinTreesLaw" 23 ⟨"TwinTrees", "remove", "(II)I"⟩ ∈ aw := aw5_in _ (List.mem_of_getElem? (i := 4) rfl)
theorem w325 : Cond.instanceMethod ⟨"TwinTrees", "remove", "(II)I"⟩ ∈ aw := aw5_in _ (List.mem_of_getElem? (i := 5) rfl)
theorem w326 : Cond.selects "TwinTrees" ⟨"TwinTrees", "remove", "(II)I"⟩ ⟨"TwinTrees", "remove", "(II)I"⟩ ∈ aw := aw5_in _ (List.mem_of_getElem? (i := 6) rfl)
theorem w327 : Cond.code ⟨"TwinTrees", "remove", "(II)I"⟩ prog_1_method_4_code 4 (some .int) ∈ aw := aw5_in _ (List.mem_of_getElem? (i := 7) rfl)
theorem w328 : Cond.methodLink "TwinTrees" 101 ⟨"TwinTrees$RowList", "takeAt", "(I)V"⟩ ∈ aw := aw5_in _ (List.mem_of_getElem? (i := 8) rfl)
theorem w329 : Cond.instanceMethod ⟨"TwinTrees$RowList", "takeAt", "(I)V"⟩ ∈ aw := aw5_in _ (List.mem_of_getElem? (i := 9) rfl)
theorem w330 : Cond.selects "TwinTrees$RowList" ⟨"TwinTrees$RowList", "takeAt", "(I)V"⟩ ⟨"TwinTrees$RowList", "takeAt", "(I)V"⟩ ∈ aw := aw5_in _ (List.mem_of_getElem? (i := 10) rfl)
theorem w331 : Cond.code ⟨"TwinTrees$RowList", "takeAt", "(I)V"⟩ prog_5_method_6_code 3 none ∈ aw := aw5_in _ (List.mem_of_getElem? (i := 11) rfl)
theorem w332 : Cond.methodLink "TwinTreesLaw" 27 ⟨"TwinTrees", "copy", "(II)I"⟩ ∈ aw := aw5_in _ (List.mem_of_getElem? (i := 12) rfl)
theorem w333 : Cond.instanceMethod ⟨"TwinTrees", "copy", "(II)I"⟩ ∈ aw := aw5_in _ (List.mem_of_getElem? (i := 13) rfl)
theorem w334 : Cond.selects "TwinTrees" ⟨"TwinTrees", "copy", "(II)I"⟩ ⟨"TwinTrees", "copy", "(II)I"⟩ ∈ aw := aw5_in _ (List.mem_of_getElem? (i := 14) rfl)
theorem w335 : Cond.code ⟨"TwinTrees", "copy", "(II)I"⟩ prog_1_method_5_code 3 (some .int) ∈ aw := aw5_in _ (List.mem_of_getElem? (i := 15) rfl)
theorem w336 : Cond.methodLink "TwinTreesLaw" 31 ⟨"TwinTrees", "get", "(III)J"⟩ ∈ aw := aw5_in _ (List.mem_of_getElem? (i := 16) rfl)
theorem w337 : Cond.instanceMethod ⟨"TwinTrees", "get", "(III)J"⟩ ∈ aw := aw5_in _ (List.mem_of_getElem? (i := 17) rfl)
theorem w338 : Cond.selects "TwinTrees" ⟨"TwinTrees", "get", "(III)J"⟩ ⟨"TwinTrees", "get", "(III)J"⟩ ∈ aw := aw5_in _ (List.mem_of_getElem? (i := 18) rfl)
theorem w339 : Cond.code ⟨"TwinTrees", "get", "(III)J"⟩ prog_1_method_6_code 5 (some .long) ∈ aw := aw5_in _ (List.mem_of_getElem? (i := 19) rfl)
theorem w340 : Cond.constantLong "TwinTrees" 104 1099511627775 ∈ aw := aw5_in _ (List.mem_of_getElem? (i := 20) rfl)
theorem w341 : Cond.methodLink "TwinTrees" 106 ⟨"TwinTrees", "rowWithKey", "(LTwinTrees$Node;I)LTwinTrees$Row;"⟩ ∈ aw := aw5_in _ (List.mem_of_getElem? (i := 21) rfl)
theorem w342 : Cond.static ⟨"TwinTrees", "rowWithKey", "(LTwinTrees$Node;I)LTwinTrees$Row;"⟩ ∈ aw := aw5_in _ (List.mem_of_getElem? (i := 22) rfl)
theorem w343 : Cond.code ⟨"TwinTrees", "rowWithKey", "(LTwinTrees$Node;I)LTwinTrees$Row;"⟩ prog_1_method_24_code 7 (some (.object "TwinTrees$Row")) ∈ aw := aw5_in _ (List.mem_of_getElem? (i := 23) rfl)
theorem w344 : Cond.constantLong "TwinTrees" 110 1099511627774 ∈ aw := aw5_in _ (List.mem_of_getElem? (i := 24) rfl)
theorem w345 : Cond.methodLink "TwinTrees" 112 ⟨"TwinTrees$Row", "isNull", "(I)Z"⟩ ∈ aw := aw5_in _ (List.mem_of_getElem? (i := 25) rfl)
theorem w346 : Cond.instanceMethod ⟨"TwinTrees$Row", "isNull", "(I)Z"⟩ ∈ aw := aw5_in _ (List.mem_of_getElem? (i := 26) rfl)
theorem w347 : Cond.selects "TwinTrees$Row" ⟨"TwinTrees$Row", "isNull", "(I)Z"⟩ ⟨"TwinTrees$Row", "isNull", "(I)Z"⟩ ∈ aw := aw5_in _ (List.mem_of_getElem? (i := 27) rfl)
theorem w348 : Cond.code ⟨"TwinTrees$Row", "isNull", "(I)Z"⟩ prog_4_method_3_code 2 (some .boolean) ∈ aw := aw5_in _ (List.mem_of_getElem? (i := 28) rfl)
theorem w349 : Cond.constantLong "TwinTrees" 115 1099511627776 ∈ aw := aw5_in _ (List.mem_of_getElem? (i := 29) rfl)
theorem w350 : Cond.methodLink "TwinTreesLaw" 36 ⟨"TwinTrees", "measure", "(II)I"⟩ ∈ aw := aw5_in _ (List.mem_of_getElem? (i := 30) rfl)
theorem w351 : Cond.instanceMethod ⟨"TwinTrees", "measure", "(II)I"⟩ ∈ aw := aw5_in _ (List.mem_of_getElem? (i := 31) rfl)
theorem w352 : Cond.selects "TwinTrees" ⟨"TwinTrees", "measure", "(II)I"⟩ ⟨"TwinTrees", "measure", "(II)I"⟩ ∈ aw := aw5_in _ (List.mem_of_getElem? (i := 32) rfl)
theorem w353 : Cond.code ⟨"TwinTrees", "measure", "(II)I"⟩ prog_1_method_7_code 4 (some .int) ∈ aw := aw5_in _ (List.mem_of_getElem? (i := 33) rfl)
theorem w354 : Cond.methodLink "TwinTrees" 129 ⟨"TwinTrees", "stampTree", "(LTwinTrees$Node;II)I"⟩ ∈ aw := aw5_in _ (List.mem_of_getElem? (i := 34) rfl)
theorem w355 : Cond.static ⟨"TwinTrees", "stampTree", "(LTwinTrees$Node;II)I"⟩ ∈ aw := aw5_in _ (List.mem_of_getElem? (i := 35) rfl)
theorem w356 : Cond.code ⟨"TwinTrees", "stampTree", "(LTwinTrees$Node;II)I"⟩ prog_1_method_22_code 8 (some .int) ∈ aw := aw5_in _ (List.mem_of_getElem? (i := 36) rfl)
theorem w357 : Cond.methodLink "TwinTreesLaw" 40 ⟨"TwinTrees", "address", "(I)J"⟩ ∈ aw := aw5_in _ (List.mem_of_getElem? (i := 37) rfl)
theorem w358 : Cond.instanceMethod ⟨"TwinTrees", "address", "(I)J"⟩ ∈ aw := aw5_in _ (List.mem_of_getElem? (i := 38) rfl)
theorem w359 : Cond.selects "TwinTrees" ⟨"TwinTrees", "address", "(I)J"⟩ ⟨"TwinTrees", "address", "(I)J"⟩ ∈ aw := aw5_in _ (List.mem_of_getElem? (i := 39) rfl)
theorem w360 : Cond.code ⟨"TwinTrees", "address", "(I)J"⟩ prog_1_method_8_code 2 (some .long) ∈ aw := aw5_in _ (List.mem_of_getElem? (i := 40) rfl)
theorem w361 : Cond.methodLink "TwinTrees" 133 ⟨"TwinTrees", "addressOf", "(LTwinTrees$Node;I)J"⟩ ∈ aw := aw5_in _ (List.mem_of_getElem? (i := 41) rfl)
theorem w362 : Cond.static ⟨"TwinTrees", "addressOf", "(LTwinTrees$Node;I)J"⟩ ∈ aw := aw5_in _ (List.mem_of_getElem? (i := 42) rfl)
theorem w363 : Cond.code ⟨"TwinTrees", "addressOf", "(LTwinTrees$Node;I)J"⟩ prog_1_method_26_code 8 (some .long) ∈ aw := aw5_in _ (List.mem_of_getElem? (i := 43) rfl)
theorem w364 : Cond.constantLong "TwinTrees" 213 1469598103934665603 ∈ aw := aw5_in _ (List.mem_of_getElem? (i := 44) rfl)
theorem w365 : Cond.methodLink "TwinTrees" 215 ⟨"TwinTrees", "mixed", "(JJ)J"⟩ ∈ aw := aw5_in _ (List.mem_of_getElem? (i := 45) rfl)
theorem w366 : Cond.static ⟨"TwinTrees", "mixed", "(JJ)J"⟩ ∈ aw := aw5_in _ (List.mem_of_getElem? (i := 46) rfl)
theorem w367 : Cond.code ⟨"TwinTrees", "mixed", "(JJ)J"⟩ prog_1_method_28_code 4 (some .long) ∈ aw := aw5_in _ (List.mem_of_getElem? (i := 47) rfl)
theorem w368 : Cond.constantLong "TwinTrees" 223 1099511628211 ∈ aw := aw5_in _ (List.mem_of_getElem? (i := 48) rfl)
theorem w369 : Cond.methodLink "TwinTrees" 219 ⟨"TwinTrees", "mixedRow", "(JLTwinTrees$Row;)J"⟩ ∈ aw := aw5_in _ (List.mem_of_getElem? (i := 49) rfl)
theorem w370 : Cond.static ⟨"TwinTrees", "mixedRow", "(JLTwinTrees$Row;)J"⟩ ∈ aw := aw5_in _ (List.mem_of_getElem? (i := 50) rfl)
theorem w371 : Cond.code ⟨"TwinTrees", "mixedRow", "(JLTwinTrees$Row;)J"⟩ prog_1_method_27_code 6 (some .long) ∈ aw := aw5_in _ (List.mem_of_getElem? (i := 51) rfl)
theorem w372 : Cond.methodLink "TwinTreesLaw" 45 ⟨"TwinTrees", "row", "(II)J"⟩ ∈ aw := aw5_in _ (List.mem_of_getElem? (i := 52) rfl)
theorem w373 : Cond.instanceMethod ⟨"TwinTrees", "row", "(II)J"⟩ ∈ aw := aw5_in _ (List.mem_of_getElem? (i := 53) rfl)
theorem w374 : Cond.selects "TwinTrees" ⟨"TwinTrees", "row", "(II)J"⟩ ⟨"TwinTrees", "row", "(II)J"⟩ ∈ aw := aw5_in _ (List.mem_of_getElem? (i := 54) rfl)
theorem w375 : Cond.code ⟨"TwinTrees", "row", "(II)J"⟩ prog_1_method_9_code 3 (some .long) ∈ aw := aw5_in _ (List.mem_of_getElem? (i := 55) rfl)
theorem w376 : Cond.methodLink "TwinTrees" 137 ⟨"TwinTrees", "keyInOrder", "(LTwinTrees$Node;I)J"⟩ ∈ aw := aw5_in _ (List.mem_of_getElem? (i := 56) rfl)
theorem w377 : Cond.static ⟨"TwinTrees", "keyInOrder", "(LTwinTrees$Node;I)J"⟩ ∈ aw := aw5_in _ (List.mem_of_getElem? (i := 57) rfl)
theorem w378 : Cond.code ⟨"TwinTrees", "keyInOrder", "(LTwinTrees$Node;I)J"⟩ prog_1_method_25_code 6 (some .long) ∈ aw := aw5_in _ (List.mem_of_getElem? (i := 58) rfl)
theorem w379 : Cond.methodLink "TwinTreesLaw" 50 ⟨"TwinTrees", "compare", "(II)I"⟩ ∈ aw := aw5_in _ (List.mem_of_getElem? (i := 59) rfl)
theorem w380 : Cond.instanceMethod ⟨"TwinTrees", "compare", "(II)I"⟩ ∈ aw := aw5_in _ (List.mem_of_getElem? (i := 60) rfl)
theorem w381 : Cond.selects "TwinTrees" ⟨"TwinTrees", "compare", "(II)I"⟩ ⟨"TwinTrees", "compare", "(II)I"⟩ ∈ aw := aw5_in _ (List.mem_of_getElem? (i := 61) rfl)
theorem w382 : Cond.code ⟨"TwinTrees", "compare", "(II)I"⟩ prog_1_method_10_code 3 (some .int) ∈ aw := aw5_in _ (List.mem_of_getElem? (i := 62) rfl)
theorem w383 : Cond.methodLink "TwinTrees" 140 ⟨"TwinTrees", "gatherUnshared", "(IILTwinTrees$RowList;)V"⟩ ∈ aw := aw5_in _ (List.mem_of_getElem? (i := 63) rfl)
theorem w384 : Cond.instanceMethod ⟨"TwinTrees", "gatherUnshared", "(IILTwinTrees$RowList;)V"⟩ ∈ aw := aw6_in _ (List.mem_of_getElem? (i := 0) rfl)
theorem w385 : Cond.code ⟨"TwinTrees", "gatherUnshared", "(IILTwinTrees$RowList;)V"⟩ prog_1_method_18_code 5 none ∈ aw := aw6_in _ (List.mem_of_getElem? (i := 1) rfl)
theorem w386 : Cond.methodLink "TwinTrees" 144 ⟨"TwinTrees$Differences", "collect", "(LTwinTrees$RowList;LTwinTrees$RowList;)V"⟩ ∈ aw := aw6_in _ (List.mem_of_getElem? (i := 2) rfl)
theorem w387 : Cond.instanceMethod ⟨"TwinTrees$Differences", "collect", "(LTwinTrees$RowList;LTwinTrees$RowList;)V"⟩ ∈ aw := aw6_in _ (List.mem_of_getElem? (i := 3) rfl)
theorem w388 : Cond.selects "TwinTrees$Differences" ⟨"TwinTrees$Differences", "collect", "(LTwinTrees$RowList;LTwinTrees$RowList;)V"⟩ ⟨"TwinTrees$Differences", "collect", "(LTwinTrees$RowList;LTwinTrees$RowList;)V"⟩ ∈ aw := aw6_in _ (List.mem_of_getElem? (i := 4) rfl)
theorem w389 : Cond.code ⟨"TwinTrees$Differences", "collect", "(LTwinTrees$RowList;LTwinTrees$RowList;)V"⟩ prog_2_method_2_code 6 none ∈ aw := aw6_in _ (List.mem_of_getElem? (i := 5) rfl)
theorem w390 : Cond.methodLink "TwinTrees$Differences" 37 ⟨"TwinTrees$Differences", "note", "(III)V"⟩ ∈ aw := aw6_in _ (List.mem_of_getElem? (i := 6) rfl)
theorem w391 : Cond.instanceMethod ⟨"TwinTrees$Differences", "note", "(III)V"⟩ ∈ aw := aw6_in _ (List.mem_of_getElem? (i := 7) rfl)
theorem w392 : Cond.code ⟨"TwinTrees$Differences", "note", "(III)V"⟩ prog_2_method_3_code 4 none ∈ aw := aw6_in _ (List.mem_of_getElem? (i := 8) rfl)
theorem w393 : Cond.methodLink "TwinTrees$Differences" 41 ⟨"TwinTrees$Row", "unlikeCells", "(LTwinTrees$Row;)I"⟩ ∈ aw := aw6_in _ (List.mem_of_getElem? (i := 9) rfl)
theorem w394 : Cond.methodLink "TwinTreesLaw" 54 ⟨"TwinTrees", "difference", "(II)J"⟩ ∈ aw := aw6_in _ (List.mem_of_getElem? (i := 10) rfl)
theorem w395 : Cond.instanceMethod ⟨"TwinTrees", "difference", "(II)J"⟩ ∈ aw := aw6_in _ (List.mem_of_getElem? (i := 11) rfl)
theorem w396 : Cond.selects "TwinTrees" ⟨"TwinTrees", "difference", "(II)J"⟩ ⟨"TwinTrees", "difference", "(II)J"⟩ ∈ aw := aw6_in _ (List.mem_of_getElem? (i := 12) rfl)
theorem w397 : Cond.code ⟨"TwinTrees", "difference", "(II)J"⟩ prog_1_method_11_code 3 (some .long) ∈ aw := aw6_in _ (List.mem_of_getElem? (i := 13) rfl)
theorem w398 : Cond.methodLink "TwinTreesLaw" 58 ⟨"TwinTrees", "sweep", "()I"⟩ ∈ aw := aw6_in _ (List.mem_of_getElem? (i := 14) rfl)
theorem w399 : Cond.instanceMethod ⟨"TwinTrees", "sweep", "()I"⟩ ∈ aw := aw6_in _ (List.mem_of_getElem? (i := 15) rfl)
theorem w400 : Cond.selects "TwinTrees" ⟨"TwinTrees", "sweep", "()I"⟩ ⟨"TwinTrees", "sweep", "()I"⟩ ∈ aw := aw6_in _ (List.mem_of_getElem? (i := 16) rfl)
theorem w401 : Cond.code ⟨"TwinTrees", "sweep", "()I"⟩ prog_1_method_12_code 6 (some .int) ∈ aw := aw6_in _ (List.mem_of_getElem? (i := 17) rfl)
theorem w402 : Cond.methodLink "TwinTrees" 158 ⟨"TwinTrees$Store", "dropWithout", "(I)I"⟩ ∈ aw := aw6_in _ (List.mem_of_getElem? (i := 18) rfl)
theorem w403 : Cond.instanceMethod ⟨"TwinTrees$Store", "dropWithout", "(I)I"⟩ ∈ aw := aw6_in _ (List.mem_of_getElem? (i := 19) rfl)
theorem w404 : Cond.selects "TwinTrees$Store" ⟨"TwinTrees$Store", "dropWithout", "(I)I"⟩ ⟨"TwinTrees$Store", "dropWithout", "(I)I"⟩ ∈ aw := aw6_in _ (List.mem_of_getElem? (i := 20) rfl)
theorem w405 : Cond.code ⟨"TwinTrees$Store", "dropWithout", "(I)I"⟩ prog_6_method_5_code 6 (some .int) ∈ aw := aw6_in _ (List.mem_of_getElem? (i := 21) rfl)
theorem w406 : Cond.methodLink "TwinTreesLaw" 63 ⟨"TwinTrees", "count", "(I)I"⟩ ∈ aw := aw6_in _ (List.mem_of_getElem? (i := 22) rfl)
theorem w407 : Cond.instanceMethod ⟨"TwinTrees", "count", "(I)I"⟩ ∈ aw := aw6_in _ (List.mem_of_getElem? (i := 23) rfl)
theorem w408 : Cond.selects "TwinTrees" ⟨"TwinTrees", "count", "(I)I"⟩ ⟨"TwinTrees", "count", "(I)I"⟩ ∈ aw := aw6_in _ (List.mem_of_getElem? (i := 24) rfl)
theorem w409 : Cond.code ⟨"TwinTrees", "count", "(I)I"⟩ prog_1_method_13_code 2 (some .int) ∈ aw := aw6_in _ (List.mem_of_getElem? (i := 25) rfl)
theorem w410 : Cond.classLink "TwinTreesLaw" 10 "TwinTreesModel" ∈ aw := aw6_in _ (List.mem_of_getElem? (i := 26) rfl)
theorem w411 : Cond.instantiable "TwinTreesModel" 29 ∈ aw := aw6_in _ (List.mem_of_getElem? (i := 27) rfl)
theorem w412 : Cond.methodLink "TwinTreesLaw" 12 ⟨"TwinTreesModel", "<init>", "()V"⟩ ∈ aw := aw6_in _ (List.mem_of_getElem? (i := 28) rfl)
theorem w413 : Cond.instanceMethod ⟨"TwinTreesModel", "<init>", "()V"⟩ ∈ aw := aw6_in _ (List.mem_of_getElem? (i := 29) rfl)
theorem w414 : Cond.code ⟨"TwinTreesModel", "<init>", "()V"⟩ prog_8_method_1_code 2 none ∈ aw := aw6_in _ (List.mem_of_getElem? (i := 30) rfl)
theorem w415 : Cond.methodLink "TwinTreesModel" 3 ⟨"java/lang/Object", "<init>", "()V"⟩ ∈ aw := aw6_in _ (List.mem_of_getElem? (i := 31) rfl)
theorem w416 : Cond.classLink "TwinTreesModel" 18 "[[I" ∈ aw := aw6_in _ (List.mem_of_getElem? (i := 32) rfl)
theorem w417 : Cond.classLink "TwinTreesModel" 23 "[[J" ∈ aw := aw6_in _ (List.mem_of_getElem? (i := 33) rfl)
theorem w418 : Cond.constant "TwinTreesModel" 44 60000 ∈ aw := aw6_in _ (List.mem_of_getElem? (i := 34) rfl)
theorem w419 : Cond.methodLink "TwinTreesModel" 75 ⟨"TwinTreesModel", "lay", "(I)Z"⟩ ∈ aw := aw6_in _ (List.mem_of_getElem? (i := 35) rfl)
theorem w420 : Cond.instanceMethod ⟨"TwinTreesModel", "lay", "(I)Z"⟩ ∈ aw := aw6_in _ (List.mem_of_getElem? (i := 36) rfl)
theorem w421 : Cond.code ⟨"TwinTreesModel", "lay", "(I)Z"⟩ prog_8_method_8_code 7 (some .boolean) ∈ aw := aw6_in _ (List.mem_of_getElem? (i := 37) rfl)
theorem w422 : Cond.methodLink "TwinTreesModel" 126 ⟨"TwinTreesModel", "levelOf", "(I)I"⟩ ∈ aw := aw6_in _ (List.mem_of_getElem? (i := 38) rfl)
theorem w423 : Cond.static ⟨"TwinTreesModel", "levelOf", "(I)I"⟩ ∈ aw := aw6_in _ (List.mem_of_getElem? (i := 39) rfl)
theorem w424 : Cond.code ⟨"TwinTreesModel", "levelOf", "(I)I"⟩ prog_8_method_3_code 3 (some .int) ∈ aw := aw6_in _ (List.mem_of_getElem? (i := 40) rfl)
theorem w425 : Cond.constant "TwinTreesModel" 79 (-1640531535) ∈ aw := aw6_in _ (List.mem_of_getElem? (i := 41) rfl)
theorem w426 : Cond.constant "TwinTreesModel" 80 (-2048144777) ∈ aw := aw6_in _ (List.mem_of_getElem? (i := 42) rfl)
theorem w427 : Cond.methodLink "TwinTreesModel" 81 ⟨"java/lang/Math", "min", "(II)I"⟩ ∈ aw := aw6_in _ (List.mem_of_getElem? (i := 43) rfl)
theorem w428 : Cond.static ⟨"java/lang/Math", "min", "(II)I"⟩ ∈ aw := aw6_in _ (List.mem_of_getElem? (i := 44) rfl)
theorem w429 : Cond.code ⟨"java/lang/Math", "min", "(II)I"⟩ prog_10_method_69_code 2 (some .int) ∈ aw := aw6_in _ (List.mem_of_getElem? (i := 45) rfl)
theorem w430 : Cond.methodLink "TwinTreesModel" 130 ⟨"TwinTreesModel", "keep", "(III)Z"⟩ ∈ aw := aw6_in _ (List.mem_of_getElem? (i := 46) rfl)
theorem w431 : Cond.instanceMethod ⟨"TwinTreesModel", "keep", "(III)Z"⟩ ∈ aw := aw6_in _ (List.mem_of_getElem? (i := 47) rfl)
theorem w432 : Cond.code ⟨"TwinTreesModel", "keep", "(III)Z"⟩ prog_8_method_9_code 5 (some .boolean) ∈ aw := aw6_in _ (List.mem_of_getElem? (i := 48) rfl)
theorem w433 : Cond.methodLink "TwinTreesModel" 133 ⟨"TwinTreesModel", "node", "(II)I"⟩ ∈ aw := aw6_in _ (List.mem_of_getElem? (i := 49) rfl)
theorem w434 : Cond.instanceMethod ⟨"TwinTreesModel", "node", "(II)I"⟩ ∈ aw := aw6_in _ (List.mem_of_getElem? (i := 50) rfl)
theorem w435 : Cond.code ⟨"TwinTreesModel", "node", "(II)I"⟩ prog_8_method_6_code 5 (some .int) ∈ aw := aw6_in _ (List.mem_of_getElem? (i := 51) rfl)
theorem w436 : Cond.methodLink "TwinTreesModel" 95 ⟨"TwinTreesModel", "hash", "(II)I"⟩ ∈ aw := aw6_in _ (List.mem_of_getElem? (i := 52) rfl)
theorem w437 : Cond.instanceMethod ⟨"TwinTreesModel", "hash", "(II)I"⟩ ∈ aw := aw6_in _ (List.mem_of_getElem? (i := 53) rfl)
theorem w438 : Cond.code ⟨"TwinTreesModel", "hash", "(II)I"⟩ prog_8_method_4_code 6 (some .int) ∈ aw := aw6_in _ (List.mem_of_getElem? (i := 54) rfl)
theorem w439 : Cond.constantLong "TwinTreesModel" 87 31 ∈ aw := aw6_in _ (List.mem_of_getElem? (i := 55) rfl)
theorem w440 : Cond.constantLong "TwinTreesModel" 93 1000003 ∈ aw := aw6_in _ (List.mem_of_getElem? (i := 56) rfl)
theorem w441 : Cond.methodLink "TwinTreesModel" 98 ⟨"TwinTreesModel", "isMade", "(III)Z"⟩ ∈ aw := aw6_in _ (List.mem_of_getElem? (i := 57) rfl)
theorem w442 : Cond.instanceMethod ⟨"TwinTreesModel", "isMade", "(III)Z"⟩ ∈ aw := aw6_in _ (List.mem_of_getElem? (i := 58) rfl)
theorem w443 : Cond.code ⟨"TwinTreesModel", "isMade", "(III)Z"⟩ prog_8_method_5_code 5 (some .boolean) ∈ aw := aw6_in _ (List.mem_of_getElem? (i := 59) rfl)
theorem w444 : Cond.methodLink "TwinTreesModel" 108 ⟨"java/lang/System", "arraycopy", "(Ljava/lang/Object;ILjava/lang/Object;II)V"⟩ ∈ aw := aw6_in _ (List.mem_of_getElem? (i := 60) rfl)
theorem w445 : Cond.static ⟨"java/lang/System", "arraycopy", "(Ljava/lang/Object;ILjava/lang/Object;II)V"⟩ ∈ aw := aw6_in _ (List.mem_of_getElem? (i := 61) rfl)
theorem w446 : Cond.native ⟨"java/lang/System", "arraycopy", "(Ljava/lang/Object;ILjava/lang/Object;II)V"⟩ ∈ aw := aw6_in _ (List.mem_of_getElem? (i := 62) rfl)
theorem w447 : Cond.fieldLink "TwinTreesModel" 11 "TwinTreesModel" "columns" "[I" ∈ aw := aw6_in _ (List.mem_of_getElem? (i := 63) rfl)
theorem w448 : Cond.fieldLink "TwinTreesModel" 15 "TwinTreesModel" "many" "[I" ∈ aw := aw7_in _ (List.mem_of_getElem? (i := 0) rfl)
theorem w449 : Cond.fieldLink "TwinTreesModel" 20 "TwinTreesModel" "key" "[[I" ∈ aw := aw7_in _ (List.mem_of_getElem? (i := 1) rfl)
theorem w450 : Cond.fieldLink "TwinTreesModel" 25 "TwinTreesModel" "cell" "[[J" ∈ aw := aw7_in _ (List.mem_of_getElem? (i := 2) rfl)
theorem w451 : Cond.fieldLink "TwinTreesModel" 150 "TwinTreesModel" "oldColumns" "I" ∈ aw := aw7_in _ (List.mem_of_getElem? (i := 3) rfl)
theorem w452 : Cond.fieldLink "TwinTreesModel" 153 "TwinTreesModel" "oldMany" "I" ∈ aw := aw7_in _ (List.mem_of_getElem? (i := 4) rfl)
theorem w453 : Cond.fieldLink "TwinTreesModel" 28 "TwinTreesModel" "oldKey" "[I" ∈ aw := aw7_in _ (List.mem_of_getElem? (i := 5) rfl)
theorem w454 : Cond.fieldLink "TwinTreesModel" 31 "TwinTreesModel" "oldCell" "[J" ∈ aw := aw7_in _ (List.mem_of_getElem? (i := 6) rfl)
theorem w455 : Cond.fieldLink "TwinTreesModel" 35 "TwinTreesModel" "differKey" "[I" ∈ aw := aw7_in _ (List.mem_of_getElem? (i := 7) rfl)
theorem w456 : Cond.fieldLink "TwinTreesModel" 38 "TwinTreesModel" "differKind" "[I" ∈ aw := aw7_in _ (List.mem_of_getElem? (i := 8) rfl)
theorem w457 : Cond.fieldLink "TwinTreesModel" 41 "TwinTreesModel" "differBits" "[I" ∈ aw := aw7_in _ (List.mem_of_getElem? (i := 9) rfl)
theorem w458 : Cond.fieldLink "TwinTreesModel" 185 "TwinTreesModel" "differences" "I" ∈ aw := aw7_in _ (List.mem_of_getElem? (i := 10) rfl)
theorem w459 : Cond.fieldLink "TwinTreesModel" 45 "TwinTreesModel" "height" "[I" ∈ aw := aw7_in _ (List.mem_of_getElem? (i := 11) rfl)
theorem w460 : Cond.fieldLink "TwinTreesModel" 48 "TwinTreesModel" "begins" "[I" ∈ aw := aw7_in _ (List.mem_of_getElem? (i := 12) rfl)
theorem w461 : Cond.fieldLink "TwinTreesModel" 51 "TwinTreesModel" "long0" "[I" ∈ aw := aw7_in _ (List.mem_of_getElem? (i := 13) rfl)
theorem w462 : Cond.fieldLink "TwinTreesModel" 54 "TwinTreesModel" "width" "[I" ∈ aw := aw7_in _ (List.mem_of_getElem? (i := 14) rfl)
theorem w463 : Cond.fieldLink "TwinTreesModel" 57 "TwinTreesModel" "chain" "[I" ∈ aw := aw7_in _ (List.mem_of_getElem? (i := 15) rfl)
theorem w464 : Cond.fieldLink "TwinTreesModel" 60 "TwinTreesModel" "pool" "[J" ∈ aw := aw7_in _ (List.mem_of_getElem? (i := 16) rfl)
theorem w465 : Cond.fieldLink "TwinTreesModel" 63 "TwinTreesModel" "bucket" "[I" ∈ aw := aw7_in _ (List.mem_of_getElem? (i := 17) rfl)
theorem w466 : Cond.fieldLink "TwinTreesModel" 105 "TwinTreesModel" "nodes" "I" ∈ aw := aw7_in _ (List.mem_of_getElem? (i := 18) rfl)
theorem w467 : Cond.fieldLink "TwinTreesModel" 102 "TwinTreesModel" "used" "I" ∈ aw := aw7_in _ (List.mem_of_getElem? (i := 19) rfl)
theorem w468 : Cond.fieldLink "TwinTreesModel" 66 "TwinTreesModel" "level" "[I" ∈ aw := aw7_in _ (List.mem_of_getElem? (i := 20) rfl)
theorem w469 : Cond.fieldLink "TwinTreesModel" 69 "TwinTreesModel" "last" "[I" ∈ aw := aw7_in _ (List.mem_of_getElem? (i := 21) rfl)
theorem w470 : Cond.fieldLink "TwinTreesModel" 114 "TwinTreesModel" "levelMany" "I" ∈ aw := aw7_in _ (List.mem_of_getElem? (i := 22) rfl)
theorem w471 : Cond.fieldLink "TwinTreesModel" 72 "TwinTreesModel" "made" "[J" ∈ aw := aw7_in _ (List.mem_of_getElem? (i := 23) rfl)
theorem w472 : Cond.fieldLink "TwinTreesModel" 89 "TwinTreesModel" "madeMany" "I" ∈ aw := aw7_in _ (List.mem_of_getElem? (i := 24) rfl)
theorem w473 : Cond.fieldLink "TwinTreesModel" 117 "TwinTreesModel" "tall" "I" ∈ aw := aw7_in _ (List.mem_of_getElem? (i := 25) rfl)
theorem w474 : Cond.fieldLink "TwinTreesModel" 120 "TwinTreesModel" "counted" "I" ∈ aw := aw7_in _ (List.mem_of_getElem? (i := 26) rfl)
theorem w475 : Cond.fieldLink "TwinTreesModel" 123 "TwinTreesModel" "sized" "I" ∈ aw := aw7_in _ (List.mem_of_getElem? (i := 27) rfl)
theorem w476 : Cond.laysFinal "TwinTreesModel" "TwinTreesModel" "columns" "[I" ∈ aw := aw7_in _ (List.mem_of_getElem? (i := 28) rfl)
theorem w477 : Cond.soleField "TwinTreesModel" "columns" ∈ aw := aw7_in _ (List.mem_of_getElem? (i := 29) rfl)
theorem w478 : Cond.laysFinal "TwinTreesModel" "TwinTreesModel" "many" "[I" ∈ aw := aw7_in _ (List.mem_of_getElem? (i := 30) rfl)
theorem w479 : Cond.soleField "TwinTreesModel" "many" ∈ aw := aw7_in _ (List.mem_of_getElem? (i := 31) rfl)
theorem w480 : Cond.laysFinal "TwinTreesModel" "TwinTreesModel" "key" "[[I" ∈ aw := aw7_in _ (List.mem_of_getElem? (i := 32) rfl)
theorem w481 : Cond.soleField "TwinTreesModel" "key" ∈ aw := aw7_in _ (List.mem_of_getElem? (i := 33) rfl)
theorem w482 : Cond.laysFinal "TwinTreesModel" "TwinTreesModel" "cell" "[[J" ∈ aw := aw7_in _ (List.mem_of_getElem? (i := 34) rfl)
theorem w483 : Cond.soleField "TwinTreesModel" "cell" ∈ aw := aw7_in _ (List.mem_of_getElem? (i := 35) rfl)
theorem w484 : Cond.lays "TwinTreesModel" "TwinTreesModel" "oldColumns" "I" ∈ aw := aw7_in _ (List.mem_of_getElem? (i := 36) rfl)
theorem w485 : Cond.soleField "TwinTreesModel" "oldColumns" ∈ aw := aw7_in _ (List.mem_of_getElem? (i := 37) rfl)
theorem w486 : Cond.lays "TwinTreesModel" "TwinTreesModel" "oldMany" "I" ∈ aw := aw7_in _ (List.mem_of_getElem? (i := 38) rfl)
theorem w487 : Cond.soleField "TwinTreesModel" "oldMany" ∈ aw := aw7_in _ (List.mem_of_getElem? (i := 39) rfl)
theorem w488 : Cond.laysFinal "TwinTreesModel" "TwinTreesModel" "oldKey" "[I" ∈ aw := aw7_in _ (List.mem_of_getElem? (i := 40) rfl)
theorem w489 : Cond.soleField "TwinTreesModel" "oldKey" ∈ aw := aw7_in _ (List.mem_of_getElem? (i := 41) rfl)
theorem w490 : Cond.laysFinal "TwinTreesModel" "TwinTreesModel" "oldCell" "[J" ∈ aw := aw7_in _ (List.mem_of_getElem? (i := 42) rfl)
theorem w491 : Cond.soleField "TwinTreesModel" "oldCell" ∈ aw := aw7_in _ (List.mem_of_getElem? (i := 43) rfl)
theorem w492 : Cond.laysFinal "TwinTreesModel" "TwinTreesModel" "differKey" "[I" ∈ aw := aw7_in _ (List.mem_of_getElem? (i := 44) rfl)
theorem w493 : Cond.soleField "TwinTreesModel" "differKey" ∈ aw := aw7_in _ (List.mem_of_getElem? (i := 45) rfl)
theorem w494 : Cond.laysFinal "TwinTreesModel" "TwinTreesModel" "differKind" "[I" ∈ aw := aw7_in _ (List.mem_of_getElem? (i := 46) rfl)
theorem w495 : Cond.soleField "TwinTreesModel" "differKind" ∈ aw := aw7_in _ (List.mem_of_getElem? (i := 47) rfl)
theorem w496 : Cond.laysFinal "TwinTreesModel" "TwinTreesModel" "differBits" "[I" ∈ aw := aw7_in _ (List.mem_of_getElem? (i := 48) rfl)
theorem w497 : Cond.soleField "TwinTreesModel" "differBits" ∈ aw := aw7_in _ (List.mem_of_getElem? (i := 49) rfl)
theorem w498 : Cond.lays "TwinTreesModel" "TwinTreesModel" "differences" "I" ∈ aw := aw7_in _ (List.mem_of_getElem? (i := 50) rfl)
theorem w499 : Cond.soleField "TwinTreesModel" "differences" ∈ aw := aw7_in _ (List.mem_of_getElem? (i := 51) rfl)
theorem w500 : Cond.laysFinal "TwinTreesModel" "TwinTreesModel" "height" "[I" ∈ aw := aw7_in _ (List.mem_of_getElem? (i := 52) rfl)
theorem w501 : Cond.soleField "TwinTreesModel" "height" ∈ aw := aw7_in _ (List.mem_of_getElem? (i := 53) rfl)
theorem w502 : Cond.laysFinal "TwinTreesModel" "TwinTreesModel" "begins" "[I" ∈ aw := aw7_in _ (List.mem_of_getElem? (i := 54) rfl)
theorem w503 : Cond.soleField "TwinTreesModel" "begins" ∈ aw := aw7_in _ (List.mem_of_getElem? (i := 55) rfl)
theorem w504 : Cond.laysFinal "TwinTreesModel" "TwinTreesModel" "long0" "[I" ∈ aw := aw7_in _ (List.mem_of_getElem? (i := 56) rfl)
theorem w505 : Cond.soleField "TwinTreesModel" "long0" ∈ aw := aw7_in _ (List.mem_of_getElem? (i := 57) rfl)
theorem w506 : Cond.laysFinal "TwinTreesModel" "TwinTreesModel" "width" "[I" ∈ aw := aw7_in _ (List.mem_of_getElem? (i := 58) rfl)
theorem w507 : Cond.soleField "TwinTreesModel" "width" ∈ aw := aw7_in _ (List.mem_of_getElem? (i := 59) rfl)
theorem w508 : Cond.laysFinal "TwinTreesModel" "TwinTreesModel" "chain" "[I" ∈ aw := aw7_in _ (List.mem_of_getElem? (i := 60) rfl)
theorem w509 : Cond.soleField "TwinTreesModel" "chain" ∈ aw := aw7_in _ (List.mem_of_getElem? (i := 61) rfl)
theorem w510 : Cond.laysFinal "TwinTreesModel" "TwinTreesModel" "pool" "[J" ∈ aw := aw7_in _ (List.mem_of_getElem? (i := 62) rfl)
theorem w511 : Cond.soleField "TwinTreesModel" "pool" ∈ aw := aw7_in _ (List.mem_of_getElem? (i := 63) rfl)
theorem w512 : Cond.laysFinal "TwinTreesModel" "TwinTreesModel" "bucket" "[I" ∈ aw := aw8_in _ (List.mem_of_getElem? (i := 0) rfl)
theorem w513 : Cond.soleField "TwinTreesModel" "bucket" ∈ aw := aw8_in _ (List.mem_of_getElem? (i := 1) rfl)
theorem w514 : Cond.lays "TwinTreesModel" "TwinTreesModel" "nodes" "I" ∈ aw := aw8_in _ (List.mem_of_getElem? (i := 2) rfl)
theorem w515 : Cond.soleField "TwinTreesModel" "nodes" ∈ aw := aw8_in _ (List.mem_of_getElem? (i := 3) rfl)
theorem w516 : Cond.lays "TwinTreesModel" "TwinTreesModel" "used" "I" ∈ aw := aw8_in _ (List.mem_of_getElem? (i := 4) rfl)
theorem w517 : Cond.soleField "TwinTreesModel" "used" ∈ aw := aw8_in _ (List.mem_of_getElem? (i := 5) rfl)
theorem w518 : Cond.lays "TwinTreesModel" "TwinTreesModel" "level" "[I" ∈ aw := aw8_in _ (List.mem_of_getElem? (i := 6) rfl)
theorem w519 : Cond.soleField "TwinTreesModel" "level" ∈ aw := aw8_in _ (List.mem_of_getElem? (i := 7) rfl)
theorem w520 : Cond.lays "TwinTreesModel" "TwinTreesModel" "last" "[I" ∈ aw := aw8_in _ (List.mem_of_getElem? (i := 8) rfl)
theorem w521 : Cond.soleField "TwinTreesModel" "last" ∈ aw := aw8_in _ (List.mem_of_getElem? (i := 9) rfl)
theorem w522 : Cond.lays "TwinTreesModel" "TwinTreesModel" "levelMany" "I" ∈ aw := aw8_in _ (List.mem_of_getElem? (i := 10) rfl)
theorem w523 : Cond.soleField "TwinTreesModel" "levelMany" ∈ aw := aw8_in _ (List.mem_of_getElem? (i := 11) rfl)
theorem w524 : Cond.laysFinal "TwinTreesModel" "TwinTreesModel" "made" "[J" ∈ aw := aw8_in _ (List.mem_of_getElem? (i := 12) rfl)
theorem w525 : Cond.soleField "TwinTreesModel" "made" ∈ aw := aw8_in _ (List.mem_of_getElem? (i := 13) rfl)
theorem w526 : Cond.lays "TwinTreesModel" "TwinTreesModel" "madeMany" "I" ∈ aw := aw8_in _ (List.mem_of_getElem? (i := 14) rfl)
theorem w527 : Cond.soleField "TwinTreesModel" "madeMany" ∈ aw := aw8_in _ (List.mem_of_getElem? (i := 15) rfl)
theorem w528 : Cond.lays "TwinTreesModel" "TwinTreesModel" "tall" "I" ∈ aw := aw8_in _ (List.mem_of_getElem? (i := 16) rfl)
theorem w529 : Cond.soleField "TwinTreesModel" "tall" ∈ aw := aw8_in _ (List.mem_of_getElem? (i := 17) rfl)
theorem w530 : Cond.lays "TwinTreesModel" "TwinTreesModel" "counted" "I" ∈ aw := aw8_in _ (List.mem_of_getElem? (i := 18) rfl)
theorem w531 : Cond.soleField "TwinTreesModel" "counted" ∈ aw := aw8_in _ (List.mem_of_getElem? (i := 19) rfl)
theorem w532 : Cond.lays "TwinTreesModel" "TwinTreesModel" "sized" "I" ∈ aw := aw8_in _ (List.mem_of_getElem? (i := 20) rfl)
theorem w533 : Cond.soleField "TwinTreesModel" "sized" ∈ aw := aw8_in _ (List.mem_of_getElem? (i := 21) rfl)
theorem w534 : Cond.superclass "TwinTreesModel" "java/lang/Object" ∈ aw := aw8_in _ (List.mem_of_getElem? (i := 22) rfl)
theorem w535 : Cond.arrayClass .long ∈ aw := aw8_in _ (List.mem_of_getElem? (i := 23) rfl)
theorem w536 : Cond.methodLink "TwinTreesLaw" 17 ⟨"TwinTreesModel", "make", "(II)I"⟩ ∈ aw := aw8_in _ (List.mem_of_getElem? (i := 24) rfl)
theorem w537 : Cond.instanceMethod ⟨"TwinTreesModel", "make", "(II)I"⟩ ∈ aw := aw8_in _ (List.mem_of_getElem? (i := 25) rfl)
theorem w538 : Cond.selects "TwinTreesModel" ⟨"TwinTreesModel", "make", "(II)I"⟩ ⟨"TwinTreesModel", "make", "(II)I"⟩ ∈ aw := aw8_in _ (List.mem_of_getElem? (i := 26) rfl)
theorem w539 : Cond.code ⟨"TwinTreesModel", "make", "(II)I"⟩ prog_8_method_17_code 3 (some .int) ∈ aw := aw8_in _ (List.mem_of_getElem? (i := 27) rfl)
theorem w540 : Cond.methodLink "TwinTreesModel" 163 ⟨"TwinTreesModel", "in", "(III)Z"⟩ ∈ aw := aw8_in _ (List.mem_of_getElem? (i := 28) rfl)
theorem w541 : Cond.static ⟨"TwinTreesModel", "in", "(III)Z"⟩ ∈ aw := aw8_in _ (List.mem_of_getElem? (i := 29) rfl)
theorem w542 : Cond.code ⟨"TwinTreesModel", "in", "(III)Z"⟩ prog_8_method_2_code 3 (some .boolean) ∈ aw := aw8_in _ (List.mem_of_getElem? (i := 30) rfl)
theorem w543 : Cond.methodLink "TwinTreesModel" 166 ⟨"TwinTreesModel", "remember", "(I)V"⟩ ∈ aw := aw8_in _ (List.mem_of_getElem? (i := 31) rfl)
theorem w544 : Cond.instanceMethod ⟨"TwinTreesModel", "remember", "(I)V"⟩ ∈ aw := aw8_in _ (List.mem_of_getElem? (i := 32) rfl)
theorem w545 : Cond.code ⟨"TwinTreesModel", "remember", "(I)V"⟩ prog_8_method_12_code 2 none ∈ aw := aw8_in _ (List.mem_of_getElem? (i := 33) rfl)
theorem w546 : Cond.methodLink "TwinTreesModel" 169 ⟨"TwinTreesModel", "write", "(I)I"⟩ ∈ aw := aw8_in _ (List.mem_of_getElem? (i := 34) rfl)
theorem w547 : Cond.instanceMethod ⟨"TwinTreesModel", "write", "(I)I"⟩ ∈ aw := aw8_in _ (List.mem_of_getElem? (i := 35) rfl)
theorem w548 : Cond.code ⟨"TwinTreesModel", "write", "(I)I"⟩ prog_8_method_13_code 3 (some .int) ∈ aw := aw8_in _ (List.mem_of_getElem? (i := 36) rfl)
theorem w549 : Cond.methodLink "TwinTreesModel" 156 ⟨"TwinTreesModel", "back", "(I)V"⟩ ∈ aw := aw8_in _ (List.mem_of_getElem? (i := 37) rfl)
theorem w550 : Cond.instanceMethod ⟨"TwinTreesModel", "back", "(I)V"⟩ ∈ aw := aw8_in _ (List.mem_of_getElem? (i := 38) rfl)
theorem w551 : Cond.code ⟨"TwinTreesModel", "back", "(I)V"⟩ prog_8_method_7_code 2 none ∈ aw := aw8_in _ (List.mem_of_getElem? (i := 39) rfl)
theorem w552 : Cond.methodLink "TwinTreesLaw" 22 ⟨"TwinTreesModel", "put", "(IIIIZ)I"⟩ ∈ aw := aw8_in _ (List.mem_of_getElem? (i := 40) rfl)
theorem w553 : Cond.instanceMethod ⟨"TwinTreesModel", "put", "(IIIIZ)I"⟩ ∈ aw := aw8_in _ (List.mem_of_getElem? (i := 41) rfl)
theorem w554 : Cond.selects "TwinTreesModel" ⟨"TwinTreesModel", "put", "(IIIIZ)I"⟩ ⟨"TwinTreesModel", "put", "(IIIIZ)I"⟩ ∈ aw := aw8_in _ (List.mem_of_getElem? (i := 42) rfl)
theorem w555 : Cond.code ⟨"TwinTreesModel", "put", "(IIIIZ)I"⟩ prog_8_method_18_code 8 (some .int) ∈ aw := aw8_in _ (List.mem_of_getElem? (i := 43) rfl)
theorem w556 : Cond.methodLink "TwinTreesModel" 172 ⟨"TwinTreesModel", "find", "(II)I"⟩ ∈ aw := aw8_in _ (List.mem_of_getElem? (i := 44) rfl)
theorem w557 : Cond.instanceMethod ⟨"TwinTreesModel", "find", "(II)I"⟩ ∈ aw := aw8_in _ (List.mem_of_getElem? (i := 45) rfl)
theorem w558 : Cond.code ⟨"TwinTreesModel", "find", "(II)I"⟩ prog_8_method_15_code 4 (some .int) ∈ aw := aw8_in _ (List.mem_of_getElem? (i := 46) rfl)
theorem w559 : Cond.methodLink "TwinTreesModel" 160 ⟨"TwinTreesModel", "placeOf", "(II)I"⟩ ∈ aw := aw8_in _ (List.mem_of_getElem? (i := 47) rfl)
theorem w560 : Cond.instanceMethod ⟨"TwinTreesModel", "placeOf", "(II)I"⟩ ∈ aw := aw8_in _ (List.mem_of_getElem? (i := 48) rfl)
theorem w561 : Cond.code ⟨"TwinTreesModel", "placeOf", "(II)I"⟩ prog_8_method_14_code 4 (some .int) ∈ aw := aw8_in _ (List.mem_of_getElem? (i := 49) rfl)
theorem w562 : Cond.methodLink "TwinTreesModel" 175 ⟨"TwinTreesModel", "move", "(III)V"⟩ ∈ aw := aw8_in _ (List.mem_of_getElem? (i := 50) rfl)
theorem w563 : Cond.instanceMethod ⟨"TwinTreesModel", "move", "(III)V"⟩ ∈ aw := aw8_in _ (List.mem_of_getElem? (i := 51) rfl)
theorem w564 : Cond.code ⟨"TwinTreesModel", "move", "(III)V"⟩ prog_8_method_16_code 5 none ∈ aw := aw8_in _ (List.mem_of_getElem? (i := 52) rfl)
theorem w565 : Cond.constantLong "TwinTreesModel" 146 (-9223372036854775808) ∈ aw := aw8_in _ (List.mem_of_getElem? (i := 53) rfl)
theorem w566 : Cond.methodLink "TwinTreesLaw" 26 ⟨"TwinTreesModel", "remove", "(II)I"⟩ ∈ aw := aw8_in _ (List.mem_of_getElem? (i := 54) rfl)
theorem w567 : Cond.instanceMethod ⟨"TwinTreesModel", "remove", "(II)I"⟩ ∈ aw := aw8_in _ (List.mem_of_getElem? (i := 55) rfl)
theorem w568 : Cond.selects "TwinTreesModel" ⟨"TwinTreesModel", "remove", "(II)I"⟩ ⟨"TwinTreesModel", "remove", "(II)I"⟩ ∈ aw := aw8_in _ (List.mem_of_getElem? (i := 56) rfl)
theorem w569 : Cond.code ⟨"TwinTreesModel", "remove", "(II)I"⟩ prog_8_method_19_code 5 (some .int) ∈ aw := aw8_in _ (List.mem_of_getElem? (i := 57) rfl)
theorem w570 : Cond.methodLink "TwinTreesLaw" 30 ⟨"TwinTreesModel", "copy", "(II)I"⟩ ∈ aw := aw8_in _ (List.mem_of_getElem? (i := 58) rfl)
theorem w571 : Cond.instanceMethod ⟨"TwinTreesModel", "copy", "(II)I"⟩ ∈ aw := aw8_in _ (List.mem_of_getElem? (i := 59) rfl)
theorem w572 : Cond.selects "TwinTreesModel" ⟨"TwinTreesModel", "copy", "(II)I"⟩ ⟨"TwinTreesModel", "copy", "(II)I"⟩ ∈ aw := aw8_in _ (List.mem_of_getElem? (i := 60) rfl)
theorem w573 : Cond.code ⟨"TwinTreesModel", "copy", "(II)I"⟩ prog_8_method_20_code 3 (some .int) ∈ aw := aw8_in _ (List.mem_of_getElem? (i := 61) rfl)
theorem w574 : Cond.methodLink "TwinTreesLaw" 35 ⟨"TwinTreesModel", "get", "(III)J"⟩ ∈ aw := aw8_in _ (List.mem_of_getElem? (i := 62) rfl)
theorem w575 : Cond.instanceMethod ⟨"TwinTreesModel", "get", "(III)J"⟩ ∈ aw := aw8_in _ (List.mem_of_getElem? (i := 63) rfl)
theorem w576 : Cond.selects "TwinTreesModel" ⟨"TwinTreesModel", "get", "(III)J"⟩ ⟨"TwinTreesModel", "get", "(III)J"⟩ ∈ aw := aw9_in _ (List.mem_of_getElem? (i := 0) rfl)
theorem w577 : Cond.code ⟨"TwinTreesModel", "get", "(III)J"⟩ prog_8_method_21_code 7 (some .long) ∈ aw := aw9_in _ (List.mem_of_getElem? (i := 1) rfl)
theorem w578 : Cond.constantLong "TwinTreesModel" 179 1099511627775 ∈ aw := aw9_in _ (List.mem_of_getElem? (i := 2) rfl)
theorem w579 : Cond.constantLong "TwinTreesModel" 181 1099511627774 ∈ aw := aw9_in _ (List.mem_of_getElem? (i := 3) rfl)
theorem w580 : Cond.constantLong "TwinTreesModel" 183 1099511627776 ∈ aw := aw9_in _ (List.mem_of_getElem? (i := 4) rfl)
theorem w581 : Cond.methodLink "TwinTreesLaw" 39 ⟨"TwinTreesModel", "measure", "(II)I"⟩ ∈ aw := aw9_in _ (List.mem_of_getElem? (i := 5) rfl)
theorem w582 : Cond.instanceMethod ⟨"TwinTreesModel", "measure", "(II)I"⟩ ∈ aw := aw9_in _ (List.mem_of_getElem? (i := 6) rfl)
theorem w583 : Cond.selects "TwinTreesModel" ⟨"TwinTreesModel", "measure", "(II)I"⟩ ⟨"TwinTreesModel", "measure", "(II)I"⟩ ∈ aw := aw9_in _ (List.mem_of_getElem? (i := 7) rfl)
theorem w584 : Cond.code ⟨"TwinTreesModel", "measure", "(II)I"⟩ prog_8_method_22_code 3 (some .int) ∈ aw := aw9_in _ (List.mem_of_getElem? (i := 8) rfl)
theorem w585 : Cond.methodLink "TwinTreesLaw" 44 ⟨"TwinTreesModel", "address", "(I)J"⟩ ∈ aw := aw9_in _ (List.mem_of_getElem? (i := 9) rfl)
theorem w586 : Cond.instanceMethod ⟨"TwinTreesModel", "address", "(I)J"⟩ ∈ aw := aw9_in _ (List.mem_of_getElem? (i := 10) rfl)
theorem w587 : Cond.selects "TwinTreesModel" ⟨"TwinTreesModel", "address", "(I)J"⟩ ⟨"TwinTreesModel", "address", "(I)J"⟩ ∈ aw := aw9_in _ (List.mem_of_getElem? (i := 11) rfl)
theorem w588 : Cond.code ⟨"TwinTreesModel", "address", "(I)J"⟩ prog_8_method_23_code 2 (some .long) ∈ aw := aw9_in _ (List.mem_of_getElem? (i := 12) rfl)
theorem w589 : Cond.methodLink "TwinTreesModel" 142 ⟨"TwinTreesModel", "addressOf", "(I)J"⟩ ∈ aw := aw9_in _ (List.mem_of_getElem? (i := 13) rfl)
theorem w590 : Cond.instanceMethod ⟨"TwinTreesModel", "addressOf", "(I)J"⟩ ∈ aw := aw9_in _ (List.mem_of_getElem? (i := 14) rfl)
theorem w591 : Cond.code ⟨"TwinTreesModel", "addressOf", "(I)J"⟩ prog_8_method_10_code 8 (some .long) ∈ aw := aw9_in _ (List.mem_of_getElem? (i := 15) rfl)
theorem w592 : Cond.constantLong "TwinTreesModel" 136 1469598103934665603 ∈ aw := aw9_in _ (List.mem_of_getElem? (i := 16) rfl)
theorem w593 : Cond.methodLink "TwinTreesModel" 138 ⟨"TwinTreesModel", "step", "(JJ)J"⟩ ∈ aw := aw9_in _ (List.mem_of_getElem? (i := 17) rfl)
theorem w594 : Cond.static ⟨"TwinTreesModel", "step", "(JJ)J"⟩ ∈ aw := aw9_in _ (List.mem_of_getElem? (i := 18) rfl)
theorem w595 : Cond.code ⟨"TwinTreesModel", "step", "(JJ)J"⟩ prog_8_method_11_code 4 (some .long) ∈ aw := aw9_in _ (List.mem_of_getElem? (i := 19) rfl)
theorem w596 : Cond.constantLong "TwinTreesModel" 148 1099511628211 ∈ aw := aw9_in _ (List.mem_of_getElem? (i := 20) rfl)
theorem w597 : Cond.methodLink "TwinTreesLaw" 49 ⟨"TwinTreesModel", "row", "(II)J"⟩ ∈ aw := aw9_in _ (List.mem_of_getElem? (i := 21) rfl)
theorem w598 : Cond.instanceMethod ⟨"TwinTreesModel", "row", "(II)J"⟩ ∈ aw := aw9_in _ (List.mem_of_getElem? (i := 22) rfl)
theorem w599 : Cond.selects "TwinTreesModel" ⟨"TwinTreesModel", "row", "(II)J"⟩ ⟨"TwinTreesModel", "row", "(II)J"⟩ ∈ aw := aw9_in _ (List.mem_of_getElem? (i := 23) rfl)
theorem w600 : Cond.code ⟨"TwinTreesModel", "row", "(II)J"⟩ prog_8_method_24_code 3 (some .long) ∈ aw := aw9_in _ (List.mem_of_getElem? (i := 24) rfl)
theorem w601 : Cond.methodLink "TwinTreesLaw" 53 ⟨"TwinTreesModel", "compare", "(II)I"⟩ ∈ aw := aw9_in _ (List.mem_of_getElem? (i := 25) rfl)
theorem w602 : Cond.instanceMethod ⟨"TwinTreesModel", "compare", "(II)I"⟩ ∈ aw := aw9_in _ (List.mem_of_getElem? (i := 26) rfl)
theorem w603 : Cond.selects "TwinTreesModel" ⟨"TwinTreesModel", "compare", "(II)I"⟩ ⟨"TwinTreesModel", "compare", "(II)I"⟩ ∈ aw := aw9_in _ (List.mem_of_getElem? (i := 27) rfl)
theorem w604 : Cond.code ⟨"TwinTreesModel", "compare", "(II)I"⟩ prog_8_method_25_code 10 (some .int) ∈ aw := aw9_in _ (List.mem_of_getElem? (i := 28) rfl)
theorem w605 : Cond.methodLink "TwinTreesLaw" 57 ⟨"TwinTreesModel", "difference", "(II)J"⟩ ∈ aw := aw9_in _ (List.mem_of_getElem? (i := 29) rfl)
theorem w606 : Cond.instanceMethod ⟨"TwinTreesModel", "difference", "(II)J"⟩ ∈ aw := aw9_in _ (List.mem_of_getElem? (i := 30) rfl)
theorem w607 : Cond.selects "TwinTreesModel" ⟨"TwinTreesModel", "difference", "(II)J"⟩ ⟨"TwinTreesModel", "difference", "(II)J"⟩ ∈ aw := aw9_in _ (List.mem_of_getElem? (i := 31) rfl)
theorem w608 : Cond.code ⟨"TwinTreesModel", "difference", "(II)J"⟩ prog_8_method_26_code 3 (some .long) ∈ aw := aw9_in _ (List.mem_of_getElem? (i := 32) rfl)
theorem w609 : Cond.methodLink "TwinTreesLaw" 62 ⟨"TwinTreesModel", "sweep", "()I"⟩ ∈ aw := aw9_in _ (List.mem_of_getElem? (i := 33) rfl)
theorem w610 : Cond.instanceMethod ⟨"TwinTreesModel", "sweep", "()I"⟩ ∈ aw := aw9_in _ (List.mem_of_getElem? (i := 34) rfl)
theorem w611 : Cond.selects "TwinTreesModel" ⟨"TwinTreesModel", "sweep", "()I"⟩ ⟨"TwinTreesModel", "sweep", "()I"⟩ ∈ aw := aw9_in _ (List.mem_of_getElem? (i := 35) rfl)
theorem w612 : Cond.code ⟨"TwinTreesModel", "sweep", "()I"⟩ prog_8_method_27_code 3 (some .int) ∈ aw := aw9_in _ (List.mem_of_getElem? (i := 36) rfl)
theorem w613 : Cond.methodLink "TwinTreesModel" 188 ⟨"java/util/Arrays", "fill", "([II)V"⟩ ∈ aw := aw9_in _ (List.mem_of_getElem? (i := 37) rfl)
theorem w614 : Cond.static ⟨"java/util/Arrays", "fill", "([II)V"⟩ ∈ aw := aw9_in _ (List.mem_of_getElem? (i := 38) rfl)
theorem w615 : Cond.code ⟨"java/util/Arrays", "fill", "([II)V"⟩ prog_12_method_103_code 4 none ∈ aw := aw9_in _ (List.mem_of_getElem? (i := 39) rfl)
theorem w616 : Cond.methodLink "TwinTreesLaw" 67 ⟨"TwinTreesModel", "count", "(I)I"⟩ ∈ aw := aw9_in _ (List.mem_of_getElem? (i := 40) rfl)
theorem w617 : Cond.instanceMethod ⟨"TwinTreesModel", "count", "(I)I"⟩ ∈ aw := aw9_in _ (List.mem_of_getElem? (i := 41) rfl)
theorem w618 : Cond.selects "TwinTreesModel" ⟨"TwinTreesModel", "count", "(I)I"⟩ ⟨"TwinTreesModel", "count", "(I)I"⟩ ∈ aw := aw9_in _ (List.mem_of_getElem? (i := 42) rfl)
theorem w619 : Cond.code ⟨"TwinTreesModel", "count", "(I)I"⟩ prog_8_method_28_code 2 (some .int) ∈ aw := aw9_in _ (List.mem_of_getElem? (i := 43) rfl)
theorem aw_good : ∀ w ∈ aw, goodWord w = true := by
  intro w h
  rcases List.mem_append.mp h with h | h
  · exact List.all_eq_true.mp aw0_good w h
  rcases List.mem_append.mp h with h | h
  · exact List.all_eq_true.mp aw1_good w h
  rcases List.mem_append.mp h with h | h
  · exact List.all_eq_true.mp aw2_good w h
  rcases List.mem_append.mp h with h | h
  · exact List.all_eq_true.mp aw3_good w h
  rcases List.mem_append.mp h with h | h
  · exact List.all_eq_true.mp aw4_good w h
  rcases List.mem_append.mp h with h | h
  · exact List.all_eq_true.mp aw5_good w h
  rcases List.mem_append.mp h with h | h
  · exact List.all_eq_true.mp aw6_good w h
  rcases List.mem_append.mp h with h | h
  · exact List.all_eq_true.mp aw7_good w h
  rcases List.mem_append.mp h with h | h
  · exact List.all_eq_true.mp aw8_good w h
  exact List.all_eq_true.mp aw9_good w h
theorem aw_all : GoodIn aw aw := fun w h => ⟨h, good_of_word (aw_good w h)⟩
theorem uwT : ∀ w ∈ u_ws kT fT 8, w ∈ aw := by
  intro w h
  obtain ⟨k, hk, rfl⟩ := List.mem_map.mp h
  have hk := List.mem_range.mp hk
  by_cases h0 : k = 0
  · subst h0; exact w200
  by_cases h1 : k = 1
  · subst h1; exact w202
  by_cases h2 : k = 2
  · subst h2; exact w204
  by_cases h3 : k = 3
  · subst h3; exact w206
  by_cases h4 : k = 4
  · subst h4; exact w208
  by_cases h5 : k = 5
  · subst h5; exact w210
  by_cases h6 : k = 6
  · subst h6; exact w212
  by_cases h7 : k = 7
  · subst h7; exact w214
  omega
theorem uwD : ∀ w ∈ u_ws kD fD 4, w ∈ aw := by
  intro w h
  obtain ⟨k, hk, rfl⟩ := List.mem_map.mp h
  have hk := List.mem_range.mp hk
  by_cases h0 : k = 0
  · subst h0; exact w77
  by_cases h1 : k = 1
  · subst h1; exact w79
  by_cases h2 : k = 2
  · subst h2; exact w81
  by_cases h3 : k = 3
  · subst h3; exact w83
  omega
theorem uwN : ∀ w ∈ u_ws kN fN 12, w ∈ aw := by
  intro w h
  obtain ⟨k, hk, rfl⟩ := List.mem_map.mp h
  have hk := List.mem_range.mp hk
  by_cases h0 : k = 0
  · subst h0; exact w156
  by_cases h1 : k = 1
  · subst h1; exact w158
  by_cases h2 : k = 2
  · subst h2; exact w160
  by_cases h3 : k = 3
  · subst h3; exact w162
  by_cases h4 : k = 4
  · subst h4; exact w164
  by_cases h5 : k = 5
  · subst h5; exact w166
  by_cases h6 : k = 6
  · subst h6; exact w168
  by_cases h7 : k = 7
  · subst h7; exact w170
  by_cases h8 : k = 8
  · subst h8; exact w172
  by_cases h9 : k = 9
  · subst h9; exact w174
  by_cases h10 : k = 10
  · subst h10; exact w176
  by_cases h11 : k = 11
  · subst h11; exact w178
  omega
theorem uwR : ∀ w ∈ u_ws kR fR 5, w ∈ aw := by
  intro w h
  obtain ⟨k, hk, rfl⟩ := List.mem_map.mp h
  have hk := List.mem_range.mp hk
  by_cases h0 : k = 0
  · subst h0; exact w298
  by_cases h1 : k = 1
  · subst h1; exact w300
  by_cases h2 : k = 2
  · subst h2; exact w302
  by_cases h3 : k = 3
  · subst h3; exact w304
  by_cases h4 : k = 4
  · subst h4; exact w306
  omega
theorem uwQ : ∀ w ∈ u_ws kQ fQ 2, w ∈ aw := by
  intro w h
  obtain ⟨k, hk, rfl⟩ := List.mem_map.mp h
  have hk := List.mem_range.mp hk
  by_cases h0 : k = 0
  · subst h0; exact w98
  by_cases h1 : k = 1
  · subst h1; exact w100
  omega
theorem uwS : ∀ w ∈ u_ws kS fS 4, w ∈ aw := by
  intro w h
  obtain ⟨k, hk, rfl⟩ := List.mem_map.mp h
  have hk := List.mem_range.mp hk
  by_cases h0 : k = 0
  · subst h0; exact w54
  by_cases h1 : k = 1
  · subst h1; exact w56
  by_cases h2 : k = 2
  · subst h2; exact w58
  by_cases h3 : k = 3
  · subst h3; exact w60
  omega
theorem uwM : ∀ w ∈ u_ws kM fM 29, w ∈ aw := by
  intro w h
  obtain ⟨k, hk, rfl⟩ := List.mem_map.mp h
  have hk := List.mem_range.mp hk
  by_cases h0 : k = 0
  · subst h0; exact w476
  by_cases h1 : k = 1
  · subst h1; exact w478
  by_cases h2 : k = 2
  · subst h2; exact w480
  by_cases h3 : k = 3
  · subst h3; exact w482
  by_cases h4 : k = 4
  · subst h4; exact w484
  by_cases h5 : k = 5
  · subst h5; exact w486
  by_cases h6 : k = 6
  · subst h6; exact w488
  by_cases h7 : k = 7
  · subst h7; exact w490
  by_cases h8 : k = 8
  · subst h8; exact w492
  by_cases h9 : k = 9
  · subst h9; exact w494
  by_cases h10 : k = 10
  · subst h10; exact w496
  by_cases h11 : k = 11
  · subst h11; exact w498
  by_cases h12 : k = 12
  · subst h12; exact w500
  by_cases h13 : k = 13
  · subst h13; exact w502
  by_cases h14 : k = 14
  · subst h14; exact w504
  by_cases h15 : k = 15
  · subst h15; exact w506
  by_cases h16 : k = 16
  · subst h16; exact w508
  by_cases h17 : k = 17
  · subst h17; exact w510
  by_cases h18 : k = 18
  · subst h18; exact w512
  by_cases h19 : k = 19
  · subst h19; exact w514
  by_cases h20 : k = 20
  · subst h20; exact w516
  by_cases h21 : k = 21
  · subst h21; exact w518
  by_cases h22 : k = 22
  · subst h22; exact w520
  by_cases h23 : k = 23
  · subst h23; exact w522
  by_cases h24 : k = 24
  · subst h24; exact w524
  by_cases h25 : k = 25
  · subst h25; exact w526
  by_cases h26 : k = 26
  · subst h26; exact w528
  by_cases h27 : k = 27
  · subst h27; exact w530
  by_cases h28 : k = 28
  · subst h28; exact w532
  omega
abbrev bT_init : ByteArray := prog_1_method_1_code
abbrev yT_init : MethodName := ⟨"TwinTrees", "<init>", "()V"⟩
abbrev sT_init : List Cond := .code yT_init bT_init 3 none :: aw
abbrev bJO_init : ByteArray := object_method_1_code
abbrev yJO_init : MethodName := ⟨"java/lang/Object", "<init>", "()V"⟩
abbrev sJO_init : List Cond := .code yJO_init bJO_init 1 none :: aw
abbrev bS_init : ByteArray := prog_6_method_1_code
abbrev yS_init : MethodName := ⟨"TwinTrees$Store", "<init>", "()V"⟩
abbrev sS_init : List Cond := .code yS_init bS_init 1 none :: aw
abbrev bD_init : ByteArray := prog_2_method_1_code
abbrev yD_init : MethodName := ⟨"TwinTrees$Differences", "<init>", "()V"⟩
abbrev sD_init : List Cond := .code yD_init bD_init 1 none :: aw
abbrev bQ_init : ByteArray := prog_5_method_1_code
abbrev yQ_init : MethodName := ⟨"TwinTrees$RowList", "<init>", "()V"⟩
abbrev sQ_init : List Cond := .code yQ_init bQ_init 1 none :: aw
abbrev bS_leafOf : ByteArray := prog_6_method_2_code
abbrev yS_leafOf : MethodName := ⟨"TwinTrees$Store", "leafOf", "([LTwinTrees$Row;II)LTwinTrees$Node;"⟩
abbrev sS_leafOf : List Cond := .code yS_leafOf bS_leafOf 6 (some (.object "TwinTrees$Node")) :: aw
abbrev bS_bucketOf : ByteArray := prog_6_method_8_code
abbrev yS_bucketOf : MethodName := ⟨"TwinTrees$Store", "bucketOf", "(I)I"⟩
abbrev sS_bucketOf : List Cond := .code yS_bucketOf bS_bucketOf 1 (some .int) :: aw
abbrev bN_isLikeLeaf : ByteArray := prog_3_method_3_code
abbrev yN_isLikeLeaf : MethodName := ⟨"TwinTrees$Node", "isLikeLeaf", "([LTwinTrees$Row;II)Z"⟩
abbrev sN_isLikeLeaf : List Cond := .code yN_isLikeLeaf bN_isLikeLeaf 5 (some .boolean) :: aw
abbrev bR_isLike : ByteArray := prog_4_method_4_code
abbrev yR_isLike : MethodName := ⟨"TwinTrees$Row", "isLike", "(LTwinTrees$Row;)Z"⟩
abbrev sR_isLike : List Cond := .code yR_isLike bR_isLike 2 (some .boolean) :: aw
abbrev bR_unlikeCells : ByteArray := prog_4_method_5_code
abbrev yR_unlikeCells : MethodName := ⟨"TwinTrees$Row", "unlikeCells", "(LTwinTrees$Row;)I"⟩
abbrev sR_unlikeCells : List Cond := .code yR_unlikeCells bR_unlikeCells 4 (some .int) :: aw
abbrev bN_init : ByteArray := prog_3_method_1_code
abbrev yN_init : MethodName := ⟨"TwinTrees$Node", "<init>", "([LTwinTrees$Row;III)V"⟩
abbrev sN_init : List Cond := .code yN_init bN_init 7 none :: aw
abbrev bS_pend : ByteArray := prog_6_method_6_code
abbrev yS_pend : MethodName := ⟨"TwinTrees$Store", "pend", "(LTwinTrees$Node;)LTwinTrees$Node;"⟩
abbrev sS_pend : List Cond := .code yS_pend bS_pend 2 (some (.object "TwinTrees$Node")) :: aw
abbrev bS_keepPending : ByteArray := prog_6_method_4_code
abbrev yS_keepPending : MethodName := ⟨"TwinTrees$Store", "keepPending", "()I"⟩
abbrev sS_keepPending : List Cond := .code yS_keepPending bS_keepPending 5 (some .int) :: aw
abbrev bS_link : ByteArray := prog_6_method_7_code
abbrev yS_link : MethodName := ⟨"TwinTrees$Store", "link", "(LTwinTrees$Node;)V"⟩
abbrev sS_link : List Cond := .code yS_link bS_link 3 none :: aw
abbrev bT_make : ByteArray := prog_1_method_2_code
abbrev yT_make : MethodName := ⟨"TwinTrees", "make", "(II)I"⟩
abbrev sT_make : List Cond := .code yT_make bT_make 4 (some .int) :: aw
abbrev bT_isTable : ByteArray := prog_1_method_14_code
abbrev yT_isTable : MethodName := ⟨"TwinTrees", "isTable", "(I)Z"⟩
abbrev sT_isTable : List Cond := .code yT_isTable bT_isTable 1 (some .boolean) :: aw
abbrev bT_plantDraft : ByteArray := prog_1_method_19_code
abbrev yT_plantDraft : MethodName := ⟨"TwinTrees", "plantDraft", "(I)I"⟩
abbrev sT_plantDraft : List Cond := .code yT_plantDraft bT_plantDraft 4 (some .int) :: aw
abbrev bT_groupRows : ByteArray := prog_1_method_20_code
abbrev yT_groupRows : MethodName := ⟨"TwinTrees", "groupRows", "()I"⟩
abbrev sT_groupRows : List Cond := .code yT_groupRows bT_groupRows 4 (some .int) :: aw
abbrev bT_groupNodes : ByteArray := prog_1_method_21_code
abbrev yT_groupNodes : MethodName := ⟨"TwinTrees", "groupNodes", "(II)I"⟩
abbrev sT_groupNodes : List Cond := .code yT_groupNodes bT_groupNodes 6 (some .int) :: aw
abbrev bS_branchOf : ByteArray := prog_6_method_3_code
abbrev yS_branchOf : MethodName := ⟨"TwinTrees$Store", "branchOf", "(I[LTwinTrees$Node;II)LTwinTrees$Node;"⟩
abbrev sS_branchOf : List Cond := .code yS_branchOf bS_branchOf 7 (some (.object "TwinTrees$Node")) :: aw
abbrev bN_isLikeBranch : ByteArray := prog_3_method_4_code
abbrev yN_isLikeBranch : MethodName := ⟨"TwinTrees$Node", "isLikeBranch", "([LTwinTrees$Node;II)Z"⟩
abbrev sN_isLikeBranch : List Cond := .code yN_isLikeBranch bN_isLikeBranch 5 (some .boolean) :: aw
abbrev bN_init2 : ByteArray := prog_3_method_2_code
abbrev yN_init2 : MethodName := ⟨"TwinTrees$Node", "<init>", "(I[LTwinTrees$Node;III)V"⟩
abbrev sN_init2 : List Cond := .code yN_init2 bN_init2 8 none :: aw
abbrev bT_put : ByteArray := prog_1_method_3_code
abbrev yT_put : MethodName := ⟨"TwinTrees", "put", "(IIIIZ)I"⟩
abbrev sT_put : List Cond := .code yT_put bT_put 7 (some .int) :: aw
abbrev bT_isColumn : ByteArray := prog_1_method_15_code
abbrev yT_isColumn : MethodName := ⟨"TwinTrees", "isColumn", "(II)Z"⟩
abbrev sT_isColumn : List Cond := .code yT_isColumn bT_isColumn 3 (some .boolean) :: aw
abbrev bT_draftRowsOf : ByteArray := prog_1_method_17_code
abbrev yT_draftRowsOf : MethodName := ⟨"TwinTrees", "draftRowsOf", "(I)V"⟩
abbrev sT_draftRowsOf : List Cond := .code yT_draftRowsOf bT_draftRowsOf 2 none :: aw
abbrev bT_newStamp : ByteArray := prog_1_method_16_code
abbrev yT_newStamp : MethodName := ⟨"TwinTrees", "newStamp", "()I"⟩
abbrev sT_newStamp : List Cond := .code yT_newStamp bT_newStamp 1 (some .int) :: aw
abbrev bT_gather : ByteArray := prog_1_method_23_code
abbrev yT_gather : MethodName := ⟨"TwinTrees", "gather", "(LTwinTrees$Node;ILTwinTrees$RowList;I)V"⟩
abbrev sT_gather : List Cond := .code yT_gather bT_gather 8 none :: aw
abbrev bQ_append : ByteArray := prog_5_method_2_code
abbrev yQ_append : MethodName := ⟨"TwinTrees$RowList", "append", "(LTwinTrees$Row;)V"⟩
abbrev sQ_append : List Cond := .code yQ_append bQ_append 2 none :: aw
abbrev bQ_placeOf : ByteArray := prog_5_method_3_code
abbrev yQ_placeOf : MethodName := ⟨"TwinTrees$RowList", "placeOf", "(I)I"⟩
abbrev sQ_placeOf : List Cond := .code yQ_placeOf bQ_placeOf 3 (some .int) :: aw
abbrev bQ_hasKeyAt : ByteArray := prog_5_method_4_code
abbrev yQ_hasKeyAt : MethodName := ⟨"TwinTrees$RowList", "hasKeyAt", "(II)Z"⟩
abbrev sQ_hasKeyAt : List Cond := .code yQ_hasKeyAt bQ_hasKeyAt 3 (some .boolean) :: aw
abbrev bT_blankRow : ByteArray := prog_1_method_29_code
abbrev yT_blankRow : MethodName := ⟨"TwinTrees", "blankRow", "(II)LTwinTrees$Row;"⟩
abbrev sT_blankRow : List Cond := .code yT_blankRow bT_blankRow 2 (some (.object "TwinTrees$Row")) :: aw
abbrev bR_init : ByteArray := prog_4_method_1_code
abbrev yR_init : MethodName := ⟨"TwinTrees$Row", "<init>", "(I[II)V"⟩
abbrev sR_init : List Cond := .code yR_init bR_init 9 none :: aw
abbrev bT_levelOf : ByteArray := prog_1_method_30_code
abbrev yT_levelOf : MethodName := ⟨"TwinTrees", "levelOf", "(I)I"⟩
abbrev sT_levelOf : List Cond := .code yT_levelOf bT_levelOf 3 (some .int) :: aw
abbrev bQ_insertAt : ByteArray := prog_5_method_5_code
abbrev yQ_insertAt : MethodName := ⟨"TwinTrees$RowList", "insertAt", "(ILTwinTrees$Row;)V"⟩
abbrev sQ_insertAt : List Cond := .code yQ_insertAt bQ_insertAt 4 none :: aw
abbrev bR_withCell : ByteArray := prog_4_method_2_code
abbrev yR_withCell : MethodName := ⟨"TwinTrees$Row", "withCell", "(IIZ)LTwinTrees$Row;"⟩
abbrev sR_withCell : List Cond := .code yR_withCell bR_withCell 6 (some (.object "TwinTrees$Row")) :: aw
abbrev bT_remove : ByteArray := prog_1_method_4_code
abbrev yT_remove : MethodName := ⟨"TwinTrees", "remove", "(II)I"⟩
abbrev sT_remove : List Cond := .code yT_remove bT_remove 4 (some .int) :: aw
abbrev bQ_takeAt : ByteArray := prog_5_method_6_code
abbrev yQ_takeAt : MethodName := ⟨"TwinTrees$RowList", "takeAt", "(I)V"⟩
abbrev sQ_takeAt : List Cond := .code yQ_takeAt bQ_takeAt 3 none :: aw
abbrev bT_copy : ByteArray := prog_1_method_5_code
abbrev yT_copy : MethodName := ⟨"TwinTrees", "copy", "(II)I"⟩
abbrev sT_copy : List Cond := .code yT_copy bT_copy 3 (some .int) :: aw
abbrev bT_get : ByteArray := prog_1_method_6_code
abbrev yT_get : MethodName := ⟨"TwinTrees", "get", "(III)J"⟩
abbrev sT_get : List Cond := .code yT_get bT_get 5 (some .long) :: aw
abbrev bT_rowWithKey : ByteArray := prog_1_method_24_code
abbrev yT_rowWithKey : MethodName := ⟨"TwinTrees", "rowWithKey", "(LTwinTrees$Node;I)LTwinTrees$Row;"⟩
abbrev sT_rowWithKey : List Cond := .code yT_rowWithKey bT_rowWithKey 7 (some (.object "TwinTrees$Row")) :: aw
abbrev bR_isNull : ByteArray := prog_4_method_3_code
abbrev yR_isNull : MethodName := ⟨"TwinTrees$Row", "isNull", "(I)Z"⟩
abbrev sR_isNull : List Cond := .code yR_isNull bR_isNull 2 (some .boolean) :: aw
abbrev bT_measure : ByteArray := prog_1_method_7_code
abbrev yT_measure : MethodName := ⟨"TwinTrees", "measure", "(II)I"⟩
abbrev sT_measure : List Cond := .code yT_measure bT_measure 4 (some .int) :: aw
abbrev bT_stampTree : ByteArray := prog_1_method_22_code
abbrev yT_stampTree : MethodName := ⟨"TwinTrees", "stampTree", "(LTwinTrees$Node;II)I"⟩
abbrev sT_stampTree : List Cond := .code yT_stampTree bT_stampTree 8 (some .int) :: aw
abbrev bT_address : ByteArray := prog_1_method_8_code
abbrev yT_address : MethodName := ⟨"TwinTrees", "address", "(I)J"⟩
abbrev sT_address : List Cond := .code yT_address bT_address 2 (some .long) :: aw
abbrev bT_addressOf : ByteArray := prog_1_method_26_code
abbrev yT_addressOf : MethodName := ⟨"TwinTrees", "addressOf", "(LTwinTrees$Node;I)J"⟩
abbrev sT_addressOf : List Cond := .code yT_addressOf bT_addressOf 8 (some .long) :: aw
abbrev bT_mixed : ByteArray := prog_1_method_28_code
abbrev yT_mixed : MethodName := ⟨"TwinTrees", "mixed", "(JJ)J"⟩
abbrev sT_mixed : List Cond := .code yT_mixed bT_mixed 4 (some .long) :: aw
abbrev bT_mixedRow : ByteArray := prog_1_method_27_code
abbrev yT_mixedRow : MethodName := ⟨"TwinTrees", "mixedRow", "(JLTwinTrees$Row;)J"⟩
abbrev sT_mixedRow : List Cond := .code yT_mixedRow bT_mixedRow 6 (some .long) :: aw
abbrev bT_row : ByteArray := prog_1_method_9_code
abbrev yT_row : MethodName := ⟨"TwinTrees", "row", "(II)J"⟩
abbrev sT_row : List Cond := .code yT_row bT_row 3 (some .long) :: aw
abbrev bT_keyInOrder : ByteArray := prog_1_method_25_code
abbrev yT_keyInOrder : MethodName := ⟨"TwinTrees", "keyInOrder", "(LTwinTrees$Node;I)J"⟩
abbrev sT_keyInOrder : List Cond := .code yT_keyInOrder bT_keyInOrder 6 (some .long) :: aw
abbrev bT_compare : ByteArray := prog_1_method_10_code
abbrev yT_compare : MethodName := ⟨"TwinTrees", "compare", "(II)I"⟩
abbrev sT_compare : List Cond := .code yT_compare bT_compare 3 (some .int) :: aw
abbrev bT_gatherUnshared : ByteArray := prog_1_method_18_code
abbrev yT_gatherUnshared : MethodName := ⟨"TwinTrees", "gatherUnshared", "(IILTwinTrees$RowList;)V"⟩
abbrev sT_gatherUnshared : List Cond := .code yT_gatherUnshared bT_gatherUnshared 5 none :: aw
abbrev bD_collect : ByteArray := prog_2_method_2_code
abbrev yD_collect : MethodName := ⟨"TwinTrees$Differences", "collect", "(LTwinTrees$RowList;LTwinTrees$RowList;)V"⟩
abbrev sD_collect : List Cond := .code yD_collect bD_collect 6 none :: aw
abbrev bD_note : ByteArray := prog_2_method_3_code
abbrev yD_note : MethodName := ⟨"TwinTrees$Differences", "note", "(III)V"⟩
abbrev sD_note : List Cond := .code yD_note bD_note 4 none :: aw
abbrev bT_difference : ByteArray := prog_1_method_11_code
abbrev yT_difference : MethodName := ⟨"TwinTrees", "difference", "(II)J"⟩
abbrev sT_difference : List Cond := .code yT_difference bT_difference 3 (some .long) :: aw
abbrev bT_sweep : ByteArray := prog_1_method_12_code
abbrev yT_sweep : MethodName := ⟨"TwinTrees", "sweep", "()I"⟩
abbrev sT_sweep : List Cond := .code yT_sweep bT_sweep 6 (some .int) :: aw
abbrev bS_dropWithout : ByteArray := prog_6_method_5_code
abbrev yS_dropWithout : MethodName := ⟨"TwinTrees$Store", "dropWithout", "(I)I"⟩
abbrev sS_dropWithout : List Cond := .code yS_dropWithout bS_dropWithout 6 (some .int) :: aw
abbrev bT_count : ByteArray := prog_1_method_13_code
abbrev yT_count : MethodName := ⟨"TwinTrees", "count", "(I)I"⟩
abbrev sT_count : List Cond := .code yT_count bT_count 2 (some .int) :: aw
abbrev bM_init : ByteArray := prog_8_method_1_code
abbrev yM_init : MethodName := ⟨"TwinTreesModel", "<init>", "()V"⟩
abbrev sM_init : List Cond := .code yM_init bM_init 2 none :: aw
abbrev bM_lay : ByteArray := prog_8_method_8_code
abbrev yM_lay : MethodName := ⟨"TwinTreesModel", "lay", "(I)Z"⟩
abbrev sM_lay : List Cond := .code yM_lay bM_lay 7 (some .boolean) :: aw
abbrev bM_levelOf : ByteArray := prog_8_method_3_code
abbrev yM_levelOf : MethodName := ⟨"TwinTreesModel", "levelOf", "(I)I"⟩
abbrev sM_levelOf : List Cond := .code yM_levelOf bM_levelOf 3 (some .int) :: aw
abbrev bJM_min : ByteArray := prog_10_method_69_code
abbrev yJM_min : MethodName := ⟨"java/lang/Math", "min", "(II)I"⟩
abbrev sJM_min : List Cond := .code yJM_min bJM_min 2 (some .int) :: aw
abbrev bM_keep : ByteArray := prog_8_method_9_code
abbrev yM_keep : MethodName := ⟨"TwinTreesModel", "keep", "(III)Z"⟩
abbrev sM_keep : List Cond := .code yM_keep bM_keep 5 (some .boolean) :: aw
abbrev bM_node : ByteArray := prog_8_method_6_code
abbrev yM_node : MethodName := ⟨"TwinTreesModel", "node", "(II)I"⟩
abbrev sM_node : List Cond := .code yM_node bM_node 5 (some .int) :: aw
abbrev bM_hash : ByteArray := prog_8_method_4_code
abbrev yM_hash : MethodName := ⟨"TwinTreesModel", "hash", "(II)I"⟩
abbrev sM_hash : List Cond := .code yM_hash bM_hash 6 (some .int) :: aw
abbrev bM_isMade : ByteArray := prog_8_method_5_code
abbrev yM_isMade : MethodName := ⟨"TwinTreesModel", "isMade", "(III)Z"⟩
abbrev sM_isMade : List Cond := .code yM_isMade bM_isMade 5 (some .boolean) :: aw
abbrev bM_make : ByteArray := prog_8_method_17_code
abbrev yM_make : MethodName := ⟨"TwinTreesModel", "make", "(II)I"⟩
abbrev sM_make : List Cond := .code yM_make bM_make 3 (some .int) :: aw
abbrev bM_in : ByteArray := prog_8_method_2_code
abbrev yM_in : MethodName := ⟨"TwinTreesModel", "in", "(III)Z"⟩
abbrev sM_in : List Cond := .code yM_in bM_in 3 (some .boolean) :: aw
abbrev bM_remember : ByteArray := prog_8_method_12_code
abbrev yM_remember : MethodName := ⟨"TwinTreesModel", "remember", "(I)V"⟩
abbrev sM_remember : List Cond := .code yM_remember bM_remember 2 none :: aw
abbrev bM_write : ByteArray := prog_8_method_13_code
abbrev yM_write : MethodName := ⟨"TwinTreesModel", "write", "(I)I"⟩
abbrev sM_write : List Cond := .code yM_write bM_write 3 (some .int) :: aw
abbrev bM_back : ByteArray := prog_8_method_7_code
abbrev yM_back : MethodName := ⟨"TwinTreesModel", "back", "(I)V"⟩
abbrev sM_back : List Cond := .code yM_back bM_back 2 none :: aw
abbrev bM_put : ByteArray := prog_8_method_18_code
abbrev yM_put : MethodName := ⟨"TwinTreesModel", "put", "(IIIIZ)I"⟩
abbrev sM_put : List Cond := .code yM_put bM_put 8 (some .int) :: aw
abbrev bM_find : ByteArray := prog_8_method_15_code
abbrev yM_find : MethodName := ⟨"TwinTreesModel", "find", "(II)I"⟩
abbrev sM_find : List Cond := .code yM_find bM_find 4 (some .int) :: aw
abbrev bM_placeOf : ByteArray := prog_8_method_14_code
abbrev yM_placeOf : MethodName := ⟨"TwinTreesModel", "placeOf", "(II)I"⟩
abbrev sM_placeOf : List Cond := .code yM_placeOf bM_placeOf 4 (some .int) :: aw
abbrev bM_move : ByteArray := prog_8_method_16_code
abbrev yM_move : MethodName := ⟨"TwinTreesModel", "move", "(III)V"⟩
abbrev sM_move : List Cond := .code yM_move bM_move 5 none :: aw
abbrev bM_remove : ByteArray := prog_8_method_19_code
abbrev yM_remove : MethodName := ⟨"TwinTreesModel", "remove", "(II)I"⟩
abbrev sM_remove : List Cond := .code yM_remove bM_remove 5 (some .int) :: aw
abbrev bM_copy : ByteArray := prog_8_method_20_code
abbrev yM_copy : MethodName := ⟨"TwinTreesModel", "copy", "(II)I"⟩
abbrev sM_copy : List Cond := .code yM_copy bM_copy 3 (some .int) :: aw
abbrev bM_get : ByteArray := prog_8_method_21_code
abbrev yM_get : MethodName := ⟨"TwinTreesModel", "get", "(III)J"⟩
abbrev sM_get : List Cond := .code yM_get bM_get 7 (some .long) :: aw
abbrev bM_measure : ByteArray := prog_8_method_22_code
abbrev yM_measure : MethodName := ⟨"TwinTreesModel", "measure", "(II)I"⟩
abbrev sM_measure : List Cond := .code yM_measure bM_measure 3 (some .int) :: aw
abbrev bM_address : ByteArray := prog_8_method_23_code
abbrev yM_address : MethodName := ⟨"TwinTreesModel", "address", "(I)J"⟩
abbrev sM_address : List Cond := .code yM_address bM_address 2 (some .long) :: aw
abbrev bM_addressOf : ByteArray := prog_8_method_10_code
abbrev yM_addressOf : MethodName := ⟨"TwinTreesModel", "addressOf", "(I)J"⟩
abbrev sM_addressOf : List Cond := .code yM_addressOf bM_addressOf 8 (some .long) :: aw
abbrev bM_step : ByteArray := prog_8_method_11_code
abbrev yM_step : MethodName := ⟨"TwinTreesModel", "step", "(JJ)J"⟩
abbrev sM_step : List Cond := .code yM_step bM_step 4 (some .long) :: aw
abbrev bM_row : ByteArray := prog_8_method_24_code
abbrev yM_row : MethodName := ⟨"TwinTreesModel", "row", "(II)J"⟩
abbrev sM_row : List Cond := .code yM_row bM_row 3 (some .long) :: aw
abbrev bM_compare : ByteArray := prog_8_method_25_code
abbrev yM_compare : MethodName := ⟨"TwinTreesModel", "compare", "(II)I"⟩
abbrev sM_compare : List Cond := .code yM_compare bM_compare 10 (some .int) :: aw
abbrev bM_difference : ByteArray := prog_8_method_26_code
abbrev yM_difference : MethodName := ⟨"TwinTreesModel", "difference", "(II)J"⟩
abbrev sM_difference : List Cond := .code yM_difference bM_difference 3 (some .long) :: aw
abbrev bM_sweep : ByteArray := prog_8_method_27_code
abbrev yM_sweep : MethodName := ⟨"TwinTreesModel", "sweep", "()I"⟩
abbrev sM_sweep : List Cond := .code yM_sweep bM_sweep 3 (some .int) :: aw
abbrev bJA_fill : ByteArray := prog_12_method_103_code
abbrev yJA_fill : MethodName := ⟨"java/util/Arrays", "fill", "([II)V"⟩
abbrev sJA_fill : List Cond := .code yJA_fill bJA_fill 4 none :: aw
abbrev bM_count : ByteArray := prog_8_method_28_code
abbrev yM_count : MethodName := ⟨"TwinTreesModel", "count", "(I)I"⟩
abbrev sM_count : List Cond := .code yM_count bM_count 2 (some .int) :: aw
