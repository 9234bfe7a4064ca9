/-! the kinds of cells of the system -/
abbrev nwA : List Cond := [.methodLinkNest "TwinTrees" 21 ⟨"TwinTrees$Store", "<init>", "()V"⟩ "TwinTrees", .methodLinkNest "TwinTrees" 28 ⟨"TwinTrees$Differences", "<init>", "()V"⟩ "TwinTrees", .methodLinkNest "TwinTrees" 35 ⟨"TwinTrees$RowList", "<init>", "()V"⟩ "TwinTrees", .methodLinkNest "TwinTrees$Row" 20 ⟨"TwinTrees", "levelOf", "(I)I"⟩ "TwinTrees", .arrayOver (.object "TwinTrees$Node"), .arrayOver (.object "TwinTrees$Row"), .arrayOver (.array .int), .arrayOver (.array .long), .sameMethod "[I" "java/lang/Object" "clone" "()Ljava/lang/Object;", .castable "[I" "java/lang/Cloneable"]
abbrev tysA (t : Nat → ClassId) : List (ClassId × FieldType) := [(t 0, .int), (t 1, .object "TwinTrees$Row"), (t 2, .object "TwinTrees$Node"), (t 3, .long), (t 4, .array .int), (t 5, .array .long)]
abbrev zz (D : va_G) (t : Nat → ClassId) (A : Nat → Prop) : ZZ := (D, clA, tysA t, nwA, A)
abbrev eI (t : Nat → ClassId) (n : Nat) (f : Nat → Int32) : va_E := .inl (t 0, n, .inl f)
abbrev eL (t : Nat → ClassId) (n : Nat) (f : Nat → Int64) : va_E := .inl (t 3, n, .inr (.inl f))
abbrev eRs (t : Nat → ClassId) (n : Nat) (f : Nat → Option Nat) : va_E := .inl (t 1, n, .inr (.inr (.inr (.inr f))))
abbrev eNs (t : Nat → ClassId) (n : Nat) (f : Nat → Option Nat) : va_E := .inl (t 2, n, .inr (.inr (.inr (.inr f))))
abbrev eTT (w r s d f e l : Nat) (ls : Int32) : va_E := .inr (0, [.ref w, .ref r, .ref s, .ref d, .ref f, .ref e, .ref l, .int ls])
abbrev eDf (k s u : Nat) (n : Int32) : va_E := .inr (1, [.ref k, .ref s, .ref u, .int n])
abbrev eNode (h : Int32) (ra ba : Nat) (rc sz lk ll pr : Int32) (ad : Int64) (ha st : Int32) (nx : Option Nat) : va_E := .inr (2, [.int h, .ref ra, .ref ba, .int rc, .int sz, .int lk, .int ll, .int pr, .long ad, .int ha, .int st, va_rf nx])
abbrev eRow (k : Int32) (c : Nat) (nu lv pr : Int32) : va_E := .inr (3, [.int k, .ref c, .int nu, .int lv, .int pr])
abbrev eRL (b : Nat) (n : Int32) : va_E := .inr (4, [.ref b, .int n])
abbrev eSt (b : Nat) (p : Option Nat) (n s : Int32) : va_E := .inr (5, [.ref b, va_rf p, .int n, .int s])
