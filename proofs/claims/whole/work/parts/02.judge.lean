/-! The ghost heap and the judgement J: a walk's state is a ghost heap g, the cells and slots used, pc, named locals, the stack. -/
def ush (x y : Int32) : Int32 := (x.toUInt32 >>> (y.toUInt32 &&& Int32.toUInt32 31)).toInt32
abbrev GH : Type := List Nat × (Nat → va_E)
abbrev ZZ : Type := va_G × List vw_C × List (ClassId × FieldType) × List Cond × (Nat → Prop)
abbrev CX : Type := Program × Launch × Env × Room × State × MethodId × Array Value × List Frame × Method × Code × (State → Prop)
def gAt (g : GH) (a : Nat) (e : va_E) : Prop := a ∈ g.1 ∧ g.2 a = e
def gUp (g : GH) (a : Nat) (e : va_E) : GH := (g.1, va_up g.2 a e)
def gNew (g : GH) (a : Nat) (e : va_E) : GH := (g.1 ++ [a], va_up g.2 a e)
theorem gAt.eq {g : GH} {a : Nat} {e e' : va_E} (h : gAt g a e) (h' : gAt g a e') : e = e' := h.2.symm.trans h'.2
theorem gAt.ne {g : GH} {a b : Nat} {e e' : va_E} (h : gAt g a e) (h' : gAt g b e') (n : e ≠ e') : a ≠ b := fun q => by subst q; exact n (h.eq h')
theorem gUp_self {g : GH} {a : Nat} {e e' : va_E} (h : gAt g a e) : gAt (gUp g a e') a e' := ⟨h.1, va_up_self _ _ _⟩
theorem gUp_ne {g : GH} {a b : Nat} {e e' : va_E} (h : gAt g b e) (n : b ≠ a) : gAt (gUp g a e') b e := ⟨h.1, (va_up_ne _ _ n).trans h.2⟩
theorem gUp_of {g : GH} {a b : Nat} {e e' : va_E} (h : gAt (gUp g a e') b e) (n : b ≠ a) : gAt g b e := ⟨h.1, (va_up_ne _ _ n).symm.trans h.2⟩
theorem gNew_self {g : GH} {a : Nat} {e : va_E} : gAt (gNew g a e) a e := ⟨List.mem_append_right _ List.mem_cons_self, va_up_self _ _ _⟩
theorem gNew_old {g : GH} {a b : Nat} {e e' : va_E} (h : gAt g b e) (n : a ∉ g.1) : gAt (gNew g a e') b e := ⟨List.mem_append_left _ h.1, (va_up_ne _ _ (fun q : b = a => n (q ▸ h.1))).trans h.2⟩
theorem gNew_of {g : GH} {a b : Nat} {e e' : va_E} (h : gAt (gNew g a e') b e) (n : b ≠ a) : gAt g b e := by
  refine ⟨?_, (va_up_ne _ _ n).symm.trans h.2⟩
  rcases List.mem_append.mp h.1 with q | q
  · exact q
  · exact absurd (List.mem_singleton.mp q) n
theorem gAt.nin {g : GH} {a b : Nat} {e : va_E} (h : gAt g b e) (n : a ∉ g.1) : b ≠ a := fun q => n (q ▸ h.1)
theorem gUp_up {g : GH} {a : Nat} {e e' : va_E} : gUp (gUp g a e) a e' = gUp g a e' := by
  simp only [gUp, bx_uu]
theorem gNew_up {g : GH} {a : Nat} {e e' : va_E} : gUp (gNew g a e) a e' = gNew g a e' := by
  simp only [gUp, gNew, bx_uu]
theorem gUp_id {g : GH} {a : Nat} {e : va_E} (h : gAt g a e) : gUp g a e = g := by
  obtain ⟨L, f⟩ := g
  simp only [gUp]
  congr 1
  funext j
  by_cases q : j = a
  · subst q
    rw [va_up_self]
    exact h.2.symm
  · exact va_up_ne _ _ q
def zA (Z : ZZ) : Nat → Prop := Z.2.2.2.2
/-- words that no word list carries: they hold, and go on holding -/
def zN (Z : ZZ) (U : State) : Prop := ∀ w ∈ Z.2.2.2.1, (∀ (A : Array Value) (u V : State), u.vm = V.vm → va_Nw w u → w.before A V = true) ∧ (∀ s V : State, s.WarmedH V.vm → va_Nw w s → va_Nw w V) ∧ va_Nw w U
theorem zN.warm {Z : ZZ} {s U : State} (h : zN Z s) (hW : s.WarmedH U.vm) : zN Z U := fun w hw => ⟨(h w hw).1, (h w hw).2.1, (h w hw).2.1 s U hW (h w hw).2.2⟩
def gW (Z : ZZ) (g : GH) (H : Heap) : Prop := va_P Z.1 Z.2.1 (va_pl g.1 g.2) H ∧ va_D (zA Z) (va_pl g.1 g.2)
def gB (Z : ZZ) (g : GH) (U : State) : Prop := gW Z g U.heap ∧ va_K Z.1 Z.2.1 Z.2.2.1 U ∧ (∀ q : Nat, U.heap.size ≤ q → zA Z q) ∧ zN Z U
theorem gB.blind {Z : ZZ} {g : GH} {a : Array Value} {U : State} {fr : JFrame} {mk : MethodId} (h : gB Z g U) : gB Z g (U.calling fr mk a) :=
  ⟨h.1, va_K.moved (u := U) (U := U.calling fr mk a) (Vm.Alike.refl U.vm) h.2.1, h.2.2.1, fun w hw => ⟨(h.2.2.2 w hw).1, (h.2.2.2 w hw).2.1, (h.2.2.2 w hw).1 #[] U _ rfl (h.2.2.2 w hw).2.2⟩⟩
def jQ (Z : ZZ) (post : Option Value → GH → Prop) : Array Value → State → Outcome → State → Prop := fun _ st oc t => (∃ (v : Option Value) (g' : GH), oc = .returned v ∧ post v g' ∧ gW Z g' t.heap) ∧ va_F (zA Z) st t
/-- a method's contract at these arguments and this ghost heap -/
def Ct (l : Launch) (y : MethodName) (ws : List Cond) (rm : Room) (Z : ZZ) (av : List Value) (g : GH) (mc ms : Nat) (post : Option Value → GH → Prop) : Prop := Met l y ws rm (va_Pc av (gB Z g)) (jQ Z post) mc ms (zA Z)
def J (X : CX) (nL : Nat) (Z : ZZ) (g : GH) (k n pc : Nat) (lv : List (Nat × Value)) (st : List Value) : Prop :=
  ∀ (H : Heap) (locs : List Loc) (ls : Array Slot), gW Z g H → va_S (zA Z) X.2.2.2.2.1.heap H locs → lv_has ls nL lv → W X.1 X.2.1 X.2.2.1 X.2.2.2.1 X.2.2.2.2.1 X.2.2.2.2.2.1 X.2.2.2.2.2.2.1 X.2.2.2.2.2.2.2.1 X.2.2.2.2.2.2.2.2.1 X.2.2.2.2.2.2.2.2.2.1 H locs k n X.2.2.2.2.2.2.2.2.2.2 (F0 X.2.2.2.2.2.1 pc ls st)
/-- the walk's surroundings: machine, code, tables' words, classes, room -/
def Ok (X : CX) (cc : ByteArray) (nL : Nat) (own : String) (Z : ZZ) (rm : Room) : Prop :=
  CallFix X.1 X.2.2.2.2.2.1 X.2.2.2.2.2.2.2.2.2.1 cc nL X.2.2.2.2.1 X.2.2.2.2.2.2.1 aw own ∧ va_K Z.1 Z.2.1 Z.2.2.1 X.2.2.2.2.1 ∧ (∀ q : Nat, X.2.2.2.2.1.heap.size ≤ q → zA Z q) ∧ X.2.2.2.1 = rm ∧ zN Z X.2.2.2.2.1
/-- the walk is that of a method with a contract -/
def Om (X : CX) (Z : ZZ) (ret : Option FieldType) (mc ms : Nat) (post : Option Value → GH → Prop) : Prop :=
  X.2.2.2.2.2.2.2.2.1.sig.returnType = ret ∧ X.2.2.2.2.2.2.2.2.1.locks = false ∧ X.2.2.2.2.2.2.2.2.2.2 = MQ X.2.2.2.2.2.2.2.1 (jQ Z post) X.2.2.2.2.2.2.1 X.2.2.2.2.1 mc ms (zA Z)
/-- a constructor: its name -/
def On (X : CX) : Prop := X.2.2.2.2.2.2.2.2.1.name = "<init>"
def jg : List (Nat × Value) → Nat → Option Value
  | [], _ => none
  | q :: r, i => bif Nat.beq q.1 i then some q.2 else jg r i
theorem jg_in : ∀ (lv : List (Nat × Value)) (i : Nat) (v : Value), jg lv i = some v → (i, v) ∈ lv
  | [], _, _, h => by cases h
  | (j, w) :: r, i, v, h => by
    simp only [jg] at h
    cases hb : Nat.beq j i with
    | true =>
      rw [hb, cond_true] at h
      cases h
      rw [Nat.eq_of_beq_eq_true hb]
      exact List.mem_cons_self
    | false =>
      rw [hb, cond_false] at h
      exact List.mem_cons_of_mem _ (jg_in r i v h)
theorem jg_at {ls : Array Slot} {nL : Nat} {lv : List (Nat × Value)} {i : Nat} {v : Value} (h : lv_has ls nL lv) (hv : jg lv i = some v) : ls[i]? = some (.val v) := h.2.2 (i, v) (jg_in lv i v hv)
def jlv1 (lv : List (Nat × Value)) (i : Nat) (v : Value) : List (Nat × Value) := (i, v) :: lv.filter (fun q => !(q.1 == i) && !(q.1 + 1 == i && q.2.category == 2))
def jlv2 (lv : List (Nat × Value)) (i : Nat) (v : Value) : List (Nat × Value) := (i, v) :: lv.filter (fun q => !(q.1 == i) && (!(q.1 == i + 1) && !(q.1 + 1 == i && q.2.category == 2)))
theorem gAt.k {g : GH} {a : Nat} {e : va_E} (h : gAt g a e) : ∃ k : Nat, (va_pl g.1 g.2)[k]? = some (a, e) := by
  obtain ⟨k, hk⟩ := va_pl_get (X := []) (f := g.2) h.1
  rw [h.2] at hk
  exact ⟨k, hk⟩
theorem gSet {Z : ZZ} {g : GH} {a k : Nat} {e e' : va_E} (hD : va_D (zA Z) (va_pl g.1 g.2)) (h : gAt g a e) (hk : (va_pl g.1 g.2)[k]? = some (a, e)) : (va_pl g.1 g.2).set k (a, e') = va_pl (gUp g a e').1 (gUp g a e').2 := by
  have hk' : ([] ++ va_pl g.1 g.2)[k]? = some (a, g.2 a) := by rw [h.2]; exact hk
  exact va_pl_set (X := []) (e := e') hD h.1 hk'
theorem gPush {Z : ZZ} {g : GH} {a : Nat} {e : va_E} (hD : va_D (zA Z) (va_pl g.1 g.2 ++ [(a, e)])) : a ∉ g.1 := by
  intro h
  obtain ⟨k, hk⟩ := (gAt.k (g := g) ⟨h, rfl⟩)
  have hl := (List.getElem?_eq_some_iff.mp hk).1
  have h1 : (va_pl g.1 g.2 ++ [(a, e)])[k]? = some (a, g.2 a) := by rw [List.getElem?_append_left hl]; exact hk
  have h2 : (va_pl g.1 g.2 ++ [(a, e)])[(va_pl g.1 g.2).length]? = some (a, e) := by simp
  have := hD.1 _ _ _ _ h1 h2 rfl
  omega
theorem gWc {c : Cond} (h : c ∈ aw) : GoodIn aw (c :: aw) := fun w hw => (List.mem_cons.mp hw).elim (fun e => by rw [e]; exact aw_all c h) (aw_all w)
theorem gWs {own : String} {index : Nat} {y : MethodName} {c : Cond} (h1 : Cond.methodLink own index y ∈ aw) (h2 : Cond.static y ∈ aw) (h3 : Cond.initialized y.cls ∈ aw) (h4 : c ∈ aw) : GoodIn aw (va_wsS own index y (c :: aw)) := by
  intro w hw
  unfold va_wsS at hw
  rcases List.mem_append.mp hw with q | q
  · simp only [List.mem_cons, List.not_mem_nil, or_false] at q
    rcases q with q | q | q <;> subst q
    · exact aw_all _ h1
    · exact aw_all _ h2
    · exact aw_all _ h3
  · exact gWc h4 w q
theorem gWv {own : String} {index : Nat} {C : String} {y : MethodName} {c : Cond} (h1 : Cond.methodLink own index y ∈ aw) (h2 : Cond.instanceMethod y ∈ aw) (h3 : Cond.selects C y y ∈ aw) (h5 : Cond.initialized C ∈ aw) (h4 : c ∈ aw) : GoodIn aw (wsV own index C y (c :: aw)) := by
  intro w hw
  unfold wsV at hw
  rcases List.mem_append.mp hw with q | q
  · simp only [List.mem_cons, List.not_mem_nil, or_false] at q
    rcases q with q | q | q | q <;> subst q
    · exact aw_all _ h1
    · exact aw_all _ h2
    · exact aw_all _ h3
    · exact aw_all _ h5
  · exact gWc h4 w q
section JR
variable {X : CX} {cc : ByteArray} {nL : Nat} {own : String} {Z : ZZ} {rm : Room} {g : GH} {k n pc : Nat} {lv : List (Nat × Value)} {st : List Value}
theorem Ok.b (O : Ok X cc nL own Z rm) {w : Cond} (h : w ∈ aw) : w.before X.2.2.2.2.2.2.1 X.2.2.2.2.1 = true := O.1.2.2.2.2 w h
theorem Ok.A (O : Ok X cc nL own Z rm) : ∀ q : Nat, X.2.2.2.2.1.heap.size ≤ q → zA Z q := O.2.2.1
theorem J.widen {k' n' : Nat} (h1 : k ≤ k') (h2 : n ≤ n') (kk : J X nL Z g k' n' pc lv st) : J X nL Z g k n pc lv st := fun H locs ls a b c => W.widen h1 h2 (kk H locs ls a b c)
theorem J.sublv {lv' : List (Nat × Value)} (h : ∀ q ∈ lv', q ∈ lv) (kk : J X nL Z g k n pc lv' st) : J X nL Z g k n pc lv st := fun H locs ls a b c => kk H locs ls a b ⟨c.1, c.2.1, fun q hq => c.2.2 q (h q hq)⟩
theorem J.pk (ks : List Nat) {lv' : List (Nat × Value)} (h : lv_pick lv ks = lv') (kk : J X nL Z g k n pc lv' st) : J X nL Z g k n pc lv st := fun H locs ls a b c => kk H locs ls a b (lv_sub c ks h)
theorem J.geq {g' : GH} (h : g = g') (kk : J X nL Z g' k n pc lv st) : J X nL Z g k n pc lv st := h ▸ kk
theorem J.steq {st' : List Value} (h : st = st') (kk : J X nL Z g k n pc lv st') : J X nL Z g k n pc lv st := h ▸ kk
theorem j_iconst (O : Ok X cc nL own Z rm) {i : Int} {v : Int32} (d : decode cc pc = .ok (.iconst i, 1)) (hv : Int32.ofInt i = v) (kk : J X nL Z g k n (pc + 1) lv (.int v :: st)) : J X nL Z g k n (pc) lv (st) := fun H locs ls a b h => lv_iconst O.1.1 O.1.2.1 d hv (kk H locs ls a b h)
theorem j_bipush (O : Ok X cc nL own Z rm) {i : Int} {v : Int32} (d : decode cc pc = .ok (.bipush i, 2)) (hv : (Int8.ofInt i).toInt32 = v) (kk : J X nL Z g k n (pc + 2) lv (.int v :: st)) : J X nL Z g k n (pc) lv (st) := fun H locs ls a b h => lv_bipush O.1.1 O.1.2.1 d hv (kk H locs ls a b h)
theorem j_sipush (O : Ok X cc nL own Z rm) {i : Int} {v : Int32} (d : decode cc pc = .ok (.sipush i, 3)) (hv : (Int16.ofInt i).toInt32 = v) (kk : J X nL Z g k n (pc + 3) lv (.int v :: st)) : J X nL Z g k n (pc) lv (st) := fun H locs ls a b h => lv_sipush O.1.1 O.1.2.1 d hv (kk H locs ls a b h)
theorem j_lconst (O : Ok X cc nL own Z rm) {i : Fin 2} {v : Int64} (d : decode cc pc = .ok (.lconst i, 1)) (hv : Int64.ofNat (i : Nat) = v) (kk : J X nL Z g k n (pc + 1) lv (.long v :: st)) : J X nL Z g k n (pc) lv (st) := fun H locs ls a b h => lv_lconst O.1.1 O.1.2.1 d hv (kk H locs ls a b h)
theorem j_null (O : Ok X cc nL own Z rm)  (d : decode cc pc = .ok (.aconst_null, 1)) (kk : J X nL Z g k n (pc + 1) lv (.null :: st)) : J X nL Z g k n (pc) lv (st) := fun H locs ls a b h => lv_null O.1.1 O.1.2.1 d (kk H locs ls a b h)
theorem j_ldc (O : Ok X cc nL own Z rm) {i : Nat} (v : Int32) (hc : Cond.constant own i v ∈ aw) (d : decode cc pc = .ok (.ldc i, 2)) (kk : J X nL Z g k n (pc + 2) lv (.int v :: st)) : J X nL Z g k n (pc) lv (st) := fun H locs ls a b h => lv_ldc O.1.1 O.1.2.1 O.1.2.2.2.1 (O.b hc) d (kk H locs ls a b h)
theorem j_ldcw (O : Ok X cc nL own Z rm) {i : Nat} (v : Int32) (hc : Cond.constant own i v ∈ aw) (d : decode cc pc = .ok (.ldc_w i, 3)) (kk : J X nL Z g k n (pc + 3) lv (.int v :: st)) : J X nL Z g k n (pc) lv (st) := fun H locs ls a b h => lv_ldcw O.1.1 O.1.2.1 O.1.2.2.2.1 (O.b hc) d (kk H locs ls a b h)
theorem j_ldc2 (O : Ok X cc nL own Z rm) {i : Nat} (v : Int64) (hc : Cond.constantLong own i v ∈ aw) (d : decode cc pc = .ok (.ldc2_w i, 3)) (kk : J X nL Z g k n (pc + 3) lv (.long v :: st)) : J X nL Z g k n (pc) lv (st) := fun H locs ls a b h => lv_ldc2 O.1.1 O.1.2.1 O.1.2.2.2.1 (O.b hc) d (kk H locs ls a b h)
theorem j_iload_n (O : Ok X cc nL own Z rm) {f : Fin 4} (i : Nat) {x : Int32} (d : decode cc pc = .ok (.iload_n f, 1)) (hi : (f : Nat) = i) (hv : jg lv i = some (.int x)) (kk : J X nL Z g k n (pc + 1) lv (.int x :: st)) : J X nL Z g k n (pc) lv (st) := fun H locs ls a b h => lv_iload_n O.1.1 O.1.2.1 d hi (jg_at h hv) (kk H locs ls a b h)
theorem j_iload (O : Ok X cc nL own Z rm) {i : Nat} {x : Int32} (d : decode cc pc = .ok (.iload i, 2)) (hv : jg lv i = some (.int x)) (kk : J X nL Z g k n (pc + 2) lv (.int x :: st)) : J X nL Z g k n (pc) lv (st) := fun H locs ls a b h => lv_iload O.1.1 O.1.2.1 d (jg_at h hv) (kk H locs ls a b h)
theorem j_lload_n (O : Ok X cc nL own Z rm) {f : Fin 4} (i : Nat) {x : Int64} (d : decode cc pc = .ok (.lload_n f, 1)) (hi : (f : Nat) = i) (hv : jg lv i = some (.long x)) (kk : J X nL Z g k n (pc + 1) lv (.long x :: st)) : J X nL Z g k n (pc) lv (st) := fun H locs ls a b h => lv_lload_n O.1.1 O.1.2.1 d hi (jg_at h hv) (kk H locs ls a b h)
theorem j_lload (O : Ok X cc nL own Z rm) {i : Nat} {x : Int64} (d : decode cc pc = .ok (.lload i, 2)) (hv : jg lv i = some (.long x)) (kk : J X nL Z g k n (pc + 2) lv (.long x :: st)) : J X nL Z g k n (pc) lv (st) := fun H locs ls a b h => lv_lload O.1.1 O.1.2.1 d (jg_at h hv) (kk H locs ls a b h)
theorem j_aload_n (O : Ok X cc nL own Z rm) {f : Fin 4} (i : Nat) {x : Nat} (d : decode cc pc = .ok (.aload_n f, 1)) (hi : (f : Nat) = i) (hv : jg lv i = some (.ref x)) (kk : J X nL Z g k n (pc + 1) lv (.ref x :: st)) : J X nL Z g k n (pc) lv (st) := fun H locs ls a b h => lv_aload_n O.1.1 O.1.2.1 d hi (jg_at h hv) (kk H locs ls a b h)
theorem j_aload (O : Ok X cc nL own Z rm) {i : Nat} {x : Nat} (d : decode cc pc = .ok (.aload i, 2)) (hv : jg lv i = some (.ref x)) (kk : J X nL Z g k n (pc + 2) lv (.ref x :: st)) : J X nL Z g k n (pc) lv (st) := fun H locs ls a b h => lv_aload O.1.1 O.1.2.1 d (jg_at h hv) (kk H locs ls a b h)
theorem j_aload_nN (O : Ok X cc nL own Z rm) {f : Fin 4} (i : Nat) (d : decode cc pc = .ok (.aload_n f, 1)) (hi : (f : Nat) = i) (hv : jg lv i = some .null) (kk : J X nL Z g k n (pc + 1) lv (.null :: st)) : J X nL Z g k n (pc) lv (st) := fun H locs ls a b h => lv_aload_nN O.1.1 O.1.2.1 d hi (jg_at h hv) (kk H locs ls a b h)
theorem j_aloadN (O : Ok X cc nL own Z rm) {i : Nat} (d : decode cc pc = .ok (.aload i, 2)) (hv : jg lv i = some .null) (kk : J X nL Z g k n (pc + 2) lv (.null :: st)) : J X nL Z g k n (pc) lv (st) := fun H locs ls a b h => lv_aloadN O.1.1 O.1.2.1 d (jg_at h hv) (kk H locs ls a b h)
theorem j_aload_nO (O : Ok X cc nL own Z rm) {f : Fin 4} (i : Nat) {o : Option Nat} (d : decode cc pc = .ok (.aload_n f, 1)) (hi : (f : Nat) = i) (hv : jg lv i = some (va_rf o)) (kk : J X nL Z g k n (pc + 1) lv (va_rf o :: st)) : J X nL Z g k n (pc) lv (st) := by
  cases o with
  | none => exact j_aload_nN O i d hi hv kk
  | some x => exact j_aload_n O i d hi hv kk
theorem j_aloadO (O : Ok X cc nL own Z rm) {i : Nat} {o : Option Nat} (d : decode cc pc = .ok (.aload i, 2)) (hv : jg lv i = some (va_rf o)) (kk : J X nL Z g k n (pc + 2) lv (va_rf o :: st)) : J X nL Z g k n (pc) lv (st) := by
  cases o with
  | none => exact j_aloadN O d hv kk
  | some x => exact j_aload O d hv kk
theorem j_istore_n (O : Ok X cc nL own Z rm) {f : Fin 4} (i : Nat) {x : Int32} (lw : List (Nat × Value)) (d : decode cc pc = .ok (.istore_n f, 1)) (hi : (f : Nat) = i) (hn : i < nL) (hl : jlv1 lv i (.int x) = lw) (kk : J X nL Z g k n (pc + 1) lw (st)) : J X nL Z g k n (pc) lv (.int x :: st) := fun H locs ls a b h => lv_istore_n O.1.1 O.1.2.1 d hi h hn hl (fun ls2 h2 => kk H locs ls2 a b h2)
theorem j_istore (O : Ok X cc nL own Z rm) {i : Nat} {x : Int32} (lw : List (Nat × Value)) (d : decode cc pc = .ok (.istore i, 2)) (hn : i < nL) (hl : jlv1 lv i (.int x) = lw) (kk : J X nL Z g k n (pc + 2) lw (st)) : J X nL Z g k n (pc) lv (.int x :: st) := fun H locs ls a b h => lv_istore O.1.1 O.1.2.1 d h hn hl (fun ls2 h2 => kk H locs ls2 a b h2)
theorem j_lstore_n (O : Ok X cc nL own Z rm) {f : Fin 4} (i : Nat) {x : Int64} (lw : List (Nat × Value)) (d : decode cc pc = .ok (.lstore_n f, 1)) (hi : (f : Nat) = i) (hn : i + 1 < nL) (hl : jlv2 lv i (.long x) = lw) (kk : J X nL Z g k n (pc + 1) lw (st)) : J X nL Z g k n (pc) lv (.long x :: st) := fun H locs ls a b h => lv_lstore_n O.1.1 O.1.2.1 d hi h hn hl (fun ls2 h2 => kk H locs ls2 a b h2)
theorem j_lstore (O : Ok X cc nL own Z rm) {i : Nat} {x : Int64} (lw : List (Nat × Value)) (d : decode cc pc = .ok (.lstore i, 2)) (hn : i + 1 < nL) (hl : jlv2 lv i (.long x) = lw) (kk : J X nL Z g k n (pc + 2) lw (st)) : J X nL Z g k n (pc) lv (.long x :: st) := fun H locs ls a b h => lv_lstore O.1.1 O.1.2.1 d h hn hl (fun ls2 h2 => kk H locs ls2 a b h2)
theorem j_astore_n (O : Ok X cc nL own Z rm) {f : Fin 4} (i : Nat) {x : Nat} (lw : List (Nat × Value)) (d : decode cc pc = .ok (.astore_n f, 1)) (hi : (f : Nat) = i) (hn : i < nL) (hl : jlv1 lv i (.ref x) = lw) (kk : J X nL Z g k n (pc + 1) lw (st)) : J X nL Z g k n (pc) lv (.ref x :: st) := fun H locs ls a b h => lv_astore_n O.1.1 O.1.2.1 d hi h hn hl (fun ls2 h2 => kk H locs ls2 a b h2)
theorem j_astore (O : Ok X cc nL own Z rm) {i : Nat} {x : Nat} (lw : List (Nat × Value)) (d : decode cc pc = .ok (.astore i, 2)) (hn : i < nL) (hl : jlv1 lv i (.ref x) = lw) (kk : J X nL Z g k n (pc + 2) lw (st)) : J X nL Z g k n (pc) lv (.ref x :: st) := fun H locs ls a b h => lv_astore O.1.1 O.1.2.1 d h hn hl (fun ls2 h2 => kk H locs ls2 a b h2)
theorem j_astore_nN (O : Ok X cc nL own Z rm) {f : Fin 4} (i : Nat) (lw : List (Nat × Value)) (d : decode cc pc = .ok (.astore_n f, 1)) (hi : (f : Nat) = i) (hn : i < nL) (hl : jlv1 lv i .null = lw) (kk : J X nL Z g k n (pc + 1) lw (st)) : J X nL Z g k n (pc) lv (.null :: st) := fun H locs ls a b h => lv_astore_nN O.1.1 O.1.2.1 d hi h hn hl (fun ls2 h2 => kk H locs ls2 a b h2)
theorem j_astoreN (O : Ok X cc nL own Z rm) {i : Nat} (lw : List (Nat × Value)) (d : decode cc pc = .ok (.astore i, 2)) (hn : i < nL) (hl : jlv1 lv i .null = lw) (kk : J X nL Z g k n (pc + 2) lw (st)) : J X nL Z g k n (pc) lv (.null :: st) := fun H locs ls a b h => lv_astoreN O.1.1 O.1.2.1 d h hn hl (fun ls2 h2 => kk H locs ls2 a b h2)
theorem j_astore_nO (O : Ok X cc nL own Z rm) {f : Fin 4} (i : Nat) {o : Option Nat} (lw : List (Nat × Value)) (d : decode cc pc = .ok (.astore_n f, 1)) (hi : (f : Nat) = i) (hn : i < nL) (hl : jlv1 lv i (va_rf o) = lw) (kk : J X nL Z g k n (pc + 1) lw (st)) : J X nL Z g k n (pc) lv (va_rf o :: st) := by
  cases o with
  | none => exact j_astore_nN O i lw d hi hn hl kk
  | some x => exact j_astore_n O i lw d hi hn hl kk
theorem j_astoreO (O : Ok X cc nL own Z rm) {i : Nat} {o : Option Nat} (lw : List (Nat × Value)) (d : decode cc pc = .ok (.astore i, 2)) (hn : i < nL) (hl : jlv1 lv i (va_rf o) = lw) (kk : J X nL Z g k n (pc + 2) lw (st)) : J X nL Z g k n (pc) lv (va_rf o :: st) := by
  cases o with
  | none => exact j_astoreN O lw d hn hl kk
  | some x => exact j_astore O lw d hn hl kk
theorem j_iinc (O : Ok X cc nL own Z rm) {i : Nat} {z : Int} {x : Int32} (v : Int32) (lw : List (Nat × Value)) (d : decode cc pc = .ok (.iinc i z, 3)) (hx : jg lv i = some (.int x)) (hv : x + Int32.ofInt z = v) (hn : i < nL) (hl : jlv1 lv i (.int v) = lw) (kk : J X nL Z g k n (pc + 3) lw (st)) : J X nL Z g k n (pc) lv (st) := by
  intro H locs ls a b h
  obtain ⟨q, hq⟩ := List.getElem?_of_mem (jg_in lv i _ hx)
  exact lv_iinc O.1.1 O.1.2.1 d h hq hv hn hl (fun ls2 h2 => kk H locs ls2 a b h2)
theorem j_iadd (O : Ok X cc nL own Z rm) {x y : Int32} (d : decode cc pc = .ok (.iadd, 1)) (kk : J X nL Z g k n (pc + 1) lv (.int (x + y) :: st)) : J X nL Z g k n (pc) lv (.int y :: .int x :: st) := fun H locs ls a b h => lv_iadd O.1.1 O.1.2.1 d (kk H locs ls a b h)
theorem j_isub (O : Ok X cc nL own Z rm) {x y : Int32} (d : decode cc pc = .ok (.isub, 1)) (kk : J X nL Z g k n (pc + 1) lv (.int (x - y) :: st)) : J X nL Z g k n (pc) lv (.int y :: .int x :: st) := fun H locs ls a b h => lv_isub O.1.1 O.1.2.1 d (kk H locs ls a b h)
theorem j_imul (O : Ok X cc nL own Z rm) {x y : Int32} (d : decode cc pc = .ok (.imul, 1)) (kk : J X nL Z g k n (pc + 1) lv (.int (x * y) :: st)) : J X nL Z g k n (pc) lv (.int y :: .int x :: st) := fun H locs ls a b h => lv_imul O.1.1 O.1.2.1 d (kk H locs ls a b h)
theorem j_iand (O : Ok X cc nL own Z rm) {x y : Int32} (d : decode cc pc = .ok (.iand, 1)) (kk : J X nL Z g k n (pc + 1) lv (.int (x &&& y) :: st)) : J X nL Z g k n (pc) lv (.int y :: .int x :: st) := fun H locs ls a b h => lv_iand O.1.1 O.1.2.1 d (kk H locs ls a b h)
theorem j_ior (O : Ok X cc nL own Z rm) {x y : Int32} (d : decode cc pc = .ok (.ior, 1)) (kk : J X nL Z g k n (pc + 1) lv (.int (x ||| y) :: st)) : J X nL Z g k n (pc) lv (.int y :: .int x :: st) := fun H locs ls a b h => lv_ior O.1.1 O.1.2.1 d (kk H locs ls a b h)
theorem j_ixor (O : Ok X cc nL own Z rm) {x y : Int32} (d : decode cc pc = .ok (.ixor, 1)) (kk : J X nL Z g k n (pc + 1) lv (.int (x ^^^ y) :: st)) : J X nL Z g k n (pc) lv (.int y :: .int x :: st) := fun H locs ls a b h => lv_ixor O.1.1 O.1.2.1 d (kk H locs ls a b h)
theorem j_ishl (O : Ok X cc nL own Z rm) {x y : Int32} (d : decode cc pc = .ok (.ishl, 1)) (kk : J X nL Z g k n (pc + 1) lv (.int (x <<< (y &&& 31)) :: st)) : J X nL Z g k n (pc) lv (.int y :: .int x :: st) := fun H locs ls a b h => lv_ishl O.1.1 O.1.2.1 d (kk H locs ls a b h)
theorem j_ishr (O : Ok X cc nL own Z rm) {x y : Int32} (d : decode cc pc = .ok (.ishr, 1)) (kk : J X nL Z g k n (pc + 1) lv (.int (x >>> (y &&& 31)) :: st)) : J X nL Z g k n (pc) lv (.int y :: .int x :: st) := fun H locs ls a b h => lv_ishr O.1.1 O.1.2.1 d (kk H locs ls a b h)
theorem j_ladd (O : Ok X cc nL own Z rm) {x y : Int64} (d : decode cc pc = .ok (.ladd, 1)) (kk : J X nL Z g k n (pc + 1) lv (.long (x + y) :: st)) : J X nL Z g k n (pc) lv (.long y :: .long x :: st) := fun H locs ls a b h => lv_ladd O.1.1 O.1.2.1 d (kk H locs ls a b h)
theorem j_lsub (O : Ok X cc nL own Z rm) {x y : Int64} (d : decode cc pc = .ok (.lsub, 1)) (kk : J X nL Z g k n (pc + 1) lv (.long (x - y) :: st)) : J X nL Z g k n (pc) lv (.long y :: .long x :: st) := fun H locs ls a b h => lv_lsub O.1.1 O.1.2.1 d (kk H locs ls a b h)
theorem j_lmul (O : Ok X cc nL own Z rm) {x y : Int64} (d : decode cc pc = .ok (.lmul, 1)) (kk : J X nL Z g k n (pc + 1) lv (.long (x * y) :: st)) : J X nL Z g k n (pc) lv (.long y :: .long x :: st) := fun H locs ls a b h => lv_lmul O.1.1 O.1.2.1 d (kk H locs ls a b h)
theorem j_land (O : Ok X cc nL own Z rm) {x y : Int64} (d : decode cc pc = .ok (.land, 1)) (kk : J X nL Z g k n (pc + 1) lv (.long (x &&& y) :: st)) : J X nL Z g k n (pc) lv (.long y :: .long x :: st) := fun H locs ls a b h => lv_land O.1.1 O.1.2.1 d (kk H locs ls a b h)
theorem j_lor (O : Ok X cc nL own Z rm) {x y : Int64} (d : decode cc pc = .ok (.lor, 1)) (kk : J X nL Z g k n (pc + 1) lv (.long (x ||| y) :: st)) : J X nL Z g k n (pc) lv (.long y :: .long x :: st) := fun H locs ls a b h => lv_lor O.1.1 O.1.2.1 d (kk H locs ls a b h)
theorem j_lxor (O : Ok X cc nL own Z rm) {x y : Int64} (d : decode cc pc = .ok (.lxor, 1)) (kk : J X nL Z g k n (pc + 1) lv (.long (x ^^^ y) :: st)) : J X nL Z g k n (pc) lv (.long y :: .long x :: st) := fun H locs ls a b h => lv_lxor O.1.1 O.1.2.1 d (kk H locs ls a b h)
theorem j_ineg (O : Ok X cc nL own Z rm) {x : Int32} (d : decode cc pc = .ok (.ineg, 1)) (kk : J X nL Z g k n (pc + 1) lv (.int (-x) :: st)) : J X nL Z g k n (pc) lv (.int x :: st) := fun H locs ls a b h => lv_ineg O.1.1 O.1.2.1 d (kk H locs ls a b h)
theorem j_iushr (O : Ok X cc nL own Z rm) {x y : Int32} (d : decode cc pc = .ok (.iushr, 1)) (kk : J X nL Z g k n (pc + 1) lv (.int (ush x y) :: st)) : J X nL Z g k n (pc) lv (.int y :: .int x :: st) := fun H locs ls a b h => lv_iushr O.1.1 O.1.2.1 d rfl (kk H locs ls a b h)
theorem j_lushr (O : Ok X cc nL own Z rm) {x : Int64} {y : Int32} (d : decode cc pc = .ok (.lushr, 1)) (kk : J X nL Z g k n (pc + 1) lv (.long ((x.toUInt64 >>> (y.toInt64.toUInt64 &&& Int64.toUInt64 63)).toInt64) :: st)) : J X nL Z g k n (pc) lv (.int y :: .long x :: st) := fun H locs ls a b h => lv_lushr O.1.1 O.1.2.1 d rfl (kk H locs ls a b h)
theorem j_lshl (O : Ok X cc nL own Z rm) {x : Int64} {y : Int32} (d : decode cc pc = .ok (.lshl, 1)) (kk : J X nL Z g k n (pc + 1) lv (.long (x <<< (y.toInt64 &&& 63)) :: st)) : J X nL Z g k n (pc) lv (.int y :: .long x :: st) := fun H locs ls a b h => lv_lshl O.1.1 O.1.2.1 d rfl (kk H locs ls a b h)
theorem j_i2l (O : Ok X cc nL own Z rm) {x : Int32} (d : decode cc pc = .ok (.i2l, 1)) (kk : J X nL Z g k n (pc + 1) lv (.long x.toInt64 :: st)) : J X nL Z g k n (pc) lv (.int x :: st) := fun H locs ls a b h => lv_i2l O.1.1 O.1.2.1 d rfl (kk H locs ls a b h)
theorem j_l2i (O : Ok X cc nL own Z rm) {x : Int64} (d : decode cc pc = .ok (.l2i, 1)) (kk : J X nL Z g k n (pc + 1) lv (.int x.toInt32 :: st)) : J X nL Z g k n (pc) lv (.long x :: st) := fun H locs ls a b h => lv_l2i O.1.1 O.1.2.1 d rfl (kk H locs ls a b h)
theorem j_lcmp (O : Ok X cc nL own Z rm) {x y : Int64} (d : decode cc pc = .ok (.lcmp, 1)) (kk : J X nL Z g k n (pc + 1) lv (.int (lg_cmp x y) :: st)) : J X nL Z g k n (pc) lv (.long y :: .long x :: st) := fun H locs ls a b h => W.lcmp O.1.1 O.1.2.1 d (kk H locs ls a b h)
theorem j_dup (O : Ok X cc nL own Z rm) {va : Value} (d : decode cc pc = .ok (.dup, 1)) (h1 : va.category = 1) (kk : J X nL Z g k n (pc + 1) lv (va :: va :: st)) : J X nL Z g k n (pc) lv (va :: st) := fun H locs ls a b h => lv_dup O.1.1 O.1.2.1 d h1 (kk H locs ls a b h)
theorem j_pop (O : Ok X cc nL own Z rm) {va : Value} (d : decode cc pc = .ok (.pop, 1)) (h1 : va.category = 1) (kk : J X nL Z g k n (pc + 1) lv (st)) : J X nL Z g k n (pc) lv (va :: st) := fun H locs ls a b h => lv_pop O.1.1 O.1.2.1 d h1 (kk H locs ls a b h)
theorem j_pop2 (O : Ok X cc nL own Z rm) {va : Value} (d : decode cc pc = .ok (.pop2, 1)) (h1 : va.category = 2) (kk : J X nL Z g k n (pc + 1) lv (st)) : J X nL Z g k n (pc) lv (va :: st) := fun H locs ls a b h => lv_pop2_2 O.1.1 O.1.2.1 d h1 (kk H locs ls a b h)
theorem j_dup_x1 (O : Ok X cc nL own Z rm) {va vb : Value} (d : decode cc pc = .ok (.dup_x1, 1)) (h1 : va.category = 1) (h2 : vb.category = 1) (kk : J X nL Z g k n (pc + 1) lv (va :: vb :: va :: st)) : J X nL Z g k n (pc) lv (va :: vb :: st) := fun H locs ls a b h => lv_dup_x1 O.1.1 O.1.2.1 d h1 h2 (kk H locs ls a b h)
theorem j_dup2 (O : Ok X cc nL own Z rm) {va vb : Value} (d : decode cc pc = .ok (.dup2, 1)) (h1 : va.category = 1) (h2 : vb.category = 1) (kk : J X nL Z g k n (pc + 1) lv (va :: vb :: va :: vb :: st)) : J X nL Z g k n (pc) lv (va :: vb :: st) := fun H locs ls a b h => lv_dup2_11 O.1.1 O.1.2.1 d h1 h2 (kk H locs ls a b h)
theorem j_if_eq (O : Ok X cc nL own Z rm) {x : Int32} {off : Int} (tgt : Nat) (d : decode cc pc = .ok (.ifCond .eq off, 3)) (ht : (pc : Int) + off = (tgt : Int)) (kt : x = 0 → J X nL Z g k n (tgt) lv (st)) (kf : ¬ x = 0 → J X nL Z g k n (pc + 3) lv (st)) : J X nL Z g k n (pc) lv (.int x :: st) := fun H locs ls a b h => lv_if_eq O.1.1 O.1.2.1 d ht (fun q => kt q H locs ls a b h) (fun q => kf q H locs ls a b h)
theorem j_icmp_eq (O : Ok X cc nL own Z rm) {x y : Int32} {off : Int} (tgt : Nat) (d : decode cc pc = .ok (.if_icmp .eq off, 3)) (ht : (pc : Int) + off = (tgt : Int)) (kt : x = y → J X nL Z g k n (tgt) lv (st)) (kf : ¬ x = y → J X nL Z g k n (pc + 3) lv (st)) : J X nL Z g k n (pc) lv (.int y :: .int x :: st) := fun H locs ls a b h => lv_icmp_eq O.1.1 O.1.2.1 d ht (fun q => kt q H locs ls a b h) (fun q => kf q H locs ls a b h)
theorem j_if_ne (O : Ok X cc nL own Z rm) {x : Int32} {off : Int} (tgt : Nat) (d : decode cc pc = .ok (.ifCond .ne off, 3)) (ht : (pc : Int) + off = (tgt : Int)) (kt : ¬ x = 0 → J X nL Z g k n (tgt) lv (st)) (kf : x = 0 → J X nL Z g k n (pc + 3) lv (st)) : J X nL Z g k n (pc) lv (.int x :: st) := fun H locs ls a b h => lv_if_ne O.1.1 O.1.2.1 d ht (fun q => kt q H locs ls a b h) (fun q => kf q H locs ls a b h)
theorem j_icmp_ne (O : Ok X cc nL own Z rm) {x y : Int32} {off : Int} (tgt : Nat) (d : decode cc pc = .ok (.if_icmp .ne off, 3)) (ht : (pc : Int) + off = (tgt : Int)) (kt : ¬ x = y → J X nL Z g k n (tgt) lv (st)) (kf : x = y → J X nL Z g k n (pc + 3) lv (st)) : J X nL Z g k n (pc) lv (.int y :: .int x :: st) := fun H locs ls a b h => lv_icmp_ne O.1.1 O.1.2.1 d ht (fun q => kt q H locs ls a b h) (fun q => kf q H locs ls a b h)
theorem j_if_lt (O : Ok X cc nL own Z rm) {x : Int32} {off : Int} (tgt : Nat) (d : decode cc pc = .ok (.ifCond .lt off, 3)) (ht : (pc : Int) + off = (tgt : Int)) (kt : x < 0 → J X nL Z g k n (tgt) lv (st)) (kf : ¬ x < 0 → J X nL Z g k n (pc + 3) lv (st)) : J X nL Z g k n (pc) lv (.int x :: st) := fun H locs ls a b h => lv_if_lt O.1.1 O.1.2.1 d ht (fun q => kt q H locs ls a b h) (fun q => kf q H locs ls a b h)
theorem j_icmp_lt (O : Ok X cc nL own Z rm) {x y : Int32} {off : Int} (tgt : Nat) (d : decode cc pc = .ok (.if_icmp .lt off, 3)) (ht : (pc : Int) + off = (tgt : Int)) (kt : x < y → J X nL Z g k n (tgt) lv (st)) (kf : ¬ x < y → J X nL Z g k n (pc + 3) lv (st)) : J X nL Z g k n (pc) lv (.int y :: .int x :: st) := fun H locs ls a b h => lv_icmp_lt O.1.1 O.1.2.1 d ht (fun q => kt q H locs ls a b h) (fun q => kf q H locs ls a b h)
theorem j_if_ge (O : Ok X cc nL own Z rm) {x : Int32} {off : Int} (tgt : Nat) (d : decode cc pc = .ok (.ifCond .ge off, 3)) (ht : (pc : Int) + off = (tgt : Int)) (kt : 0 ≤ x → J X nL Z g k n (tgt) lv (st)) (kf : ¬ 0 ≤ x → J X nL Z g k n (pc + 3) lv (st)) : J X nL Z g k n (pc) lv (.int x :: st) := fun H locs ls a b h => lv_if_ge O.1.1 O.1.2.1 d ht (fun q => kt q H locs ls a b h) (fun q => kf q H locs ls a b h)
theorem j_icmp_ge (O : Ok X cc nL own Z rm) {x y : Int32} {off : Int} (tgt : Nat) (d : decode cc pc = .ok (.if_icmp .ge off, 3)) (ht : (pc : Int) + off = (tgt : Int)) (kt : y ≤ x → J X nL Z g k n (tgt) lv (st)) (kf : ¬ y ≤ x → J X nL Z g k n (pc + 3) lv (st)) : J X nL Z g k n (pc) lv (.int y :: .int x :: st) := fun H locs ls a b h => lv_icmp_ge O.1.1 O.1.2.1 d ht (fun q => kt q H locs ls a b h) (fun q => kf q H locs ls a b h)
theorem j_if_gt (O : Ok X cc nL own Z rm) {x : Int32} {off : Int} (tgt : Nat) (d : decode cc pc = .ok (.ifCond .gt off, 3)) (ht : (pc : Int) + off = (tgt : Int)) (kt : 0 < x → J X nL Z g k n (tgt) lv (st)) (kf : ¬ 0 < x → J X nL Z g k n (pc + 3) lv (st)) : J X nL Z g k n (pc) lv (.int x :: st) := fun H locs ls a b h => lv_if_gt O.1.1 O.1.2.1 d ht (fun q => kt q H locs ls a b h) (fun q => kf q H locs ls a b h)
theorem j_icmp_gt (O : Ok X cc nL own Z rm) {x y : Int32} {off : Int} (tgt : Nat) (d : decode cc pc = .ok (.if_icmp .gt off, 3)) (ht : (pc : Int) + off = (tgt : Int)) (kt : y < x → J X nL Z g k n (tgt) lv (st)) (kf : ¬ y < x → J X nL Z g k n (pc + 3) lv (st)) : J X nL Z g k n (pc) lv (.int y :: .int x :: st) := fun H locs ls a b h => lv_icmp_gt O.1.1 O.1.2.1 d ht (fun q => kt q H locs ls a b h) (fun q => kf q H locs ls a b h)
theorem j_if_le (O : Ok X cc nL own Z rm) {x : Int32} {off : Int} (tgt : Nat) (d : decode cc pc = .ok (.ifCond .le off, 3)) (ht : (pc : Int) + off = (tgt : Int)) (kt : x ≤ 0 → J X nL Z g k n (tgt) lv (st)) (kf : ¬ x ≤ 0 → J X nL Z g k n (pc + 3) lv (st)) : J X nL Z g k n (pc) lv (.int x :: st) := fun H locs ls a b h => lv_if_le O.1.1 O.1.2.1 d ht (fun q => kt q H locs ls a b h) (fun q => kf q H locs ls a b h)
theorem j_icmp_le (O : Ok X cc nL own Z rm) {x y : Int32} {off : Int} (tgt : Nat) (d : decode cc pc = .ok (.if_icmp .le off, 3)) (ht : (pc : Int) + off = (tgt : Int)) (kt : x ≤ y → J X nL Z g k n (tgt) lv (st)) (kf : ¬ x ≤ y → J X nL Z g k n (pc + 3) lv (st)) : J X nL Z g k n (pc) lv (.int y :: .int x :: st) := fun H locs ls a b h => lv_icmp_le O.1.1 O.1.2.1 d ht (fun q => kt q H locs ls a b h) (fun q => kf q H locs ls a b h)
theorem j_goto (O : Ok X cc nL own Z rm) {off : Int} (tgt : Nat) (d : decode cc pc = .ok (.goto off, 3)) (ht : (pc : Int) + off = (tgt : Int)) (kk : J X nL Z g k n (tgt) lv (st)) : J X nL Z g k n (pc) lv (st) := fun H locs ls a b h => lv_goto O.1.1 O.1.2.1 d ht (kk H locs ls a b h)
theorem j_ifnull (O : Ok X cc nL own Z rm) {o : Option Nat} {off : Int} (tgt : Nat) (d : decode cc pc = .ok (.ifnull off, 3)) (ht : (pc : Int) + off = (tgt : Int)) (kt : o = none → J X nL Z g k n (tgt) lv (st)) (kf : ∀ x, o = some x → J X nL Z g k n (pc + 3) lv (st)) : J X nL Z g k n (pc) lv (va_rf o :: st) := by
  intro H locs ls a b h
  cases o with
  | none => exact lv_ifnullN O.1.1 O.1.2.1 d ht (kt rfl H locs ls a b h)
  | some x => exact lv_ifnull O.1.1 O.1.2.1 d (kf x rfl H locs ls a b h)
theorem j_ifnonnull (O : Ok X cc nL own Z rm) {o : Option Nat} {off : Int} (tgt : Nat) (d : decode cc pc = .ok (.ifnonnull off, 3)) (ht : (pc : Int) + off = (tgt : Int)) (kt : ∀ x, o = some x → J X nL Z g k n (tgt) lv (st)) (kf : o = none → J X nL Z g k n (pc + 3) lv (st)) : J X nL Z g k n (pc) lv (va_rf o :: st) := by
  intro H locs ls a b h
  cases o with
  | none => exact lv_ifnonnullN O.1.1 O.1.2.1 d (kf rfl H locs ls a b h)
  | some x => exact lv_ifnonnull O.1.1 O.1.2.1 d ht (kt x rfl H locs ls a b h)
theorem j_acmp_eq (O : Ok X cc nL own Z rm) {rx ry : Option Nat} {off : Int} (tgt : Nat) (d : decode cc pc = .ok (.if_acmp .eq off, 3)) (ht : (pc : Int) + off = (tgt : Int)) (kt : rx = ry → J X nL Z g k n (tgt) lv (st)) (kf : ¬ rx = ry → J X nL Z g k n (pc + 3) lv (st)) : J X nL Z g k n (pc) lv (va_rf ry :: va_rf rx :: st) := fun H locs ls a b h => lv_acmp_eq O.1.1 O.1.2.1 d ht (fun q => kt q H locs ls a b h) (fun q => kf q H locs ls a b h)
theorem j_acmp_ne (O : Ok X cc nL own Z rm) {rx ry : Option Nat} {off : Int} (tgt : Nat) (d : decode cc pc = .ok (.if_acmp .ne off, 3)) (ht : (pc : Int) + off = (tgt : Int)) (kt : ¬ rx = ry → J X nL Z g k n (tgt) lv (st)) (kf : rx = ry → J X nL Z g k n (pc + 3) lv (st)) : J X nL Z g k n (pc) lv (va_rf ry :: va_rf rx :: st) := fun H locs ls a b h => lv_acmp_ne O.1.1 O.1.2.1 d ht (fun q => kt q H locs ls a b h) (fun q => kf q H locs ls a b h)
theorem j_lookup (O : Ok X cc nL own Z rm) {dflt : Int} {ps : Array (Int × Int)} {len : Nat} {x : Int32} {off : Int} (tgt : Nat) (d : decode cc pc = .ok (.lookupswitch dflt ps, len)) (hp : (ps.toList.zip (ps.toList.drop 1)).all (fun (a, next) => a.1 < next.1) = true) (ho : Op.lookupswitch.offset ps.toList dflt x.toInt = off) (ht : (pc : Int) + off = (tgt : Int)) (kk : J X nL Z g k n (tgt) lv (st)) : J X nL Z g k n (pc) lv (.int x :: st) := fun H locs ls a b h => lv_lookup O.1.1 O.1.2.1 d hp ho ht (kk H locs ls a b h)
theorem j_tableOut (O : Ok X cc nL own Z rm) {dflt lo hi : Int} {offs : Array Int} {len : Nat} {x : Int32} (tgt : Nat) (d : decode cc pc = .ok (.tableswitch dflt lo hi offs, len)) (hx : x.toInt < lo ∨ hi < x.toInt) (ht : (pc : Int) + dflt = (tgt : Int)) (kk : J X nL Z g k n (tgt) lv (st)) : J X nL Z g k n (pc) lv (.int x :: st) := fun H locs ls a b h => lv_tableOut O.1.1 O.1.2.1 d hx ht (kk H locs ls a b h)
theorem j_tableIn (O : Ok X cc nL own Z rm) {dflt lo hi : Int} {offs : Array Int} {len : Nat} {x : Int32} {off : Int} (tgt : Nat) (d : decode cc pc = .ok (.tableswitch dflt lo hi offs, len)) (h1 : ¬ x.toInt < lo) (h2 : ¬ hi < x.toInt) (ho : offs[(x.toInt - lo).toNat]? = some off) (ht : (pc : Int) + off = (tgt : Int)) (kk : J X nL Z g k n (tgt) lv (st)) : J X nL Z g k n (pc) lv (.int x :: st) := fun H locs ls a b h => lv_tableIn O.1.1 O.1.2.1 d h1 h2 ho ht (kk H locs ls a b h)
theorem j_topi {x : Int32} (kk : ∀ y : Int32, y = x → J X nL Z g k n (pc) lv (.int y :: st)) : J X nL Z g k n (pc) lv (.int x :: st) := kk x rfl
theorem j_topl {x : Int64} (kk : ∀ y : Int64, y = x → J X nL Z g k n (pc) lv (.long y :: st)) : J X nL Z g k n (pc) lv (.long x :: st) := kk x rfl
theorem j_eqi {x : Int32} (y : Int32) (e : x = y) (kk : J X nL Z g k n (pc) lv (.int y :: st)) : J X nL Z g k n (pc) lv (.int x :: st) := by subst e; exact kk
theorem j_eql {x : Int64} (y : Int64) (e : x = y) (kk : J X nL Z g k n (pc) lv (.long y :: st)) : J X nL Z g k n (pc) lv (.long x :: st) := by subst e; exact kk
theorem j_get (O : Ok X cc nL own Z rm) {ref C : String} {T : u_T} {N ci index : Nat} (hin : ∀ w ∈ u_ws C T N, w ∈ aw) {a : Nat} {fs : List Value} (ha : gAt g a (.inr (ci, fs))) (hc : Z.2.1[ci]? = some (C, T, N)) (f : Nat) (hf : f < N) (hlink : Cond.fieldLink own index ref (T f).2.1 (T f).2.2.1 ∈ aw) (href : (T f).1 = ref) {v : Value} (hv : fs[f]? = some v) (d : decode cc pc = .ok (.getfield index, 3)) (kk : J X nL Z g k n (pc + 3) lv (v :: st)) : J X nL Z g k n (pc) lv (.ref a :: st) := by
  subst href
  intro H locs ls a0 b h
  obtain ⟨q, hq⟩ := ha.k
  exact va_get O.1.1 O.1.2.1 O.1.2.2.2.2 hin O.1.2.2.2.1 O.2.1 a0.1 q hq hc f hf (O.b hlink) (fun _ h9 => h9) hv d (kk H locs ls a0 b h)
theorem j_put (O : Ok X cc nL own Z rm) {ref C : String} {T : u_T} {N ci index : Nat} (hin : ∀ w ∈ u_ws C T N, w ∈ aw) {a : Nat} {fs : List Value} (ha : gAt g a (.inr (ci, fs))) (hc : Z.2.1[ci]? = some (C, T, N)) (f : Nat) (hf : f < N) (hlink : Cond.fieldLink own index ref (T f).2.1 (T f).2.2.1 ∈ aw) (href : (T f).1 = ref) (ty0 : Nat → FieldType) (hty : ∀ k, k < N → parseFieldDescriptor (T k).2.2.1 = some (ty0 k)) (hnm : ∀ a, a < N → ∀ b, b < N → a ≠ b → (T a).2.1 ≠ (T b).2.1) (hfin : (T f).2.2.2 = false) (ty : FieldType) {v : Value} (hd : parseFieldDescriptor (T f).2.2.1 = some ty) (hn : narrow ty v = v) (hfit : fits ty v = true) (hl : f < fs.length) (fs2 : List Value) (hs : fs.set f v = fs2) (d : decode cc pc = .ok (.putfield index, 3)) (kk : ∀ g1 : GH, g1 = gUp g a (.inr (ci, fs2)) → J X nL Z g1 k n (pc + 3) lv (st)) : J X nL Z g k n (pc) lv (v :: .ref a :: st) := by
  subst href
  subst hs
  intro H locs ls a0 b h
  obtain ⟨q, hq⟩ := ha.k
  refine va_put O.1.1 O.1.2.1 O.1.2.2.2.2 hin ty0 hty hnm O.1.2.2.2.1 O.2.1 a0.1 a0.2 b q hq hc f hf (O.b hlink) (fun _ h9 => h9) hfin hd hn hfit hl d (fun H1 locs1 p1 d1 s1 => ?_)
  rw [gSet a0.2 ha hq] at p1 d1
  exact kk _ rfl H1 locs1 ls ⟨p1, d1⟩ s1 h
theorem j_putF (O : Ok X cc nL own Z rm) (hN : On X) {ref C : String} {T : u_T} {N ci index : Nat} (hin : ∀ w ∈ u_ws C T N, w ∈ aw) {a : Nat} {fs : List Value} (ha : gAt g a (.inr (ci, fs))) (hc : Z.2.1[ci]? = some (C, T, N)) (f : Nat) (hf : f < N) (hlink : Cond.fieldLink own index ref (T f).2.1 (T f).2.2.1 ∈ aw) (href : (T f).1 = ref) (ty0 : Nat → FieldType) (hty : ∀ k, k < N → parseFieldDescriptor (T k).2.2.1 = some (ty0 k)) (hnm : ∀ a, a < N → ∀ b, b < N → a ≠ b → (T a).2.1 ≠ (T b).2.1) (hfin : (T f).2.2.2 = true) (hdecl : (T f).1 = own) (ty : FieldType) {v : Value} (hd : parseFieldDescriptor (T f).2.2.1 = some ty) (hn : narrow ty v = v) (hfit : fits ty v = true) (hl : f < fs.length) (fs2 : List Value) (hs : fs.set f v = fs2) (d : decode cc pc = .ok (.putfield index, 3)) (kk : ∀ g1 : GH, g1 = gUp g a (.inr (ci, fs2)) → J X nL Z g1 k n (pc + 3) lv (st)) : J X nL Z g k n (pc) lv (v :: .ref a :: st) := by
  subst href
  subst hs
  intro H locs ls a0 b h
  obtain ⟨q, hq⟩ := ha.k
  refine va_putF O.1.1 O.1.2.1 O.1.2.2.2.2 hin ty0 hty hnm O.1.2.2.2.1 O.2.1 a0.1 a0.2 b q hq hc f hf (O.b hlink) (fun _ h9 => h9) hfin hN hdecl hd hn hfit hl d (fun H1 locs1 p1 d1 s1 => ?_)
  rw [gSet a0.2 ha hq] at p1 d1
  exact kk _ rfl H1 locs1 ls ⟨p1, d1⟩ s1 h
theorem j_new (O : Ok X cc nL own Z rm) {C : String} {T : u_T} {N ci index : Nat} (hin : ∀ w ∈ u_ws C T N, w ∈ aw) (ty : Nat → FieldType) (hty : ∀ k, k < N → parseFieldDescriptor (T k).2.2.1 = some (ty k)) (hcl : Cond.classLink own index C ∈ aw) (hinst : Cond.instantiable C N ∈ aw) (hini : Cond.initialized C ∈ aw) (hc : Z.2.1[ci]? = some (C, T, N)) (fs : List Value) (hfs : ∀ j, j < N → defaultValue (ty j) = vp_V fs j) (hcells : k + 1 ≤ rm.cells) (hslots : n + N ≤ rm.slots) (d : decode cc pc = .ok (.new index, 3)) (kk : ∀ (q : Nat) (g1 : GH), q ∉ g.1 → g1 = gNew g q (.inr (ci, fs)) → J X nL Z g1 (k + 1) (n + N) (pc + 3) lv (.ref q :: st)) : J X nL Z g k n (pc) lv (st) := by
  intro H locs ls a0 b h
  refine va_new O.1.1 O.1.2.1 O.1.2.2.2.2 hin ty hty O.1.2.2.2.1 (O.b hcl) (O.b hinst) (O.b hini) O.2.1 a0.1 a0.2 b O.A hc hfs (by rw [O.2.2.2.1]; exact hcells) (by rw [O.2.2.2.1]; exact hslots) d (fun q H1 p1 d1 s1 => ?_)
  have hq := gPush d1
  rw [va_pl_push hq] at p1 d1
  exact kk q _ hq rfl H1 locs ls ⟨p1, d1⟩ s1 h
theorem j_newa (O : Ok X cc nL own Z rm) {atype : ArrayType} (harr : Cond.arrayClass (newarray.typeOf atype) ∈ aw) (ty : FieldType) (hty : newarray.typeOf atype = ty) (t0 : Nat) {cA : ClassId} (ht : Z.2.2.1[t0]? = some (cA, ty)) (hob : va_RA X.2.2.2.2.1 cA ty = (X.2.2.2.2.1.vm.findClass ("[" ++ ty.toString) = some cA)) {i : Int32} (N : Nat) (a0 : vp_A) (ha : ∀ cA : ClassId, vp_cell cA a0 = arrV cA N (fun _ => defaultValue ty)) (hn : ¬ i < 0) (hN : i.toNatClampNeg = N) (hbytes : N * componentBytes ty ≤ 536870912) (hcells : k + 1 ≤ rm.cells) (hslots : n + N ≤ rm.slots) (d : decode cc pc = .ok (.newarray atype, 2)) (kk : ∀ (q : Nat) (g1 : GH), q ∉ g.1 → g1 = gNew g q (.inl (cA, a0)) → J X nL Z g1 (k + 1) (n + N) (pc + 2) lv (.ref q :: st)) : J X nL Z g k n (pc) lv (.int i :: st) := by
  intro H locs ls a1 b h
  have hK := O.2.1.2 t0 _ ht
  rw [hob] at hK
  refine va_newa O.1.1 O.1.2.1 (O.b harr) hty O.2.1 a1.1 a1.2 b O.A ha hn hN hbytes (by rw [O.2.2.2.1]; exact hcells) (by rw [O.2.2.2.1]; exact hslots) d (fun q c2 H1 k1 p1 d1 s1 => ?_)
  have hk := (k1.2 Z.2.2.1.length (c2, ty) (by simp)).2
  have he : c2 = cA := by
    subst hty
    have hk' : X.2.2.2.2.1.vm.findClass ("[" ++ (newarray.typeOf atype).toString) = some c2 := by cases atype <;> exact hk
    exact Option.some.inj (hk'.symm.trans hK.2)
  subst he
  have hq := gPush d1
  rw [va_pl_push hq] at p1 d1
  exact kk q _ hq rfl H1 locs ls ⟨p1, d1⟩ s1 h
theorem j_newq (O : Ok X cc nL own Z rm) {C : String} {index : Nat} (hcl : Cond.classLink own index C ∈ aw) (hover : Cond.arrayOver (.object C) ∈ Z.2.2.2.1) (t0 : Nat) {cA : ClassId} (ht : Z.2.2.1[t0]? = some (cA, .object C)) {i : Int32} (N : Nat) (hn : ¬ i < 0) (hN : i.toNatClampNeg = N) (hbytes : N * 4 ≤ 536870912) (hcells : k + 1 ≤ rm.cells) (hslots : n + N ≤ rm.slots) (d : decode cc pc = .ok (.anewarray index, 3)) (kk : ∀ (q : Nat) (g1 : GH), q ∉ g.1 → g1 = gNew g q (.inl (cA, N, .inr (.inr (.inr (.inr (fun _ => none)))))) → J X nL Z g1 (k + 1) (n + N) (pc + 3) lv (.ref q :: st)) : J X nL Z g k n (pc) lv (.int i :: st) := by
  intro H locs ls a1 b h
  obtain ⟨kA, comp, -, -, -, hf⟩ := (O.2.1.2 t0 _ ht).2
  refine va_newq O.1.1 O.1.2.1 O.1.2.2.2.1 (O.b hcl) (va_AO.of (O.2.2.2.2 _ hover).2.2) O.2.1 a1.1 a1.2 b O.A hn hN hbytes (by rw [O.2.2.2.1]; exact hcells) (by rw [O.2.2.2.1]; exact hslots) d (fun q c2 H1 k1 p1 d1 s1 => ?_)
  obtain ⟨kB, comp2, -, -, -, hf2⟩ := (k1.2 Z.2.2.1.length (c2, .object C) (by simp)).2
  have he : c2 = cA := Option.some.inj (hf2.symm.trans hf)
  subst he
  have hq := gPush d1
  rw [va_pl_push hq] at p1 d1
  exact kk q _ hq rfl H1 locs ls ⟨p1, d1⟩ s1 h
theorem j_alen (O : Ok X cc nL own Z rm) {a : Nat} {cA : ClassId} {x : vp_A} (ha : gAt g a (.inl (cA, x))) (t0 : Nat) {ty : FieldType} (ht : Z.2.2.1[t0]? = some (cA, ty)) (d : decode cc pc = .ok (.arraylength, 1)) (kk : J X nL Z g k n (pc + 1) lv (.int (nI x.1) :: st)) : J X nL Z g k n (pc) lv (.ref a :: st) := by
  intro H locs ls a0 b h
  obtain ⟨q, hq⟩ := ha.k
  exact va_alen O.1.1 O.1.2.1 O.2.1 a0.1 q t0 hq ht rfl d (kk H locs ls a0 b h)
theorem j_iaload (O : Ok X cc nL own Z rm) {a : Nat} {cA : ClassId} {N : Nat} {f : Nat → Int32} (ha : gAt g a (.inl (cA, N, .inl f))) (t0 : Nat) (ht : Z.2.2.1[t0]? = some (cA, .int)) {i : Int32} (hi : vp_in i N) (d : decode cc pc = .ok (.iaload, 1)) (kk : J X nL Z g k n (pc + 1) lv (.int (f i.toNatClampNeg) :: st)) : J X nL Z g k n (pc) lv (.int i :: .ref a :: st) := by
  intro H locs ls a0 b h
  obtain ⟨q, hq⟩ := ha.k
  exact va_iald O.1.1 O.1.2.1 O.2.1 a0.1 q t0 hq ht hi d (kk H locs ls a0 b h)
theorem j_laload (O : Ok X cc nL own Z rm) {a : Nat} {cA : ClassId} {N : Nat} {f : Nat → Int64} (ha : gAt g a (.inl (cA, N, .inr (.inl f)))) (t0 : Nat) (ht : Z.2.2.1[t0]? = some (cA, .long)) {i : Int32} (hi : vp_in i N) (d : decode cc pc = .ok (.laload, 1)) (kk : J X nL Z g k n (pc + 1) lv (.long (f i.toNatClampNeg) :: st)) : J X nL Z g k n (pc) lv (.int i :: .ref a :: st) := by
  intro H locs ls a0 b h
  obtain ⟨q, hq⟩ := ha.k
  exact va_lald O.1.1 O.1.2.1 O.2.1 a0.1 q t0 hq ht hi d (kk H locs ls a0 b h)
theorem j_zaload (O : Ok X cc nL own Z rm) {a : Nat} {cA : ClassId} {N : Nat} {f : Nat → Int32} (ha : gAt g a (.inl (cA, N, .inl f))) (t0 : Nat) (ht : Z.2.2.1[t0]? = some (cA, .boolean)) {i : Int32} (hi : vp_in i N) (d : decode cc pc = .ok (.baload, 1)) (kk : J X nL Z g k n (pc + 1) lv (.int (f i.toNatClampNeg) :: st)) : J X nL Z g k n (pc) lv (.int i :: .ref a :: st) := by
  intro H locs ls a0 b h
  obtain ⟨q, hq⟩ := ha.k
  exact va_zald O.1.1 O.1.2.1 O.2.1 a0.1 q t0 hq ht hi d (kk H locs ls a0 b h)
theorem j_aaload (O : Ok X cc nL own Z rm) {a : Nat} {cA : ClassId} {C : String} {N : Nat} {f : Nat → Option Nat} (ha : gAt g a (.inl (cA, N, .inr (.inr (.inr (.inr f)))))) (t0 : Nat) (ht : Z.2.2.1[t0]? = some (cA, .object C)) {i : Int32} (hi : vp_in i N) (d : decode cc pc = .ok (.aaload, 1)) (kk : J X nL Z g k n (pc + 1) lv (va_rf (f i.toNatClampNeg) :: st)) : J X nL Z g k n (pc) lv (.int i :: .ref a :: st) := by
  intro H locs ls a0 b h
  obtain ⟨q, hq⟩ := ha.k
  exact va_aldq O.1.1 O.1.2.1 O.2.1 a0.1 q t0 hq ht hi d (kk H locs ls a0 b h)
theorem j_iastore (O : Ok X cc nL own Z rm) {a : Nat} {cA : ClassId} {N : Nat} {f : Nat → Int32} (ha : gAt g a (.inl (cA, N, .inl f))) (t0 : Nat) (ht : Z.2.2.1[t0]? = some (cA, .int)) {i : Int32} {x : Int32} (hi : vp_in i N) (d : decode cc pc = .ok (.iastore, 1)) (kk : ∀ g1 : GH, g1 = gUp g a (.inl (cA, N, .inl (upd f i.toNatClampNeg x))) → J X nL Z g1 k n (pc + 1) lv (st)) : J X nL Z g k n (pc) lv (.int x :: .int i :: .ref a :: st) := by
  intro H locs ls a0 b h
  obtain ⟨q, hq⟩ := ha.k
  refine va_iast O.1.1 O.1.2.1 O.2.1 a0.1 a0.2 b q t0 hq ht hi d (fun H1 locs1 p1 d1 s1 => ?_)
  rw [gSet a0.2 ha hq] at p1 d1
  exact kk _ rfl H1 locs1 ls ⟨p1, d1⟩ s1 h
theorem j_lastore (O : Ok X cc nL own Z rm) {a : Nat} {cA : ClassId} {N : Nat} {f : Nat → Int64} (ha : gAt g a (.inl (cA, N, .inr (.inl f)))) (t0 : Nat) (ht : Z.2.2.1[t0]? = some (cA, .long)) {i : Int32} {x : Int64} (hi : vp_in i N) (d : decode cc pc = .ok (.lastore, 1)) (kk : ∀ g1 : GH, g1 = gUp g a (.inl (cA, N, .inr (.inl (vp_updL f i.toNatClampNeg x)))) → J X nL Z g1 k n (pc + 1) lv (st)) : J X nL Z g k n (pc) lv (.long x :: .int i :: .ref a :: st) := by
  intro H locs ls a0 b h
  obtain ⟨q, hq⟩ := ha.k
  refine va_last O.1.1 O.1.2.1 O.2.1 a0.1 a0.2 b q t0 hq ht hi d (fun H1 locs1 p1 d1 s1 => ?_)
  rw [gSet a0.2 ha hq] at p1 d1
  exact kk _ rfl H1 locs1 ls ⟨p1, d1⟩ s1 h
theorem j_zastore (O : Ok X cc nL own Z rm) {a : Nat} {cA : ClassId} {N : Nat} {f : Nat → Int32} (ha : gAt g a (.inl (cA, N, .inl f))) (t0 : Nat) (ht : Z.2.2.1[t0]? = some (cA, .boolean)) {i : Int32} {x : Int32} (hi : vp_in i N) (d : decode cc pc = .ok (.bastore, 1)) (kk : ∀ g1 : GH, g1 = gUp g a (.inl (cA, N, .inl (upd f i.toNatClampNeg (vp_nar .boolean x)))) → J X nL Z g1 k n (pc + 1) lv (st)) : J X nL Z g k n (pc) lv (.int x :: .int i :: .ref a :: st) := by
  intro H locs ls a0 b h
  obtain ⟨q, hq⟩ := ha.k
  refine va_zast O.1.1 O.1.2.1 O.2.1 a0.1 a0.2 b q t0 hq ht hi d (fun H1 locs1 p1 d1 s1 => ?_)
  rw [gSet a0.2 ha hq] at p1 d1
  exact kk _ rfl H1 locs1 ls ⟨p1, d1⟩ s1 h
theorem j_aastore (O : Ok X cc nL own Z rm) {a : Nat} {cA : ClassId} {N : Nat} {f : Nat → Option Nat} (ha : gAt g a (.inl (cA, N, .inr (.inr (.inr (.inr f)))))) (t0 : Nat) {r : vw_C} (ht : Z.2.2.1[t0]? = some (cA, .object r.1)) {v ci : Nat} {vs : List Value} (hv : gAt g v (.inr (ci, vs))) (hc : Z.2.1[ci]? = some r) {i : Int32} (hi : vp_in i N) (d : decode cc pc = .ok (.aastore, 1)) (kk : ∀ g1 : GH, g1 = gUp g a (.inl (cA, N, .inr (.inr (.inr (.inr (va_up f i.toNatClampNeg (some v))))))) → J X nL Z g1 k n (pc + 1) lv (st)) : J X nL Z g k n (pc) lv (.ref v :: .int i :: .ref a :: st) := by
  intro H locs ls a0 b h
  obtain ⟨q, hq⟩ := ha.k
  obtain ⟨q2, hq2⟩ := hv.k
  refine va_astq O.1.1 O.1.2.1 O.2.1 a0.1 a0.2 b q t0 q2 ci hq ht hq2 hc hi d (fun H1 locs1 p1 d1 s1 => ?_)
  rw [gSet a0.2 ha hq] at p1 d1
  exact kk _ rfl H1 locs1 ls ⟨p1, d1⟩ s1 h
theorem j_aastoreN (O : Ok X cc nL own Z rm) {a : Nat} {cA : ClassId} {N : Nat} {f : Nat → Option Nat} (ha : gAt g a (.inl (cA, N, .inr (.inr (.inr (.inr f)))))) (t0 : Nat) {C : String} (ht : Z.2.2.1[t0]? = some (cA, .object C)) {i : Int32} (hi : vp_in i N) (d : decode cc pc = .ok (.aastore, 1)) (kk : ∀ g1 : GH, g1 = gUp g a (.inl (cA, N, .inr (.inr (.inr (.inr (va_up f i.toNatClampNeg none)))))) → J X nL Z g1 k n (pc + 1) lv (st)) : J X nL Z g k n (pc) lv (.null :: .int i :: .ref a :: st) := by
  intro H locs ls a0 b h
  obtain ⟨q, hq⟩ := ha.k
  refine va_astqN O.1.1 O.1.2.1 O.2.1 a0.1 a0.2 b q t0 hq ht hi d (fun H1 locs1 p1 d1 s1 => ?_)
  rw [gSet a0.2 ha hq] at p1 d1
  exact kk _ rfl H1 locs1 ls ⟨p1, d1⟩ s1 h
theorem j_iald (O : Ok X cc nL own Z rm) {a : Nat} {cA : ClassId} {N : Nat} {f : Nat → Int32} (ha : gAt g a (.inl (cA, N, .inl f))) (t0 : Nat) (ht : Z.2.2.1[t0]? = some (cA, .int)) {i : Nat} (hi : i < N) (hN : N < 2 ^ 31) (d : decode cc pc = .ok (.iaload, 1)) (kk : J X nL Z g k n (pc + 1) lv (.int (f i) :: st)) : J X nL Z g k n (pc) lv (.int (nI i) :: .ref a :: st) := by
  refine j_iaload O ha t0 ht (vp_in_nI hi hN) d ?_
  rw [nI_clamp (by omega)]
  exact kk
theorem j_lald (O : Ok X cc nL own Z rm) {a : Nat} {cA : ClassId} {N : Nat} {f : Nat → Int64} (ha : gAt g a (.inl (cA, N, .inr (.inl f)))) (t0 : Nat) (ht : Z.2.2.1[t0]? = some (cA, .long)) {i : Nat} (hi : i < N) (hN : N < 2 ^ 31) (d : decode cc pc = .ok (.laload, 1)) (kk : J X nL Z g k n (pc + 1) lv (.long (f i) :: st)) : J X nL Z g k n (pc) lv (.int (nI i) :: .ref a :: st) := by
  refine j_laload O ha t0 ht (vp_in_nI hi hN) d ?_
  rw [nI_clamp (by omega)]
  exact kk
theorem j_zald (O : Ok X cc nL own Z rm) {a : Nat} {cA : ClassId} {N : Nat} {f : Nat → Int32} (ha : gAt g a (.inl (cA, N, .inl f))) (t0 : Nat) (ht : Z.2.2.1[t0]? = some (cA, .boolean)) {i : Nat} (hi : i < N) (hN : N < 2 ^ 31) (d : decode cc pc = .ok (.baload, 1)) (kk : J X nL Z g k n (pc + 1) lv (.int (f i) :: st)) : J X nL Z g k n (pc) lv (.int (nI i) :: .ref a :: st) := by
  refine j_zaload O ha t0 ht (vp_in_nI hi hN) d ?_
  rw [nI_clamp (by omega)]
  exact kk
theorem j_aald (O : Ok X cc nL own Z rm) {a : Nat} {cA : ClassId} {C : String} {N : Nat} {f : Nat → Option Nat} (ha : gAt g a (.inl (cA, N, .inr (.inr (.inr (.inr f)))))) (t0 : Nat) (ht : Z.2.2.1[t0]? = some (cA, .object C)) {i : Nat} (hi : i < N) (hN : N < 2 ^ 31) (d : decode cc pc = .ok (.aaload, 1)) (kk : J X nL Z g k n (pc + 1) lv (va_rf (f i) :: st)) : J X nL Z g k n (pc) lv (.int (nI i) :: .ref a :: st) := by
  refine j_aaload O ha t0 ht (vp_in_nI hi hN) d ?_
  rw [nI_clamp (by omega)]
  exact kk
theorem j_iast (O : Ok X cc nL own Z rm) {a : Nat} {cA : ClassId} {N : Nat} {f : Nat → Int32} (ha : gAt g a (.inl (cA, N, .inl f))) (t0 : Nat) (ht : Z.2.2.1[t0]? = some (cA, .int)) {i : Nat} (hi : i < N) (hN : N < 2 ^ 31) {x : Int32} (d : decode cc pc = .ok (.iastore, 1)) (kk : ∀ g1 : GH, g1 = gUp g a (.inl (cA, N, .inl (upd f i x))) → J X nL Z g1 k n (pc + 1) lv (st)) : J X nL Z g k n (pc) lv (.int x :: .int (nI i) :: .ref a :: st) := by
  refine j_iastore O ha t0 ht (vp_in_nI hi hN) d (fun g1 e => kk g1 ?_)
  rw [nI_clamp (by omega)] at e
  exact e
theorem j_last (O : Ok X cc nL own Z rm) {a : Nat} {cA : ClassId} {N : Nat} {f : Nat → Int64} (ha : gAt g a (.inl (cA, N, .inr (.inl f)))) (t0 : Nat) (ht : Z.2.2.1[t0]? = some (cA, .long)) {i : Nat} (hi : i < N) (hN : N < 2 ^ 31) {x : Int64} (d : decode cc pc = .ok (.lastore, 1)) (kk : ∀ g1 : GH, g1 = gUp g a (.inl (cA, N, .inr (.inl (vp_updL f i x)))) → J X nL Z g1 k n (pc + 1) lv (st)) : J X nL Z g k n (pc) lv (.long x :: .int (nI i) :: .ref a :: st) := by
  refine j_lastore O ha t0 ht (vp_in_nI hi hN) d (fun g1 e => kk g1 ?_)
  rw [nI_clamp (by omega)] at e
  exact e
theorem j_aast (O : Ok X cc nL own Z rm) {a : Nat} {cA : ClassId} {N : Nat} {f : Nat → Option Nat} (ha : gAt g a (.inl (cA, N, .inr (.inr (.inr (.inr f)))))) (t0 : Nat) {r : vw_C} (ht : Z.2.2.1[t0]? = some (cA, .object r.1)) {v ci : Nat} {vs : List Value} (hv : gAt g v (.inr (ci, vs))) (hc : Z.2.1[ci]? = some r) {i : Nat} (hi : i < N) (hN : N < 2 ^ 31) (d : decode cc pc = .ok (.aastore, 1)) (kk : ∀ g1 : GH, g1 = gUp g a (.inl (cA, N, .inr (.inr (.inr (.inr (va_up f i (some v))))))) → J X nL Z g1 k n (pc + 1) lv (st)) : J X nL Z g k n (pc) lv (.ref v :: .int (nI i) :: .ref a :: st) := by
  refine j_aastore O ha t0 ht hv hc (vp_in_nI hi hN) d (fun g1 e => kk g1 ?_)
  rw [nI_clamp (by omega)] at e
  exact e
theorem j_aastN (O : Ok X cc nL own Z rm) {a : Nat} {cA : ClassId} {N : Nat} {f : Nat → Option Nat} (ha : gAt g a (.inl (cA, N, .inr (.inr (.inr (.inr f)))))) (t0 : Nat) {C : String} (ht : Z.2.2.1[t0]? = some (cA, .object C)) {i : Nat} (hi : i < N) (hN : N < 2 ^ 31) (d : decode cc pc = .ok (.aastore, 1)) (kk : ∀ g1 : GH, g1 = gUp g a (.inl (cA, N, .inr (.inr (.inr (.inr (va_up f i none)))))) → J X nL Z g1 k n (pc + 1) lv (st)) : J X nL Z g k n (pc) lv (.null :: .int (nI i) :: .ref a :: st) := by
  refine j_aastoreN O ha t0 ht (vp_in_nI hi hN) d (fun g1 e => kk g1 ?_)
  rw [nI_clamp (by omega)] at e
  exact e
theorem j_objInit (O : Ok X cc nL own Z rm) {idx : Nat} (hlink : Cond.methodLink own idx objectInit ∈ aw) (hinst : Cond.instanceMethod objectInit ∈ aw) (hcode : Cond.code objectInit ⟨#[0xb1]⟩ 1 none ∈ aw) {a : Nat} (d : decode cc pc = .ok (.invokespecial idx, 3)) (hfr : 1 ≤ rm.frames) (hlo : (st.map fun v => v.category).sum + 12 ≤ rm.locals) (kk : J X nL Z g k n (pc + 3) lv (st)) : J X nL Z g k n (pc) lv (.ref a :: st) := by
  intro H locs ls a0 b h
  exact W.objInit O.1.1 O.1.2.1 O.1.2.2.2.1 (O.b hlink) (O.b hinst) (O.b hcode) (g := F0 X.2.2.2.2.2.1 pc ls (.ref a :: st)) rfl (h.1.trans O.1.2.2.1.symm) rfl d (by rw [O.2.2.2.1]; exact hfr) (by rw [O.2.2.2.1]; show 2 * 0 + _ + 12 ≤ _; omega) (kk H locs ls a0 b h)
theorem j_run (O : Ok X cc nL own Z rm) {mc ms : Nat} {post : Option Value → GH → Prop} {a : Array Value} {st0 : List Value} (hr : ∀ (H : Heap) (locs : List Loc) (ls : Array Slot), gW Z g H → va_S (zA Z) X.2.2.2.2.1.heap H locs → lv_has ls nL lv → va_Run X.1 X.2.1 X.2.2.1 X.2.2.2.1 X.2.2.2.2.1 X.2.2.2.2.2.1 X.2.2.2.2.2.2.1 X.2.2.2.2.2.2.2.1 X.2.2.2.2.2.2.2.2.1 X.2.2.2.2.2.2.2.2.2.1 H locs k n mc ms (F0 X.2.2.2.2.2.1 pc ls st0) st (jQ Z post a) (zA Z)) (kk : ∀ (v : Option Value) (g' : GH), post v g' → J X nL Z g' (k + mc) (n + ms) (pc + 3) lv (v.toList ++ st)) : J X nL Z g k n (pc) lv (st0) := by
  intro H locs ls a0 b h T hT X0
  obtain ⟨v, s0, t, T', L, h0, X', hL, e1, e2, ⟨⟨v', g', hv, hp, hb⟩, hz, hk⟩, sx⟩ := hr H locs ls a0 b h T hT X0
  cases hv
  rw [h0] at hz hk
  obtain ⟨t2, a1, b1⟩ := kk v g' hp T'.heap (locs ++ L) ls (by rw [e1]; exact hb) ⟨Nat.le_trans b.1 (by rw [e1]; exact hz), fun q h1 h2 => by rw [e1, hk q (Nat.lt_of_lt_of_le h1 b.1) h2]; exact b.2.1 q h1 h2, fun q hq => by
      rcases List.mem_append.mp hq with h | h
      · exact b.2.2 q h
      · exact hL q h⟩ h T' rfl X'
  exact ⟨t2, sx t2 a1, b1⟩
theorem Ok.pre (O : Ok X cc nL own Z rm) {H : Heap} {locs : List Loc} (a0 : gW Z g H) (b : va_S (zA Z) X.2.2.2.2.1.heap H locs) {av : List Value} (U : State) (hU : U.heap = H) (hW : X.2.2.2.2.1.WarmedH U.vm) : va_Pc av (gB Z g) av.toArray U :=
  ⟨rfl, by rw [hU]; exact a0, va_K.moved hW.alike O.2.1, fun q h => O.2.2.1 q (Nat.le_trans b.1 (by rw [← hU]; exact h)), O.2.2.2.2.warm hW⟩
theorem j_callS (O : Ok X cc nL own Z rm) {y : MethodName} {bytes : ByteArray} {maxL mc ms index : Nat} {ret : Option FieldType} {rm2 : Room} {post : Option Value → GH → Prop} (As : List Value) (hM : Ct X.2.1 y (.code y bytes maxL ret :: aw) rm2 Z As g mc ms post) (hml : Cond.methodLink own index y ∈ aw) (hst1 : Cond.static y ∈ aw) (hini : Cond.initialized y.cls ∈ aw) (hcd : Cond.code y bytes maxL ret ∈ aw) (np : Nat) (hnp : As.length = np) (hrc : rm2.cells = mc) (hrs : rm2.slots = ms) (hd : y.cls ≠ "java/lang/invoke/MethodHandle" ∧ y.cls ≠ "java/lang/invoke/VarHandle" ∧ (parseMethodDescriptor y.desc).map (fun d => d.parameters.length) = some np) (hR : rm2.frames + 1 ≤ rm.frames ∧ 8 + (maxL + 11) + rm2.locals ≤ rm.locals) {st0 : List Value} (hst : st0 = As.reverse ++ st) (hs : (st.map fun v => v.category).sum ≤ 8) (d : decode cc pc = .ok (.invokestatic index, 3)) (hcs : k + mc ≤ rm.cells ∧ n + ms ≤ rm.slots) (kk : ∀ (v : Option Value) (g' : GH), post v g' → J X nL Z g' (k + mc) (n + ms) (pc + 3) lv (v.toList ++ st)) : J X nL Z g k n (pc) lv (st0) := by
  subst hnp
  refine j_run O (a := As.toArray) (fun H locs ls a0 b h => ?_) kk
  exact va_runS (As := As) (rest := st) O.1 hM (va_cwS As.length O.1.2.2.2.2 (gWs hml hst1 hini hcd) rfl hrc hrs hd (by rw [O.2.2.2.1]; exact hR)) ⟨fun a U fr mk q => ⟨q.1, q.2.blind⟩, fun U hU hW => O.pre a0 b U hU hW⟩ rfl rfl h.1 hst (lv_room hs) d (by rw [O.2.2.2.1]; exact hcs)
theorem j_callV (O : Ok X cc nL own Z rm) {y : MethodName} {bytes : ByteArray} {maxL mc ms index : Nat} {ret : Option FieldType} {rm2 : Room} {post : Option Value → GH → Prop} {C : String} {b0 ci : Nat} {T : u_T} {N : Nat} {fs : List Value} (As : List Value) (hM : Ct X.2.1 y (.code y bytes maxL ret :: aw) rm2 Z (.ref b0 :: As) g mc ms post) (ha : gAt g b0 (.inr (ci, fs))) (hc : Z.2.1[ci]? = some (C, T, N)) (hml : Cond.methodLink own index y ∈ aw) (him : Cond.instanceMethod y ∈ aw) (hsel : Cond.selects C y y ∈ aw) (hini : Cond.initialized C ∈ aw) (hcd : Cond.code y bytes maxL ret ∈ aw) (np : Nat) (hnp : As.length = np) (hrc : rm2.cells = mc) (hrs : rm2.slots = ms) (hd : y.cls = C ∧ y.cls ≠ "java/lang/invoke/MethodHandle" ∧ y.cls ≠ "java/lang/invoke/VarHandle" ∧ (parseMethodDescriptor y.desc).map (fun d => d.parameters.length) = some np) (hR : rm2.frames + 1 ≤ rm.frames ∧ 8 + (maxL + 11) + rm2.locals ≤ rm.locals) {st0 : List Value} (hst : st0 = As.reverse ++ .ref b0 :: st) (hs : (st.map fun v => v.category).sum ≤ 8) (d : decode cc pc = .ok (.invokevirtual index, 3)) (hcs : k + mc ≤ rm.cells ∧ n + ms ≤ rm.slots) (kk : ∀ (v : Option Value) (g' : GH), post v g' → J X nL Z g' (k + mc) (n + ms) (pc + 3) lv (v.toList ++ st)) : J X nL Z g k n (pc) lv (st0) := by
  subst hnp
  refine j_run O (a := (Value.ref b0 :: As).toArray) (fun H locs ls a0 b h => ?_) kk
  obtain ⟨q, hq⟩ := ha.k
  exact va_runV (As := As) (rest := st) O.1 hM (cwV As.length O.1.2.2.2.2 (gWv hml him hsel hini hcd) rfl hrc hrs hd (by rw [O.2.2.2.1]; exact hR)) ⟨fun a U fr mk q => ⟨q.1, q.2.blind⟩, va_recv O.2.1 a0.1 hc hq, fun U hU hW => O.pre a0 b U hU hW⟩ rfl rfl h.1 hst (lv_room hs) d (by rw [O.2.2.2.1]; exact hcs)
theorem j_callI (O : Ok X cc nL own Z rm) {y : MethodName} {bytes : ByteArray} {maxL mc ms index : Nat} {rm2 : Room} {post : Option Value → GH → Prop} {b0 : Nat} (As : List Value) (hM : Ct X.2.1 y (.code y bytes maxL none :: aw) rm2 Z (.ref b0 :: As) g mc ms post) (hcd : Cond.code y bytes maxL none ∈ aw) (np : Nat) (hnp : As.length = np) (hrc : rm2.cells = mc) (hrs : rm2.slots = ms) (hini : Cond.initialized y.cls ∈ aw) (hml : Cond.methodLink own index y ∈ aw) (him : Cond.instanceMethod y ∈ aw) (hy1 : y.name = "<init>") (hd : y.cls ≠ "java/lang/invoke/MethodHandle" ∧ y.cls ≠ "java/lang/invoke/VarHandle" ∧ (parseMethodDescriptor y.desc).map (fun d => d.parameters.length) = some np) (hR : rm2.frames + 1 ≤ rm.frames ∧ 8 + (maxL + 11) + rm2.locals ≤ rm.locals) {st0 : List Value} (hst : st0 = As.reverse ++ .ref b0 :: st) (hs : (st.map fun v => v.category).sum ≤ 8) (d : decode cc pc = .ok (.invokespecial index, 3)) (hcs : k + mc ≤ rm.cells ∧ n + ms ≤ rm.slots) (kk : ∀ (v : Option Value) (g' : GH), post v g' → J X nL Z g' (k + mc) (n + ms) (pc + 3) lv (v.toList ++ st)) : J X nL Z g k n (pc) lv (st0) := by
  subst hnp
  refine j_run O (a := (Value.ref b0 :: As).toArray) (fun H locs ls a0 b h => ?_) kk
  exact va_runI (As := As) (rest := st) O.1 hM (cwI As.length O.1.2.2.2.2 (gWc hcd) rfl hrc hrs (O.b hini) (O.b hml) (O.b him) hy1 hd (by rw [O.2.2.2.1]; exact hR)) ⟨fun a U fr mk q => ⟨q.1, q.2.blind⟩, fun U hU hW => O.pre a0 b U hU hW⟩ rfl rfl h.1 hst (lv_room hs) d (by rw [O.2.2.2.1]; exact hcs)
theorem j_callSN (O : Ok X cc nL own Z rm) {y : MethodName} {bytes : ByteArray} {maxL mc ms index : Nat} {ret : Option FieldType} {rm2 : Room} {post : Option Value → GH → Prop} {host : String} (As : List Value) (hM : Ct X.2.1 y (.code y bytes maxL ret :: aw) rm2 Z As g mc ms post) (hcd : Cond.code y bytes maxL ret ∈ aw) (np : Nat) (hnp : As.length = np) (hrc : rm2.cells = mc) (hrs : rm2.slots = ms) (hnl : Cond.methodLinkNest own index y host ∈ Z.2.2.2.1) (hini : Cond.initialized y.cls ∈ aw) (hstat : Cond.static y ∈ aw) (hd : y.cls ≠ "java/lang/invoke/MethodHandle" ∧ y.cls ≠ "java/lang/invoke/VarHandle" ∧ (parseMethodDescriptor y.desc).map (fun d => d.parameters.length) = some np) (hR : rm2.frames + 1 ≤ rm.frames ∧ 8 + (maxL + 11) + rm2.locals ≤ rm.locals) {st0 : List Value} (hst : st0 = As.reverse ++ st) (hs : (st.map fun v => v.category).sum ≤ 8) (d : decode cc pc = .ok (.invokestatic index, 3)) (hcs : k + mc ≤ rm.cells ∧ n + ms ≤ rm.slots) (kk : ∀ (v : Option Value) (g' : GH), post v g' → J X nL Z g' (k + mc) (n + ms) (pc + 3) lv (v.toList ++ st)) : J X nL Z g k n (pc) lv (st0) := by
  subst hnp
  refine j_run O (a := As.toArray) (fun H locs ls a0 b h => ?_) kk
  exact va_runSN (As := As) (rest := st) O.1 hM ⟨va_cnB As.length O.1.2.2.2.2 (gWc hcd) rfl hrc hrs (O.2.2.2.2 _ hnl).2.2 (O.b hini) hd (by rw [O.2.2.2.1]; exact hR), O.b hstat, trivial⟩ ⟨fun a U fr mk q => ⟨q.1, q.2.blind⟩, fun U hU hW => O.pre a0 b U hU hW⟩ rfl rfl h.1 hst (lv_room hs) d (by rw [O.2.2.2.1]; exact hcs)
theorem j_callIN (O : Ok X cc nL own Z rm) {y : MethodName} {bytes : ByteArray} {maxL mc ms index : Nat} {rm2 : Room} {post : Option Value → GH → Prop} {host : String} {b0 : Nat} (As : List Value) (hM : Ct X.2.1 y (.code y bytes maxL none :: aw) rm2 Z (.ref b0 :: As) g mc ms post) (hcd : Cond.code y bytes maxL none ∈ aw) (np : Nat) (hnp : As.length = np) (hrc : rm2.cells = mc) (hrs : rm2.slots = ms) (hnl : Cond.methodLinkNest own index y host ∈ Z.2.2.2.1) (hini : Cond.initialized y.cls ∈ aw) (him : Cond.instanceMethod y ∈ aw) (hy1 : y.name = "<init>") (hd : y.cls ≠ "java/lang/invoke/MethodHandle" ∧ y.cls ≠ "java/lang/invoke/VarHandle" ∧ (parseMethodDescriptor y.desc).map (fun d => d.parameters.length) = some np) (hR : rm2.frames + 1 ≤ rm.frames ∧ 8 + (maxL + 11) + rm2.locals ≤ rm.locals) {st0 : List Value} (hst : st0 = As.reverse ++ .ref b0 :: st) (hs : (st.map fun v => v.category).sum ≤ 8) (d : decode cc pc = .ok (.invokespecial index, 3)) (hcs : k + mc ≤ rm.cells ∧ n + ms ≤ rm.slots) (kk : ∀ (v : Option Value) (g' : GH), post v g' → J X nL Z g' (k + mc) (n + ms) (pc + 3) lv (v.toList ++ st)) : J X nL Z g k n (pc) lv (st0) := by
  subst hnp
  refine j_run O (a := (Value.ref b0 :: As).toArray) (fun H locs ls a0 b h => ?_) kk
  exact va_runIN (As := As) (rest := st) O.1 hM ⟨va_cnB As.length O.1.2.2.2.2 (gWc hcd) rfl hrc hrs (O.2.2.2.2 _ hnl).2.2 (O.b hini) hd (by rw [O.2.2.2.1]; exact hR), hy1, O.b him⟩ ⟨fun a U fr mk q => ⟨q.1, q.2.blind⟩, fun U hU hW => O.pre a0 b U hU hW⟩ rfl rfl h.1 hst (lv_room hs) d (by rw [O.2.2.2.1]; exact hcs)
theorem j_iret (O : Ok X cc nL own Z rm) {mc ms : Nat} {post : Option Value → GH → Prop} {v : Int32} (M : Om X Z (some .int) mc ms post) (h1 : k ≤ mc) (h2 : n ≤ ms) (hp : post (some (.int v)) g) (d : decode cc pc = .ok (.ireturn, 1)) : J X nL Z g k n (pc) lv ([.int v]) := by
  intro H locs ls a0 b h
  rw [M.2.2]
  refine W.widen h1 h2 ?_
  exact W.iret O.1.1 O.1.2.1 M.1 (fun t ht hW => ⟨⟨_, g, rfl, hp, by rw [ht]; exact a0⟩, b.F ht⟩) b.2.2 d M.2.1
theorem j_zret (O : Ok X cc nL own Z rm) {mc ms : Nat} {post : Option Value → GH → Prop} {v : Int32} (hz : narrow .boolean (.int v) = .int v) (M : Om X Z (some .boolean) mc ms post) (h1 : k ≤ mc) (h2 : n ≤ ms) (hp : post (some (.int v)) g) (d : decode cc pc = .ok (.ireturn, 1)) : J X nL Z g k n (pc) lv ([.int v]) := by
  intro H locs ls a0 b h
  rw [M.2.2]
  refine W.widen h1 h2 ?_
  exact W.zret O.1.1 O.1.2.1 M.1 hz (fun t ht hW => ⟨⟨_, g, rfl, hp, by rw [ht]; exact a0⟩, b.F ht⟩) b.2.2 d M.2.1
theorem j_lret (O : Ok X cc nL own Z rm) {mc ms : Nat} {post : Option Value → GH → Prop} {v : Int64} (M : Om X Z (some .long) mc ms post) (h1 : k ≤ mc) (h2 : n ≤ ms) (hp : post (some (.long v)) g) (d : decode cc pc = .ok (.lreturn, 1)) : J X nL Z g k n (pc) lv ([.long v]) := by
  intro H locs ls a0 b h
  rw [M.2.2]
  refine W.widen h1 h2 ?_
  exact W.lret O.1.1 O.1.2.1 M.1 (fun t ht hW => ⟨⟨_, g, rfl, hp, by rw [ht]; exact a0⟩, b.F ht⟩) b.2.2 d M.2.1
theorem j_vret (O : Ok X cc nL own Z rm) {mc ms : Nat} {post : Option Value → GH → Prop}  (M : Om X Z none mc ms post) (h1 : k ≤ mc) (h2 : n ≤ ms) (hp : post none g) (d : decode cc pc = .ok (.return_, 1)) : J X nL Z g k n (pc) lv ([]) := by
  intro H locs ls a0 b h
  rw [M.2.2]
  refine W.widen h1 h2 ?_
  exact W.vret O.1.1 O.1.2.1 M.1 (fun t ht hW => ⟨⟨_, g, rfl, hp, by rw [ht]; exact a0⟩, b.F ht⟩) b.2.2 d M.2.1
theorem j_aret (O : Ok X cc nL own Z rm) {mc ms : Nat} {post : Option Value → GH → Prop} {rt : FieldType} {o : Option Nat} (hrt : (∃ n, rt = .object n) ∨ ∃ t, rt = .array t) (M : Om X Z (some rt) mc ms post) (h1 : k ≤ mc) (h2 : n ≤ ms) (hp : post (some (va_rf o)) g) (d : decode cc pc = .ok (.areturn, 1)) : J X nL Z g k n (pc) lv ([va_rf o]) := by
  intro H locs ls a0 b h
  rw [M.2.2]
  refine W.widen h1 h2 ?_
  exact W.aret O.1.1 O.1.2.1 M.1 hrt (by cases o with | none => exact Or.inl rfl | some x => exact Or.inr ⟨x, rfl⟩) (fun t ht hW => ⟨⟨_, g, rfl, hp, by rw [ht]; exact a0⟩, b.F ht⟩) b.2.2 d M.2.1
end JR
theorem Ct.of {l : Launch} {y : MethodName} {rm : Room} {Z : ZZ} {av : List Value} {g : GH} {mc ms : Nat} {post : Option Value → GH → Prop} {cc : ByteArray} {maxL : Nat} {ret : Option FieldType} (hy : plainName y.cls = true) (hlen : (lg_sl av).length ≤ maxL)
    (body : ∀ X : CX, X.2.1 = l → Ok X cc maxL y.cls Z rm → Om X Z ret mc ms post → (y.name = "<init>" → On X) → J X maxL Z g 0 0 0 (lv_args 0 av) []) : Ct l y (.code y cc maxL ret :: aw) rm Z av g mc ms post := by
  refine Met.ofW (cc := cc) (maxL := maxL) (ret := ret) hy rfl ?_
  intro p e s m args below meth c s1 B hml hv
  obtain ⟨rfl, hB⟩ := hv
  have hown : s.vm.findClass y.cls = some m.cls := findClass_of_methodNamed B.named
  have hl := lv_entry av (n := maxL) hlen
  rw [lg_entry_eq]
  exact body (p, l, e, rm, s, m, av.toArray, below, meth, c, MQ below (jQ Z post) av.toArray s mc ms (zA Z)) rfl ⟨⟨B.exec, B.bytes, hml, hown, fun w hw => atoms_spec (ws := .code y cc maxL ret :: aw) B.pre w (List.mem_cons_of_mem _ hw)⟩, hB.2.1, hB.2.2.1, rfl, hB.2.2.2⟩ ⟨B.returns, B.notSynchronized, rfl⟩ (fun hn => (name_of_methodNamed B.named B.method).1.trans hn) s.heap [] _ hB.1 va_S.rf hl
