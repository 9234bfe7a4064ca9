/-! an array of arrays, made whole: the machine's own steps -/
def mlO (c : ClassId) (N h0 i : Nat) : Cell := arrV c N (fun j => if j < i then .ref (h0 + 1 + j) else .null)
def mlI (c : ClassId) (M : Nat) (v : Value) : Cell := arrV c M (fun _ => v)
theorem mlO_zero (c : ClassId) (N h0 : Nat) : ({ cls := c, slots := Array.replicate N .null, vm := .none } : Cell) = mlO c N h0 0 := by
  rw [arrV_new]
  unfold mlO
  congr 1
theorem mlO_next (c : ClassId) (N h0 i : Nat) : (mlO c N h0 i).setSlot i (.ref (h0 + 1 + i)) = mlO c N h0 (i + 1) := by
  unfold mlO
  rw [arrV_store]
  congr 1
  funext j
  unfold updV
  dsimp only
  by_cases e : j = i
  · subst e
    rw [if_pos rfl, if_pos (Nat.lt_succ_self _)]
  · rw [if_neg e]
    by_cases z : j < i
    · rw [if_pos z, if_pos (by omega)]
    · rw [if_neg z, if_neg (by omega)]
/-- the state with the outer array and its first i inner ones -/
def mlS (s : State) (c comp : ClassId) (N M : Nat) (v : Value) : Nat → State
  | 0 => s.pushCell (mlO c N s.heap.size 0)
  | i + 1 => ((mlS s c comp N M v i).pushCell (mlI comp M v)).setCell s.heap.size (mlO c N s.heap.size (i + 1))
section ML
variable {s : State} {c comp : ClassId} {N M : Nat} {v : Value}
theorem mlS_size : ∀ i, (mlS s c comp N M v i).heap.size = s.heap.size + 1 + i
  | 0 => by simp [mlS]
  | i + 1 => by
    have ih := mlS_size i
    simp [mlS, State.setCell, ih]
    omega
theorem mlS_vm : ∀ i, (mlS s c comp N M v i).vm = s.vm
  | 0 => rfl
  | i + 1 => mlS_vm i
theorem mlS_used : ∀ i, (mlS s c comp N M v i).slotsUsed = s.slotsUsed + N + i * M
  | 0 => by
    have e : (mlO c N s.heap.size 0).slots.size = N := arrV_size _ _ _
    simp [mlS, e]
  | i + 1 => by
    have ih := mlS_used i
    have e : (mlI comp M v).slots.size = M := arrV_size _ _ _
    simp [mlS, ih, e, Nat.succ_mul]
    omega
theorem mlS_out : ∀ i, (mlS s c comp N M v i).heap[s.heap.size]? = some (mlO c N s.heap.size i)
  | 0 => State.heap_pushCell_size _ _
  | i + 1 => by
    have ih := mlS_out i
    have hz := mlS_size (s := s) (c := c) (comp := comp) (N := N) (M := M) (v := v) i
    have hlt : s.heap.size < (mlS s c comp N M v i).heap.size := by rw [hz]; omega
    refine State.heap_setCell_self (c := mlO c N s.heap.size i) ?_
    rw [State.heap_pushCell_of_lt (h := hlt)]
    exact ih
theorem mlS_old {a : Addr} (ha : a < s.heap.size) : ∀ i, (mlS s c comp N M v i).heap[a]? = s.heap[a]?
  | 0 => State.heap_pushCell_of_lt _ _ ha
  | i + 1 => by
    have hz := mlS_size (s := s) (c := c) (comp := comp) (N := N) (M := M) (v := v) i
    have hlt : a < (mlS s c comp N M v i).heap.size := Nat.lt_of_lt_of_le ha (by rw [hz]; omega)
    show (((mlS s c comp N M v i).pushCell (mlI comp M v)).setCell s.heap.size _).heap[a]? = _
    rw [State.heap_setCell_other (Nat.ne_of_gt ha), State.heap_pushCell_of_lt (h := hlt)]
    exact mlS_old ha i
theorem mlS_in : ∀ i j, j < i → (mlS s c comp N M v i).heap[s.heap.size + 1 + j]? = some (mlI comp M v)
  | 0, _, h => absurd h (Nat.not_lt_zero _)
  | i + 1, j, h => by
    have hz := mlS_size (s := s) (c := c) (comp := comp) (N := N) (M := M) (v := v) i
    show (((mlS s c comp N M v i).pushCell (mlI comp M v)).setCell s.heap.size _).heap[s.heap.size + 1 + j]? = _
    rw [State.heap_setCell_other (show s.heap.size ≠ s.heap.size + 1 + j by omega)]
    by_cases e : j = i
    · subst e
      rw [← hz]
      exact State.heap_pushCell_size _ _
    · have hlt : s.heap.size + 1 + j < (mlS s c comp N M v i).heap.size := by rw [hz]; omega
      rw [State.heap_pushCell_of_lt (h := hlt)]
      exact mlS_in i j (by omega)
theorem mlS_top (f : JFrame) : ∀ i, mlS (s.setTop f) c comp N M v i = (mlS s c comp N M v i).setTop f
  | 0 => rfl
  | i + 1 => by
    show ((mlS (s.setTop f) c comp N M v i).pushCell _).setCell _ _ = _
    rw [mlS_top f i]
    rfl
end ML
section MLW
variable {E : CtlPost} {e : Env} {d : Bool} {acts : List Action} {s : State}
/-- one inner array -/
theorem ml_one {comp cc : ClassId} {kc : Class} {ty : FieldType} {m : Int32} (hkc : s.vm.classes[comp]? = some kc) (hkd : kc.kind = .array cc ty) (hm : ¬ m < 0) (hl : ¬ m.toNatClampNeg > e.platform.arrayLengthLimit) (hh : ¬ m.toNatClampNeg * componentBytes ty > e.platform.maxHeapBytes) (hf : fits ty (defaultValue ty) = true) (h1 : s.heap.size < e.platform.maxCells) (h2 : s.slotsUsed + m.toNatClampNeg ≤ e.platform.maxSlots) {Q : Addr → Pre} (hq : ∀ acts', Q s.heap.size d acts' (s.pushCell (mlI comp m.toNatClampNeg (defaultValue ty)))) : wp (Jvm.Op.multianewarray.make comp [m]) Q E e d acts s := by
  rw [Jvm.Op.multianewarray.make]
  simp only [wp_bind', Jvm.W.ite, hm, if_false, wp_pure', Jvm.W.theClass, hkc, hkd, Option.some.injEq, exists_eq_left']
  refine Jvm.W.newArray_of hkc hkd hl hh h1 h2 hf (fun acts' => ?_)
  have := hq acts'
  unfold mlI at this
  rw [← arrV_new] at this
  exact this
/-- the outer array with all its inner ones -/
theorem ml_two {c comp cc : ClassId} {k kc : Class} {ty : FieldType} {n m : Int32} (hk : s.vm.classes[c]? = some k) (hkd : k.kind = .array comp (.array ty)) (hkc : s.vm.classes[comp]? = some kc) (hkdc : kc.kind = .array cc ty) (hn : ¬ n < 0) (hm : ¬ m < 0) (hl1 : ¬ n.toNatClampNeg > e.platform.arrayLengthLimit) (hh1 : ¬ n.toNatClampNeg * componentBytes (.array ty) > e.platform.maxHeapBytes) (hl2 : ¬ m.toNatClampNeg > e.platform.arrayLengthLimit) (hh2 : ¬ m.toNatClampNeg * componentBytes ty > e.platform.maxHeapBytes) (hf : fits ty (defaultValue ty) = true) (h1 : s.heap.size + (1 + n.toNatClampNeg) ≤ e.platform.maxCells) (h2 : s.slotsUsed + (n.toNatClampNeg + n.toNatClampNeg * m.toNatClampNeg) ≤ e.platform.maxSlots) {Q : Addr → Pre} (hq : ∀ d' acts', Q s.heap.size d' acts' (mlS s c comp n.toNatClampNeg m.toNatClampNeg (defaultValue ty) n.toNatClampNeg)) : wp (Jvm.Op.multianewarray.make c [n, m]) Q E e d acts s := by
  rw [Jvm.Op.multianewarray.make]
  simp only [wp_bind', Jvm.W.ite, hn, if_false, wp_pure', Jvm.W.theClass, hk, hkd, Option.some.injEq, exists_eq_left']
  refine Jvm.W.newArray_of hk hkd hl1 hh1 (by omega) (by omega) rfl (fun acts' => ?_)
  have hnone : [m].find? (fun x => decide (x < 0)) = none := by simp [hm]
  have hcell : ({ cls := c, slots := Array.replicate n.toNatClampNeg .null } : Cell) = mlO c n.toNatClampNeg s.heap.size 0 := mlO_zero c n.toNatClampNeg s.heap.size
  rw [hcell]
  simp only [hnone]
  rw [ite_self, wp_bind', Std.Legacy.Range.forIn_eq_forIn_range']
  rw [show ([:n.toNatClampNeg] : Std.Legacy.Range).size = n.toNatClampNeg by simp [Std.Legacy.Range.size]]
  refine wp_forIn_inv (fun rest s' => ∃ i, i + rest.length = n.toNatClampNeg ∧ rest = List.range' i rest.length ∧ s' = mlS s c comp n.toNatClampNeg m.toNatClampNeg (defaultValue ty) i) _ _ ⟨0, by simp, by simp, rfl⟩ ?_ ?_
  · intro x rest s' d' acts'' Q' hI hnext
    obtain ⟨i, hi, hr, rfl⟩ := hI
    rw [List.length_cons, List.range'_succ] at hr
    obtain ⟨rfl, hr2⟩ := List.cons.inj hr
    rw [List.length_cons] at hi
    have z1 := mlS_size (s := s) (c := c) (comp := comp) (N := n.toNatClampNeg) (M := m.toNatClampNeg) (v := defaultValue ty) x
    have z2 := mlS_vm (s := s) (c := c) (comp := comp) (N := n.toNatClampNeg) (M := m.toNatClampNeg) (v := defaultValue ty) x
    have z3 := mlS_used (s := s) (c := c) (comp := comp) (N := n.toNatClampNeg) (M := m.toNatClampNeg) (v := defaultValue ty) x
    have z4 := mlS_out (s := s) (c := c) (comp := comp) (N := n.toNatClampNeg) (M := m.toNatClampNeg) (v := defaultValue ty) x
    have hmul : x * m.toNatClampNeg + m.toNatClampNeg ≤ n.toNatClampNeg * m.toNatClampNeg := by
      have := Nat.mul_le_mul_right m.toNatClampNeg (show x + 1 ≤ n.toNatClampNeg by omega)
      rw [Nat.succ_mul] at this
      exact this
    have hlt : s.heap.size < (mlS s c comp n.toNatClampNeg m.toNatClampNeg (defaultValue ty) x).heap.size := by rw [z1]; omega
    simp only [wp_bind']
    refine ml_one (by rw [z2]; exact hkc) hkdc hm hl2 hh2 hf (by rw [z1]; omega) (by rw [z3]; omega) (fun acts3 => ?_)
    simp only [wp_bind', Jvm.W.writeLoc, wp_pure']
    refine ⟨mlO c n.toNatClampNeg s.heap.size x, by rw [State.heap_pushCell_of_lt (h := hlt)]; exact z4, (fun q => by cases q), by rw [show (mlO c n.toNatClampNeg s.heap.size x).slots.size = n.toNatClampNeg from arrV_size _ _ _]; omega, ?_, hnext _ _ _ ⟨x + 1, by omega, hr2, ?_⟩⟩
    · show State.fitsSlot _ c .none x _ = true
      simp [State.fitsSlot, State.slotType?, z2, hk, hkd, fits]
    · rw [z1, mlO_next]
      rfl
  · intro s' d' acts'' hI
    obtain ⟨i, hi, -, rfl⟩ := hI
    have e1 : i = n.toNatClampNeg := by simpa using hi
    subst e1
    exact hq _ _
end MLW
