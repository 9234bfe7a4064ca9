/-! Two ghost heaps side by side: the law's world is the system's cells and the reference's cells; a call touches one of them. Kp: what a stretch of code keeps. -/
theorem gP_iff {D : va_G} {cl : List vw_C} {L : List Nat} {f : Nat → va_E} {H : Heap} : va_P D cl (va_pl L f) H ↔ ∀ a ∈ L, va_at D cl (a, f a) H := by
  constructor
  · intro h a ha
    obtain ⟨k, hk⟩ := gAt.k (g := (L, f)) ⟨ha, rfl⟩
    exact h k _ hk
  · intro h k q hk
    obtain ⟨a, ha, rfl⟩ := List.mem_map.mp (List.mem_of_getElem? hk)
    exact h a ha
theorem gD_iff {A : Nat → Prop} {L : List Nat} {f : Nat → va_E} : va_D A (va_pl L f) ↔ L.Nodup ∧ ∀ a ∈ L, A a := by
  constructor
  · intro h
    constructor
    · rw [List.Nodup, List.pairwise_iff_getElem]
      intro i j hi hj hij he
      have h1 : (va_pl L f)[i]? = some (L[i], f L[i]) := by simp [va_pl, hi]
      have h2 : (va_pl L f)[j]? = some (L[j], f L[j]) := by simp [va_pl, hj]
      have := h.1 i j _ _ h1 h2 he
      omega
    · intro a ha
      obtain ⟨k, hk⟩ := gAt.k (g := (L, f)) ⟨ha, rfl⟩
      exact h.2 k _ hk
  · intro h
    have hn := h.1
    rw [List.Nodup, List.pairwise_iff_getElem] at hn
    refine ⟨fun i j p q hp hq hpq => ?_, fun k q hk => ?_⟩
    · have hi : i < L.length := by have := (List.getElem?_eq_some_iff.mp hp).1; simpa [va_pl] using this
      have hj : j < L.length := by have := (List.getElem?_eq_some_iff.mp hq).1; simpa [va_pl] using this
      have e1 : L[i] = p.1 := by
        have : (va_pl L f)[i]? = some (L[i], f L[i]) := by simp [va_pl, hi]
        rw [this] at hp
        exact (congrArg Prod.fst (Option.some.inj hp))
      have e2 : L[j] = q.1 := by
        have : (va_pl L f)[j]? = some (L[j], f L[j]) := by simp [va_pl, hj]
        rw [this] at hq
        exact (congrArg Prod.fst (Option.some.inj hq))
      rcases Nat.lt_trichotomy i j with c | c | c
      · exact absurd (e1.trans (hpq.trans e2.symm)) (hn i j hi hj c)
      · exact c
      · exact absurd (e2.trans (hpq.symm.trans e1.symm)) (hn j i hj hi c)
    · obtain ⟨a, ha, rfl⟩ := List.mem_map.mp (List.mem_of_getElem? hk)
      exact h.2 a ha
theorem gW_iff {Z : ZZ} {g : GH} {H : Heap} : gW Z g H ↔ (∀ a ∈ g.1, va_at Z.1 Z.2.1 (a, g.2 a) H) ∧ g.1.Nodup ∧ ∀ a ∈ g.1, zA Z a := by
  unfold gW
  rw [gP_iff, gD_iff]
def gPl (g1 g2 : GH) : GH := (g1.1 ++ g2.1, fun a => if a ∈ g1.1 then g1.2 a else g2.2 a)
/-- what is needed of g1 beside g2 -/
theorem gPl_iff {Z : ZZ} {g1 g2 : GH} {H : Heap} : gW Z (gPl g1 g2) H ↔ gW Z g1 H ∧ gW Z g2 H ∧ ∀ a ∈ g1.1, a ∉ g2.1 := by
  rw [gW_iff, gW_iff, gW_iff]
  constructor
  · rintro ⟨h1, h2, h3⟩
    have h2' := List.nodup_append.mp h2
    have hdis : ∀ a ∈ g1.1, a ∉ g2.1 := fun a ha hb => h2'.2.2 a ha a hb rfl
    refine ⟨⟨fun a ha => ?_, h2'.1, fun a ha => h3 a (List.mem_append_left _ ha)⟩, ⟨fun a ha => ?_, h2'.2.1, fun a ha => h3 a (List.mem_append_right _ ha)⟩, hdis⟩
    · have := h1 a (List.mem_append_left _ ha)
      simp only [gPl, if_pos ha] at this
      exact this
    · have := h1 a (List.mem_append_right _ ha)
      have hn : a ∉ g1.1 := fun q => hdis a q ha
      simp only [gPl, if_neg hn] at this
      exact this
  · rintro ⟨⟨a1, a2, a3⟩, ⟨b1, b2, b3⟩, hdis⟩
    refine ⟨fun a ha => ?_, List.nodup_append.mpr ⟨a2, b2, fun a ha b hb q => hdis a ha (q ▸ hb)⟩, fun a ha => ?_⟩
    · by_cases hq : a ∈ g1.1
      · simp only [gPl, if_pos hq]
        exact a1 a hq
      · simp only [gPl, if_neg hq]
        rcases List.mem_append.mp ha with h | h
        · exact absurd h hq
        · exact b1 a h
    · rcases List.mem_append.mp ha with h | h
      · exact a3 a h
      · exact b3 a h
theorem gPl_comm {Z : ZZ} {g1 g2 : GH} {H : Heap} (h : gW Z (gPl g1 g2) H) : gW Z (gPl g2 g1) H := by
  rw [gPl_iff] at h ⊢
  exact ⟨h.2.1, h.1, fun a ha hb => h.2.2 a hb ha⟩
section JF
variable {X : CX} {cc : ByteArray} {nL : Nat} {own : String} {Z : ZZ} {rm : Room} {g g1 g2 : GH} {k n pc : Nat} {lv : List (Nat × Value)} {st : List Value}
theorem J.comm (kk : J X nL Z (gPl g2 g1) k n pc lv st) : J X nL Z (gPl g1 g2) k n pc lv st := fun H locs ls a b h => kk H locs ls (gPl_comm a) b h
/-- a call beside a frame g2: the callee's contract speaks of g1 alone, whatever may change -/
theorem j_runF (O : Ok X cc nL own Z rm) {mc ms : Nat} {post : Option Value → GH → Prop} {a : Array Value} {st0 : List Value}
    (hr : ∀ (H : Heap) (locs : List Loc) (ls : Array Slot) (A1 : Nat → Prop), A1 = (fun q => q ∈ g1.1 ∨ H.size ≤ q) → gW (Z.1, Z.2.1, Z.2.2.1, Z.2.2.2.1, A1) g1 H → va_S (zA Z) X.2.2.2.2.1.heap H locs → lv_has ls nL lv → va_Run X.1 X.2.1 X.2.2.1 X.2.2.2.1 X.2.2.2.2.1 X.2.2.2.2.2.1 X.2.2.2.2.2.2.1 X.2.2.2.2.2.2.2.1 X.2.2.2.2.2.2.2.2.1 X.2.2.2.2.2.2.2.2.2.1 H locs k n mc ms (F0 X.2.2.2.2.2.1 pc ls st0) st (jQ (Z.1, Z.2.1, Z.2.2.1, Z.2.2.2.1, A1) post a) A1)
    (kk : ∀ (v : Option Value) (g' : GH), post v g' → J X nL Z (gPl g' g2) (k + mc) (n + ms) (pc + 3) lv (v.toList ++ st)) : J X nL Z (gPl g1 g2) k n pc lv st0 := by
  intro H locs ls a0 b h T hT X0
  obtain ⟨w1, w2, hdis⟩ := gPl_iff.mp a0
  have w1' := gW_iff.mp w1
  have w2' := gW_iff.mp w2
  have hW1 : gW (Z.1, Z.2.1, Z.2.2.1, Z.2.2.2.1, fun q => q ∈ g1.1 ∨ H.size ≤ q) g1 H := gW_iff.mpr ⟨w1'.1, w1'.2.1, fun a ha => Or.inl ha⟩
  have hA : ∀ q : Nat, (q ∈ g1.1 ∨ H.size ≤ q) → zA Z q := by
    rintro q (h1 | h1)
    · exact w1'.2.2 q h1
    · exact O.2.2.1 q (Nat.le_trans b.1 h1)
  obtain ⟨v, s0, t, T', L, h0, X', hL, e1, e2, ⟨⟨v', g', hv, hp, hb⟩, hz, hk⟩, sx⟩ := hr H locs ls _ rfl hW1 b h T hT X0
  cases hv
  rw [h0] at hz hk
  have hn2 : ∀ a ∈ g2.1, a < H.size ∧ ¬ (a ∈ g1.1 ∨ H.size ≤ a) := by
    intro a ha
    have hl : a < H.size := (w2'.1 a ha).lt
    exact ⟨hl, fun q => by
      rcases q with q | q
      · exact hdis a q ha
      · omega⟩
  have b1 := gW_iff.mp hb
  have hW' : gW Z (gPl g' g2) T'.heap := by
    rw [gPl_iff, gW_iff, gW_iff, e1]
    refine ⟨⟨b1.1, b1.2.1, fun a ha => hA a (b1.2.2 a ha)⟩, ⟨fun a ha => ?_, w2'.2.1, w2'.2.2⟩, fun a ha hb2 => (hn2 a hb2).2 (b1.2.2 a ha)⟩
    exact (w2'.1 a ha).kept (hk a (hn2 a ha).1 (hn2 a ha).2)
  obtain ⟨t2, a1, c1⟩ := kk v g' hp T'.heap (locs ++ L) ls hW' ⟨Nat.le_trans b.1 (by rw [e1]; exact hz), fun q h1 h2 => by rw [e1, hk q (Nat.lt_of_lt_of_le h1 b.1) (fun z => h2 (hA q z))]; exact b.2.1 q h1 h2, fun q hq => by
      rcases List.mem_append.mp hq with h | h
      · exact b.2.2 q h
      · exact hA _ (hL q h)⟩ h T' rfl X'
  exact ⟨t2, sx t2 a1, c1⟩
theorem j_callVF (O : Ok X cc nL own Z rm) {y : MethodName} {bytes : ByteArray} {maxL mc ms index : Nat} {ret : Option FieldType} {rm2 : Room} {post : Option Value → GH → Prop} {C : String} {b0 ci : Nat} {T : u_T} {N : Nat} {fs : List Value} (As : List Value) (hM : ∀ A1 : Nat → Prop, Ct X.2.1 y (.code y bytes maxL ret :: aw) rm2 (Z.1, Z.2.1, Z.2.2.1, Z.2.2.2.1, A1) (.ref b0 :: As) g1 mc ms post) (ha : gAt g1 b0 (.inr (ci, fs))) (hc : Z.2.1[ci]? = some (C, T, N)) (hml : Cond.methodLink own index y ∈ aw) (him : Cond.instanceMethod y ∈ aw) (hsel : Cond.selects C y y ∈ aw) (hini : Cond.initialized C ∈ aw) (hcd : Cond.code y bytes maxL ret ∈ aw) (np : Nat) (hnp : As.length = np) (hrc : rm2.cells = mc) (hrs : rm2.slots = ms) (hd : y.cls = C ∧ y.cls ≠ "java/lang/invoke/MethodHandle" ∧ y.cls ≠ "java/lang/invoke/VarHandle" ∧ (parseMethodDescriptor y.desc).map (fun d => d.parameters.length) = some np) (hR : rm2.frames + 1 ≤ rm.frames ∧ 8 + (maxL + 11) + rm2.locals ≤ rm.locals) {st0 : List Value} (hst : st0 = As.reverse ++ .ref b0 :: st) (hs : (st.map fun v => v.category).sum ≤ 8) (d : decode cc pc = .ok (.invokevirtual index, 3)) (hcs : k + mc ≤ rm.cells ∧ n + ms ≤ rm.slots) (kk : ∀ (v : Option Value) (g' : GH), post v g' → J X nL Z (gPl g' g2) (k + mc) (n + ms) (pc + 3) lv (v.toList ++ st)) : J X nL Z (gPl g1 g2) k n pc lv st0 := by
  subst hnp
  refine j_runF O (a := (Value.ref b0 :: As).toArray) (fun H locs ls A1 hA1 a0 b h => ?_) kk
  obtain ⟨q, hq⟩ := ha.k
  exact va_runV (As := As) (rest := st) O.1 (hM A1) (cwV As.length O.1.2.2.2.2 (gWv hml him hsel hini hcd) rfl hrc hrs hd (by rw [O.2.2.2.1]; exact hR)) ⟨fun a U fr mk q => ⟨q.1, q.2.blind⟩, va_recv O.2.1 a0.1 hc hq, fun U hU hW => ⟨rfl, by rw [hU]; exact a0, va_K.moved hW.alike O.2.1, fun q h => by rw [hA1]; exact Or.inr (by rw [← hU]; exact h), O.2.2.2.2.warm hW⟩⟩ rfl rfl h.1 hst (lv_room hs) d (by rw [O.2.2.2.1]; exact hcs)
theorem j_callIF (O : Ok X cc nL own Z rm) {y : MethodName} {bytes : ByteArray} {maxL mc ms index : Nat} {rm2 : Room} {post : Option Value → GH → Prop} {b0 : Nat} (As : List Value) (hM : ∀ A1 : Nat → Prop, Ct X.2.1 y (.code y bytes maxL none :: aw) rm2 (Z.1, Z.2.1, Z.2.2.1, Z.2.2.2.1, A1) (.ref b0 :: As) g1 mc ms post) (hcd : Cond.code y bytes maxL none ∈ aw) (np : Nat) (hnp : As.length = np) (hrc : rm2.cells = mc) (hrs : rm2.slots = ms) (hini : Cond.initialized y.cls ∈ aw) (hml : Cond.methodLink own index y ∈ aw) (him : Cond.instanceMethod y ∈ aw) (hy1 : y.name = "<init>") (hd : y.cls ≠ "java/lang/invoke/MethodHandle" ∧ y.cls ≠ "java/lang/invoke/VarHandle" ∧ (parseMethodDescriptor y.desc).map (fun d => d.parameters.length) = some np) (hR : rm2.frames + 1 ≤ rm.frames ∧ 8 + (maxL + 11) + rm2.locals ≤ rm.locals) {st0 : List Value} (hst : st0 = As.reverse ++ .ref b0 :: st) (hs : (st.map fun v => v.category).sum ≤ 8) (d : decode cc pc = .ok (.invokespecial index, 3)) (hcs : k + mc ≤ rm.cells ∧ n + ms ≤ rm.slots) (kk : ∀ (v : Option Value) (g' : GH), post v g' → J X nL Z (gPl g' g2) (k + mc) (n + ms) (pc + 3) lv (v.toList ++ st)) : J X nL Z (gPl g1 g2) k n pc lv st0 := by
  subst hnp
  refine j_runF O (a := (Value.ref b0 :: As).toArray) (fun H locs ls A1 hA1 a0 b h => ?_) kk
  exact va_runI (As := As) (rest := st) O.1 (hM A1) (cwI As.length O.1.2.2.2.2 (gWc hcd) rfl hrc hrs (O.b hini) (O.b hml) (O.b him) hy1 hd (by rw [O.2.2.2.1]; exact hR)) ⟨fun a U fr mk q => ⟨q.1, q.2.blind⟩, fun U hU hW => ⟨rfl, by rw [hU]; exact a0, va_K.moved hW.alike O.2.1, fun q h => by rw [hA1]; exact Or.inr (by rw [← hU]; exact h), O.2.2.2.2.warm hW⟩⟩ rfl rfl h.1 hst (lv_room hs) d (by rw [O.2.2.2.1]; exact hcs)
end JF
/-- what a stretch of code keeps: all that was there stays there; of the cells outside M also what they hold -/
def Kp (M : List Nat) (g g' : GH) : Prop := (∀ b ∈ g.1, b ∈ g'.1) ∧ ∀ (b : Nat) (e : va_E), b ∉ M → gAt g b e → gAt g' b e
theorem Kp.rf {M : List Nat} {g : GH} : Kp M g g := ⟨fun _ h => h, fun _ _ _ h => h⟩
theorem Kp.tr {M : List Nat} {g g1 g2 : GH} (h1 : Kp M g g1) (h2 : Kp M g1 g2) : Kp M g g2 := ⟨fun b h => h2.1 b (h1.1 b h), fun b e n h => h2.2 b e n (h1.2 b e n h)⟩
theorem Kp.mono {M M' : List Nat} {g g' : GH} (h : Kp M g g') (hm : ∀ a ∈ M, a ∈ M') : Kp M' g g' := ⟨h.1, fun b e n q => h.2 b e (fun z => n (hm b z)) q⟩
theorem Kp.up {M : List Nat} {g g1 : GH} {a : Nat} {e : va_E} (h : Kp M g g1) (ha : a ∈ M) : Kp M g (gUp g1 a e) := ⟨h.1, fun b f n q => gUp_ne (h.2 b f n q) (fun z => n (z ▸ ha))⟩
/-- a cell that was not there at the start may be written -/
theorem Kp.upN {M : List Nat} {g g1 : GH} {a : Nat} {e : va_E} (h : Kp M g g1) (ha : a ∉ g.1) : Kp M g (gUp g1 a e) := ⟨h.1, fun b f n q => gUp_ne (h.2 b f n q) (fun z => ha (z ▸ q.1))⟩
theorem Kp.new {M : List Nat} {g g1 : GH} {a : Nat} {e : va_E} (h : Kp M g g1) (ha : a ∉ g1.1) : Kp M g (gNew g1 a e) := ⟨fun b q => List.mem_append_left _ (h.1 b q), fun b f n q => gNew_old (h.2 b f n q) ha⟩
theorem Kp.nin {M : List Nat} {g g1 : GH} {a : Nat} (h : Kp M g g1) (ha : a ∉ g1.1) : a ∉ g.1 := fun q => ha (h.1 a q)
/-- cells made on the way are none of the caller's -/
theorem Kp.sub {M M' : List Nat} {g g1 g2 : GH} (h1 : Kp M g g1) (h2 : Kp M' g1 g2) (hm : ∀ a ∈ M', a ∈ M ∨ a ∉ g.1) : Kp M g g2 := ⟨fun b h => h2.1 b (h1.1 b h), fun b e n h => h2.2 b e (fun z => (hm b z).elim n (fun q => q h.1)) (h1.2 b e n h)⟩
theorem va_rf_cat (o : Option Nat) : (va_rf o).category = 1 := by cases o <;> rfl
