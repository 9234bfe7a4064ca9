/-! an array of arrays, made whole -/
theorem arrV_congr {c : ClassId} {N : Nat} {f f' : Nat → Value} (h : ∀ j, j < N → f j = f' j) : arrV c N f = arrV c N f' := by
  unfold arrV
  congr 1
  apply Array.ext
  · simp
  · intro j h1 h2
    simp at h1
    simp [h j h1]
/-- what 'arrayOver' says of arrays of arrays -/
theorem ao_arr {args : Array Value} {s : State} {t : FieldType} (h : (Cond.arrayOver (.array t)).before args s = true) : ∃ comp c k, s.vm.findClass (FieldType.array t).toString = some comp ∧ s.vm.classes[c]? = some k ∧ k.kind = .array comp (.array t) ∧ s.vm.findClass ("[" ++ (FieldType.array t).toString) = some c := by
  simp only [Cond.before, Cond.holds, Cond.value, beq_iff_eq, Option.bind_eq_some_iff, Option.map_eq_some_iff] at h
  obtain ⟨comp, h1, c, h2, k, h3, h4⟩ := h
  obtain ⟨hlt, h5, -⟩ := Array.findIdx?_eq_some_iff_getElem.mp h2
  have e : s.vm.classes[c] = k := (Array.getElem?_eq_some_iff.mp h3).2
  rw [e] at h5
  refine ⟨comp, c, k, h1, h3, ?_⟩
  revert h4 h5
  cases k.kind <;> simp
  intro a b e1
  exact ⟨⟨e1, a⟩, b⟩
section MLS
variable {p : Program} {l : Launch} {e : Env} {R : Room} {s : State} {m : MethodId} {args : Array Value} {below : List Frame} {meth : Method} {c : Code} {T : State} {locs : List Loc} {cells slots : Nat}
theorem ml_stand (X : Stand p l e R s m args below meth c T locs cells slots) (cA comp : ClassId) (N M : Nat) (v : Value) : ∀ i, Stand p l e R s m args below meth c (mlS T cA comp N M v i) locs (cells + 1 + i) (slots + N + i * M)
  | 0 => by
    have h := X.pushed (mlO cA N T.heap.size 0)
    rw [show (mlO cA N T.heap.size 0).slots.size = N from arrV_size _ _ _] at h
    rw [Nat.zero_mul]
    exact h
  | i + 1 => by
    have h0 := ml_stand X cA comp N M v i
    have z1 := mlS_size (s := T) (c := cA) (comp := comp) (N := N) (M := M) (v := v) i
    have z4 := mlS_out (s := T) (c := cA) (comp := comp) (N := N) (M := M) (v := v) i
    have hlt : T.heap.size < (mlS T cA comp N M v i).heap.size := by rw [z1]; omega
    have hcell : ((mlS T cA comp N M v i).pushCell (mlI comp M v)).heap[T.heap.size]? = some (mlO cA N T.heap.size i) := by rw [State.heap_pushCell_of_lt (h := hlt)]; exact z4
    have h1 := (h0.pushed (mlI comp M v)).stored hcell i (.ref (T.heap.size + 1 + i))
    rw [mlO_next, show (mlI comp M v).slots.size = M from arrV_size _ _ _] at h1
    have h2 := Stand.forget (locs := locs) h1 (fun y hy => by
      rw [List.mem_singleton.mp hy]
      exact X.same.2.1)
    rw [show slots + N + (i + 1) * M = slots + N + i * M + M by rw [Nat.succ_mul]; omega]
    exact h2
theorem ml_step (X : Stand p l e R s m args below meth c T locs cells slots) (hexec : p.tables.exec = Jvm.exec) {own : String} {index : Nat} {ty : FieldType} (hown : s.vm.findClass own = some m.cls) (hcl : (Cond.classLink own index ("[" ++ (FieldType.array ty).toString)).before args s = true) (hov : (Cond.arrayOver (.array ty)).before args s = true) (har : (Cond.arrayClass ty).before args s = true) {g : JFrame} (hg : g.method = m) (hd : decode c.code g.pc = .ok (.multianewarray index 2, 4)) {n k : Int32} {rest : List Value} (hst : g.stack = .int k :: .int n :: rest) (hn : ¬ n < 0) (hk : ¬ k < 0) (hb1 : n.toNatClampNeg * 4 ≤ 536870912) (hb2 : k.toNatClampNeg * componentBytes ty ≤ 536870912) (hb3 : k.toNatClampNeg ≤ 536870912) (hf : fits ty (defaultValue ty) = true) (hc : cells + (1 + n.toNatClampNeg) ≤ R.cells) (hs : slots + (n.toNatClampNeg + n.toNatClampNeg * k.toNatClampNeg) ≤ R.slots) :
    ∃ (vm1 : Vm) (cA comp : ClassId), s.vm.findClass ("[" ++ (FieldType.array ty).toString) = some cA ∧ s.vm.findClass (FieldType.array ty).toString = some comp ∧ Stand p l e R s m args below meth c (mlS (T.setVm vm1) cA comp n.toNatClampNeg k.toNatClampNeg (defaultValue ty) n.toNatClampNeg) locs (cells + 1 + n.toNatClampNeg) (slots + n.toNatClampNeg + n.toNatClampNeg * k.toNatClampNeg) ∧ ∀ tg, Steps p.tables e below ((mlS (T.setVm vm1) cA comp n.toNatClampNeg k.toNatClampNeg (defaultValue ty) n.toNatClampNeg).setTop { g with pc := g.pc + 4, stack := .ref T.heap.size :: rest }) tg → Steps p.tables e below (T.setTop g) tg := by
  subst hg
  obtain ⟨comp, cA, kA, hq1, hq2, hq3, hq4⟩ := ao_arr hov
  obtain ⟨comp2, kC, cc, hr1, hr2, hr3⟩ := Cond.arrayClass_spec har
  have e2 : comp2 = comp := Option.some.inj (hr1.symm.trans hq1)
  subst e2
  obtain ⟨c0, hc1, hc2⟩ := Cond.classLink_spec hown hcl e.platform (by rw [X.admits.platform])
  have e3 : c0 = cA := Option.some.inj (hc1.symm.trans hq4)
  subst e3
  obtain ⟨hg1, hw1, -⟩ := State.classEntry (e := e) X.warmed hc2
  generalize T.vm.noted g.method.cls index (.cls c0) = vm1 at hg1 hw1
  obtain ⟨kA1, hA1, hA2⟩ := hw1.alike.2.2 _ _ hq2
  obtain ⟨kC1, hC1, hC2⟩ := hw1.alike.2.2 _ _ hr2
  obtain ⟨hr1, hr2'⟩ := X.roomAbove hc hs
  have XF := ml_stand (X.noted hw1) c0 comp2 n.toNatClampNeg k.toNatClampNeg (defaultValue ty) n.toNatClampNeg
  refine ⟨vm1, c0, comp2, hq4, hq1, XF, fun tg hgo => ?_⟩
  have b1 := Launch.admits_arrayLengthLimit X.admits
  have b2 := Launch.admits_maxHeapBytes X.admits
  jvm_step X.here [hexec, hd]
  simp only [Jvm.Op.multianewarray.sem, wp_bind', Jvm.W.resolveClassAt_links (State.method?_setTop g X.here.top) hg1]
  rw [Jvm.W.popN, if_neg (by decide)]
  refine ⟨g, State.topJava?_setTop' (s := T.setVm vm1) g X.here.top, [.int n, .int k], rest, rfl, hst, ?_⟩
  simp only [List.mapM_cons, List.mapM_nil, wp_bind', wp_pure']
  refine ml_two (k := kA1) (kc := kC1) (comp := comp2) (cc := cc) (ty := ty) hA1 (by rw [hA2]; exact hq3) hC1 (by rw [hC2]; exact hr3) hn hk (by rw [b1]; omega) (by rw [b2]; show ¬ n.toNatClampNeg * 4 > 536870912; omega) (by rw [b1]; omega) (by rw [b2]; omega) hf (by show T.heap.size + _ ≤ _; exact hr1) (by show T.slotsUsed + _ ≤ _; exact hr2') (fun d' acts' => ?_)
  have eS : ((T.setTop g).setVm vm1).setTop { g with stack := rest } = (T.setVm vm1).setTop { g with stack := rest } := by
    show ((T.setVm vm1).setTop g).setTop _ = _
    rw [State.setTop_setTop]
  rw [eS, mlS_top]
  simp only [wp_bind', Jvm.W.mark, Jvm.W.pushRef, State.topJava?_setTop' _ XF.here.top, Option.some.injEq, exists_eq_left', State.setTop_setTop, State.heap_setTop]
  intro acts2
  simp [jvm, XF.here.top]
  exact hgo
end MLS
section JMU
variable {X : CX} {cc : ByteArray} {nL : Nat} {own : String} {Z : ZZ} {rm : Room} {g : GH} {k n pc : Nat} {lv : List (Nat × Value)} {st : List Value}
theorem j_multi (O : Ok X cc nL own Z rm) {index : Nat} {ty : FieldType} (hcl : Cond.classLink own index ("[" ++ (FieldType.array ty).toString) ∈ aw) (hover : Cond.arrayOver (.array ty) ∈ Z.2.2.2.1) (harr : Cond.arrayClass ty ∈ aw) (t0 t1 : Nat) {cA cC : ClassId} (ht0 : Z.2.2.1[t0]? = some (cA, .array ty)) (ht1 : Z.2.2.1[t1]? = some (cC, ty)) (hob : va_RA X.2.2.2.2.1 cC ty = (X.2.2.2.2.1.vm.findClass ("[" ++ ty.toString) = some cC)) (K : Nat) (a0 : vp_A) (ha : ∀ c : ClassId, vp_cell c a0 = arrV c K (fun _ => defaultValue ty)) (hdf : fits ty (defaultValue ty) = true) (hdd : (defaultValue ty).isDefault = true) {i j : Int32} (N : Nat) (hi : ¬ i < 0) (hj : ¬ j < 0) (hN : i.toNatClampNeg = N) (hK : j.toNatClampNeg = K) (hb1 : N * 4 ≤ 536870912) (hb2 : K * componentBytes ty ≤ 536870912) (hb3 : K ≤ 536870912) (hcells : k + (1 + N) ≤ rm.cells) (hslots : n + (N + N * K) ≤ rm.slots) (d : decode cc pc = .ok (.multianewarray index 2, 4))
    (kk : ∀ (q : Nat) (g1 : GH), (∀ b, q ≤ b → b ∉ g.1) → gAt g1 q (.inl (cA, N, .inr (.inr (.inr (.inr (fun j => some (q + 1 + j))))))) → (∀ b, b < N → gAt g1 (q + 1 + b) (.inl (cC, a0))) → (∀ b e, gAt g b e → gAt g1 b e) → J X nL Z g1 (k + 1 + N) (n + N + N * K) (pc + 4) lv (.ref q :: st)) : J X nL Z g k n pc lv (.int j :: .int i :: st) := by
  intro H locs ls aW b h T hT XS
  subst hN hK
  have hA := O.2.1.2 t0 _ ht0
  have hC := O.2.1.2 t1 _ ht1
  rw [hob] at hC
  obtain ⟨vm1, cA1, comp, hfA, hfC, X1, step⟩ := ml_step XS O.1.1 O.1.2.2.2.1 (O.b hcl) ((O.2.2.2.2 _ hover).1 _ _ _ rfl (O.2.2.2.2 _ hover).2.2) (O.b harr) (g := F0 X.2.2.2.2.2.1 pc ls (.int j :: .int i :: st)) rfl (by rw [O.1.2.1]; exact d) rfl hi hj hb1 hb2 hb3 hdf (by rw [O.2.2.2.1]; exact hcells) (by rw [O.2.2.2.1]; exact hslots)
  have eA : cA1 = cA := Option.some.inj (hfA.symm.trans hA.2)
  have eC : comp = cC := Option.some.inj (hfC.symm.trans hC.2)
  subst eA eC
  have hsz : (T.setVm vm1).heap = H := hT
  have f1 := mlS_size (s := T.setVm vm1) (c := cA1) (comp := comp) (N := i.toNatClampNeg) (M := j.toNatClampNeg) (v := defaultValue ty) i.toNatClampNeg
  have f2 := mlS_out (s := T.setVm vm1) (c := cA1) (comp := comp) (N := i.toNatClampNeg) (M := j.toNatClampNeg) (v := defaultValue ty) i.toNatClampNeg
  have f3 : ∀ q : Nat, q < H.size → (mlS (T.setVm vm1) cA1 comp i.toNatClampNeg j.toNatClampNeg (defaultValue ty) i.toNatClampNeg).heap[q]? = H[q]? := fun q hq => by
    rw [mlS_old (s := T.setVm vm1) (by rw [hsz]; exact hq), hsz]
  have f4 : ∀ q : Nat, q < i.toNatClampNeg → (mlS (T.setVm vm1) cA1 comp i.toNatClampNeg j.toNatClampNeg (defaultValue ty) i.toNatClampNeg).heap[H.size + 1 + q]? = some (mlI comp j.toNatClampNeg (defaultValue ty)) := fun q hq => by
    have := mlS_in (s := T.setVm vm1) (c := cA1) (comp := comp) (N := i.toNatClampNeg) (M := j.toNatClampNeg) (v := defaultValue ty) i.toNatClampNeg q hq
    rw [hsz] at this
    exact this
  rw [hsz] at f1 f2
  generalize mlS (T.setVm vm1) cA1 comp i.toNatClampNeg j.toNatClampNeg (defaultValue ty) i.toNatClampNeg = T1 at *
  have w := gW_iff.mp aW
  have hlt : ∀ b ∈ g.1, b < H.size := fun b hb => (w.1 b hb).lt
  have hin0 : ∀ b e, gAt g b e → b < H.size := fun b e hb => hlt b hb.1
  have hE : ∀ (G : Nat → va_E), G = (fun a => if a = H.size then .inl (cA1, i.toNatClampNeg, .inr (.inr (.inr (.inr (fun j => some (H.size + 1 + j)))))) else if H.size < a then .inl (comp, a0) else g.2 a) → gW Z (g.1 ++ (H.size :: (List.range i.toNatClampNeg).map (fun b => H.size + 1 + b)), G) T1.heap := by
    intro G hG
    rw [gW_iff]
    refine ⟨fun a hm => ?_, ?_, fun a hm => ?_⟩
    · rcases List.mem_append.mp hm with q | q
      · have hl := hlt a q
        have e : G a = g.2 a := by rw [hG]; simp only []; rw [if_neg (by omega), if_neg (by omega)]
        show va_at _ _ (a, G a) _
        rw [e]
        exact (w.1 a q).kept (f3 a hl)
      · rcases List.mem_cons.mp q with q | q
        · subst q
          show va_at _ _ (H.size, G H.size) _
          rw [show G H.size = .inl (cA1, i.toNatClampNeg, .inr (.inr (.inr (.inr (fun j => some (H.size + 1 + j)))))) by rw [hG]; simp]
          show T1.heap[H.size]? = some (vp_cell _ _)
          rw [f2, vp_cell_q]
          congr 1
          unfold mlO
          exact arrV_congr (fun j hj => by rw [if_pos hj]; rfl)
        · obtain ⟨b0, hb0, rfl⟩ := List.mem_map.mp q
          have hb1 := List.mem_range.mp hb0
          show va_at _ _ (H.size + 1 + b0, G (H.size + 1 + b0)) _
          rw [show G (H.size + 1 + b0) = .inl (comp, a0) by rw [hG]; simp only []; rw [if_neg (by omega), if_pos (by omega)]]
          show T1.heap[H.size + 1 + b0]? = some (vp_cell _ _)
          rw [f4 b0 hb1, ha]
          rfl
    · show (g.1 ++ _).Nodup
      rw [List.nodup_append]
      refine ⟨w.2.1, ?_, fun a ha b hb e => ?_⟩
      · rw [List.nodup_cons]
        refine ⟨fun q => ?_, ?_⟩
        · obtain ⟨b0, -, e⟩ := List.mem_map.mp q
          omega
        · exact List.Pairwise.map _ (fun a b hab e => hab (by omega)) List.nodup_range
      · have := hlt a ha
        rcases List.mem_cons.mp hb with q | q
        · omega
        · obtain ⟨b0, -, e2⟩ := List.mem_map.mp q
          omega
    · rcases List.mem_append.mp hm with q | q
      · exact w.2.2 a q
      · apply O.2.2.1 a
        refine Nat.le_trans b.1 ?_
        rcases List.mem_cons.mp q with q | q
        · rw [q]; exact Nat.le_refl _
        · obtain ⟨b0, -, e2⟩ := List.mem_map.mp q
          omega
  obtain ⟨t', a1, b1⟩ := kk H.size (g.1 ++ (H.size :: (List.range i.toNatClampNeg).map (fun b => H.size + 1 + b)), fun a => if a = H.size then .inl (cA1, i.toNatClampNeg, .inr (.inr (.inr (.inr (fun j => some (H.size + 1 + j)))))) else if H.size < a then .inl (comp, a0) else g.2 a) (fun b hb q => by have := hlt b q; omega) ⟨List.mem_append_right _ (by simp), by simp⟩ (fun b hb => ⟨List.mem_append_right _ (List.mem_cons_of_mem _ (List.mem_map.mpr ⟨b, List.mem_range.mpr hb, rfl⟩)), by show (if _ then _ else _) = _; rw [if_neg (by omega), if_pos (by omega)]⟩) (fun b e hb => ⟨List.mem_append_left _ hb.1, by
      have := hin0 b e hb
      show (if _ then _ else _) = _
      rw [if_neg (by omega), if_neg (by omega)]
      exact hb.2⟩) T1.heap locs ls (hE _ rfl) ⟨Nat.le_trans b.1 (by omega), fun q h1 h2 => by rw [f3 q (Nat.lt_of_lt_of_le h1 b.1)]; exact b.2.1 q h1 h2, b.2.2⟩ h T1 rfl X1
  rw [hT] at step
  exact ⟨t', step t' a1, b1⟩
end JMU
