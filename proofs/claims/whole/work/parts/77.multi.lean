/-! an array of arrays, made whole -/
theorem arrV_congr {c : ClassId} {N : Nat} {f f' : Nat → Value} (h : ∀ j, j < N → f j = f' j) : arrV c N f = arrV c N f' := by
  unfold arrV
  congr 1
  apply Array.ext
  · simp
  · intro j h1 h2
    simp at h1
    simp [h j h1]
theorem outer_arrV (c : ClassId) (N h0 : Nat) : ∀ i, Jvm.Free.Multi.outerC c N h0 i = arrV c N (fun j => if j < i then .ref (h0 + 1 + j) else .null)
  | 0 => by
    show ({ cls := c, slots := Array.replicate N .null, vm := .none } : Cell) = _
    rw [arrV_new]
    simp
  | i + 1 => by
    show (Jvm.Free.Multi.outerC c N h0 i).setSlot i (.ref (h0 + 1 + i)) = _
    rw [outer_arrV c N h0 i, arrV_store]
    congr 1
    funext j
    unfold updV
    by_cases e : j = i
    · subst e; simp
    · rw [if_neg e]
      dsimp only
      by_cases z : j < i
      · rw [if_pos z, if_pos (by omega)]
      · rw [if_neg z, if_neg (by omega)]
section JMU
variable {X : CX} {cc : ByteArray} {nL : Nat} {own : String} {Z : ZZ} {rm : Room} {g : GH} {k n pc : Nat} {lv : List (Nat × Value)} {st : List Value}
theorem j_multi (O : Ok X cc nL own Z rm) {index : Nat} {ty : FieldType} (hcl : Cond.classLink own index ("[" ++ (FieldType.array ty).toString) ∈ aw) (hover : Cond.arrayOver (.array ty) ∈ Z.2.2.2.1) (harr : Cond.arrayClass ty ∈ aw) (t0 t1 : Nat) {cA cC : ClassId} (ht0 : Z.2.2.1[t0]? = some (cA, .array ty)) (ht1 : Z.2.2.1[t1]? = some (cC, ty)) (hob : va_RA X.2.2.2.2.1 cC ty = (X.2.2.2.2.1.vm.findClass ("[" ++ ty.toString) = some cC)) (K : Nat) (a0 : vp_A) (ha : ∀ c : ClassId, vp_cell c a0 = arrV c K (fun _ => defaultValue ty)) (hdf : fits ty (defaultValue ty) = true) (hdd : (defaultValue ty).isDefault = true) {i j : Int32} (N : Nat) (hi : ¬ i < 0) (hj : ¬ j < 0) (hN : i.toNatClampNeg = N) (hK : j.toNatClampNeg = K) (hb1 : N * 4 ≤ 536870912) (hb2 : K * componentBytes ty ≤ 536870912) (hb3 : K ≤ 536870912) (hcells : k + (1 + N) ≤ rm.cells) (hslots : n + (N + N * K) ≤ rm.slots) (d : decode cc pc = .ok (.multianewarray index 2, 4))
    (kk : ∀ (q : Nat) (g1 : GH), (∀ b, q ≤ b → b ∉ g.1) → gAt g1 q (.inl (cA, N, .inr (.inr (.inr (.inr (fun j => some (q + 1 + j))))))) → (∀ b, b < N → gAt g1 (q + 1 + b) (.inl (cC, a0))) → (∀ b e, gAt g b e → gAt g1 b e) → J X nL Z g1 (k + 1 + N) (n + N + N * K) (pc + 4) lv (.ref q :: st)) : J X nL Z g k n pc lv (.int j :: .int i :: st) := by
  intro H locs ls aW b h T hT XS
  subst hN hK
  have hA := O.2.1.2 t0 _ ht0
  have hC := O.2.1.2 t1 _ ht1
  rw [hob] at hC
  obtain ⟨vm1, cA1, comp, hW, hfA, hfC, -, -, X1, step⟩ := XS.multianewarray2F O.1.1 O.1.2.2.2.1 (O.b hcl) ((O.2.2.2.2 _ hover).1 _ _ _ rfl (O.2.2.2.2 _ hover).2.2) (O.b harr) (g := F0 X.2.2.2.2.2.1 pc ls (.int j :: .int i :: st)) rfl (by rw [O.1.2.1]; exact d) rfl hi hj hb1 hb2 hb3 hdf hdd (by rw [O.2.2.2.1]; exact hcells) (by rw [O.2.2.2.1]; exact hslots)
  have eA : cA1 = cA := Option.some.inj (hfA.symm.trans hA.2)
  have eC : comp = cC := Option.some.inj (hfC.symm.trans hC.2)
  subst eA eC
  have hsz : (T.setVm vm1).heap = H := hT
  obtain ⟨f1, f2, -, -⟩ := Jvm.Free.Multi.fill_facts (T.setVm vm1) cA1 comp i.toNatClampNeg j.toNatClampNeg (defaultValue ty) i.toNatClampNeg
  have f3 : ∀ q : Nat, q < H.size → (Jvm.Free.Multi.fill (T.setVm vm1) cA1 comp i.toNatClampNeg j.toNatClampNeg (defaultValue ty) i.toNatClampNeg).heap[q]? = H[q]? := fun q hq => by
    rw [Jvm.Free.Multi.fill_old (T.setVm vm1) cA1 comp i.toNatClampNeg j.toNatClampNeg (defaultValue ty) (by rw [hsz]; exact hq), hsz]
  have f4 : ∀ q : Nat, q < i.toNatClampNeg → (Jvm.Free.Multi.fill (T.setVm vm1) cA1 comp i.toNatClampNeg j.toNatClampNeg (defaultValue ty) i.toNatClampNeg).heap[H.size + 1 + q]? = some (Jvm.Free.Multi.innerC comp j.toNatClampNeg (defaultValue ty)) := fun q hq => by
    have := Jvm.Free.Multi.fill_inner (T.setVm vm1) cA1 comp i.toNatClampNeg j.toNatClampNeg (defaultValue ty) i.toNatClampNeg q hq
    rw [hsz] at this
    exact this
  rw [hsz] at f1 f2
  generalize Jvm.Free.Multi.fill (T.setVm vm1) cA1 comp i.toNatClampNeg j.toNatClampNeg (defaultValue ty) i.toNatClampNeg = T1 at *
  have w := gW_iff.mp aW
  have hlt : ∀ b ∈ g.1, b < H.size := fun b hb => (w.1 b hb).lt
  have hin0 : ∀ b e, gAt g b e → b < H.size := fun b e hb => hlt b hb.1
  have hE : ∀ (G : Nat → va_E), G = (fun a => if a = H.size then .inl (cA1, i.toNatClampNeg, .inr (.inr (.inr (.inr (fun j => some (H.size + 1 + j)))))) else if H.size < a then .inl (comp, a0) else g.2 a) → gW Z (g.1 ++ (H.size :: (List.range i.toNatClampNeg).map (fun b => H.size + 1 + b)), G) T1.heap := by
    intro G hG
    rw [gW_iff]
    refine ⟨fun a hm => ?_, ?_, fun a hm => ?_⟩
    · rcases List.mem_append.mp hm with q | q
      · have hl := hlt a q
        have e : G a = g.2 a := by rw [hG]; simp only []; rw [if_neg (by omega), if_neg (by omega)]
        show va_at _ _ (a, G a) _
        rw [e]
        exact (w.1 a q).kept (f3 a hl)
      · rcases List.mem_cons.mp q with q | q
        · subst q
          show va_at _ _ (H.size, G H.size) _
          rw [show G H.size = .inl (cA1, i.toNatClampNeg, .inr (.inr (.inr (.inr (fun j => some (H.size + 1 + j)))))) by rw [hG]; simp]
          show T1.heap[H.size]? = some (vp_cell _ _)
          rw [f2, outer_arrV, vp_cell_q]
          congr 1
          exact arrV_congr (fun j hj => by rw [if_pos hj]; rfl)
        · obtain ⟨b0, hb0, rfl⟩ := List.mem_map.mp q
          have hb1 := List.mem_range.mp hb0
          show va_at _ _ (H.size + 1 + b0, G (H.size + 1 + b0)) _
          rw [show G (H.size + 1 + b0) = .inl (comp, a0) by rw [hG]; simp only []; rw [if_neg (by omega), if_pos (by omega)]]
          show T1.heap[H.size + 1 + b0]? = some (vp_cell _ _)
          rw [f4 b0 hb1, ha]
          show some ({ cls := comp, slots := Array.replicate j.toNatClampNeg (defaultValue ty), vm := .none } : Cell) = _
          rw [arrV_new]
    · show (g.1 ++ _).Nodup
      rw [List.nodup_append]
      refine ⟨w.2.1, ?_, fun a ha b hb e => ?_⟩
      · rw [List.nodup_cons]
        refine ⟨fun q => ?_, ?_⟩
        · obtain ⟨b0, -, e⟩ := List.mem_map.mp q
          omega
        · exact List.Pairwise.map _ (fun a b hab e => hab (by omega)) List.nodup_range
      · have := hlt a ha
        rcases List.mem_cons.mp hb with q | q
        · omega
        · obtain ⟨b0, -, e2⟩ := List.mem_map.mp q
          omega
    · rcases List.mem_append.mp hm with q | q
      · exact w.2.2 a q
      · apply O.2.2.1 a
        refine Nat.le_trans b.1 ?_
        rcases List.mem_cons.mp q with q | q
        · rw [q]; exact Nat.le_refl _
        · obtain ⟨b0, -, e2⟩ := List.mem_map.mp q
          omega
  obtain ⟨t', a1, b1⟩ := kk H.size (g.1 ++ (H.size :: (List.range i.toNatClampNeg).map (fun b => H.size + 1 + b)), fun a => if a = H.size then .inl (cA1, i.toNatClampNeg, .inr (.inr (.inr (.inr (fun j => some (H.size + 1 + j)))))) else if H.size < a then .inl (comp, a0) else g.2 a) (fun b hb q => by have := hlt b q; omega) ⟨List.mem_append_right _ (by simp), by simp⟩ (fun b hb => ⟨List.mem_append_right _ (List.mem_cons_of_mem _ (List.mem_map.mpr ⟨b, List.mem_range.mpr hb, rfl⟩)), by show (if _ then _ else _) = _; rw [if_neg (by omega), if_pos (by omega)]⟩) (fun b e hb => ⟨List.mem_append_left _ hb.1, by
      have := hin0 b e hb
      show (if _ then _ else _) = _
      rw [if_neg (by omega), if_neg (by omega)]
      exact hb.2⟩) T1.heap locs ls (hE _ rfl) ⟨Nat.le_trans b.1 (by omega), fun q h1 h2 => by rw [f3 q (Nat.lt_of_lt_of_le h1 b.1)]; exact b.2.1 q h1 h2, b.2.2⟩ h T1 rfl X1
  rw [hT] at step
  exact ⟨t', step t' a1, b1⟩
end JMU
