section JR2
variable {X : CX} {cc : ByteArray} {nL : Nat} {own : String} {Z : ZZ} {rm : Room} {g : GH} {k n pc : Nat} {lv : List (Nat × Value)} {st : List Value}
/-- int[].clone() -/
theorem j_clone (O : Ok X cc nL own Z rm) {index : Nat} (h1 : Cond.methodLink own index ⟨"[I", "clone", "()Ljava/lang/Object;"⟩ ∈ aw) (h2 : Cond.sameMethod "[I" "java/lang/Object" "clone" "()Ljava/lang/Object;" ∈ Z.2.2.2.1) (h3 : Cond.native ⟨"java/lang/Object", "clone", "()Ljava/lang/Object;"⟩ ∈ aw) (h4 : Cond.instanceMethod ⟨"java/lang/Object", "clone", "()Ljava/lang/Object;"⟩ ∈ aw) (h5 : Cond.selects "[I" ⟨"[I", "clone", "()Ljava/lang/Object;"⟩ ⟨"java/lang/Object", "clone", "()Ljava/lang/Object;"⟩ ∈ aw) (h6 : Cond.castable "[I" "java/lang/Cloneable" ∈ Z.2.2.2.1)
    {a : Nat} {cA : ClassId} {N : Nat} {f : Nat → Int32} (ha : gAt g a (.inl (cA, N, .inl f))) (t0 : Nat) (ht : Z.2.2.1[t0]? = some (cA, .int)) (hfr : 1 ≤ rm.frames) (hlo : (st.map fun v => v.category).sum + 14 ≤ rm.locals) (hcells : k + 1 ≤ rm.cells) (hslots : n + N ≤ rm.slots) (d : decode cc pc = .ok (.invokevirtual index, 3))
    (kk : ∀ (q : Nat) (g1 : GH), q ∉ g.1 → g1 = gNew g q (.inl (cA, N, .inl f)) → J X nL Z g1 (k + 1) (n + N) (pc + 3) lv (.ref q :: st)) : J X nL Z g k n pc lv (.ref a :: st) := by
  intro H locs ls a0 b h
  obtain ⟨q, hq⟩ := ha.k
  refine va_clone (x := (N, .inl f)) (ty := .int) O.1.1 O.1.2.1 (O.1.2.2.1.trans h.1.symm) O.1.2.2.2.1 (O.b h1) ((O.2.2.2.2 _ h2).1 _ _ _ rfl (O.2.2.2.2 _ h2).2.2) (O.b h3) (O.b h4) (O.b h5) (O.2.2.2.2 _ h6).2.2 O.2.1 a0.1 a0.2 b O.A q t0 hq ht (va_nm_int (O.2.1.2 t0 _ ht).2) (fun i v hv => va_fit (F := fun j => .int (f j)) (fun _ _ => rfl) i v hv) (by rw [O.2.2.2.1]; exact hfr) (by rw [O.2.2.2.1]; exact hlo) (by rw [O.2.2.2.1]; exact hcells) (by rw [O.2.2.2.1]; exact hslots) d (fun q H1 k1 p1 d1 s1 => ?_)
  have hq := gPush d1
  rw [va_pl_push hq] at p1 d1
  exact kk q _ hq rfl H1 locs ls ⟨p1, d1⟩ s1 h
theorem j_castI (O : Ok X cc nL own Z rm) {index : Nat} (h1 : Cond.classLink own index "[I" ∈ aw) {a : Nat} {cA : ClassId} {x : vp_A} (ha : gAt g a (.inl (cA, x))) (t0 : Nat) (ht : Z.2.2.1[t0]? = some (cA, .int)) (d : decode cc pc = .ok (.checkcast index, 3)) (kk : J X nL Z g k n (pc + 3) lv (.ref a :: st)) : J X nL Z g k n pc lv (.ref a :: st) := by
  intro H locs ls a0 b h
  obtain ⟨q, hq⟩ := ha.k
  exact va_castA O.1.1 O.1.2.1 O.1.2.2.2.1 (O.b h1) a0.1 q hq (va_nm_int (O.2.1.2 t0 _ ht).2) d (kk H locs ls a0 b h)
end JR2
section JR3
variable {X : CX} {nL : Nat} {Z : ZZ} {g : GH} {k n pc : Nat} {lv : List (Nat × Value)} {st : List Value}
theorem j_some {o : Option Nat} (b : Nat) (h : o = some b) (kk : J X nL Z g k n pc lv (.ref b :: st)) : J X nL Z g k n pc lv (va_rf o :: st) := by
  subst h; exact kk
end JR3
section JR4
variable {X : CX} {nL : Nat} {Z : ZZ} {g : GH} {k n pc : Nat} {lv : List (Nat × Value)} {st : List Value}
theorem j_oeq {o : Option Nat} (o' : Option Nat) (h : o = o') (kk : J X nL Z g k n pc lv (va_rf o' :: st)) : J X nL Z g k n pc lv (va_rf o :: st) := by
  subst h; exact kk
end JR4
