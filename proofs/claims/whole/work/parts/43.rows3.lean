section JR5
variable {X : CX} {cc : ByteArray} {nL : Nat} {own : String} {Z : ZZ} {rm : Room} {g : GH} {k n pc : Nat} {lv : List (Nat × Value)} {st : List Value}
/-- System.arraycopy of ints -/
theorem j_copyi (O : Ok X cc nL own Z rm) {index : Nat} (h1 : Cond.methodLink own index arraycopyName ∈ aw) (h2 : Cond.native arraycopyName ∈ aw) (h3 : Cond.static arraycopyName ∈ aw) (h4 : Cond.initialized "java/lang/System" ∈ aw) {a0 a : Nat} {c0 c1 : ClassId} {n0 n1 : Nat} {f f1 : Nat → Int32} (ha0 : gAt g a0 (.inl (c0, n0, .inl f))) (ha1 : gAt g a (.inl (c1, n1, .inl f1))) (t0 t1 : Nat) (ht0 : Z.2.2.1[t0]? = some (c0, .int)) (ht1 : Z.2.2.1[t1]? = some (c1, .int)) {i j m : Nat} (b1 : i + m ≤ n0) (b2 : j + m ≤ n1) (b3 : n0 < 2 ^ 31) (b4 : n1 < 2 ^ 31) (hfr : 1 ≤ rm.frames) (hlo : (st.map fun v => v.category).sum + (nativeFrameWords "java/lang/System" "arraycopy" 5 + 11) ≤ rm.locals) (d : decode cc pc = .ok (.invokestatic index, 3)) (kk : ∀ g1 : GH, g1 = gUp g a (.inl (c1, n1, .inl (va_cpy f f1 i j m))) → J X nL Z g1 k n (pc + 3) lv st) : J X nL Z g k n pc lv (.int (nI m) :: .int (nI j) :: .ref a :: .int (nI i) :: .ref a0 :: st) := by
  intro H locs ls x0 b h
  obtain ⟨q0, hq0⟩ := ha0.k
  obtain ⟨q1, hq1⟩ := ha1.k
  have e1 : (nI i).toNatClampNeg = i := nI_clamp (by omega)
  have e2 : (nI j).toNatClampNeg = j := nI_clamp (by omega)
  have e3 : (nI m).toNatClampNeg = m := nI_clamp (by omega)
  refine va_copyi O.1.1 O.1.2.1 (O.1.2.2.1.trans h.1.symm) O.1.2.2.2.1 (O.b h1) (O.b h2) (O.b h3) (O.b h4) O.2.1 x0.1 x0.2 b q0 q1 t0 t1 hq0 hq1 ht0 ht1 rfl (nI_pos (by omega)) (nI_pos (by omega)) (nI_pos (by omega)) (by rw [e1, e3]; exact b1) (by rw [e2, e3]; exact b2) (fun _ _ => rfl) (by rw [O.2.2.2.1]; exact hfr) (by rw [O.2.2.2.1]; exact hlo) d (fun H1 locs1 p1 d1 s1 => ?_)
  rw [e1, e2, e3, gSet x0.2 ha1 hq1] at p1 d1
  exact kk _ rfl H1 locs1 ls ⟨p1, d1⟩ s1 h
/-- System.arraycopy of longs -/
theorem j_copyl (O : Ok X cc nL own Z rm) {index : Nat} (h1 : Cond.methodLink own index arraycopyName ∈ aw) (h2 : Cond.native arraycopyName ∈ aw) (h3 : Cond.static arraycopyName ∈ aw) (h4 : Cond.initialized "java/lang/System" ∈ aw) {a0 a : Nat} {c0 c1 : ClassId} {n0 n1 : Nat} {f f1 : Nat → Int64} (ha0 : gAt g a0 (.inl (c0, n0, .inr (.inl f)))) (ha1 : gAt g a (.inl (c1, n1, .inr (.inl f1)))) (t0 t1 : Nat) (ht0 : Z.2.2.1[t0]? = some (c0, .long)) (ht1 : Z.2.2.1[t1]? = some (c1, .long)) {i j m : Nat} (b1 : i + m ≤ n0) (b2 : j + m ≤ n1) (b3 : n0 < 2 ^ 31) (b4 : n1 < 2 ^ 31) (hfr : 1 ≤ rm.frames) (hlo : (st.map fun v => v.category).sum + (nativeFrameWords "java/lang/System" "arraycopy" 5 + 11) ≤ rm.locals) (d : decode cc pc = .ok (.invokestatic index, 3)) (kk : ∀ g1 : GH, g1 = gUp g a (.inl (c1, n1, .inr (.inl (va_cpy f f1 i j m)))) → J X nL Z g1 k n (pc + 3) lv st) : J X nL Z g k n pc lv (.int (nI m) :: .int (nI j) :: .ref a :: .int (nI i) :: .ref a0 :: st) := by
  intro H locs ls x0 b h
  obtain ⟨q0, hq0⟩ := ha0.k
  obtain ⟨q1, hq1⟩ := ha1.k
  have e1 : (nI i).toNatClampNeg = i := nI_clamp (by omega)
  have e2 : (nI j).toNatClampNeg = j := nI_clamp (by omega)
  have e3 : (nI m).toNatClampNeg = m := nI_clamp (by omega)
  refine va_copyl O.1.1 O.1.2.1 (O.1.2.2.1.trans h.1.symm) O.1.2.2.2.1 (O.b h1) (O.b h2) (O.b h3) (O.b h4) O.2.1 x0.1 x0.2 b q0 q1 t0 t1 hq0 hq1 ht0 ht1 rfl (nI_pos (by omega)) (nI_pos (by omega)) (nI_pos (by omega)) (by rw [e1, e3]; exact b1) (by rw [e2, e3]; exact b2) (fun _ _ => rfl) (by rw [O.2.2.2.1]; exact hfr) (by rw [O.2.2.2.1]; exact hlo) d (fun H1 locs1 p1 d1 s1 => ?_)
  rw [e1, e2, e3, gSet x0.2 ha1 hq1] at p1 d1
  exact kk _ rfl H1 locs1 ls ⟨p1, d1⟩ s1 h
theorem j_idiv (O : Ok X cc nL own Z rm) {x y : Int32} (hne : ¬ y = 0) (d : decode cc pc = .ok (.idiv, 1)) (kk : J X nL Z g k n (pc + 1) lv (.int (x / y) :: st)) : J X nL Z g k n pc lv (.int y :: .int x :: st) := fun H locs ls a b h => lv_idiv O.1.1 O.1.2.1 d hne (kk H locs ls a b h)
end JR5
