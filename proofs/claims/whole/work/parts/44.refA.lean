theorem dJA_fill_0 : decode bJA_fill 0 = .ok (.iconst 0, 1) := by decide +kernel
theorem dJA_fill_1 : decode bJA_fill 1 = .ok (.istore_n 2, 1) := by decide +kernel
theorem dJA_fill_2 : decode bJA_fill 2 = .ok (.aload_n 0, 1) := by decide +kernel
theorem dJA_fill_3 : decode bJA_fill 3 = .ok (.arraylength, 1) := by decide +kernel
theorem dJA_fill_4 : decode bJA_fill 4 = .ok (.istore_n 3, 1) := by decide +kernel
theorem dJA_fill_5 : decode bJA_fill 5 = .ok (.iload_n 2, 1) := by decide +kernel
theorem dJA_fill_6 : decode bJA_fill 6 = .ok (.iload_n 3, 1) := by decide +kernel
theorem dJA_fill_7 : decode bJA_fill 7 = .ok (.if_icmp .ge 13, 3) := by decide +kernel
theorem dJA_fill_10 : decode bJA_fill 10 = .ok (.aload_n 0, 1) := by decide +kernel
theorem dJA_fill_11 : decode bJA_fill 11 = .ok (.iload_n 2, 1) := by decide +kernel
theorem dJA_fill_12 : decode bJA_fill 12 = .ok (.iload_n 1, 1) := by decide +kernel
theorem dJA_fill_13 : decode bJA_fill 13 = .ok (.iastore, 1) := by decide +kernel
theorem dJA_fill_14 : decode bJA_fill 14 = .ok (.iinc 2 1, 3) := by decide +kernel
theorem dJA_fill_17 : decode bJA_fill 17 = .ok (.goto (-12), 3) := by decide +kernel
theorem dJA_fill_20 : decode bJA_fill 20 = .ok (.return_, 1) := by decide +kernel
theorem min_code : Lib.Math.min.code = bJM_min := by decide +kernel
section JR6
variable {X : CX} {cc : ByteArray} {nL : Nat} {own : String} {Z : ZZ} {rm : Room} {g : GH} {k n pc : Nat} {lv : List (Nat × Value)} {st : List Value}
theorem j_mmin (O : Ok X cc nL own Z rm) {index : Nat} (h1 : Cond.methodLink own index yJM_min ∈ aw) (h2 : Cond.static yJM_min ∈ aw) (h3 : Cond.initialized "java/lang/Math" ∈ aw) (h4 : Cond.code yJM_min bJM_min 2 (some .int) ∈ aw) {x y : Int32} (hfr : 1 ≤ rm.frames) (hlo : (st.map fun v => v.category).sum + 13 ≤ rm.locals) (hc : k ≤ rm.cells) (hs : n ≤ rm.slots) (d : decode cc pc = .ok (.invokestatic index, 3)) (kk : J X nL Z g k n (pc + 3) lv (.int (if y < x then y else x) :: st)) : J X nL Z g k n pc lv (.int y :: .int x :: st) := by
  intro H locs ls a b h
  exact va_mmin O.1.1 O.1.2.1 (O.1.2.2.1.trans h.1.symm) O.1.2.2.2.1 (O.b h1) (O.b h2) (O.b h3) (by rw [min_code]; exact O.b h4) (by rw [O.2.2.2.1]; exact hfr) (by rw [O.2.2.2.1]; exact hlo) (by rw [O.2.2.2.1]; exact hc) (by rw [O.2.2.2.1]; exact hs) d (kk H locs ls a b h)
end JR6
set_option maxRecDepth 100000 in
set_option maxHeartbeats 1000000 in
theorem c_M_in (l : Launch) (D : va_G) (t : Nat → ClassId) (A : Nat → Prop) (g : GH) (x y z : Int32) : Ct l yM_in sM_in { frames := 0, cells := 0, slots := 0, locals := 0 } (zz D t A) [.int x, .int y, .int z] g 0 0 (fun v g' => v = some (.int (if y ≤ x ∧ x ≤ z then 1 else 0)) ∧ g' = g) := by
  refine Ct.of (cc := bM_in) (maxL := 3) (ret := (some .boolean)) (by decide) (Nat.le_of_ble_eq_true rfl) (fun X hlX O M hNn => ?_)
  show J X 3 (zz D t A) g 0 0 0 [(0, .int x), (1, .int y), (2, .int z)] []
  refine j_iload_n O 0 dM_in_0 rfl rfl ?_
  refine j_iload_n O 1 dM_in_1 rfl rfl ?_
  refine j_icmp_lt O 14 dM_in_2 (by decide) (fun c1 => ?_) (fun c1 => ?_)
  · have e : ¬ (y ≤ x ∧ x ≤ z) := fun q => absurd (Int32.lt_iff_toInt_lt.mp c1) (by have := Int32.le_iff_toInt_le.mp q.1; omega)
    rw [if_neg e] at M
    refine j_iconst O (v := 0) dM_in_14 (by decide) ?_
    exact j_zret O (by decide) M (Nat.le_of_ble_eq_true rfl) (Nat.le_of_ble_eq_true rfl) ⟨rfl, rfl⟩ dM_in_15
  · refine j_iload_n O 0 dM_in_5 rfl rfl ?_
    refine j_iload_n O 2 dM_in_6 rfl rfl ?_
    refine j_icmp_gt O 14 dM_in_7 (by decide) (fun c2 => ?_) (fun c2 => ?_)
    · have e : ¬ (y ≤ x ∧ x ≤ z) := fun q => absurd (Int32.lt_iff_toInt_lt.mp c2) (by have := Int32.le_iff_toInt_le.mp q.2; omega)
      rw [if_neg e] at M
      refine j_iconst O (v := 0) dM_in_14 (by decide) ?_
      exact j_zret O (by decide) M (Nat.le_of_ble_eq_true rfl) (Nat.le_of_ble_eq_true rfl) ⟨rfl, rfl⟩ dM_in_15
    · have e : y ≤ x ∧ x ≤ z := ⟨Int32.le_iff_toInt_le.mpr (by have q : ¬ x.toInt < y.toInt := fun q => c1 (Int32.lt_iff_toInt_lt.mpr q); omega), Int32.le_iff_toInt_le.mpr (by have q : ¬ z.toInt < x.toInt := fun q => c2 (Int32.lt_iff_toInt_lt.mpr q); omega)⟩
      rw [if_pos e] at M
      refine j_iconst O (v := 1) dM_in_10 (by decide) ?_
      refine j_goto O 15 dM_in_11 (by decide) ?_
      exact j_zret O (by decide) M (Nat.le_of_ble_eq_true rfl) (Nat.le_of_ble_eq_true rfl) ⟨rfl, rfl⟩ dM_in_15
set_option maxRecDepth 100000 in
set_option maxHeartbeats 1000000 in
theorem c_M_step (l : Launch) (D : va_G) (t : Nat → ClassId) (A : Nat → Prop) (g : GH) (h x : Int64) : Ct l yM_step sM_step { frames := 0, cells := 0, slots := 0, locals := 0 } (zz D t A) [.long h, .long x] g 0 0 (fun v g' => v = some (.long (adM h x)) ∧ g' = g) := by
  refine Ct.of (cc := bM_step) (maxL := 4) (ret := (some .long)) (by decide) (Nat.le_of_ble_eq_true rfl) (fun X hlX O M hNn => ?_)
  show J X 4 (zz D t A) g 0 0 0 [(0, .long h), (2, .long x)] []
  refine j_lload_n O 0 dM_step_0 rfl rfl ?_
  refine j_lload_n O 2 dM_step_1 rfl rfl ?_
  refine j_lxor O dM_step_2 ?_
  refine j_ldc2 O 1099511628211 w596 dM_step_3 ?_
  refine j_lmul O dM_step_6 ?_
  exact j_lret O M (Nat.le_of_ble_eq_true rfl) (Nat.le_of_ble_eq_true rfl) ⟨rfl, rfl⟩ dM_step_7
set_option maxRecDepth 100000 in
set_option maxHeartbeats 1000000 in
theorem fill_loop {X : CX} {D : va_G} {t : Nat → ClassId} {A : Nat → Prop} {rm : Room} {g : GH} {k0 n0 : Nat} {b N : Nat} {x : Int32} (O : Ok X bJA_fill 4 "java/util/Arrays" (zz D t A) rm) (hN : N < 2 ^ 31) (HK : ∀ (g1 : GH) (f1 : Nat → Int32), gAt g1 b (eI t N f1) → (∀ j, j < N → f1 j = x) → Kp [b] g g1 → J X 4 (zz D t A) g1 k0 n0 20 [(0, .ref b), (1, .int x)] []) : ∀ (k i : Nat) (g1 : GH) (f1 : Nat → Int32), i + k = N → gAt g1 b (eI t N f1) → (∀ j, j < i → f1 j = x) → Kp [b] g g1 → J X 4 (zz D t A) g1 k0 n0 5 [(0, .ref b), (1, .int x), (3, .int (nI N)), (2, .int (nI i))] [] := by
  intro k
  induction k with
  | zero =>
    intro i g1 f1 hi hb hf kp
    have ei : i = N := by omega
    subst ei
    refine j_iload_n O 2 dJA_fill_5 rfl rfl ?_
    refine j_iload_n O 3 dJA_fill_6 rfl rfl ?_
    refine j_icmp_ge O 20 dJA_fill_7 (by decide) (fun c => ?_) (fun c => absurd (nI_le (Nat.le_refl _) hN) c)
    refine J.pk [0, 1] rfl ?_
    exact HK g1 f1 hb hf kp
  | succ k ih =>
    intro i g1 f1 hi hb hf kp
    have hiN : i < N := by omega
    refine j_iload_n O 2 dJA_fill_5 rfl rfl ?_
    refine j_iload_n O 3 dJA_fill_6 rfl rfl ?_
    refine j_icmp_ge O 20 dJA_fill_7 (by decide) (fun c => absurd c (nI_ge hiN hN)) (fun c => ?_)
    refine j_aload_n O 0 dJA_fill_10 rfl rfl ?_
    refine j_iload_n O 2 dJA_fill_11 rfl rfl ?_
    refine j_iload_n O 1 dJA_fill_12 rfl rfl ?_
    refine j_iast O hb 0 rfl hiN (by omega) dJA_fill_13 (fun gw1 ew2 => ?_)
    have hw3 := gUp_self (e' := .inl (t 0, N, .inl (upd f1 i x))) hb
    rw [← ew2] at hw3
    have kpw4 := kp.up (a := b) (e := .inl (t 0, N, .inl (upd f1 i x))) (by simp)
    rw [← ew2] at kpw4
    refine j_iinc O (nI (i + 1)) [(2, .int (nI (i + 1))), (0, .ref b), (1, .int x), (3, .int (nI N))] dJA_fill_14 rfl (nI_1 _) (by decide) rfl ?_
    refine j_goto O 5 dJA_fill_17 (by decide) ?_
    refine J.pk [1, 2, 3, 0] rfl ?_
    exact ih (i + 1) gw1 _ (by omega) hw3 (fun j hj => by
      by_cases z : j = i
      · subst z; rw [pk_us]
      · rw [pk_un (by omega)]; exact hf j (by omega)) kpw4
set_option maxRecDepth 100000 in
set_option maxHeartbeats 1000000 in
theorem c_fill (l : Launch) (D : va_G) (t : Nat → ClassId) (A : Nat → Prop) (g : GH) (b N : Nat) (x : Int32) (f : Nat → Int32) (hb : gAt g b (eI t N f)) (hN : N < 2 ^ 31) : Ct l yJA_fill sJA_fill { frames := 0, cells := 0, slots := 0, locals := 0 } (zz D t A) [.ref b, .int x] g 0 0 (fun v g' => v = none ∧ ∃ f1, gAt g' b (eI t N f1) ∧ (∀ j, j < N → f1 j = x) ∧ Kp [b] g g') := by
  refine Ct.of (cc := bJA_fill) (maxL := 4) (ret := none) (by decide) (Nat.le_of_ble_eq_true rfl) (fun X hlX O M hNn => ?_)
  show J X 4 (zz D t A) g 0 0 0 [(0, .ref b), (1, .int x)] []
  refine j_iconst O (v := 0) dJA_fill_0 (by decide) ?_
  refine j_istore_n O 2 [(2, .int 0), (0, .ref b), (1, .int x)] dJA_fill_1 rfl (by decide) rfl ?_
  refine j_aload_n O 0 dJA_fill_2 rfl rfl ?_
  refine j_alen O hb 0 rfl dJA_fill_3 ?_
  refine j_istore_n O 3 [(3, .int (nI N)), (2, .int 0), (0, .ref b), (1, .int x)] dJA_fill_4 rfl (by decide) rfl ?_
  refine J.pk [2, 3, 0, 1] rfl ?_
  refine fill_loop (k0 := 0) (n0 := 0) O hN (fun g1 f1 h1 h2 h3 => ?_) N 0 g f (by omega) hb (fun j hj => by omega) Kp.rf
  exact j_vret O M (Nat.le_of_ble_eq_true rfl) (Nat.le_of_ble_eq_true rfl) ⟨rfl, f1, h1, h2, h3⟩ dJA_fill_20
