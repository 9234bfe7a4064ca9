set_option maxRecDepth 100000 in
set_option maxHeartbeats 4000000 in
theorem c_mixed (l : Launch) (D : va_G) (t : Nat → ClassId) (A : Nat → Prop) (g : GH) (h x : Int64) : Ct l yT_mixed sT_mixed { frames := 0, cells := 0, slots := 0, locals := 0 } (zz D t A) [.long h, .long x] g 0 0 (fun v g' => v = some (.long (adM h x)) ∧ g' = g) := by
  refine Ct.of (cc := bT_mixed) (maxL := 4) (ret := (some .long)) (by decide) (Nat.le_of_ble_eq_true rfl) (fun X hl O M hN => ?_)
  show J X 4 (zz D t A) g 0 0 0 [(0, .long h), (2, .long x)] []
  refine j_lload_n O 0 dT_mixed_0 rfl rfl ?_
  refine j_lload_n O 2 dT_mixed_1 rfl rfl ?_
  refine j_lxor O dT_mixed_2 ?_
  refine j_ldc2 O 1099511628211 w368 dT_mixed_3 ?_
  refine j_lmul O dT_mixed_6 ?_
  exact j_lret O M (Nat.le_of_ble_eq_true rfl) (Nat.le_of_ble_eq_true rfl) ⟨rfl, rfl⟩ dT_mixed_7
set_option maxRecDepth 100000 in
set_option maxHeartbeats 4000000 in
theorem c_bucketOf (l : Launch) (D : va_G) (t : Nat → ClassId) (A : Nat → Prop) (g : GH) (p : Int32) : Ct l yS_bucketOf sS_bucketOf { frames := 0, cells := 0, slots := 0, locals := 0 } (zz D t A) [.int p] g 0 0 (fun v g' => v = some (.int (ush (p * (-1640531535)) 22)) ∧ g' = g) := by
  refine Ct.of (cc := bS_bucketOf) (maxL := 1) (ret := (some .int)) (by decide) (Nat.le_of_ble_eq_true rfl) (fun X hl O M hN => ?_)
  show J X 1 (zz D t A) g 0 0 0 [(0, .int p)] []
  refine j_iload_n O 0 dS_bucketOf_0 rfl rfl ?_
  refine j_ldc O (-1640531535) w111 dS_bucketOf_1 ?_
  refine j_imul O dS_bucketOf_3 ?_
  refine j_bipush O (v := 22) dS_bucketOf_4 (by decide) ?_
  refine j_iushr O dS_bucketOf_6 ?_
  exact j_iret O M (Nat.le_of_ble_eq_true rfl) (Nat.le_of_ble_eq_true rfl) ⟨rfl, rfl⟩ dS_bucketOf_7
set_option maxRecDepth 100000 in
set_option maxHeartbeats 4000000 in
theorem c_isTable (l : Launch) (D : va_G) (t : Nat → ClassId) (A : Nat → Prop) (g : GH) (x : Int32) : Ct l yT_isTable sT_isTable { frames := 0, cells := 0, slots := 0, locals := 0 } (zz D t A) [.int x] g 0 0 (fun v g' => v = some (.int (if 0 ≤ x ∧ x < 6 then 1 else 0)) ∧ g' = g) := by
  refine Ct.of (cc := bT_isTable) (maxL := 1) (ret := (some .boolean)) (by decide) (Nat.le_of_ble_eq_true rfl) (fun X hl O M hN => ?_)
  show J X 1 (zz D t A) g 0 0 0 [(0, .int x)] []
  refine j_iload_n O 0 dT_isTable_0 rfl rfl ?_
  refine j_if_lt O 14 dT_isTable_1 (by decide) (fun c1 => ?_) (fun c1 => ?_)
  · refine j_iconst O (v := 0) dT_isTable_14 (by decide) ?_
    exact j_zret O (by decide) M (Nat.le_of_ble_eq_true rfl) (Nat.le_of_ble_eq_true rfl) ⟨by rw [if_neg (fun q => Int32.not_le.mpr c1 q.1)], rfl⟩ dT_isTable_15
  · refine j_iload_n O 0 dT_isTable_4 rfl rfl ?_
    refine j_bipush O (v := 6) dT_isTable_5 (by decide) ?_
    refine j_icmp_ge O 14 dT_isTable_7 (by decide) (fun c2 => ?_) (fun c2 => ?_)
    · refine j_iconst O (v := 0) dT_isTable_14 (by decide) ?_
      exact j_zret O (by decide) M (Nat.le_of_ble_eq_true rfl) (Nat.le_of_ble_eq_true rfl) ⟨by rw [if_neg (fun q => Int32.not_lt.mpr c2 q.2)], rfl⟩ dT_isTable_15
    · refine j_iconst O (v := 1) dT_isTable_10 (by decide) ?_
      refine j_goto O 15 dT_isTable_11 (by decide) ?_
      exact j_zret O (by decide) M (Nat.le_of_ble_eq_true rfl) (Nat.le_of_ble_eq_true rfl) ⟨by rw [if_pos ⟨Int32.not_lt.mp c1, Int32.not_le.mp c2⟩], rfl⟩ dT_isTable_15
set_option maxRecDepth 100000 in
set_option maxHeartbeats 4000000 in
theorem levelOf_loop {X : CX} {D : va_G} {t : Nat → ClassId} {A : Nat → Prop} {rm : Room} {g : GH} {key : Int32} {R : Nat} (O : Ok X bT_levelOf 3 "TwinTrees" (zz D t A) rm) (M : Om X (zz D t A) (some .int) 0 0 (fun v g' => v = some (.int (nI R)) ∧ g' = g))  : ∀ (n : Nat) (x : Int32) (lev : Nat), lev + n = 5 → R = lev + lvG n x → J X 3 (zz D t A) g 0 0 26 [(0, .int key), (1, .int x), (2, .int (nI lev))] [] := by
  intro n
  induction n with
  | zero =>
    intro x lev h1 h2
    have h5 : lev = 5 := by omega
    subst h5
    have hR : R = 5 := h2
    subst hR
    refine j_iload_n O 2 dT_levelOf_26 rfl rfl ?_
    refine j_iconst O (v := 5) dT_levelOf_27 (by decide) ?_
    refine j_icmp_ge O 47 dT_levelOf_28 (by decide) (fun c1 => ?_) (fun c1 => ?_)
    · refine j_iload_n O 2 dT_levelOf_47 rfl rfl ?_
      exact j_iret O M (Nat.le_of_ble_eq_true rfl) (Nat.le_of_ble_eq_true rfl) ⟨rfl, rfl⟩ dT_levelOf_48
    · exact absurd (by decide) c1
  | succ n ih =>
    intro x lev h1 h2
    refine j_iload_n O 2 dT_levelOf_26 rfl rfl ?_
    refine j_iconst O (v := 5) dT_levelOf_27 (by decide) ?_
    refine j_icmp_ge O 47 dT_levelOf_28 (by decide) (fun c1 => ?_) (fun c1 => ?_)
    · exact absurd c1 (nI_ge (b := 5) (by omega) (by omega))
    · refine j_iload_n O 1 dT_levelOf_31 rfl rfl ?_
      refine j_iconst O (v := 3) dT_levelOf_32 (by decide) ?_
      refine j_iand O dT_levelOf_33 ?_
      refine j_if_ne O 47 dT_levelOf_34 (by decide) (fun c2 => ?_) (fun c2 => ?_)
      · refine j_iload_n O 2 dT_levelOf_47 rfl rfl ?_
        have hR : R = lev := by rw [h2, lvG, if_neg c2]; rfl
        subst hR
        exact j_iret O M (Nat.le_of_ble_eq_true rfl) (Nat.le_of_ble_eq_true rfl) ⟨rfl, rfl⟩ dT_levelOf_48
      · rw [lvG, if_pos c2] at h2
        refine j_iload_n O 1 dT_levelOf_37 rfl rfl ?_
        refine j_iconst O (v := 2) dT_levelOf_38 (by decide) ?_
        refine j_iushr O dT_levelOf_39 ?_
        refine j_istore_n O 1 [(1, .int (ush x 2)), (0, .int key), (2, .int (nI lev))] dT_levelOf_40 rfl (by decide) rfl ?_
        refine j_iinc O (nI (lev + 1)) [(2, .int (nI (lev + 1))), (1, .int (ush x 2)), (0, .int key)] dT_levelOf_41 rfl (nI_1 _) (by decide) rfl ?_
        refine j_goto O 26 dT_levelOf_44 (by decide) ?_
        refine J.pk [2, 1, 0] rfl ?_
        exact ih _ _ (by omega) (by omega)
set_option maxRecDepth 100000 in
set_option maxHeartbeats 4000000 in
theorem c_levelOf (l : Launch) (D : va_G) (t : Nat → ClassId) (A : Nat → Prop) (g : GH) (key : Int32) : Ct l yT_levelOf sT_levelOf { frames := 0, cells := 0, slots := 0, locals := 0 } (zz D t A) [.int key] g 0 0 (fun v g' => v = some (.int (nI (lvl key))) ∧ g' = g) := by
  refine Ct.of (cc := bT_levelOf) (maxL := 3) (ret := (some .int)) (by decide) (Nat.le_of_ble_eq_true rfl) (fun X hl O M hN => ?_)
  show J X 3 (zz D t A) g 0 0 0 [(0, .int key)] []
  refine j_iload_n O 0 dT_levelOf_0 rfl rfl ?_
  refine j_ldc O (-1640531535) w282 dT_levelOf_1 ?_
  refine j_imul O dT_levelOf_3 ?_
  refine j_istore_n O 1 [(1, .int (key * (-1640531535))), (0, .int key)] dT_levelOf_4 rfl (by decide) rfl ?_
  refine j_iload_n O 1 dT_levelOf_5 rfl rfl ?_
  refine j_iload_n O 1 dT_levelOf_6 rfl rfl ?_
  refine j_bipush O (v := 15) dT_levelOf_7 (by decide) ?_
  refine j_iushr O dT_levelOf_9 ?_
  refine j_ixor O dT_levelOf_10 ?_
  refine j_istore_n O 1 [(1, .int ((key * (-1640531535)) ^^^ (ush (key * (-1640531535)) 15))), (0, .int key)] dT_levelOf_11 rfl (by decide) rfl ?_
  refine j_iload_n O 1 dT_levelOf_12 rfl rfl ?_
  refine j_ldc O (-2048144777) w283 dT_levelOf_13 ?_
  refine j_imul O dT_levelOf_15 ?_
  refine j_istore_n O 1 [(1, .int (((key * (-1640531535)) ^^^ (ush (key * (-1640531535)) 15)) * (-2048144777))), (0, .int key)] dT_levelOf_16 rfl (by decide) rfl ?_
  refine j_iload_n O 1 dT_levelOf_17 rfl rfl ?_
  refine j_iload_n O 1 dT_levelOf_18 rfl rfl ?_
  refine j_bipush O (v := 13) dT_levelOf_19 (by decide) ?_
  refine j_iushr O dT_levelOf_21 ?_
  refine j_ixor O dT_levelOf_22 ?_
  refine j_istore_n O 1 [(1, .int ((((key * (-1640531535)) ^^^ (ush (key * (-1640531535)) 15)) * (-2048144777)) ^^^ (ush (((key * (-1640531535)) ^^^ (ush (key * (-1640531535)) 15)) * (-2048144777)) 13))), (0, .int key)] dT_levelOf_23 rfl (by decide) rfl ?_
  refine j_iconst O (v := 0) dT_levelOf_24 (by decide) ?_
  refine j_istore_n O 2 [(2, .int 0), (1, .int ((((key * (-1640531535)) ^^^ (ush (key * (-1640531535)) 15)) * (-2048144777)) ^^^ (ush (((key * (-1640531535)) ^^^ (ush (key * (-1640531535)) 15)) * (-2048144777)) 13))), (0, .int key)] dT_levelOf_25 rfl (by decide) rfl ?_
  refine J.pk [2, 1, 0] rfl ?_
  exact levelOf_loop O M 5 _ 0 rfl (by rw [lvl, Nat.zero_add]; rfl)
