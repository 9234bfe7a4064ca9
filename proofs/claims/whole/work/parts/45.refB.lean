/-! the reference counts the zero bits at the low end -/
theorem and_one (y : Int32) : y &&& 1 = 0 ↔ y.toBitVec.toNat % 2 = 0 := by
  have e : (y &&& 1).toBitVec.toNat = y.toBitVec.toNat % 2 := by
    show (y.toBitVec &&& 1#32).toNat = _
    rw [BitVec.toNat_and]
    exact Nat.and_one_is_mod _
  constructor
  · intro h
    rw [← e, h]
    rfl
  · intro h
    apply Int32.toBitVec_inj.mp
    apply BitVec.eq_of_toNat_eq
    rw [e, h]
    rfl
theorem and_three (y : Int32) : y &&& 3 = 0 ↔ y.toBitVec.toNat % 4 = 0 := by
  have e : (y &&& 3).toBitVec.toNat = y.toBitVec.toNat % 4 := by
    show (y.toBitVec &&& 3#32).toNat = _
    rw [BitVec.toNat_and]
    exact Nat.and_two_pow_sub_one_eq_mod _ 2
  constructor
  · intro h
    rw [← e, h]
    rfl
  · intro h
    apply Int32.toBitVec_inj.mp
    apply BitVec.eq_of_toNat_eq
    rw [e, h]
    rfl
theorem shr_amt : ∀ n, n < 32 → ((nI n &&& 31).toBitVec.smod 32#32).toNat = n := by decide +kernel
theorem bit_shr (x : Int32) (n : Nat) (hn : n < 32) : ((x >>> (nI n &&& 31)) &&& 1 = 0) ↔ x.toBitVec.toNat / 2 ^ n % 2 = 0 := by
  rw [and_one]
  have e1 : (x >>> (nI n &&& 31)).toBitVec = x.toBitVec.sshiftRight n := by
    rw [Int32.toBitVec_shiftRight]
    show x.toBitVec.sshiftRight ((nI n &&& 31).toBitVec.smod 32#32).toNat = _
    rw [shr_amt n hn]
  have e2 : (x >>> (nI n &&& 31)).toBitVec.getLsbD 0 = x.toBitVec.getLsbD n := by
    rw [e1, BitVec.getLsbD_sshiftRight]
    simp [hn]
  have e3 : ∀ (b : BitVec 32) (i : Nat), b.getLsbD i = decide (b.toNat / 2 ^ i % 2 = 1) := fun b i => by
    show b.toNat.testBit i = _
    exact Nat.testBit_eq_decide_div_mod_eq
  rw [e3, e3, decide_eq_decide, Nat.pow_zero, Nat.div_one] at e2
  omega
theorem lvG_ctz : ∀ (m : Nat) (x : Int32) (c : Nat), (∀ i, i < c → x.toBitVec.toNat / 2 ^ i % 2 = 0) → x.toBitVec.toNat / 2 ^ c % 2 = 1 → lvG m x = min m (c / 2)
  | 0, x, c, _, _ => by rw [lvG]; omega
  | m + 1, x, c, h1, h2 => by
    have hu : (ush x 2).toBitVec.toNat = x.toBitVec.toNat / 2 ^ 2 := pk_ushr x 2 2 (by decide)
    rw [lvG]
    by_cases h : x &&& 3 = 0
    · rw [if_pos h]
      have h4 := (and_three x).mp h
      obtain ⟨d, rfl⟩ : ∃ d, c = d + 2 := by
        rcases c with _ | _ | d
        · rw [Nat.pow_zero] at h2; omega
        · rw [Nat.pow_one] at h2; omega
        · exact ⟨d, rfl⟩
      have e : ∀ i, (ush x 2).toBitVec.toNat / 2 ^ i = x.toBitVec.toNat / 2 ^ (i + 2) := fun i => by
        rw [hu, Nat.div_div_eq_div_mul, ← Nat.pow_add, Nat.add_comm]
      have ih := lvG_ctz m (ush x 2) d (fun i hi => by rw [e]; exact h1 (i + 2) (by omega)) (by rw [e]; exact h2)
      rw [ih]
      omega
    · rw [if_neg h]
      have hc : c < 2 := by
        rcases Nat.lt_or_ge c 2 with z | z
        · exact z
        · have a0 := h1 0 (by omega)
          have a1 := h1 1 (by omega)
          rw [Nat.pow_zero] at a0
          rw [Nat.pow_one] at a1
          exact absurd ((and_three x).mpr (by omega)) h
      omega
theorem low_zero (u : Nat) : ∀ k, (∀ i, i < k → u / 2 ^ i % 2 = 0) → u % 2 ^ k = 0
  | 0, _ => by rw [Nat.pow_zero]; omega
  | k + 1, h => by
    have ih := low_zero u k (fun i hi => h i (by omega))
    rw [Nat.mod_pow_succ, ih, h k (by omega)]
    rfl
set_option maxRecDepth 100000 in
set_option maxHeartbeats 1000000 in
theorem M_level_loop {X : CX} {D : va_G} {t : Nat → ClassId} {A : Nat → Prop} {rm : Room} {g : GH} {key x : Int32} (O : Ok X bM_levelOf 3 "TwinTreesModel" (zz D t A) rm) (M : Om X (zz D t A) (some .int) 0 0 (fun v g' => v = some (.int (nI (lvG 5 x))) ∧ g' = g)) (hx : ¬ x = 0) (hrm : 1 ≤ rm.frames ∧ 20 ≤ rm.locals) : ∀ (k n : Nat), n + k = 32 → (∀ i, i < n → x.toBitVec.toNat / 2 ^ i % 2 = 0) → J X 3 (zz D t A) g 0 0 32 [(0, .int key), (1, .int x), (2, .int (nI n))] [] := by
  intro k
  induction k with
  | zero =>
    intro n hn hb
    exfalso
    have e : n = 32 := by omega
    subst e
    have h1 := low_zero _ 32 hb
    have h2 := x.toBitVec.isLt
    rw [Nat.mod_eq_of_lt h2] at h1
    apply hx
    apply Int32.toBitVec_inj.mp
    apply BitVec.eq_of_toNat_eq
    rw [h1]
    rfl
  | succ k ih =>
    intro n hn hb
    have hbs := bit_shr x n (by omega)
    refine j_iload_n O 1 dM_levelOf_32 rfl rfl ?_
    refine j_iload_n O 2 dM_levelOf_33 rfl rfl ?_
    refine j_ishr O dM_levelOf_34 ?_
    refine j_iconst O (v := 1) dM_levelOf_35 (by decide) ?_
    refine j_iand O dM_levelOf_36 ?_
    refine j_if_ne O 46 dM_levelOf_37 (by decide) (fun c1 => ?_) (fun c1 => ?_)
    · have h1 : x.toBitVec.toNat / 2 ^ n % 2 = 1 := by
        rcases Nat.mod_two_eq_zero_or_one (x.toBitVec.toNat / 2 ^ n) with z | z
        · exact absurd (hbs.mpr z) c1
        · exact z
      have hl := lvG_ctz 5 x n hb h1
      have er : nI (lvG 5 x) = if nI (n / 2) < 5 then nI (n / 2) else 5 := by
        rw [hl]
        split
        · next z =>
          have := (nI_ltI (b := 5) (by omega) (by decide)).mp z
          rw [Nat.min_eq_right (by omega)]
        · next z =>
          have z2 : ¬ n / 2 < 5 := fun q => z (nI_lt (b := 5) q (by decide))
          rw [Nat.min_eq_left (by omega)]
          rfl
      rw [er] at M
      have ed : nI n / 2 = nI (n / 2) := by
        exact pk_div (d := 2) (by omega) (by decide) (by decide)
      refine j_iconst O (v := 5) dM_levelOf_46 (by decide) ?_
      refine j_iload_n O 2 dM_levelOf_47 rfl rfl ?_
      refine j_iconst O (v := 2) dM_levelOf_48 (by decide) ?_
      refine j_idiv O (by decide) dM_levelOf_49 ?_
      refine j_eqi (nI (n / 2)) ed ?_
      refine j_mmin O w427 w428 w29 w429 hrm.1 (by show 0 + 13 ≤ _; omega) (Nat.zero_le _) (Nat.zero_le _) dM_levelOf_50 ?_
      exact j_iret O M (Nat.le_of_ble_eq_true rfl) (Nat.le_of_ble_eq_true rfl) ⟨rfl, rfl⟩ dM_levelOf_53
    · refine j_iinc O (nI (n + 1)) [(2, .int (nI (n + 1))), (0, .int key), (1, .int x)] dM_levelOf_40 rfl (nI_1 _) (by decide) rfl ?_
      refine j_goto O 32 dM_levelOf_43 (by decide) ?_
      refine J.pk [1, 2, 0] rfl ?_
      exact ih (n + 1) (by omega) (fun i hi => by
        rcases Nat.lt_or_ge i n with z | z
        · exact hb i z
        · have e : i = n := by omega
          rw [e]; exact hbs.mp c1)
set_option maxRecDepth 100000 in
set_option maxHeartbeats 1000000 in
theorem c_M_levelOf (l : Launch) (D : va_G) (t : Nat → ClassId) (A : Nat → Prop) (g : GH) (key : Int32) : Ct l yM_levelOf sM_levelOf { frames := 1, cells := 0, slots := 0, locals := 20 } (zz D t A) [.int key] g 0 0 (fun v g' => v = some (.int (nI (lvl key))) ∧ g' = g) := by
  refine Ct.of (cc := bM_levelOf) (maxL := 3) (ret := (some .int)) (by decide) (Nat.le_of_ble_eq_true rfl) (fun X hlX O M hNn => ?_)
  show J X 3 (zz D t A) g 0 0 0 [(0, .int key)] []
  have e5 : ∀ n, lvG n 0 = n := fun n => by
    induction n with
    | zero => rfl
    | succ n ih =>
      rw [lvG, if_pos (by decide), show ush 0 2 = 0 by decide, ih]
  refine j_iload_n O 0 dM_levelOf_0 rfl rfl ?_
  refine j_ldc O (-1640531535) w425 dM_levelOf_1 ?_
  refine j_imul O dM_levelOf_3 ?_
  refine j_istore_n O 1 [(1, .int (key * (-1640531535))), (0, .int key)] dM_levelOf_4 rfl (by decide) rfl ?_
  refine j_iload_n O 1 dM_levelOf_5 rfl rfl ?_
  refine j_iload_n O 1 dM_levelOf_6 rfl rfl ?_
  refine j_bipush O (v := 15) dM_levelOf_7 (by decide) ?_
  refine j_iushr O dM_levelOf_9 ?_
  refine j_ixor O dM_levelOf_10 ?_
  refine j_istore_n O 1 [(1, .int ((key * (-1640531535)) ^^^ (ush (key * (-1640531535)) 15))), (0, .int key)] dM_levelOf_11 rfl (by decide) rfl ?_
  refine j_iload_n O 1 dM_levelOf_12 rfl rfl ?_
  refine j_ldc O (-2048144777) w426 dM_levelOf_13 ?_
  refine j_imul O dM_levelOf_15 ?_
  refine j_istore_n O 1 [(1, .int (((key * (-1640531535)) ^^^ (ush (key * (-1640531535)) 15)) * (-2048144777))), (0, .int key)] dM_levelOf_16 rfl (by decide) rfl ?_
  refine j_iload_n O 1 dM_levelOf_17 rfl rfl ?_
  refine j_iload_n O 1 dM_levelOf_18 rfl rfl ?_
  refine j_bipush O (v := 13) dM_levelOf_19 (by decide) ?_
  refine j_iushr O dM_levelOf_21 ?_
  refine j_ixor O dM_levelOf_22 ?_
  refine j_istore_n O 1 [(1, .int ((((key * (-1640531535)) ^^^ (ush (key * (-1640531535)) 15)) * (-2048144777)) ^^^ (ush (((key * (-1640531535)) ^^^ (ush (key * (-1640531535)) 15)) * (-2048144777)) 13))), (0, .int key)] dM_levelOf_23 rfl (by decide) rfl ?_
  refine j_iload_n O 1 dM_levelOf_24 rfl rfl ?_
  refine j_if_ne O 30 dM_levelOf_25 (by decide) (fun c1 => ?_) (fun c1 => ?_)
  · refine j_iconst O (v := 0) dM_levelOf_30 (by decide) ?_
    refine j_istore_n O 2 [(2, .int 0), (1, .int ((((key * (-1640531535)) ^^^ (ush (key * (-1640531535)) 15)) * (-2048144777)) ^^^ (ush (((key * (-1640531535)) ^^^ (ush (key * (-1640531535)) 15)) * (-2048144777)) 13))), (0, .int key)] dM_levelOf_31 rfl (by decide) rfl ?_
    refine J.pk [2, 1, 0] rfl ?_
    exact M_level_loop O M c1 ⟨(Nat.le_of_ble_eq_true rfl), (Nat.le_of_ble_eq_true rfl)⟩ 32 0 rfl (fun i hi => by omega)
  · have ex : mixB (mixA key) = 0 := c1
    have er : lvl key = 5 := by unfold lvl; rw [ex]; exact e5 5
    rw [er] at M
    refine j_iconst O (v := 5) dM_levelOf_28 (by decide) ?_
    exact j_iret O M (Nat.le_of_ble_eq_true rfl) (Nat.le_of_ble_eq_true rfl) ⟨rfl, rfl⟩ dM_levelOf_29
