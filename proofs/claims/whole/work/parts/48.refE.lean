/-- the differences as the reference keeps them -/
def RD (t : Nat → ClassId) (g : GH) (u : Nat → Nat) (ds : List (Int32 × Int32 × Int32)) : Prop := ∃ fk fs fu, gAt g (u 6) (eI t 600 fk) ∧ gAt g (u 7) (eI t 600 fs) ∧ gAt g (u 8) (eI t 600 fu) ∧ dfs fk fs fu ds ∧ ds.length ≤ 600
theorem in2 {y : Int32} (h : 0 ≤ y ∧ y ≤ 2) : y = 0 ∨ y = 1 ∨ y = 2 := by
  have h1 := Int32.le_iff_toInt_le.mp h.1
  have h2 := Int32.le_iff_toInt_le.mp h.2
  have e0 : (0 : Int32).toInt = 0 := by decide
  have e1 : (1 : Int32).toInt = 1 := by decide
  have e2 : (2 : Int32).toInt = 2 := by decide
  rcases (show y.toInt = 0 ∨ y.toInt = 1 ∨ y.toInt = 2 by omega) with z | z | z
  · exact Or.inl (Int32.toInt_inj.mp (z.trans e0.symm))
  · exact Or.inr (Or.inl (Int32.toInt_inj.mp (z.trans e1.symm)))
  · exact Or.inr (Or.inr (Int32.toInt_inj.mp (z.trans e2.symm)))
set_option maxRecDepth 100000 in
set_option maxHeartbeats 1000000 in
theorem c_M_difference (l : Launch) (D : va_G) (t : Nat → ClassId) (A : Nat → Prop) (g : GH) (u : Nat → Nat) (oc om nn us lm mm ta co si : Int32) (s : AS) (k y : Int32) (hM : gAt g (u 19) (eM u oc om (nI s.2.2.length) nn us lm mm ta co si)) (hD : RD t g u s.2.2) : Ct l yM_difference sM_difference { frames := 1, cells := 0, slots := 0, locals := 40 } (zz D t A) [.ref (u 19), .int k, .int y] g 0 0 (fun v g' => v = some (.long (aDiff s k y)) ∧ g' = g) := by
  refine Ct.of (cc := bM_difference) (maxL := 3) (ret := (some .long)) (by decide) (Nat.le_of_ble_eq_true rfl) (fun X hlX O M hNn => ?_)
  show J X 3 (zz D t A) g 0 0 0 [(0, .ref (u 19)), (1, .int k), (2, .int y)] []
  obtain ⟨fk, fs, fu, hk, hs, hu, hdf, hdl⟩ := hD
  refine j_iload_n O 1 dM_difference_0 rfl rfl ?_
  refine j_iconst O (v := 0) dM_difference_1 (by decide) ?_
  refine j_aload_n O 0 dM_difference_2 rfl rfl ?_
  refine j_get O uwM hM rfl 11 (by decide) w458 rfl rfl dM_difference_3 ?_
  refine j_iconst O (v := 1) dM_difference_6 (by decide) ?_
  refine j_isub O dM_difference_7 ?_
  refine j_callS O [.int k, .int 0, .int (nI s.2.2.length - 1)] (c_M_in X.2.1 D t A g k 0 (nI s.2.2.length - 1)) w540 w541 w28 w542 3 rfl rfl rfl (by decide +kernel) ⟨(Nat.le_of_ble_eq_true rfl), (Nat.le_of_ble_eq_true rfl)⟩ rfl (Nat.le_of_ble_eq_true rfl) dM_difference_8 ⟨(Nat.le_of_ble_eq_true rfl), (Nat.le_of_ble_eq_true rfl)⟩ (fun vw49 gw50 hpw51 => ?_)
  obtain ⟨rfl, hgw52⟩ := hpw51
  have hgw52 := hgw52.symm
  subst hgw52
  refine j_if_eq O 23 dM_difference_11 (by decide) (fun c1 => ?_) (fun c1 => ?_)
  · have hk0 : ¬ (0 ≤ k ∧ k ≤ nI s.2.2.length - 1) := fun z => by rw [if_pos z] at c1; exact absurd c1 (by decide)
    have er : aDiff s k y = 1099511627776 := if_neg (fun z => hk0 ⟨z.1, (le_pred (by omega) k).mpr z.2⟩)
    rw [er] at M
    refine j_ldc2 O 1099511627776 w580 dM_difference_23 ?_
    exact j_lret O M (Nat.le_of_ble_eq_true rfl) (Nat.le_of_ble_eq_true rfl) ⟨rfl, rfl⟩ dM_difference_26
  · have hk0 : 0 ≤ k ∧ k ≤ nI s.2.2.length - 1 := by
      by_cases z : 0 ≤ k ∧ k ≤ nI s.2.2.length - 1
      · exact z
      · rw [if_neg z] at c1; exact absurd rfl c1
    have kl := (le_pred (by omega) k).mp hk0.2
    have k0 := hk0.1
    obtain ⟨j, j31, rfl⟩ : ∃ j, j < 2 ^ 31 ∧ k = nI j := ⟨ix k, by have := Int32.toInt_lt k; unfold ix; omega, of_le0 k0⟩
    have hj : j < s.2.2.length := (nI_ltI j31 (by omega)).mp kl
    have er : aDiff s (nI j) y = if y = 0 then (s.2.2[j].1).toInt64 else if y = 1 then (s.2.2[j].2.1).toInt64 else if y = 2 then (s.2.2[j].2.2).toInt64 else 1099511627776 := by
      unfold aDiff
      rw [if_pos ⟨k0, kl⟩, ix_nI j31]
      simp [List.getD, hj]
    rw [er] at M
    obtain ⟨d1, d2, d3⟩ := hdf j hj
    refine j_iload_n O 2 dM_difference_14 rfl rfl ?_
    refine j_iconst O (v := 0) dM_difference_15 (by decide) ?_
    refine j_iconst O (v := 2) dM_difference_16 (by decide) ?_
    refine j_callS O [.int y, .int 0, .int 2] (c_M_in X.2.1 D t A g y 0 2) w540 w541 w28 w542 3 rfl rfl rfl (by decide +kernel) ⟨(Nat.le_of_ble_eq_true rfl), (Nat.le_of_ble_eq_true rfl)⟩ rfl (Nat.le_of_ble_eq_true rfl) dM_difference_17 ⟨(Nat.le_of_ble_eq_true rfl), (Nat.le_of_ble_eq_true rfl)⟩ (fun vw53 gw54 hpw55 => ?_)
    obtain ⟨rfl, hgw56⟩ := hpw55
    have hgw56 := hgw56.symm
    subst hgw56
    refine j_if_ne O 27 dM_difference_20 (by decide) (fun c2 => ?_) (fun c2 => ?_)
    · have hy0 : 0 ≤ y ∧ y ≤ 2 := by
        by_cases z : 0 ≤ y ∧ y ≤ 2
        · exact z
        · rw [if_neg z] at c2; exact absurd rfl c2
      refine j_iload_n O 2 dM_difference_27 rfl rfl ?_
      refine j_if_ne O 41 dM_difference_28 (by decide) (fun c3 => ?_) (fun c3 => ?_)
      · refine j_iload_n O 2 dM_difference_41 rfl rfl ?_
        refine j_iconst O (v := 1) dM_difference_42 (by decide) ?_
        refine j_icmp_ne O 56 dM_difference_43 (by decide) (fun c4 => ?_) (fun c4 => ?_)
        · have e2 : y = 2 := by
            rcases in2 hy0 with z | z | z
            · exact absurd z c3
            · exact absurd z c4
            · exact z
          subst e2
          rw [if_neg (by decide), if_neg (by decide), if_pos rfl] at M
          refine j_aload_n O 0 dM_difference_56 rfl rfl ?_
          refine j_get O uwM hM rfl 10 (by decide) w457 rfl rfl dM_difference_57 ?_
          refine j_iload_n O 1 dM_difference_60 rfl rfl ?_
          refine j_iald O hu 0 rfl (by omega) (by omega) dM_difference_61 ?_
          refine j_eqi (s.2.2[j].2.2) d3 ?_
          refine j_i2l O dM_difference_62 ?_
          exact j_lret O M (Nat.le_of_ble_eq_true rfl) (Nat.le_of_ble_eq_true rfl) ⟨rfl, rfl⟩ dM_difference_63
        · have e1 : y = 1 := c4
          subst e1
          rw [if_neg (by decide), if_pos rfl] at M
          refine j_aload_n O 0 dM_difference_46 rfl rfl ?_
          refine j_get O uwM hM rfl 9 (by decide) w456 rfl rfl dM_difference_47 ?_
          refine j_iload_n O 1 dM_difference_50 rfl rfl ?_
          refine j_iald O hs 0 rfl (by omega) (by omega) dM_difference_51 ?_
          refine j_eqi (s.2.2[j].2.1) d2 ?_
          refine j_i2l O dM_difference_52 ?_
          refine j_goto O 63 dM_difference_53 (by decide) ?_
          exact j_lret O M (Nat.le_of_ble_eq_true rfl) (Nat.le_of_ble_eq_true rfl) ⟨rfl, rfl⟩ dM_difference_63
      · have e0 : y = 0 := c3
        subst e0
        rw [if_pos rfl] at M
        refine j_aload_n O 0 dM_difference_31 rfl rfl ?_
        refine j_get O uwM hM rfl 8 (by decide) w455 rfl rfl dM_difference_32 ?_
        refine j_iload_n O 1 dM_difference_35 rfl rfl ?_
        refine j_iald O hk 0 rfl (by omega) (by omega) dM_difference_36 ?_
        refine j_eqi (s.2.2[j].1) d1 ?_
        refine j_i2l O dM_difference_37 ?_
        refine j_goto O 63 dM_difference_38 (by decide) ?_
        exact j_lret O M (Nat.le_of_ble_eq_true rfl) (Nat.le_of_ble_eq_true rfl) ⟨rfl, rfl⟩ dM_difference_63
    · have hy0 : ¬ (0 ≤ y ∧ y ≤ 2) := fun z => by rw [if_pos z] at c2; exact absurd c2 (by decide)
      rw [if_neg (fun z => hy0 (by rw [z]; decide)), if_neg (fun z => hy0 (by rw [z]; decide)), if_neg (fun z => hy0 (by rw [z]; decide))] at M
      refine j_ldc2 O 1099511627776 w580 dM_difference_23 ?_
      exact j_lret O M (Nat.le_of_ble_eq_true rfl) (Nat.le_of_ble_eq_true rfl) ⟨rfl, rfl⟩ dM_difference_26
