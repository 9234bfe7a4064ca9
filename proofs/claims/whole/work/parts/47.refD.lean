theorem in5 (x : Int32) : (0 ≤ x ∧ x ≤ 5) ↔ isT x := by
  have e5 : (5 : Int32).toInt = 5 := by decide
  have e6 : (6 : Int32).toInt = 6 := by decide
  constructor
  · rintro ⟨h1, h2⟩
    exact ⟨h1, Int32.lt_iff_toInt_lt.mpr (by have := Int32.le_iff_toInt_le.mp h2; omega)⟩
  · rintro ⟨h1, h2⟩
    exact ⟨h1, Int32.le_iff_toInt_le.mpr (by have := Int32.lt_iff_toInt_lt.mp h2; omega)⟩
theorem le_pred {n : Nat} (hn : n < 2 ^ 31) (k : Int32) : k ≤ nI n - 1 ↔ k < nI n := by
  have e : (nI n - 1).toInt = (n : Int) - 1 := by
    cases n with
    | zero => decide
    | succ n =>
      have e1 : nI (n + 1) - 1 = nI n := pk_sub (a := n + 1) (b := 1) (by omega)
      rw [e1, nI_toInt (by omega)]
      omega
  constructor
  · intro h
    have := Int32.le_iff_toInt_le.mp h
    exact Int32.lt_iff_toInt_lt.mpr (by rw [nI_toInt hn]; omega)
  · intro h
    have := Int32.lt_iff_toInt_lt.mp h
    rw [nI_toInt hn] at this
    exact Int32.le_iff_toInt_le.mpr (by omega)
set_option maxRecDepth 100000 in
set_option maxHeartbeats 1000000 in
theorem c_M_count (l : Launch) (D : va_G) (t : Nat → ClassId) (A : Nat → Prop) (g : GH) (u : Nat → Nat) (oc om df nn us lm mm ta co si : Int32) (s : AS) (x : Int32) (hM : gAt g (u 19) (eM u oc om df (nI s.2.1.length) (nI (szL s.2.1)) lm mm ta co si)) : Ct l yM_count sM_count { frames := 0, cells := 0, slots := 0, locals := 0 } (zz D t A) [.ref (u 19), .int x] g 0 0 (fun v g' => v = some (.int (aCount s x)) ∧ g' = g) := by
  refine Ct.of (cc := bM_count) (maxL := 2) (ret := (some .int)) (by decide) (Nat.le_of_ble_eq_true rfl) (fun X hlX O M hNn => ?_)
  show J X 2 (zz D t A) g 0 0 0 [(0, .ref (u 19)), (1, .int x)] []
  refine j_iload_n O 1 dM_count_0 rfl rfl ?_
  refine j_if_ne O 11 dM_count_1 (by decide) (fun c1 => ?_) (fun c1 => ?_)
  · refine j_iload_n O 1 dM_count_11 rfl rfl ?_
    refine j_iconst O (v := 1) dM_count_12 (by decide) ?_
    refine j_icmp_ne O 23 dM_count_13 (by decide) (fun c2 => ?_) (fun c2 => ?_)
    · have er : aCount s x = -1 := (if_neg c1).trans (if_neg c2)
      rw [er] at M
      refine j_iconst O (v := -1) dM_count_23 (by decide) ?_
      exact j_iret O M (Nat.le_of_ble_eq_true rfl) (Nat.le_of_ble_eq_true rfl) ⟨rfl, rfl⟩ dM_count_24
    · have e1 : x = 1 := c2
      subst e1
      have er : aCount s 1 = nI (szL s.2.1) := rfl
      rw [er] at M
      refine j_aload_n O 0 dM_count_16 rfl rfl ?_
      refine j_get O uwM hM rfl 20 (by decide) w467 rfl rfl dM_count_17 ?_
      refine j_goto O 24 dM_count_20 (by decide) ?_
      exact j_iret O M (Nat.le_of_ble_eq_true rfl) (Nat.le_of_ble_eq_true rfl) ⟨rfl, rfl⟩ dM_count_24
  · have e0 : x = 0 := c1
    subst e0
    have er : aCount s 0 = nI s.2.1.length := if_pos rfl
    rw [er] at M
    refine j_aload_n O 0 dM_count_4 rfl rfl ?_
    refine j_get O uwM hM rfl 19 (by decide) w466 rfl rfl dM_count_5 ?_
    refine j_goto O 24 dM_count_8 (by decide) ?_
    exact j_iret O M (Nat.le_of_ble_eq_true rfl) (Nat.le_of_ble_eq_true rfl) ⟨rfl, rfl⟩ dM_count_24
set_option maxRecDepth 100000 in
set_option maxHeartbeats 1000000 in
theorem c_M_row (l : Launch) (D : va_G) (t : Nat → ClassId) (A : Nat → Prop) (g : GH) (u : Nat → Nat) (oc om df nn us lm mm ta co si : Int32) (s : AS) (x k : Int32) (hM : gAt g (u 19) (eM u oc om df nn us lm mm ta co si)) (hRT : RT t g u s.1) (htb : ∀ i, i < 6 → tOK (s.1 i)) : Ct l yM_row sM_row { frames := 1, cells := 0, slots := 0, locals := 40 } (zz D t A) [.ref (u 19), .int x, .int k] g 0 0 (fun v g' => v = some (.long (aRow s x k)) ∧ g' = g) := by
  refine Ct.of (cc := bM_row) (maxL := 3) (ret := (some .long)) (by decide) (Nat.le_of_ble_eq_true rfl) (fun X hlX O M hNn => ?_)
  show J X 3 (zz D t A) g 0 0 0 [(0, .ref (u 19)), (1, .int x), (2, .int k)] []
  obtain ⟨⟨fC, hC, hCv⟩, ⟨fN, hNn0, hNv⟩, ⟨fK, hK, hKv⟩, ⟨fL, hL, hLv⟩, hrow⟩ := id hRT
  refine j_iload_n O 1 dM_row_0 rfl rfl ?_
  refine j_iconst O (v := 0) dM_row_1 (by decide) ?_
  refine j_iconst O (v := 5) dM_row_2 (by decide) ?_
  refine j_callS O [.int x, .int 0, .int 5] (c_M_in X.2.1 D t A g x 0 5) w540 w541 w28 w542 3 rfl rfl rfl (by decide +kernel) ⟨(Nat.le_of_ble_eq_true rfl), (Nat.le_of_ble_eq_true rfl)⟩ rfl (Nat.le_of_ble_eq_true rfl) dM_row_3 ⟨(Nat.le_of_ble_eq_true rfl), (Nat.le_of_ble_eq_true rfl)⟩ (fun vw29 gw30 hpw31 => ?_)
  obtain ⟨rfl, hgw32⟩ := hpw31
  have hgw32 := hgw32.symm
  subst hgw32
  refine j_if_eq O 37 dM_row_6 (by decide) (fun c1 => ?_) (fun c1 => ?_)
  · have hx0 : ¬ (0 ≤ x ∧ x ≤ 5) := fun z => by rw [if_pos z] at c1; exact absurd c1 (by decide)
    have er : aRow s x k = 1099511627776 := if_neg (fun z => hx0 ((in5 x).mpr z.1))
    rw [er] at M
    refine j_ldc2 O 1099511627776 w580 dM_row_37 ?_
    exact j_lret O M (Nat.le_of_ble_eq_true rfl) (Nat.le_of_ble_eq_true rfl) ⟨rfl, rfl⟩ dM_row_40
  · have hx0 : 0 ≤ x ∧ x ≤ 5 := by
      by_cases z : 0 ≤ x ∧ x ≤ 5
      · exact z
      · rw [if_neg z] at c1; exact absurd rfl c1
    obtain ⟨i, i6, rfl⟩ := tb_of ((in5 _).mp hx0)
    have hx := (in5 _).mp hx0
    have ei : ix (nI i) = i := ix_nI (by omega)
    obtain ⟨fk, fc, hk, hc, htab⟩ := hrow i i6
    obtain ⟨t1, t2, t3, t4, t5⟩ := htb i i6
    have hNi := hNv i i6
    have hKi := hKv i i6
    refine j_iload_n O 2 dM_row_9 rfl rfl ?_
    refine j_iconst O (v := 0) dM_row_10 (by decide) ?_
    refine j_aload_n O 0 dM_row_11 rfl rfl ?_
    refine j_get O uwM hM rfl 1 (by decide) w448 rfl rfl dM_row_12 ?_
    refine j_iload_n O 1 dM_row_15 rfl rfl ?_
    refine j_iald O hNn0 0 rfl (by omega) (by omega) dM_row_16 ?_
    refine j_iconst O (v := 1) dM_row_17 (by decide) ?_
    refine j_isub O dM_row_18 ?_
    refine j_eqi (nI (s.1 i).2.length - 1) (by rw [hNi]) ?_
    refine j_callS O [.int k, .int 0, .int (nI (s.1 i).2.length - 1)] (c_M_in X.2.1 D t A g k 0 (nI (s.1 i).2.length - 1)) w540 w541 w28 w542 3 rfl rfl rfl (by decide +kernel) ⟨(Nat.le_of_ble_eq_true rfl), (Nat.le_of_ble_eq_true rfl)⟩ rfl (Nat.le_of_ble_eq_true rfl) dM_row_19 ⟨(Nat.le_of_ble_eq_true rfl), (Nat.le_of_ble_eq_true rfl)⟩ (fun vw33 gw34 hpw35 => ?_)
    obtain ⟨rfl, hgw36⟩ := hpw35
    have hgw36 := hgw36.symm
    subst hgw36
    refine j_if_eq O 37 dM_row_22 (by decide) (fun c2 => ?_) (fun c2 => ?_)
    · have hk0 : ¬ (0 ≤ k ∧ k ≤ nI (s.1 i).2.length - 1) := fun z => by rw [if_pos z] at c2; exact absurd c2 (by decide)
      have er : aRow s (nI i) k = 1099511627776 := if_neg (fun z => hk0 ⟨z.2.1, (le_pred (by omega) k).mpr (by have := z.2.2; rw [ei] at this; exact this)⟩)
      rw [er] at M
      refine j_ldc2 O 1099511627776 w580 dM_row_37 ?_
      exact j_lret O M (Nat.le_of_ble_eq_true rfl) (Nat.le_of_ble_eq_true rfl) ⟨rfl, rfl⟩ dM_row_40
    · have hk0 : 0 ≤ k ∧ k ≤ nI (s.1 i).2.length - 1 := by
        by_cases z : 0 ≤ k ∧ k ≤ nI (s.1 i).2.length - 1
        · exact z
        · rw [if_neg z] at c2; exact absurd rfl c2
      have kl := (le_pred (by omega) k).mp hk0.2
      have k0 := hk0.1
      obtain ⟨j, j31, rfl⟩ : ∃ j, j < 2 ^ 31 ∧ k = nI j := ⟨ix k, by have := Int32.toInt_lt k; unfold ix; omega, of_le0 k0⟩
      have hj : j < (s.1 i).2.length := (nI_ltI j31 (by omega)).mp kl
      have er : aRow s (nI i) (nI j) = ((s.1 i).2[j].1).toInt64 := by
        unfold aRow
        rw [ei, if_pos ⟨hx, k0, kl⟩, ix_nI j31]
        simp [List.getD, hj]
      rw [er] at M
      have hkj := (htab j hj).1
      refine j_aload_n O 0 dM_row_25 rfl rfl ?_
      refine j_get O uwM hM rfl 2 (by decide) w449 rfl rfl dM_row_26 ?_
      refine j_iload_n O 1 dM_row_29 rfl rfl ?_
      refine j_aaldA O hK 4 rfl (by omega) (by omega) dM_row_30 ?_
      refine j_some (u (20 + i)) hKi ?_
      refine j_iload_n O 2 dM_row_31 rfl rfl ?_
      refine j_iald O hk 0 rfl (by omega) (by omega) dM_row_32 ?_
      refine j_eqi ((s.1 i).2[j].1) hkj ?_
      refine j_i2l O dM_row_33 ?_
      refine j_goto O 40 dM_row_34 (by decide) ?_
      exact j_lret O M (Nat.le_of_ble_eq_true rfl) (Nat.le_of_ble_eq_true rfl) ⟨rfl, rfl⟩ dM_row_40
theorem cv_null {r : RV} {c : Nat} (h : bitN r.2.2 c = true) : cv r c = -9223372036854775808 := if_pos h
theorem cv_val {r : RV} {c : Nat} (h : ¬ bitN r.2.2 c = true) : cv r c = (r.2.1.getD c 0).toInt64 := if_neg h
theorem cmp_ne (x : Int32) : ¬ lg_cmp x.toInt64 (-9223372036854775808) = 0 := by
  intro h
  have h1 : x.toInt64 = -9223372036854775808 := by
    unfold lg_cmp at h
    split at h
    · exact absurd h (by decide)
    · split at h
      · next z => exact z
      · exact absurd h (by decide)
  have h2 := congrArg Int64.toInt h1
  rw [Int32.toInt_toInt64] at h2
  have h3 := Int32.le_toInt x
  have h4 : (-9223372036854775808 : Int64).toInt = -9223372036854775808 := by decide
  omega
theorem lkp_plc {k : Int32} : ∀ {rs : List RV}, srt rs → lkp k rs = if h : ∃ h : plc k rs < rs.length, rs[plc k rs].1 = k then some (rs[plc k rs]'h.1) else none := by
  intro rs hs
  unfold lkp
  split
  · next h =>
    obtain ⟨hp, hk⟩ := h
    rw [List.find?_eq_some_iff_getElem]
    refine ⟨by simpa using hk, plc k rs, hp, rfl, fun j hj => ?_⟩
    have := plc_low k rs j (by omega) hj
    simp only [Bool.not_eq_true', decide_eq_false_iff_not]
    intro z
    rw [z] at this
    exact lt_irr32 _ this
  · next h =>
    rw [List.find?_eq_none]
    intro r hr
    obtain ⟨j, hj, e⟩ := List.mem_iff_getElem.mp hr
    simp only [decide_eq_true_eq]
    intro z
    rw [← e] at z
    rcases Nat.lt_or_ge j (plc k rs) with q | q
    · have := plc_low k rs j hj q
      rw [z] at this
      exact lt_irr32 _ this
    · rcases Nat.lt_or_ge (plc k rs) j with q2 | q2
      · have h1 := plc_high k rs hs (plc k rs) (by omega) (Nat.le_refl _)
        have h2 := (List.pairwise_iff_getElem.mp hs) (plc k rs) j (by omega) hj q2
        rw [z] at h2
        exact h1 h2
      · have ej : j = plc k rs := by omega
        subst ej
        exact h ⟨hj, z⟩
set_option maxRecDepth 100000 in
set_option maxHeartbeats 1000000 in
theorem c_M_get (l : Launch) (D : va_G) (t : Nat → ClassId) (A : Nat → Prop) (g : GH) (u : Nat → Nat) (oc om df nn us lm mm ta co si : Int32) (s : AS) (x k y : Int32) (hM : gAt g (u 19) (eM u oc om df nn us lm mm ta co si)) (hRT : RT t g u s.1) (htb : ∀ i, i < 6 → tOK (s.1 i)) : Ct l yM_get sM_get { frames := 2, cells := 0, slots := 0, locals := 70 } (zz D t A) [.ref (u 19), .int x, .int k, .int y] g 0 0 (fun v g' => v = some (.long (aGet s x k y)) ∧ g' = g) := by
  refine Ct.of (cc := bM_get) (maxL := 7) (ret := (some .long)) (by decide) (Nat.le_of_ble_eq_true rfl) (fun X hlX O M hNn => ?_)
  show J X 7 (zz D t A) g 0 0 0 [(0, .ref (u 19)), (1, .int x), (2, .int k), (3, .int y)] []
  obtain ⟨⟨fC, hC, hCv⟩, ⟨fN, hNn0, hNv⟩, ⟨fK, hK, hKv⟩, ⟨fL, hL, hLv⟩, hrow⟩ := id hRT
  refine j_iload_n O 1 dM_get_0 rfl rfl ?_
  refine j_iconst O (v := 0) dM_get_1 (by decide) ?_
  refine j_iconst O (v := 5) dM_get_2 (by decide) ?_
  refine j_callS O [.int x, .int 0, .int 5] (c_M_in X.2.1 D t A g x 0 5) w540 w541 w28 w542 3 rfl rfl rfl (by decide +kernel) ⟨(Nat.le_of_ble_eq_true rfl), (Nat.le_of_ble_eq_true rfl)⟩ rfl (Nat.le_of_ble_eq_true rfl) dM_get_3 ⟨(Nat.le_of_ble_eq_true rfl), (Nat.le_of_ble_eq_true rfl)⟩ (fun vw37 gw38 hpw39 => ?_)
  obtain ⟨rfl, hgw40⟩ := hpw39
  have hgw40 := hgw40.symm
  subst hgw40
  refine j_if_eq O 25 dM_get_6 (by decide) (fun c1 => ?_) (fun c1 => ?_)
  · have hx0 : ¬ (0 ≤ x ∧ x ≤ 5) := fun z => by rw [if_pos z] at c1; exact absurd c1 (by decide)
    have er : aGet s x k y = 1099511627775 := if_neg (fun z => hx0 ((in5 x).mpr z.1))
    rw [er] at M
    refine j_ldc2 O 1099511627775 w578 dM_get_25 ?_
    exact j_lret O M (Nat.le_of_ble_eq_true rfl) (Nat.le_of_ble_eq_true rfl) ⟨rfl, rfl⟩ dM_get_28
  · have hx0 : 0 ≤ x ∧ x ≤ 5 := by
      by_cases z : 0 ≤ x ∧ x ≤ 5
      · exact z
      · rw [if_neg z] at c1; exact absurd rfl c1
    obtain ⟨i, i6, rfl⟩ := tb_of ((in5 _).mp hx0)
    have hx := (in5 _).mp hx0
    have ei : ix (nI i) = i := ix_nI (by omega)
    obtain ⟨fk, fc, hk, hc, htab⟩ := hrow i i6
    obtain ⟨t1, t2, t3, t4, t5⟩ := htb i i6
    have hCi := hCv i i6
    have hLi := hLv i i6
    refine j_iload_n O 3 dM_get_9 rfl rfl ?_
    refine j_iconst O (v := 0) dM_get_10 (by decide) ?_
    refine j_aload_n O 0 dM_get_11 rfl rfl ?_
    refine j_get O uwM hM rfl 0 (by decide) w447 rfl rfl dM_get_12 ?_
    refine j_iload_n O 1 dM_get_15 rfl rfl ?_
    refine j_iald O hC 0 rfl (by omega) (by omega) dM_get_16 ?_
    refine j_iconst O (v := 1) dM_get_17 (by decide) ?_
    refine j_isub O dM_get_18 ?_
    refine j_eqi (nI (s.1 i).1 - 1) (by rw [hCi]) ?_
    refine j_callS O [.int y, .int 0, .int (nI (s.1 i).1 - 1)] (c_M_in X.2.1 D t A g y 0 (nI (s.1 i).1 - 1)) w540 w541 w28 w542 3 rfl rfl rfl (by decide +kernel) ⟨(Nat.le_of_ble_eq_true rfl), (Nat.le_of_ble_eq_true rfl)⟩ rfl (Nat.le_of_ble_eq_true rfl) dM_get_19 ⟨(Nat.le_of_ble_eq_true rfl), (Nat.le_of_ble_eq_true rfl)⟩ (fun vw41 gw42 hpw43 => ?_)
    obtain ⟨rfl, hgw44⟩ := hpw43
    have hgw44 := hgw44.symm
    subst hgw44
    refine j_if_ne O 29 dM_get_22 (by decide) (fun c2 => ?_) (fun c2 => ?_)
    · have hy0 : 0 ≤ y ∧ y ≤ nI (s.1 i).1 - 1 := by
        by_cases z : 0 ≤ y ∧ y ≤ nI (s.1 i).1 - 1
        · exact z
        · rw [if_neg z] at c2; exact absurd rfl c2
      have yl := (le_pred (by omega) y).mp hy0.2
      have y0 := hy0.1
      obtain ⟨j, j31, rfl⟩ : ∃ j, j < 2 ^ 31 ∧ y = nI j := ⟨ix y, by have := Int32.toInt_lt y; unfold ix; omega, of_le0 y0⟩
      have hj : j < (s.1 i).1 := (nI_ltI j31 (by omega)).mp yl
      have ej : ix (nI j) = j := ix_nI (by omega)
      have hyes : isT (nI i) ∧ 0 ≤ nI j ∧ nI j < nI (s.1 (ix (nI i))).1 := ⟨hx, y0, by rw [ei]; exact yl⟩
      have hlp := lkp_plc (k := k) t4
      refine j_aload_n O 0 dM_get_29 rfl rfl ?_
      refine j_iload_n O 1 dM_get_30 rfl rfl ?_
      refine j_iload_n O 2 dM_get_31 rfl rfl ?_
      refine j_callV O [.int (nI i), .int k] (c_M_find X.2.1 D t A g u oc om df nn us lm mm ta co si s.1 i k hM hRT i6 t5) hM rfl w556 w557 w18 w28 w558 2 rfl rfl rfl (by decide +kernel) ⟨(Nat.le_of_ble_eq_true rfl), (Nat.le_of_ble_eq_true rfl)⟩ rfl (Nat.le_of_ble_eq_true rfl) dM_get_32 ⟨(Nat.le_of_ble_eq_true rfl), (Nat.le_of_ble_eq_true rfl)⟩ (fun vw45 gw46 hpw47 => ?_)
      obtain ⟨rfl, hgw48⟩ := hpw47
      have hgw48 := hgw48.symm
      subst hgw48
      by_cases hin : ∃ h : plc k (s.1 i).2 < (s.1 i).2.length, (s.1 i).2[plc k (s.1 i).2].1 = k
      · rw [if_pos hin]
        obtain ⟨hpl, hpk⟩ := id hin
        have er : aGet s (nI i) k (nI j) = if bitN (s.1 i).2[plc k (s.1 i).2].2.2 j then 1099511627776 else ((s.1 i).2[plc k (s.1 i).2].2.1.getD j 0).toInt64 := by
          unfold aGet
          rw [if_pos hyes, ei, ej, hlp, dif_pos hin]
        rw [er] at M
        have hcv := (htab _ hpl).2 j hj
        refine j_istore O [(4, .int (nI (plc k (s.1 i).2))), (0, .ref (u 19)), (1, .int (nI i)), (2, .int k), (3, .int (nI j))] dM_get_35 (by decide) rfl ?_
        refine j_iload O dM_get_37 rfl ?_
        refine j_if_ge O 46 dM_get_39 (by decide) (fun c => ?_) (fun c => absurd (nI_le (a := 0) (Nat.zero_le _) (by omega)) c)
        refine j_aload_n O 0 dM_get_46 rfl rfl ?_
        refine j_get O uwM hM rfl 3 (by decide) w450 rfl rfl dM_get_47 ?_
        refine j_iload_n O 1 dM_get_50 rfl rfl ?_
        refine j_aaldA O hL 5 rfl (by omega) (by omega) dM_get_51 ?_
        refine j_some (u (26 + i)) hLi ?_
        refine j_bipush O (v := 6) dM_get_52 (by decide) ?_
        refine j_iload O dM_get_54 rfl ?_
        refine j_imul O dM_get_56 ?_
        refine j_eqi (nI (6 * plc k (s.1 i).2)) (pk_mul 6 _) ?_
        refine j_iload_n O 3 dM_get_57 rfl rfl ?_
        refine j_iadd O dM_get_58 ?_
        refine j_eqi (nI (6 * plc k (s.1 i).2 + j)) (nI_add _ _) ?_
        refine j_lald O hc 3 rfl (by omega) (by omega) dM_get_59 ?_
        refine j_eql (cv (s.1 i).2[plc k (s.1 i).2] j) hcv ?_
        by_cases hb : bitN (s.1 i).2[plc k (s.1 i).2].2.2 j = true
        · rw [if_pos hb] at M
          rw [cv_null hb]
          refine j_lstore O [(5, .long (-9223372036854775808)), (4, .int (nI (plc k (s.1 i).2))), (0, .ref (u 19)), (1, .int (nI i)), (2, .int k), (3, .int (nI j))] dM_get_60 (by decide) rfl ?_
          refine j_lload O dM_get_62 rfl ?_
          refine j_ldc2 O (-9223372036854775808) w565 dM_get_64 ?_
          refine j_lcmp O dM_get_67 ?_
          refine j_if_ne O 77 dM_get_68 (by decide) (fun c => absurd (by decide) c) (fun c => ?_)
          refine j_ldc2 O 1099511627776 w580 dM_get_71 ?_
          refine j_goto O 79 dM_get_74 (by decide) ?_
          exact j_lret O M (Nat.le_of_ble_eq_true rfl) (Nat.le_of_ble_eq_true rfl) ⟨rfl, rfl⟩ dM_get_79
        · rw [if_neg hb] at M
          rw [cv_val hb]
          refine j_lstore O [(5, .long (((s.1 i).2[plc k (s.1 i).2].2.1.getD j 0).toInt64)), (4, .int (nI (plc k (s.1 i).2))), (0, .ref (u 19)), (1, .int (nI i)), (2, .int k), (3, .int (nI j))] dM_get_60 (by decide) rfl ?_
          refine j_lload O dM_get_62 rfl ?_
          refine j_ldc2 O (-9223372036854775808) w565 dM_get_64 ?_
          refine j_lcmp O dM_get_67 ?_
          refine j_if_ne O 77 dM_get_68 (by decide) (fun c => ?_) (fun c => absurd c (cmp_ne _))
          refine j_lload O dM_get_77 rfl ?_
          exact j_lret O M (Nat.le_of_ble_eq_true rfl) (Nat.le_of_ble_eq_true rfl) ⟨rfl, rfl⟩ dM_get_79
      · rw [if_neg hin]
        have er : aGet s (nI i) k (nI j) = 1099511627774 := by
          unfold aGet
          rw [if_pos hyes, ei, hlp, dif_neg hin]
        rw [er] at M
        refine j_istore O [(4, .int (-1)), (0, .ref (u 19)), (1, .int (nI i)), (2, .int k), (3, .int (nI j))] dM_get_35 (by decide) rfl ?_
        refine j_iload O dM_get_37 rfl ?_
        refine j_if_ge O 46 dM_get_39 (by decide) (fun c => absurd c (by decide)) (fun c => ?_)
        refine j_ldc2 O 1099511627774 w579 dM_get_42 ?_
        exact j_lret O M (Nat.le_of_ble_eq_true rfl) (Nat.le_of_ble_eq_true rfl) ⟨rfl, rfl⟩ dM_get_45
    · have hy0 : ¬ (0 ≤ y ∧ y ≤ nI (s.1 i).1 - 1) := fun z => by rw [if_pos z] at c2; exact absurd c2 (by decide)
      have er : aGet s (nI i) k y = 1099511627775 := if_neg (fun z => hy0 ⟨z.2.1, (le_pred (by omega) y).mpr (by have := z.2.2; rw [ei] at this; exact this)⟩)
      rw [er] at M
      refine j_ldc2 O 1099511627775 w578 dM_get_25 ?_
      exact j_lret O M (Nat.le_of_ble_eq_true rfl) (Nat.le_of_ble_eq_true rfl) ⟨rfl, rfl⟩ dM_get_28
