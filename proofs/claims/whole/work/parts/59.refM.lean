set_option maxRecDepth 100000 in
set_option maxHeartbeats 1000000 in
theorem c_M_compare (l : Launch) (D : va_G) (t : Nat → ClassId) (A : Nat → Prop) (g : GH) (u : Nat → Nat) (oc om df nn us lm mm ta co si : Int32) (s : AS) (x y : Int32) (hM : gAt g (u 19) (eM u oc om df nn us lm mm ta co si)) (hRT : RT t g u s.1) (htb : ∀ i, i < 6 → tOK (s.1 i)) (hD : RD t g u s.2.2) (hdf0 : df = nI s.2.2.length) (hrc : ∀ i, i < 6 → ∀ r ∈ (s.1 i).2, rowC r) (hne : ∀ i j, i < 32 → j < 32 → i ≠ j → u i ≠ u j) : Ct l yM_compare sM_compare { frames := 1, cells := 0, slots := 0, locals := 60 } (zz D t A) [.ref (u 19), .int x, .int y] g 0 0 (fun v g' => v = some (.int (aCmp s x y).1) ∧ gAt g' (u 19) (eM u oc om (nI (aCmp s x y).2.2.2.length) nn us lm mm ta co si) ∧ RD t g' u (aCmp s x y).2.2.2 ∧ Kp [u 19, u 6, u 7, u 8] g g') := by
  refine Ct.of (cc := bM_compare) (maxL := 10) (ret := (some .int)) (by decide) (Nat.le_of_ble_eq_true rfl) (fun X hlX O M hNn => ?_)
  show J X 10 (zz D t A) g 0 0 0 [(0, .ref (u 19)), (1, .int x), (2, .int y)] []
  obtain ⟨⟨fC, hC, hCv⟩, ⟨fN, hNn0, hNv⟩, ⟨fK, hK, hKv⟩, ⟨fL, hL, hLv⟩, hrow⟩ := id hRT
  refine j_iload_n O 1 dM_compare_0 rfl rfl ?_
  refine j_iconst O (v := 0) dM_compare_1 (by decide) ?_
  refine j_iconst O (v := 5) dM_compare_2 (by decide) ?_
  refine j_callS O [.int x, .int 0, .int 5] (c_M_in X.2.1 D t A g x 0 5) w540 w541 w28 w542 3 rfl rfl rfl (by decide +kernel) ⟨(Nat.le_of_ble_eq_true rfl), (Nat.le_of_ble_eq_true rfl)⟩ rfl (Nat.le_of_ble_eq_true rfl) dM_compare_3 ⟨(Nat.le_of_ble_eq_true rfl), (Nat.le_of_ble_eq_true rfl)⟩ (fun vw274 gw275 hpw276 => ?_)
  obtain ⟨rfl, hgw277⟩ := hpw276
  have hgw277 := hgw277.symm
  subst hgw277
  refine j_if_eq O 33 dM_compare_6 (by decide) (fun c1 => ?_) (fun c1 => ?_)
  · have hx0 : ¬ (0 ≤ x ∧ x ≤ 5) := fun z => by rw [if_pos z] at c1; exact absurd c1 (by decide)
    have er : aCmp s x y = (-1, s) := if_neg (fun z => hx0 ((in5 x).mpr z.1))
    rw [er] at M
    rw [hdf0] at hM
    refine j_iconst O (v := -1) dM_compare_33 (by decide) ?_
    exact j_iret O M (Nat.le_of_ble_eq_true rfl) (Nat.le_of_ble_eq_true rfl) ⟨rfl, hM, hD, Kp.rf⟩ dM_compare_34
  · have hx0 : 0 ≤ x ∧ x ≤ 5 := by
      by_cases z : 0 ≤ x ∧ x ≤ 5
      · exact z
      · rw [if_neg z] at c1; exact absurd rfl c1
    have hx := (in5 _).mp hx0
    obtain ⟨i, i6, rfl⟩ := tb_of hx
    have ei : ix (nI i) = i := ix_nI (by omega)
    refine j_iload_n O 2 dM_compare_9 rfl rfl ?_
    refine j_iconst O (v := 0) dM_compare_10 (by decide) ?_
    refine j_iconst O (v := 5) dM_compare_11 (by decide) ?_
    refine j_callS O [.int y, .int 0, .int 5] (c_M_in X.2.1 D t A g y 0 5) w540 w541 w28 w542 3 rfl rfl rfl (by decide +kernel) ⟨(Nat.le_of_ble_eq_true rfl), (Nat.le_of_ble_eq_true rfl)⟩ rfl (Nat.le_of_ble_eq_true rfl) dM_compare_12 ⟨(Nat.le_of_ble_eq_true rfl), (Nat.le_of_ble_eq_true rfl)⟩ (fun vw278 gw279 hpw280 => ?_)
    obtain ⟨rfl, hgw281⟩ := hpw280
    have hgw281 := hgw281.symm
    subst hgw281
    refine j_if_eq O 33 dM_compare_15 (by decide) (fun c2 => ?_) (fun c2 => ?_)
    · have hy0 : ¬ (0 ≤ y ∧ y ≤ 5) := fun z => by rw [if_pos z] at c2; exact absurd c2 (by decide)
      have er : aCmp s (nI i) y = (-1, s) := if_neg (fun z => hy0 ((in5 y).mpr z.2.1))
      rw [er] at M
      rw [hdf0] at hM
      refine j_iconst O (v := -1) dM_compare_33 (by decide) ?_
      exact j_iret O M (Nat.le_of_ble_eq_true rfl) (Nat.le_of_ble_eq_true rfl) ⟨rfl, hM, hD, Kp.rf⟩ dM_compare_34
    · have hy0 : 0 ≤ y ∧ y ≤ 5 := by
        by_cases z : 0 ≤ y ∧ y ≤ 5
        · exact z
        · rw [if_neg z] at c2; exact absurd rfl c2
      have hy := (in5 _).mp hy0
      obtain ⟨j, j6, rfl⟩ := tb_of hy
      have ej : ix (nI j) = j := ix_nI (by omega)
      have ti := htb i i6
      have tj := htb j j6
      have i2 := ti.2.1
      have j2 := tj.2.1
      refine j_aload_n O 0 dM_compare_18 rfl rfl ?_
      refine j_get O uwM hM rfl 0 (by decide) w447 rfl rfl dM_compare_19 ?_
      refine j_iload_n O 1 dM_compare_22 rfl rfl ?_
      refine j_iald O hC 0 rfl (by omega) (by omega) dM_compare_23 ?_
      refine j_eqi (nI (s.1 i).1) (hCv i i6) ?_
      refine j_aload_n O 0 dM_compare_24 rfl rfl ?_
      refine j_get O uwM hM rfl 0 (by decide) w447 rfl rfl dM_compare_25 ?_
      refine j_iload_n O 2 dM_compare_28 rfl rfl ?_
      refine j_iald O hC 0 rfl (by omega) (by omega) dM_compare_29 ?_
      refine j_eqi (nI (s.1 j).1) (hCv j j6) ?_
      refine j_icmp_eq O 35 dM_compare_30 (by decide) (fun c3 => ?_) (fun c3 => ?_)
      · have hwe : (s.1 i).1 = (s.1 j).1 := nI_inj (by omega) (by omega) c3
        have er : aCmp s (nI i) (nI j) = (nI (mrg ((s.1 i).2.length + (s.1 j).2.length) (s.1 i).2 (s.1 j).2).length, (s.1, s.2.1, (mrg ((s.1 i).2.length + (s.1 j).2.length) (s.1 i).2 (s.1 j).2))) := by
          unfold aCmp
          rw [if_pos ⟨hx, hy, by rw [ei, ej]; exact hwe⟩, ei, ej]
        rw [er] at M
        obtain ⟨f6, f7, f8, h6, h7, h8, -, -⟩ := hD
        have hml : (mrg ((s.1 i).2.length + (s.1 j).2.length) (s.1 i).2 (s.1 j).2).length ≤ 600 := by have := mrg_len ((s.1 i).2.length + (s.1 j).2.length) (s.1 i).2 (s.1 j).2; have q1 := ti.2.2.2.2; have q2 := tj.2.2.2.2; omega
        refine j_iconst O (v := 0) dM_compare_35 (by decide) ?_
        refine j_istore_n O 3 [(3, .int 0), (0, .ref (u 19)), (1, .int (nI i)), (2, .int (nI j))] dM_compare_36 rfl (by decide) rfl ?_
        refine j_iconst O (v := 0) dM_compare_37 (by decide) ?_
        refine j_istore O [(4, .int 0), (3, .int 0), (0, .ref (u 19)), (1, .int (nI i)), (2, .int (nI j))] dM_compare_38 (by decide) rfl ?_
        refine j_iconst O (v := 0) dM_compare_40 (by decide) ?_
        refine j_istore O [(5, .int 0), (4, .int 0), (3, .int 0), (0, .ref (u 19)), (1, .int (nI i)), (2, .int (nI j))] dM_compare_41 (by decide) rfl ?_
        refine J.pk [3, 4, 5, 2, 1, 0] rfl ?_
        refine M_cmp_loop (k0 := 0) (n0 := 0) O hM hRT i6 j6 hwe ti tj (hrc i i6) (hrc j j6) hne (fun g1 p6 p7 p8 q6 q7 q8 hdf kp => ?_) ((s.1 i).2.length + (s.1 j).2.length) 0 0 g [] f6 f7 f8 (Nat.zero_le _) (Nat.zero_le _) (by omega) rfl h6 h7 h8 (fun i hi => by cases hi) (Nat.zero_le _) Kp.rf
        have hM1 := kp.2 (u 19) _ (three_ne (hne 19 6 (by omega) (by omega) (by omega)) (hne 19 7 (by omega) (by omega) (by omega)) (hne 19 8 (by omega) (by omega) (by omega))) hM
        have kp1 : Kp [u 19, u 6, u 7, u 8] g g1 := kp.mono (fun x hx => List.mem_cons_of_mem _ hx)
        refine j_aload_n O 0 dM_compare_344 rfl rfl ?_
        refine j_iload O dM_compare_345 rfl ?_
        refine j_put O uwM hM1 rfl 11 (by decide) w458 rfl tM ftM fnM rfl (.int) (by decide +kernel) rfl rfl (Nat.le_of_ble_eq_true rfl) [.ref (u 0), .ref (u 1), .ref (u 2), .ref (u 3), .int oc, .int om, .ref (u 4), .ref (u 5), .ref (u 6), .ref (u 7), .ref (u 8), .int (nI (mrg ((s.1 i).2.length + (s.1 j).2.length) (s.1 i).2 (s.1 j).2).length), .ref (u 9), .ref (u 10), .ref (u 11), .ref (u 12), .ref (u 13), .ref (u 14), .ref (u 15), .int nn, .int us, .ref (u 16), .ref (u 17), .int lm, .ref (u 18), .int mm, .int ta, .int co, .int si] rfl dM_compare_347 (fun gw282 ew283 => ?_)
        have hw284 := gUp_ne (e' := .inr (6, [.ref (u 0), .ref (u 1), .ref (u 2), .ref (u 3), .int oc, .int om, .ref (u 4), .ref (u 5), .ref (u 6), .ref (u 7), .ref (u 8), .int (nI (mrg ((s.1 i).2.length + (s.1 j).2.length) (s.1 i).2 (s.1 j).2).length), .ref (u 9), .ref (u 10), .ref (u 11), .ref (u 12), .ref (u 13), .ref (u 14), .ref (u 15), .int nn, .int us, .ref (u 16), .ref (u 17), .int lm, .ref (u 18), .int mm, .int ta, .int co, .int si])) q6 (q6.ne hM1 (by simp))
        rw [← ew283] at hw284
        have hw285 := gUp_ne (e' := .inr (6, [.ref (u 0), .ref (u 1), .ref (u 2), .ref (u 3), .int oc, .int om, .ref (u 4), .ref (u 5), .ref (u 6), .ref (u 7), .ref (u 8), .int (nI (mrg ((s.1 i).2.length + (s.1 j).2.length) (s.1 i).2 (s.1 j).2).length), .ref (u 9), .ref (u 10), .ref (u 11), .ref (u 12), .ref (u 13), .ref (u 14), .ref (u 15), .int nn, .int us, .ref (u 16), .ref (u 17), .int lm, .ref (u 18), .int mm, .int ta, .int co, .int si])) q7 (q7.ne hM1 (by simp))
        rw [← ew283] at hw285
        have hw286 := gUp_ne (e' := .inr (6, [.ref (u 0), .ref (u 1), .ref (u 2), .ref (u 3), .int oc, .int om, .ref (u 4), .ref (u 5), .ref (u 6), .ref (u 7), .ref (u 8), .int (nI (mrg ((s.1 i).2.length + (s.1 j).2.length) (s.1 i).2 (s.1 j).2).length), .ref (u 9), .ref (u 10), .ref (u 11), .ref (u 12), .ref (u 13), .ref (u 14), .ref (u 15), .int nn, .int us, .ref (u 16), .ref (u 17), .int lm, .ref (u 18), .int mm, .int ta, .int co, .int si])) q8 (q8.ne hM1 (by simp))
        rw [← ew283] at hw286
        have hw287 := gUp_self (e' := .inr (6, [.ref (u 0), .ref (u 1), .ref (u 2), .ref (u 3), .int oc, .int om, .ref (u 4), .ref (u 5), .ref (u 6), .ref (u 7), .ref (u 8), .int (nI (mrg ((s.1 i).2.length + (s.1 j).2.length) (s.1 i).2 (s.1 j).2).length), .ref (u 9), .ref (u 10), .ref (u 11), .ref (u 12), .ref (u 13), .ref (u 14), .ref (u 15), .int nn, .int us, .ref (u 16), .ref (u 17), .int lm, .ref (u 18), .int mm, .int ta, .int co, .int si])) hM1
        rw [← ew283] at hw287
        have kpw288 := kp1.up (a := (u 19)) (e := .inr (6, [.ref (u 0), .ref (u 1), .ref (u 2), .ref (u 3), .int oc, .int om, .ref (u 4), .ref (u 5), .ref (u 6), .ref (u 7), .ref (u 8), .int (nI (mrg ((s.1 i).2.length + (s.1 j).2.length) (s.1 i).2 (s.1 j).2).length), .ref (u 9), .ref (u 10), .ref (u 11), .ref (u 12), .ref (u 13), .ref (u 14), .ref (u 15), .int nn, .int us, .ref (u 16), .ref (u 17), .int lm, .ref (u 18), .int mm, .int ta, .int co, .int si])) (by simp)
        rw [← ew283] at kpw288
        refine j_iload O dM_compare_350 rfl ?_
        exact j_iret O M (Nat.le_of_ble_eq_true rfl) (Nat.le_of_ble_eq_true rfl) ⟨rfl, hw287, ⟨p6, p7, p8, hw284, hw285, hw286, hdf, hml⟩, kpw288⟩ dM_compare_352
      · have er : aCmp s (nI i) (nI j) = (-1, s) := if_neg (fun z => c3 (by have := z.2.2; rw [ei, ej] at this; rw [this]))
        rw [er] at M
        rw [hdf0] at hM
        refine j_iconst O (v := -1) dM_compare_33 (by decide) ?_
        exact j_iret O M (Nat.le_of_ble_eq_true rfl) (Nat.le_of_ble_eq_true rfl) ⟨rfl, hM, hD, Kp.rf⟩ dM_compare_34
