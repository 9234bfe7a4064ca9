theorem nI_inj {a b : Nat} (ha : a < 2 ^ 31) (hb : b < 2 ^ 31) (h : nI a = nI b) : a = b := by
  have := congrArg Int32.toInt h
  rw [nI_toInt ha, nI_toInt hb] at this
  omega
theorem TW.fresh {t : Nat → ClassId} {g : GH} {p : Nat → Nat} {w : GD} {ls : Nat} {s : AS} (h : TW t g p w ls s) (hl : ls < 2 ^ 30) (x : Nat) (u : NV) (hx : w.1 x = some u) : ¬ (w.2.2.1 x).2.2.1 = nI (ls + 1) := by
  obtain ⟨m, hm, e⟩ := h.2.2.2.2.2.2.2.2.2.2.2.1 x u hx
  rw [e]
  intro z
  have := nI_inj (by omega) (by omega) z
  omega
/-- own cells kept but for those named, the nodes' mutable parts changed -/
theorem TW.mu {t : Nat → ClassId} {g g' : GH} {p : Nat → Nat} {N : NM} {K : Nat → List Nat} {mu mu' : Nat → MU} {I : Nat → Prop} {ch : Nat → List Nat} {pd : List Nat} {ls ls' : Nat} {s : AS} (h : TW t g p (N, K, mu, I, ch, pd) ls s) (hN : NI t g' (N, K, mu', I, ch, pd)) (hm : ∀ x, (mu' x).2.2.2 = (mu x).2.2.2) (hl : ∀ x u, N x = some u → ∃ m, m ≤ ls' ∧ (mu' x).2.2.1 = nI m) (hd : ∀ b ∈ g.1, b ∈ g'.1) (hk : ∀ i, i < 13 → ∀ e, gAt g (p i) e → gAt g' (p i) e) (hT : gAt g' (p 13) (eTT (p 0) (p 1) (p 2) (p 4) (p 8) (p 10) (p 12) (nI ls'))) : TW t g' p (N, K, mu', I, ch, pd) ls' s := by
  obtain ⟨-, ⟨fW, hW, hWv⟩, ⟨fR, hR, hRv⟩, hS, ⟨hpd, hval, hsz, hsn⟩, ⟨fk, fs, fu, hD, hk', hs, hu, hdf, hdl⟩, ⟨nF, fF, hF, hFb⟩, ⟨nE, fE, hE, hEb⟩, ⟨fL, hL⟩, hne, hI, hst, htb⟩ := h
  exact ⟨hT, ⟨fW, hk 0 (by decide) _ hW, hWv⟩, ⟨fR, hk 1 (by decide) _ hR, hRv⟩, hS.mu hN hm hd (hk 2 (by decide)) (hk 3 (by decide)), ⟨hpd, hval, hsz, hsn⟩, ⟨fk, fs, fu, hk 4 (by decide) _ hD, hk 5 (by decide) _ hk', hk 6 (by decide) _ hs, hk 7 (by decide) _ hu, hdf, hdl⟩, ⟨nF, fF, hk 8 (by decide) _ hF, hk 9 (by decide) _ hFb⟩, ⟨nE, fE, hk 10 (by decide) _ hE, hk 11 (by decide) _ hEb⟩, ⟨fL, hk 12 (by decide) _ hL⟩, hne, hI, hl, htb⟩
theorem unst_all {mu : Nat → MU} {s : Int32} {L : List Nat} (h : ∀ x ∈ L, ¬ (mu x).2.2.1 = s) : unst mu s L = L.length := by
  unfold unst
  rw [List.filter_eq_self.mpr]
  intro x hx
  simpa using h x hx
theorem dsc_some {t : Nat → ClassId} {g : GH} {w : GD} (hN : NI t g w) {h a : Nat} {rs : List RV} (hv : w.1 a = some (h, rs)) : ∀ x ∈ dsc w.2.1 h a, ∃ u, w.1 x = some u := by
  intro x hx
  have h1 : w.1 x ∈ (dsc w.2.1 h a).map w.1 := List.mem_map.mpr ⟨x, hx, rfl⟩
  rw [dsc_vals hN h a rs hv] at h1
  obtain ⟨u, -, e⟩ := List.mem_map.mp h1
  exact ⟨u, e.symm⟩
set_option maxRecDepth 100000 in
set_option maxHeartbeats 1000000 in
theorem c_get (l : Launch) (D : va_G) (t : Nat → ClassId) (A : Nat → Prop) (g : GH) (p : Nat → Nat) (w : GD) (ls : Nat) (s : AS) (x k y : Int32) (h : TW t g p w ls s) : Ct l yT_get sT_get { frames := 2, cells := 0, slots := 0, locals := 70 } (zz D t A) [.ref (p 13), .int x, .int k, .int y] g 0 0 (fun v g' => v = some (.long (aGet s x k y)) ∧ g' = g) := by
  refine Ct.of (cc := bT_get) (maxL := 5) (ret := (some .long)) (by decide) (Nat.le_of_ble_eq_true rfl) (fun X hlX O M hNn => ?_)
  show J X 5 (zz D t A) g 0 0 0 [(0, .ref (p 13)), (1, .int x), (2, .int k), (3, .int y)] []
  obtain ⟨hT, ⟨fW, hW, hWv⟩, ⟨fR, hR, hRv⟩, hS, ⟨hpd, hval, hsz, hsn⟩, ⟨fk, fs, fu, hD, hk, hs, hu, hdf, hdl⟩, ⟨nF, fF, hF, hFb⟩, ⟨nE, fE, hE, hEb⟩, ⟨fL, hL⟩, hne, hI, hst, htb⟩ := id h
  refine j_aload_n O 0 dT_get_0 rfl rfl ?_
  refine j_iload_n O 1 dT_get_1 rfl rfl ?_
  refine j_iload_n O 3 dT_get_2 rfl rfl ?_
  refine j_callV O [.int x, .int y] (c_isColumn X.2.1 D t A g (p 13) (p 0) (p 1) (p 2) (p 4) (p 8) (p 10) (p 12) (nI ls) x y fW hT hW) hT rfl w248 w249 w5 w23 w250 2 rfl rfl rfl (by decide +kernel) ⟨(Nat.le_of_ble_eq_true rfl), (Nat.le_of_ble_eq_true rfl)⟩ rfl (Nat.le_of_ble_eq_true rfl) dT_get_3 ⟨(Nat.le_of_ble_eq_true rfl), (Nat.le_of_ble_eq_true rfl)⟩ (fun vw21 gw22 hpw23 => ?_)
  obtain ⟨z, rfl, hz, hg0⟩ := hpw23
  have hg0 := hg0.symm
  subst hg0
  refine j_if_ne O 13 dT_get_6 (by decide) (fun c1 => ?_) (fun c1 => ?_)
  · rcases hz with ⟨-, i, i6, rfl, y0, yl⟩ | ⟨z1, -⟩
    case inr => exact absurd z1 c1
    have ei : ix (nI i) = i := ix_nI (by omega)
    rw [hWv i i6] at yl
    obtain ⟨j, j31, rfl⟩ : ∃ j, j < 2 ^ 31 ∧ y = nI j := ⟨ix y, by have := Int32.toInt_lt y; unfold ix; omega, of_le0 y0⟩
    obtain ⟨t1, t2, t3, t4, t5⟩ := htb i i6
    have hjw : j < (s.1 i).1 := (nI_ltI j31 (by omega)).mp yl
    have ej : ix (nI j) = j := ix_nI (by omega)
    have hyes : isT (nI i) ∧ 0 ≤ nI j ∧ nI j < nI (s.1 (ix (nI i))).1 := ⟨tb_is i6, y0, by rw [ei]; exact yl⟩
    obtain ⟨r, hfr, hrv, hrS⟩ := hRv i i6
    refine j_aload_n O 0 dT_get_13 rfl rfl ?_
    refine j_get O uwT hT rfl 1 (by decide) w193 rfl rfl dT_get_14 ?_
    refine j_iload_n O 1 dT_get_17 rfl rfl ?_
    refine j_aald O hR 2 rfl (by omega) (by omega) dT_get_18 ?_
    refine j_some r hfr ?_
    refine j_iload_n O 2 dT_get_19 rfl rfl ?_
    refine j_callS O [.ref r, .int k] (c_rowWithKey X.2.1 D t A g r k w _ hS.1 hrv) w341 w342 w23 w343 2 rfl rfl rfl (by decide +kernel) ⟨(Nat.le_of_ble_eq_true rfl), (Nat.le_of_ble_eq_true rfl)⟩ rfl (Nat.le_of_ble_eq_true rfl) dT_get_20 ⟨(Nat.le_of_ble_eq_true rfl), (Nat.le_of_ble_eq_true rfl)⟩ (fun vw24 gw25 hpw26 => ?_)
    obtain ⟨o, rfl, hcase, hg0⟩ := hpw26
    have hg0 := hg0.symm
    subst hg0
    rcases hcase with ⟨q, rv, rfl, hlk, hrI⟩ | ⟨rfl, hlk⟩
    · refine j_some q rfl ?_
      have hlk : lkp k (s.1 i).2 = some rv := hlk
      have hw : rv.2.1.length = (s.1 i).1 := t3 rv (List.mem_of_find?_eq_some hlk)
      have er : aGet s (nI i) k (nI j) = if bitN rv.2.2 j then 1099511627776 else (rv.2.1.getD j 0).toInt64 := by
        unfold aGet
        rw [if_pos hyes, ei, ej, hlk]
      rw [er] at M
      obtain ⟨cA, cf, hIa, hIc, hqc, hcc, hcv⟩ := id hrI
      refine j_astore O [(4, .ref q), (0, .ref (p 13)), (1, .int (nI i)), (2, .int k), (3, .int (nI j))] dT_get_23 (by decide) rfl ?_
      refine j_aload O dT_get_25 rfl ?_
      refine j_ifnonnull (o := (some q)) O 34 dT_get_27 (by decide) (fun _ c => ?_) (fun c => by cases c)
      refine j_aload O dT_get_34 rfl ?_
      refine j_iload_n O 3 dT_get_36 rfl rfl ?_
      refine j_callV O [.int (nI j)] (c_isNull X.2.1 D t A g q (nI j) rv hrI.at) hqc rfl w345 w346 w347 w31 w348 1 rfl rfl rfl (by decide +kernel) ⟨(Nat.le_of_ble_eq_true rfl), (Nat.le_of_ble_eq_true rfl)⟩ rfl (Nat.le_of_ble_eq_true rfl) dT_get_37 ⟨(Nat.le_of_ble_eq_true rfl), (Nat.le_of_ble_eq_true rfl)⟩ (fun vw27 gw28 hpw29 => ?_)
      obtain ⟨rfl, hgw30⟩ := hpw29
      have hgw30 := hgw30.symm
      subst hgw30
      refine j_if_eq O 49 dT_get_40 (by decide) (fun c2 => ?_) (fun c2 => ?_)
      · have hb : ¬ bitN rv.2.2 j = true := by
          unfold bitN
          rw [decide_eq_true_eq]
          intro z
          rw [if_neg z] at c2
          exact absurd c2 (by decide)
        rw [if_neg hb] at M
        refine j_aload O dT_get_49 rfl ?_
        refine j_get O uwR hqc rfl 1 (by decide) w291 rfl rfl dT_get_51 ?_
        refine j_iload_n O 3 dT_get_54 rfl rfl ?_
        refine j_iald O hcc 0 rfl (by omega) (by omega) dT_get_55 ?_
        refine j_i2l O dT_get_56 ?_
        exact j_lret O M (Nat.le_of_ble_eq_true rfl) (Nat.le_of_ble_eq_true rfl) ⟨by rw [hcv j (by omega)]; simp [List.getD, show j < rv.2.1.length by omega], rfl⟩ dT_get_57
      · have hb : bitN rv.2.2 j = true := by
          unfold bitN
          rw [decide_eq_true_eq]
          intro z
          rw [if_pos z] at c2
          exact c2 rfl
        rw [if_pos hb] at M
        refine j_ldc2 O 1099511627776 w349 dT_get_43 ?_
        refine j_goto O 57 dT_get_46 (by decide) ?_
        exact j_lret O M (Nat.le_of_ble_eq_true rfl) (Nat.le_of_ble_eq_true rfl) ⟨rfl, rfl⟩ dT_get_57
    · have hlk : lkp k (s.1 i).2 = none := hlk
      have er : aGet s (nI i) k (nI j) = 1099511627774 := by
        unfold aGet
        rw [if_pos hyes, ei, hlk]
      rw [er] at M
      refine j_astoreN O [(4, .null), (0, .ref (p 13)), (1, .int (nI i)), (2, .int k), (3, .int (nI j))] dT_get_23 (by decide) rfl ?_
      refine j_aloadN O dT_get_25 rfl ?_
      refine j_ifnonnull (o := none) O 34 dT_get_27 (by decide) (fun _ c => by cases c) (fun c => ?_)
      refine j_ldc2 O 1099511627774 w344 dT_get_30 ?_
      exact j_lret O M (Nat.le_of_ble_eq_true rfl) (Nat.le_of_ble_eq_true rfl) ⟨rfl, rfl⟩ dT_get_33
  · have hno : ¬ (isT x ∧ 0 ≤ y ∧ y < nI (s.1 (ix x)).1) := by
      rintro ⟨h1, h2, h3⟩
      obtain ⟨i, i6, rfl⟩ := tb_of h1
      rw [ix_nI (by omega)] at h3
      rcases hz with ⟨z1, -⟩ | ⟨-, z2⟩
      · rw [z1] at c1; exact absurd c1 (by decide)
      · exact z2 ⟨i, i6, rfl, h2, by rw [hWv i i6]; exact h3⟩
    have er : aGet s x k y = 1099511627775 := if_neg hno
    rw [er] at M
    refine j_ldc2 O 1099511627775 w340 dT_get_9 ?_
    exact j_lret O M (Nat.le_of_ble_eq_true rfl) (Nat.le_of_ble_eq_true rfl) ⟨rfl, rfl⟩ dT_get_12
set_option maxRecDepth 100000 in
set_option maxHeartbeats 1000000 in
theorem c_row (l : Launch) (D : va_G) (t : Nat → ClassId) (A : Nat → Prop) (g : GH) (p : Nat → Nat) (w : GD) (ls : Nat) (s : AS) (x k : Int32) (h : TW t g p w ls s) : Ct l yT_row sT_row { frames := 1, cells := 0, slots := 0, locals := 40 } (zz D t A) [.ref (p 13), .int x, .int k] g 0 0 (fun v g' => v = some (.long (aRow s x k)) ∧ g' = g) := by
  refine Ct.of (cc := bT_row) (maxL := 3) (ret := (some .long)) (by decide) (Nat.le_of_ble_eq_true rfl) (fun X hlX O M hNn => ?_)
  show J X 3 (zz D t A) g 0 0 0 [(0, .ref (p 13)), (1, .int x), (2, .int k)] []
  obtain ⟨hT, ⟨fW, hW, hWv⟩, ⟨fR, hR, hRv⟩, hS, ⟨hpd, hval, hsz, hsn⟩, ⟨fk, fs, fu, hD, hk, hs, hu, hdf, hdl⟩, ⟨nF, fF, hF, hFb⟩, ⟨nE, fE, hE, hEb⟩, ⟨fL, hL⟩, hne, hI, hst, htb⟩ := id h
  refine j_iload_n O 1 dT_row_0 rfl rfl ?_
  refine j_callS O [.int x] (c_isTable X.2.1 D t A g x) w221 w222 w23 w223 1 rfl rfl rfl (by decide +kernel) ⟨(Nat.le_of_ble_eq_true rfl), (Nat.le_of_ble_eq_true rfl)⟩ rfl (Nat.le_of_ble_eq_true rfl) dT_row_1 ⟨(Nat.le_of_ble_eq_true rfl), (Nat.le_of_ble_eq_true rfl)⟩ (fun vw31 gw32 hpw33 => ?_)
  obtain ⟨rfl, hgw34⟩ := hpw33
  have hgw34 := hgw34.symm
  subst hgw34
  refine j_if_eq O 24 dT_row_4 (by decide) (fun c1 => ?_) (fun c1 => ?_)
  · have hx : ¬ isT x := fun z => by rw [if_pos z] at c1; exact absurd c1 (by decide)
    have er : aRow s x k = 1099511627776 := if_neg (fun z => hx z.1)
    rw [er] at M
    refine j_ldc2 O 1099511627776 w349 dT_row_24 ?_
    exact j_lret O M (Nat.le_of_ble_eq_true rfl) (Nat.le_of_ble_eq_true rfl) ⟨rfl, rfl⟩ dT_row_27
  · have hx : isT x := by
      by_cases z : isT x
      · exact z
      · rw [if_neg z] at c1; exact absurd rfl c1
    obtain ⟨i, i6, rfl⟩ := tb_of hx
    have ei : ix (nI i) = i := ix_nI (by omega)
    obtain ⟨r, hfr, hrv, hrS⟩ := hRv i i6
    obtain ⟨rra, rba, hrc⟩ := hS.1.cell hrv
    obtain ⟨t1, t2, t3, t4, t5⟩ := htb i i6
    refine j_iload_n O 2 dT_row_7 rfl rfl ?_
    refine j_if_lt O 24 dT_row_8 (by decide) (fun c2 => ?_) (fun c2 => ?_)
    · have er : aRow s (nI i) k = 1099511627776 := if_neg (fun z => absurd (Int32.lt_iff_toInt_lt.mp c2) (by have := Int32.le_iff_toInt_le.mp z.2.1; omega))
      rw [er] at M
      refine j_ldc2 O 1099511627776 w349 dT_row_24 ?_
      exact j_lret O M (Nat.le_of_ble_eq_true rfl) (Nat.le_of_ble_eq_true rfl) ⟨rfl, rfl⟩ dT_row_27
    · have k0 : 0 ≤ k := Int32.le_iff_toInt_le.mpr (by have z : ¬ k.toInt < (0 : Int32).toInt := fun z => c2 (Int32.lt_iff_toInt_lt.mpr z); omega)
      refine j_iload_n O 2 dT_row_11 rfl rfl ?_
      refine j_aload_n O 0 dT_row_12 rfl rfl ?_
      refine j_get O uwT hT rfl 1 (by decide) w193 rfl rfl dT_row_13 ?_
      refine j_iload_n O 1 dT_row_16 rfl rfl ?_
      refine j_aald O hR 2 rfl (by omega) (by omega) dT_row_17 ?_
      refine j_some r hfr ?_
      refine j_get O uwN hrc rfl 3 (by decide) w138 rfl rfl dT_row_18 ?_
      refine j_icmp_lt O 28 dT_row_21 (by decide) (fun c3 => ?_) (fun c3 => ?_)
      · obtain ⟨j, j31, rfl⟩ : ∃ j, j < 2 ^ 31 ∧ k = nI j := ⟨ix k, by have := Int32.toInt_lt k; unfold ix; omega, of_le0 k0⟩
        have hj : j < (s.1 i).2.length := (nI_ltI j31 (by omega)).mp c3
        have er : aRow s (nI i) (nI j) = ((s.1 i).2[j].1).toInt64 := by
          unfold aRow
          rw [ei, if_pos ⟨hx, k0, c3⟩, ix_nI j31]
          simp [List.getD, hj]
        rw [er] at M
        refine j_aload_n O 0 dT_row_28 rfl rfl ?_
        refine j_get O uwT hT rfl 1 (by decide) w193 rfl rfl dT_row_29 ?_
        refine j_iload_n O 1 dT_row_32 rfl rfl ?_
        refine j_aald O hR 2 rfl (by omega) (by omega) dT_row_33 ?_
        refine j_some r hfr ?_
        refine j_iload_n O 2 dT_row_34 rfl rfl ?_
        refine j_callS O [.ref r, .int (nI j)] (c_keyInOrder X.2.1 D t A g r j w _ hS.1 hrv hj) w376 w377 w23 w378 2 rfl rfl rfl (by decide +kernel) ⟨(Nat.le_of_ble_eq_true rfl), (Nat.le_of_ble_eq_true rfl)⟩ rfl (Nat.le_of_ble_eq_true rfl) dT_row_35 ⟨(Nat.le_of_ble_eq_true rfl), (Nat.le_of_ble_eq_true rfl)⟩ (fun vw35 gw36 hpw37 => ?_)
        obtain ⟨rfl, hgw38⟩ := hpw37
        have hgw38 := hgw38.symm
        subst hgw38
        exact j_lret O M (Nat.le_of_ble_eq_true rfl) (Nat.le_of_ble_eq_true rfl) ⟨rfl, rfl⟩ dT_row_38
      · have er : aRow s (nI i) k = 1099511627776 := if_neg (fun z => c3 (by have := z.2.2; rw [ei] at this; exact this))
        rw [er] at M
        refine j_ldc2 O 1099511627776 w349 dT_row_24 ?_
        exact j_lret O M (Nat.le_of_ble_eq_true rfl) (Nat.le_of_ble_eq_true rfl) ⟨rfl, rfl⟩ dT_row_27
set_option maxRecDepth 100000 in
set_option maxHeartbeats 1000000 in
theorem c_difference (l : Launch) (D : va_G) (t : Nat → ClassId) (A : Nat → Prop) (g : GH) (p : Nat → Nat) (w : GD) (ls : Nat) (s : AS) (k y : Int32) (h : TW t g p w ls s) : Ct l yT_difference sT_difference { frames := 0, cells := 0, slots := 0, locals := 0 } (zz D t A) [.ref (p 13), .int k, .int y] g 0 0 (fun v g' => v = some (.long (aDiff s k y)) ∧ g' = g) := by
  refine Ct.of (cc := bT_difference) (maxL := 3) (ret := (some .long)) (by decide) (Nat.le_of_ble_eq_true rfl) (fun X hlX O M hNn => ?_)
  show J X 3 (zz D t A) g 0 0 0 [(0, .ref (p 13)), (1, .int k), (2, .int y)] []
  obtain ⟨hT, ⟨fW, hW, hWv⟩, ⟨fR, hR, hRv⟩, hS, ⟨hpd, hval, hsz, hsn⟩, ⟨fk, fs, fu, hD, hk, hs, hu, hdf, hdl⟩, ⟨nF, fF, hF, hFb⟩, ⟨nE, fE, hE, hEb⟩, ⟨fL, hL⟩, hne, hI, hst, htb⟩ := id h
  refine j_iload_n O 1 dT_difference_0 rfl rfl ?_
  refine j_if_lt O 15 dT_difference_1 (by decide) (fun c2 => ?_) (fun c2 => ?_)
  · have er : aDiff s k y = 1099511627776 := if_neg (fun z => absurd (Int32.lt_iff_toInt_lt.mp c2) (by have := Int32.le_iff_toInt_le.mp z.1; omega))
    rw [er] at M
    refine j_ldc2 O 1099511627776 w349 dT_difference_15 ?_
    exact j_lret O M (Nat.le_of_ble_eq_true rfl) (Nat.le_of_ble_eq_true rfl) ⟨rfl, rfl⟩ dT_difference_18
  · have k0 : 0 ≤ k := Int32.le_iff_toInt_le.mpr (by have z : ¬ k.toInt < (0 : Int32).toInt := fun z => c2 (Int32.lt_iff_toInt_lt.mpr z); omega)
    refine j_iload_n O 1 dT_difference_4 rfl rfl ?_
    refine j_aload_n O 0 dT_difference_5 rfl rfl ?_
    refine j_get O uwT hT rfl 3 (by decide) w195 rfl rfl dT_difference_6 ?_
    refine j_get O uwD hD rfl 3 (by decide) w76 rfl rfl dT_difference_9 ?_
    refine j_icmp_lt O 19 dT_difference_12 (by decide) (fun c3 => ?_) (fun c3 => ?_)
    · obtain ⟨j, j31, rfl⟩ : ∃ j, j < 2 ^ 31 ∧ k = nI j := ⟨ix k, by have := Int32.toInt_lt k; unfold ix; omega, of_le0 k0⟩
      have hj : j < s.2.2.length := (nI_ltI j31 (by omega)).mp c3
      have er : aDiff s (nI j) y = if y = 0 then (s.2.2[j].1).toInt64 else if y = 1 then (s.2.2[j].2.1).toInt64 else if y = 2 then (s.2.2[j].2.2).toInt64 else 1099511627776 := by
        unfold aDiff
        rw [if_pos ⟨k0, c3⟩, ix_nI j31]
        simp [List.getD, hj]
      rw [er] at M
      obtain ⟨d1, d2, d3⟩ := hdf j hj
      refine j_iload_n O 2 dT_difference_19 rfl rfl ?_
      by_cases s0 : y = 0
      · subst s0
        refine j_tableIn O (off := 28) 48 dT_difference_20 (by decide) (by decide) (by decide) (by decide) ?_
        rw [if_pos rfl] at M
        refine j_aload_n O 0 dT_difference_48 rfl rfl ?_
        refine j_get O uwT hT rfl 3 (by decide) w195 rfl rfl dT_difference_49 ?_
        refine j_get O uwD hD rfl 0 (by decide) w70 rfl rfl dT_difference_52 ?_
        refine j_iload_n O 1 dT_difference_55 rfl rfl ?_
        refine j_iald O hk 0 rfl (by omega) (by omega) dT_difference_56 ?_
        refine j_i2l O dT_difference_57 ?_
        exact j_lret O M (Nat.le_of_ble_eq_true rfl) (Nat.le_of_ble_eq_true rfl) ⟨by rw [d1], rfl⟩ dT_difference_58
      · by_cases s1 : y = 1
        · subst s1
          refine j_tableIn O (off := 39) 59 dT_difference_20 (by decide) (by decide) (by decide) (by decide) ?_
          rw [if_neg s0] at M
          rw [if_pos rfl] at M
          refine j_aload_n O 0 dT_difference_59 rfl rfl ?_
          refine j_get O uwT hT rfl 3 (by decide) w195 rfl rfl dT_difference_60 ?_
          refine j_get O uwD hD rfl 1 (by decide) w72 rfl rfl dT_difference_63 ?_
          refine j_iload_n O 1 dT_difference_66 rfl rfl ?_
          refine j_iald O hs 0 rfl (by omega) (by omega) dT_difference_67 ?_
          refine j_i2l O dT_difference_68 ?_
          exact j_lret O M (Nat.le_of_ble_eq_true rfl) (Nat.le_of_ble_eq_true rfl) ⟨by rw [d2], rfl⟩ dT_difference_69
        · by_cases s2 : y = 2
          · subst s2
            refine j_tableIn O (off := 50) 70 dT_difference_20 (by decide) (by decide) (by decide) (by decide) ?_
            rw [if_neg s0] at M
            rw [if_neg s1] at M
            rw [if_pos rfl] at M
            refine j_aload_n O 0 dT_difference_70 rfl rfl ?_
            refine j_get O uwT hT rfl 3 (by decide) w195 rfl rfl dT_difference_71 ?_
            refine j_get O uwD hD rfl 2 (by decide) w74 rfl rfl dT_difference_74 ?_
            refine j_iload_n O 1 dT_difference_77 rfl rfl ?_
            refine j_iald O hu 0 rfl (by omega) (by omega) dT_difference_78 ?_
            refine j_i2l O dT_difference_79 ?_
            exact j_lret O M (Nat.le_of_ble_eq_true rfl) (Nat.le_of_ble_eq_true rfl) ⟨by rw [d3], rfl⟩ dT_difference_80
          · have hout : y.toInt < 0 ∨ 2 < y.toInt := by
              have e0 : ¬ y.toInt = 0 := fun z => s0 (Int32.toInt_inj.mp z)
              have e1 : ¬ y.toInt = 1 := fun z => s1 (Int32.toInt_inj.mp z)
              have e2 : ¬ y.toInt = 2 := fun z => s2 (Int32.toInt_inj.mp z)
              omega
            refine j_tableOut O 81 dT_difference_20 hout (by decide) ?_
            rw [if_neg s0, if_neg s1, if_neg s2] at M
            refine j_ldc2 O 1099511627776 w349 dT_difference_81 ?_
            exact j_lret O M (Nat.le_of_ble_eq_true rfl) (Nat.le_of_ble_eq_true rfl) ⟨rfl, rfl⟩ dT_difference_84
    · have er : aDiff s k y = 1099511627776 := if_neg (fun z => c3 z.2)
      rw [er] at M
      refine j_ldc2 O 1099511627776 w349 dT_difference_15 ?_
      exact j_lret O M (Nat.le_of_ble_eq_true rfl) (Nat.le_of_ble_eq_true rfl) ⟨rfl, rfl⟩ dT_difference_18
set_option maxRecDepth 100000 in
set_option maxHeartbeats 1000000 in
theorem c_address (l : Launch) (D : va_G) (t : Nat → ClassId) (A : Nat → Prop) (g : GH) (p : Nat → Nat) (w : GD) (ls : Nat) (s : AS) (x : Int32) (h : TW t g p w ls s) : Ct l yT_address sT_address { frames := 8, cells := 0, slots := 0, locals := 240 } (zz D t A) [.ref (p 13), .int x] g 0 0 (fun v g' => v = some (.long (aAddr s x)) ∧ ∃ w', TW t g' p w' ls s) := by
  refine Ct.of (cc := bT_address) (maxL := 2) (ret := (some .long)) (by decide) (Nat.le_of_ble_eq_true rfl) (fun X hlX O M hNn => ?_)
  show J X 2 (zz D t A) g 0 0 0 [(0, .ref (p 13)), (1, .int x)] []
  obtain ⟨hT, ⟨fW, hW, hWv⟩, ⟨fR, hR, hRv⟩, hS, ⟨hpd, hval, hsz, hsn⟩, ⟨fk, fs, fu, hD, hk, hs, hu, hdf, hdl⟩, ⟨nF, fF, hF, hFb⟩, ⟨nE, fE, hE, hEb⟩, ⟨fL, hL⟩, hne, hI, hst, htb⟩ := id h
  refine j_iload_n O 1 dT_address_0 rfl rfl ?_
  refine j_callS O [.int x] (c_isTable X.2.1 D t A g x) w221 w222 w23 w223 1 rfl rfl rfl (by decide +kernel) ⟨(Nat.le_of_ble_eq_true rfl), (Nat.le_of_ble_eq_true rfl)⟩ rfl (Nat.le_of_ble_eq_true rfl) dT_address_1 ⟨(Nat.le_of_ble_eq_true rfl), (Nat.le_of_ble_eq_true rfl)⟩ (fun vw39 gw40 hpw41 => ?_)
  obtain ⟨rfl, hgw42⟩ := hpw41
  have hgw42 := hgw42.symm
  subst hgw42
  refine j_if_eq O 20 dT_address_4 (by decide) (fun c1 => ?_) (fun c1 => ?_)
  · have hx : ¬ isT x := fun z => by rw [if_pos z] at c1; exact absurd c1 (by decide)
    have er : aAddr s x = 0 := if_neg hx
    rw [er] at M
    refine j_lconst O (v := 0) dT_address_20 (by decide) ?_
    exact j_lret O M (Nat.le_of_ble_eq_true rfl) (Nat.le_of_ble_eq_true rfl) ⟨rfl, w, h⟩ dT_address_21
  · have hx : isT x := by
      by_cases z : isT x
      · exact z
      · rw [if_neg z] at c1; exact absurd rfl c1
    obtain ⟨i, i6, rfl⟩ := tb_of hx
    have ei : ix (nI i) = i := ix_nI (by omega)
    obtain ⟨r, hfr, hrv, hrS⟩ := hRv i i6
    have hvo := (hS.1 r _ hrv).1
    have er : aAddr s (nI i) = nad (hgt (s.1 i).2) (s.1 i).2 := by
      unfold aAddr
      rw [if_pos hx, ei]
    rw [er] at M
    refine j_aload_n O 0 dT_address_7 rfl rfl ?_
    refine j_get O uwT hT rfl 1 (by decide) w193 rfl rfl dT_address_8 ?_
    refine j_iload_n O 1 dT_address_11 rfl rfl ?_
    refine j_aald O hR 2 rfl (by omega) (by omega) dT_address_12 ?_
    refine j_some r hfr ?_
    refine j_iconst O (v := 5) dT_address_13 (by decide) ?_
    refine j_callS O [.ref r, .int 5] (c_addressOf X.2.1 D t A w.1 w.2.1 w.2.2.2.1 w.2.2.2.2 5 r _ g w.2.2.1 hrv hvo.1 (Nat.le_refl _) hS.1) w361 w362 w23 w363 2 rfl rfl rfl (by decide +kernel) ⟨(Nat.le_of_ble_eq_true rfl), (Nat.le_of_ble_eq_true rfl)⟩ rfl (Nat.le_of_ble_eq_true rfl) dT_address_14 ⟨(Nat.le_of_ble_eq_true rfl), (Nat.le_of_ble_eq_true rfl)⟩ (fun vw43 gw44 hpw45 => ?_)
    obtain ⟨rfl, mu2, hN2, hm2, hk2⟩ := hpw45
    have hTW : TW t gw44 p (w.1, w.2.1, mu2, w.2.2.2.1, w.2.2.2.2.1, w.2.2.2.2.2) ls s := TW.mu (N := w.1) (K := w.2.1) (mu := w.2.2.1) (I := w.2.2.2.1) (ch := w.2.2.2.2.1) (pd := w.2.2.2.2.2) h hN2 (fun x => by rw [hm2 x]) (fun x u hu => by rw [hm2 x]; exact hst x u hu) hk2.1 (fun i hi e he => hk2.2 (p i) e (by simp) (h.nn i (by omega)) he) (hk2.2 (p 13) _ (by simp) (h.nn 13 (by decide)) hT)
    refine j_goto O 21 dT_address_17 (by decide) ?_
    exact j_lret O M (Nat.le_of_ble_eq_true rfl) (Nat.le_of_ble_eq_true rfl) ⟨rfl, _, hTW⟩ dT_address_21
set_option maxRecDepth 100000 in
set_option maxHeartbeats 1000000 in
theorem c_measure (l : Launch) (D : va_G) (t : Nat → ClassId) (A : Nat → Prop) (g : GH) (p : Nat → Nat) (w : GD) (ls : Nat) (s : AS) (x y : Int32) (h : TW t g p w ls s) (hls : ls < 2 ^ 30) : Ct l yT_measure sT_measure { frames := 7, cells := 0, slots := 0, locals := 230 } (zz D t A) [.ref (p 13), .int x, .int y] g 0 0 (fun v g' => v = some (.int (aMeas s x y)) ∧ ∃ w' ls', ls' ≤ ls + 1 ∧ TW t g' p w' ls' s) := by
  refine Ct.of (cc := bT_measure) (maxL := 4) (ret := (some .int)) (by decide) (Nat.le_of_ble_eq_true rfl) (fun X hlX O M hNn => ?_)
  show J X 4 (zz D t A) g 0 0 0 [(0, .ref (p 13)), (1, .int x), (2, .int y)] []
  obtain ⟨hT, ⟨fW, hW, hWv⟩, ⟨fR, hR, hRv⟩, hS, ⟨hpd, hval, hsz, hsn⟩, ⟨fk, fs, fu, hD, hk, hs, hu, hdf, hdl⟩, ⟨nF, fF, hF, hFb⟩, ⟨nE, fE, hE, hEb⟩, ⟨fL, hL⟩, hne, hI, hst, htb⟩ := id h
  refine j_iload_n O 1 dT_measure_0 rfl rfl ?_
  refine j_callS O [.int x] (c_isTable X.2.1 D t A g x) w221 w222 w23 w223 1 rfl rfl rfl (by decide +kernel) ⟨(Nat.le_of_ble_eq_true rfl), (Nat.le_of_ble_eq_true rfl)⟩ rfl (Nat.le_of_ble_eq_true rfl) dT_measure_1 ⟨(Nat.le_of_ble_eq_true rfl), (Nat.le_of_ble_eq_true rfl)⟩ (fun vw46 gw47 hpw48 => ?_)
  obtain ⟨rfl, hgw49⟩ := hpw48
  have hgw49 := hgw49.symm
  subst hgw49
  refine j_if_ne O 9 dT_measure_4 (by decide) (fun c1 => ?_) (fun c1 => ?_)
  · have hx : isT x := by
      by_cases z : isT x
      · exact z
      · rw [if_neg z] at c1; exact absurd rfl c1
    obtain ⟨i, i6, rfl⟩ := tb_of hx
    have ei : ix (nI i) = i := ix_nI (by omega)
    obtain ⟨r, hfr, hrv, hrS⟩ := hRv i i6
    have hvo := (hS.1 r _ hrv).1
    obtain ⟨rra, rba, hrc⟩ := hS.1.cell hrv
    have er : aMeas s (nI i) y = if y = 0 then nI (s.1 i).2.length else if y = 1 then nI (s.1 i).1 else if y = 2 then nI (hgt (s.1 i).2) else if y = 3 then nI (ndl (s.1 i).2).length else -1 := by
      unfold aMeas
      rw [if_pos hx, ei]
    rw [er] at M
    refine j_aload_n O 0 dT_measure_9 rfl rfl ?_
    refine j_get O uwT hT rfl 1 (by decide) w193 rfl rfl dT_measure_10 ?_
    refine j_iload_n O 1 dT_measure_13 rfl rfl ?_
    refine j_aald O hR 2 rfl (by omega) (by omega) dT_measure_14 ?_
    refine j_some r hfr ?_
    refine j_astore_n O 3 [(3, .ref r), (0, .ref (p 13)), (1, .int (nI i)), (2, .int y)] dT_measure_15 rfl (by decide) rfl ?_
    refine j_iload_n O 2 dT_measure_16 rfl rfl ?_
    by_cases s0 : y = 0
    · subst s0
      refine j_tableIn O (off := 31) 48 dT_measure_17 (by decide) (by decide) (by decide) (by decide) ?_
      rw [if_pos rfl] at M
      refine j_aload_n O 3 dT_measure_48 rfl rfl ?_
      refine j_get O uwN hrc rfl 3 (by decide) w138 rfl rfl dT_measure_49 ?_
      exact j_iret O M (Nat.le_of_ble_eq_true rfl) (Nat.le_of_ble_eq_true rfl) ⟨rfl, w, ls, by omega, h⟩ dT_measure_52
    · by_cases s1 : y = 1
      · subst s1
        refine j_tableIn O (off := 36) 53 dT_measure_17 (by decide) (by decide) (by decide) (by decide) ?_
        rw [if_neg s0] at M
        rw [if_pos rfl] at M
        refine j_aload_n O 0 dT_measure_53 rfl rfl ?_
        refine j_get O uwT hT rfl 0 (by decide) w192 rfl rfl dT_measure_54 ?_
        refine j_iload_n O 1 dT_measure_57 rfl rfl ?_
        refine j_iald O hW 0 rfl (by omega) (by omega) dT_measure_58 ?_
        exact j_iret O M (Nat.le_of_ble_eq_true rfl) (Nat.le_of_ble_eq_true rfl) ⟨by rw [hWv i i6], w, ls, by omega, h⟩ dT_measure_59
      · by_cases s2 : y = 2
        · subst s2
          refine j_tableIn O (off := 43) 60 dT_measure_17 (by decide) (by decide) (by decide) (by decide) ?_
          rw [if_neg s0] at M
          rw [if_neg s1] at M
          rw [if_pos rfl] at M
          refine j_aload_n O 3 dT_measure_60 rfl rfl ?_
          refine j_get O uwN hrc rfl 0 (by decide) w132 rfl rfl dT_measure_61 ?_
          exact j_iret O M (Nat.le_of_ble_eq_true rfl) (Nat.le_of_ble_eq_true rfl) ⟨rfl, w, ls, by omega, h⟩ dT_measure_64
        · by_cases s3 : y = 3
          · subst s3
            refine j_tableIn O (off := 48) 65 dT_measure_17 (by decide) (by decide) (by decide) (by decide) ?_
            rw [if_neg s0] at M
            rw [if_neg s1] at M
            rw [if_neg s2] at M
            rw [if_pos rfl] at M
            refine j_aload_n O 3 dT_measure_65 rfl rfl ?_
            refine j_aload_n O 0 dT_measure_66 rfl rfl ?_
            refine j_callV O [] (c_newStamp X.2.1 D t A g (p 13) (p 0) (p 1) (p 2) (p 4) (p 8) (p 10) (p 12) ls hT) hT rfl w254 w255 w7 w23 w256 0 rfl rfl rfl (by decide +kernel) ⟨(Nat.le_of_ble_eq_true rfl), (Nat.le_of_ble_eq_true rfl)⟩ rfl (Nat.le_of_ble_eq_true rfl) dT_measure_67 ⟨(Nat.le_of_ble_eq_true rfl), (Nat.le_of_ble_eq_true rfl)⟩ (fun vw50 gw51 hpw52 => ?_)
            obtain ⟨rfl, hT2, hk2⟩ := hpw52
            have hN2 : NI t gw51 w := hS.1.keep (fun x e hx he => hk2.2 x e (h.own hx [13] (by decide)) he)
            have hfs := fun x (hx : x ∈ dsc w.2.1 (hgt (s.1 i).2) r) => (dsc_some hS.1 hrv x hx).elim (fun u hu => h.fresh hls x u hu)
            refine j_iconst O (v := 5) dT_measure_70 (by decide) ?_
            refine j_callS O [.ref r, .int (nI (ls + 1)), .int 5] (c_stampTree X.2.1 D t A w.1 w.2.1 w.2.2.2.1 w.2.2.2.2 (nI (ls + 1)) 5 r _ (hgt (s.1 i).2) gw51 w.2.2.1 hrv rfl hvo.1 (Nat.le_refl _) hN2 (dsc_nodup hS.1 hrv) (fun x hx he => absurd he (hfs x hx))) w354 w355 w23 w356 3 rfl rfl rfl (by decide +kernel) ⟨(Nat.le_of_ble_eq_true rfl), (Nat.le_of_ble_eq_true rfl)⟩ rfl (Nat.le_of_ble_eq_true rfl) dT_measure_71 ⟨(Nat.le_of_ble_eq_true rfl), (Nat.le_of_ble_eq_true rfl)⟩ (fun vw53 gw54 hpw55 => ?_)
            obtain ⟨rfl, hN3, hk3⟩ := hpw55
            have hTW : TW t gw54 p (w.1, w.2.1, stmp w.2.2.1 (nI (ls + 1)) (dsc w.2.1 (hgt (s.1 i).2) r), w.2.2.2.1, w.2.2.2.2.1, w.2.2.2.2.2) (ls + 1) s := TW.mu (N := w.1) (K := w.2.1) (mu := w.2.2.1) (I := w.2.2.2.1) (ch := w.2.2.2.2.1) (pd := w.2.2.2.2.2) h hN3 (fun x => by unfold stmp; split <;> rfl) (fun x u hu => by
              by_cases hx : x ∈ dsc w.2.1 (hgt (s.1 i).2) r
              · exact ⟨ls + 1, Nat.le_refl _, stmp_in hx⟩
              · rw [stmp_out hx]; obtain ⟨m, hm, e⟩ := hst x u hu; exact ⟨m, by omega, e⟩) (fun b hb => hk3.1 b (hk2.1 b hb)) (fun i hi e he => hk3.2 (p i) e (by simp) (h.nn i (by omega)) (hk2.2 (p i) e (one_ne (hne i 13 (by omega) (by omega) (by omega))) he)) (hk3.2 (p 13) _ (by simp) (h.nn 13 (by decide)) hT2)
            have hcn : unst w.2.2.1 (nI (ls + 1)) (dsc w.2.1 (hgt (s.1 i).2) r) = (ndl (s.1 i).2).length := by
              rw [unst_all hfs, dsc_len hS.1 hrv]
              exact (nds_ndl _).length_eq
            exact j_iret O M (Nat.le_of_ble_eq_true rfl) (Nat.le_of_ble_eq_true rfl) ⟨by rw [hcn], _, ls + 1, Nat.le_refl _, hTW⟩ dT_measure_74
          · have hout : y.toInt < 0 ∨ 3 < y.toInt := by
              have e0 : ¬ y.toInt = 0 := fun z => s0 (Int32.toInt_inj.mp z)
              have e1 : ¬ y.toInt = 1 := fun z => s1 (Int32.toInt_inj.mp z)
              have e2 : ¬ y.toInt = 2 := fun z => s2 (Int32.toInt_inj.mp z)
              have e3 : ¬ y.toInt = 3 := fun z => s3 (Int32.toInt_inj.mp z)
              omega
            refine j_tableOut O 75 dT_measure_17 hout (by decide) ?_
            rw [if_neg s0, if_neg s1, if_neg s2, if_neg s3] at M
            refine j_iconst O (v := -1) dT_measure_75 (by decide) ?_
            exact j_iret O M (Nat.le_of_ble_eq_true rfl) (Nat.le_of_ble_eq_true rfl) ⟨rfl, w, ls, by omega, h⟩ dT_measure_76
  · have hx : ¬ isT x := fun z => by rw [if_pos z] at c1; exact absurd c1 (by decide)
    have er : aMeas s x y = -1 := if_neg hx
    rw [er] at M
    refine j_iconst O (v := -1) dT_measure_7 (by decide) ?_
    exact j_iret O M (Nat.le_of_ble_eq_true rfl) (Nat.le_of_ble_eq_true rfl) ⟨rfl, w, ls, by omega, h⟩ dT_measure_8
