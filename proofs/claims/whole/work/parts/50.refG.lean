/-- the cells of the tables -/
def tU : List Nat := [0, 1, 20, 21, 22, 23, 24, 25, 26, 27, 28, 29, 30, 31]
theorem tU_in {i : Nat} (h : i < 6) : (20 + i) ∈ tU ∧ (26 + i) ∈ tU := by
  rcases (show i = 0 ∨ i = 1 ∨ i = 2 ∨ i = 3 ∨ i = 4 ∨ i = 5 by omega) with rfl | rfl | rfl | rfl | rfl | rfl <;> decide
theorem tU_sub {u : Nat → Nat} {i : Nat} (h : i < 6) : ∀ x ∈ [u 0, u 1, u (20 + i), u (26 + i)], x ∈ tU.map u := by
  intro x hx
  simp only [List.mem_cons, List.not_mem_nil, or_false] at hx
  rcases hx with z | z | z | z
  · rw [z]; exact List.mem_map.mpr ⟨0, by decide, rfl⟩
  · rw [z]; exact List.mem_map.mpr ⟨1, by decide, rfl⟩
  · rw [z]; exact List.mem_map.mpr ⟨_, (tU_in h).1, rfl⟩
  · rw [z]; exact List.mem_map.mpr ⟨_, (tU_in h).2, rfl⟩
theorem un4 {u : Nat → Nat} (hne : ∀ i j, i < 32 → j < 32 → i ≠ j → u i ≠ u j) {k i : Nat} (hk : k < 32) (hi : i < 6) (h0 : k ≠ 0) (h1 : k ≠ 1) (h2 : k ≠ 20 + i) (h3 : k ≠ 26 + i) : u k ∉ [u 0, u 1, u (20 + i), u (26 + i)] := four_ne (hne k 0 hk (by omega) h0) (hne k 1 hk (by omega) h1) (hne k (20 + i) hk (by omega) h2) (hne k (26 + i) hk (by omega) h3)
set_option maxRecDepth 100000 in
set_option maxHeartbeats 1000000 in
theorem c_M_copy (l : Launch) (D : va_G) (t : Nat → ClassId) (A : Nat → Prop) (g : GH) (u : Nat → Nat) (oc om df nn us lm mm ta co si : Int32) (s : AS) (x y : Int32) (hM : gAt g (u 19) (eM u oc om df nn us lm mm ta co si)) (hRT : RT t g u s.1) (htb : ∀ i, i < 6 → tOK (s.1 i)) (hne : ∀ i j, i < 32 → j < 32 → i ≠ j → u i ≠ u j) : Ct l yM_copy sM_copy { frames := 1, cells := 0, slots := 0, locals := 60 } (zz D t A) [.ref (u 19), .int x, .int y] g 0 0 (fun v g' => v = some (.int (aCopy s x y).1) ∧ RT t g' u (aCopy s x y).2.1 ∧ gAt g' (u 19) (eM u oc om df nn us lm mm ta co si) ∧ Kp (tU.map u) g g') := by
  refine Ct.of (cc := bM_copy) (maxL := 3) (ret := (some .int)) (by decide) (Nat.le_of_ble_eq_true rfl) (fun X hlX O M hNn => ?_)
  show J X 3 (zz D t A) g 0 0 0 [(0, .ref (u 19)), (1, .int x), (2, .int y)] []
  obtain ⟨⟨fC, hC, hCv⟩, ⟨fN, hNn0, hNv⟩, ⟨fK, hK, hKv⟩, ⟨fL, hL, hLv⟩, hrow⟩ := id hRT
  refine j_iload_n O 1 dM_copy_0 rfl rfl ?_
  refine j_iconst O (v := 0) dM_copy_1 (by decide) ?_
  refine j_iconst O (v := 5) dM_copy_2 (by decide) ?_
  refine j_callS O [.int x, .int 0, .int 5] (c_M_in X.2.1 D t A g x 0 5) w540 w541 w28 w542 3 rfl rfl rfl (by decide +kernel) ⟨(Nat.le_of_ble_eq_true rfl), (Nat.le_of_ble_eq_true rfl)⟩ rfl (Nat.le_of_ble_eq_true rfl) dM_copy_3 ⟨(Nat.le_of_ble_eq_true rfl), (Nat.le_of_ble_eq_true rfl)⟩ (fun vw97 gw98 hpw99 => ?_)
  obtain ⟨rfl, hgw100⟩ := hpw99
  have hgw100 := hgw100.symm
  subst hgw100
  refine j_if_eq O 18 dM_copy_6 (by decide) (fun c1 => ?_) (fun c1 => ?_)
  · have hx0 : ¬ (0 ≤ x ∧ x ≤ 5) := fun z => by rw [if_pos z] at c1; exact absurd c1 (by decide)
    have er : aCopy s x y = (-1, s) := if_neg (fun z => hx0 ((in5 x).mpr z.1))
    rw [er] at M
    refine j_iconst O (v := -1) dM_copy_18 (by decide) ?_
    exact j_iret O M (Nat.le_of_ble_eq_true rfl) (Nat.le_of_ble_eq_true rfl) ⟨rfl, hRT, hM, Kp.rf⟩ dM_copy_19
  · have hx0 : 0 ≤ x ∧ x ≤ 5 := by
      by_cases z : 0 ≤ x ∧ x ≤ 5
      · exact z
      · rw [if_neg z] at c1; exact absurd rfl c1
    have hx := (in5 _).mp hx0
    obtain ⟨i, i6, rfl⟩ := tb_of hx
    have ei : ix (nI i) = i := ix_nI (by omega)
    refine j_iload_n O 2 dM_copy_9 rfl rfl ?_
    refine j_iconst O (v := 0) dM_copy_10 (by decide) ?_
    refine j_iconst O (v := 5) dM_copy_11 (by decide) ?_
    refine j_callS O [.int y, .int 0, .int 5] (c_M_in X.2.1 D t A g y 0 5) w540 w541 w28 w542 3 rfl rfl rfl (by decide +kernel) ⟨(Nat.le_of_ble_eq_true rfl), (Nat.le_of_ble_eq_true rfl)⟩ rfl (Nat.le_of_ble_eq_true rfl) dM_copy_12 ⟨(Nat.le_of_ble_eq_true rfl), (Nat.le_of_ble_eq_true rfl)⟩ (fun vw101 gw102 hpw103 => ?_)
    obtain ⟨rfl, hgw104⟩ := hpw103
    have hgw104 := hgw104.symm
    subst hgw104
    refine j_if_ne O 20 dM_copy_15 (by decide) (fun c2 => ?_) (fun c2 => ?_)
    · have hy0 : 0 ≤ y ∧ y ≤ 5 := by
        by_cases z : 0 ≤ y ∧ y ≤ 5
        · exact z
        · rw [if_neg z] at c2; exact absurd rfl c2
      have hy := (in5 _).mp hy0
      obtain ⟨j, j6, rfl⟩ := tb_of hy
      have ej : ix (nI j) = j := ix_nI (by omega)
      have er : aCopy s (nI i) (nI j) = (0, (va_up s.1 i (s.1 j), s.2)) := by
        unfold aCopy
        rw [if_pos ⟨hx, hy⟩, ei, ej]
      rw [er] at M
      obtain ⟨fk, fc, hk, hc, htab⟩ := hrow i i6
      obtain ⟨gk, gc, hk2, hc2, htab2⟩ := hrow j j6
      obtain ⟨t1, t2, t3, t4, t5⟩ := htb j j6
      have hKi := hKv i i6
      have hLi := hLv i i6
      have hKj := hKv j j6
      have hLj := hLv j j6
      have hNj := hNv j j6
      have hCj := hCv j j6
      have kp0 : Kp [u 0, u 1, u (20 + i), u (26 + i)] g g := Kp.rf
      by_cases hij : i = j
      · subst hij
        have ea := hk.eq hk2
        have eb := hc.eq hc2
        injection ea with ea
        injection ea with ea1 ea
        injection ea with ea2 ea
        injection ea with ea
        subst ea
        injection eb with eb
        injection eb with eb1 eb
        injection eb with eb2 eb
        injection eb with eb
        injection eb with eb
        subst eb
        refine j_aload_n O 0 dM_copy_20 rfl rfl ?_
        refine j_get O uwM hM rfl 0 (by decide) w447 rfl rfl dM_copy_21 ?_
        refine j_iload_n O 1 dM_copy_24 rfl rfl ?_
        refine j_aload_n O 0 dM_copy_25 rfl rfl ?_
        refine j_get O uwM hM rfl 0 (by decide) w447 rfl rfl dM_copy_26 ?_
        refine j_iload_n O 2 dM_copy_29 rfl rfl ?_
        refine j_iald O hC 0 rfl (by omega) (by omega) dM_copy_30 ?_
        refine j_eqi (nI (s.1 i).1) hCj ?_
        refine j_iast O hC 0 rfl i6 (by decide) dM_copy_31 (fun gw105 ew106 => ?_)
        have hw107 := gUp_ne (e' := .inl (t 0, 6, .inl (upd fC i (nI (s.1 i).1)))) hM (hM.ne hC (by simp))
        rw [← ew106] at hw107
        have hw108 := gUp_ne (e' := .inl (t 0, 6, .inl (upd fC i (nI (s.1 i).1)))) hNn0 (Ne.symm (hne 0 1 (by omega) (by omega) (by omega)))
        rw [← ew106] at hw108
        have hw109 := gUp_ne (e' := .inl (t 0, 6, .inl (upd fC i (nI (s.1 i).1)))) hK (hK.ne hC (by simp))
        rw [← ew106] at hw109
        have hw110 := gUp_ne (e' := .inl (t 0, 6, .inl (upd fC i (nI (s.1 i).1)))) hL (hL.ne hC (by simp))
        rw [← ew106] at hw110
        have hw111 := gUp_ne (e' := .inl (t 0, 6, .inl (upd fC i (nI (s.1 i).1)))) hk (hk.ne hC (by simp))
        rw [← ew106] at hw111
        have hw112 := gUp_ne (e' := .inl (t 0, 6, .inl (upd fC i (nI (s.1 i).1)))) hc (hc.ne hC (by simp))
        rw [← ew106] at hw112
        have hw113 := gUp_self (e' := .inl (t 0, 6, .inl (upd fC i (nI (s.1 i).1)))) hC
        rw [← ew106] at hw113
        have kpw114 := kp0.up (a := (u 0)) (e := .inl (t 0, 6, .inl (upd fC i (nI (s.1 i).1)))) (by simp)
        rw [← ew106] at kpw114
        refine j_aload_n O 0 dM_copy_32 rfl rfl ?_
        refine j_get O uwM hw107 rfl 1 (by decide) w448 rfl rfl dM_copy_33 ?_
        refine j_iload_n O 1 dM_copy_36 rfl rfl ?_
        refine j_aload_n O 0 dM_copy_37 rfl rfl ?_
        refine j_get O uwM hw107 rfl 1 (by decide) w448 rfl rfl dM_copy_38 ?_
        refine j_iload_n O 2 dM_copy_41 rfl rfl ?_
        refine j_iald O hw108 0 rfl (by omega) (by omega) dM_copy_42 ?_
        refine j_eqi (nI (s.1 i).2.length) hNj ?_
        refine j_iast O hw108 0 rfl i6 (by decide) dM_copy_43 (fun gw115 ew116 => ?_)
        have hw117 := gUp_ne (e' := .inl (t 0, 6, .inl (upd fN i (nI (s.1 i).2.length)))) hw107 (hw107.ne hw108 (by simp))
        rw [← ew116] at hw117
        have hw118 := gUp_ne (e' := .inl (t 0, 6, .inl (upd fN i (nI (s.1 i).2.length)))) hw113 (hne 0 1 (by omega) (by omega) (by omega))
        rw [← ew116] at hw118
        have hw119 := gUp_ne (e' := .inl (t 0, 6, .inl (upd fN i (nI (s.1 i).2.length)))) hw109 (hw109.ne hw108 (by simp))
        rw [← ew116] at hw119
        have hw120 := gUp_ne (e' := .inl (t 0, 6, .inl (upd fN i (nI (s.1 i).2.length)))) hw110 (hw110.ne hw108 (by simp))
        rw [← ew116] at hw120
        have hw121 := gUp_ne (e' := .inl (t 0, 6, .inl (upd fN i (nI (s.1 i).2.length)))) hw111 (hw111.ne hw108 (by simp))
        rw [← ew116] at hw121
        have hw122 := gUp_ne (e' := .inl (t 0, 6, .inl (upd fN i (nI (s.1 i).2.length)))) hw112 (hw112.ne hw108 (by simp))
        rw [← ew116] at hw122
        have hw123 := gUp_self (e' := .inl (t 0, 6, .inl (upd fN i (nI (s.1 i).2.length)))) hw108
        rw [← ew116] at hw123
        have kpw124 := kpw114.up (a := (u 1)) (e := .inl (t 0, 6, .inl (upd fN i (nI (s.1 i).2.length)))) (by simp)
        rw [← ew116] at kpw124
        refine j_aload_n O 0 dM_copy_44 rfl rfl ?_
        refine j_get O uwM hw117 rfl 2 (by decide) w449 rfl rfl dM_copy_45 ?_
        refine j_iload_n O 2 dM_copy_48 rfl rfl ?_
        refine j_aaldA O hw119 4 rfl (by omega) (by omega) dM_copy_49 ?_
        refine j_some (u (20 + i)) hKi ?_
        refine j_iconst O (v := 0) dM_copy_50 (by decide) ?_
        refine j_aload_n O 0 dM_copy_51 rfl rfl ?_
        refine j_get O uwM hw117 rfl 2 (by decide) w449 rfl rfl dM_copy_52 ?_
        refine j_iload_n O 1 dM_copy_55 rfl rfl ?_
        refine j_aaldA O hw119 4 rfl (by omega) (by omega) dM_copy_56 ?_
        refine j_some (u (20 + i)) hKi ?_
        refine j_iconst O (v := 0) dM_copy_57 (by decide) ?_
        refine j_aload_n O 0 dM_copy_58 rfl rfl ?_
        refine j_get O uwM hw117 rfl 1 (by decide) w448 rfl rfl dM_copy_59 ?_
        refine j_iload_n O 1 dM_copy_62 rfl rfl ?_
        refine j_iald O hw123 0 rfl (by omega) (by omega) dM_copy_63 ?_
        refine j_eqi (nI (s.1 i).2.length) pk_us ?_
        refine j_copyi O w444 w446 w445 w30 hw121 hw121 0 0 rfl rfl (i := 0) (j := 0) (m := (s.1 i).2.length) (by omega) (by omega) (by decide) (by decide) (Nat.le_of_ble_eq_true rfl) (Nat.le_of_ble_eq_true rfl) dM_copy_64 (fun gw125 ew126 => ?_)
        have hw127 := gUp_ne (e' := .inl (t 0, 301, .inl (va_cpy fk fk 0 0 ((s.1 i).2.length)))) hw117 (hw117.ne hw121 (by simp))
        rw [← ew126] at hw127
        have hw128 := gUp_ne (e' := .inl (t 0, 301, .inl (va_cpy fk fk 0 0 ((s.1 i).2.length)))) hw118 (hw118.ne hw121 (by simp))
        rw [← ew126] at hw128
        have hw129 := gUp_ne (e' := .inl (t 0, 301, .inl (va_cpy fk fk 0 0 ((s.1 i).2.length)))) hw123 (hw123.ne hw121 (by simp))
        rw [← ew126] at hw129
        have hw130 := gUp_ne (e' := .inl (t 0, 301, .inl (va_cpy fk fk 0 0 ((s.1 i).2.length)))) hw119 (hw119.ne hw121 (by simp))
        rw [← ew126] at hw130
        have hw131 := gUp_ne (e' := .inl (t 0, 301, .inl (va_cpy fk fk 0 0 ((s.1 i).2.length)))) hw120 (hw120.ne hw121 (by simp))
        rw [← ew126] at hw131
        have hw132 := gUp_ne (e' := .inl (t 0, 301, .inl (va_cpy fk fk 0 0 ((s.1 i).2.length)))) hw122 (hw122.ne hw121 (by simp))
        rw [← ew126] at hw132
        have hw133 := gUp_self (e' := .inl (t 0, 301, .inl (va_cpy fk fk 0 0 ((s.1 i).2.length)))) hw121
        rw [← ew126] at hw133
        have kpw134 := kpw124.up (a := (u (20 + i))) (e := .inl (t 0, 301, .inl (va_cpy fk fk 0 0 ((s.1 i).2.length)))) (by simp)
        rw [← ew126] at kpw134
        refine j_aload_n O 0 dM_copy_67 rfl rfl ?_
        refine j_get O uwM hw127 rfl 3 (by decide) w450 rfl rfl dM_copy_68 ?_
        refine j_iload_n O 2 dM_copy_71 rfl rfl ?_
        refine j_aaldA O hw131 5 rfl (by omega) (by omega) dM_copy_72 ?_
        refine j_some (u (26 + i)) hLi ?_
        refine j_iconst O (v := 0) dM_copy_73 (by decide) ?_
        refine j_aload_n O 0 dM_copy_74 rfl rfl ?_
        refine j_get O uwM hw127 rfl 3 (by decide) w450 rfl rfl dM_copy_75 ?_
        refine j_iload_n O 1 dM_copy_78 rfl rfl ?_
        refine j_aaldA O hw131 5 rfl (by omega) (by omega) dM_copy_79 ?_
        refine j_some (u (26 + i)) hLi ?_
        refine j_iconst O (v := 0) dM_copy_80 (by decide) ?_
        refine j_bipush O (v := 6) dM_copy_81 (by decide) ?_
        refine j_aload_n O 0 dM_copy_83 rfl rfl ?_
        refine j_get O uwM hw127 rfl 1 (by decide) w448 rfl rfl dM_copy_84 ?_
        refine j_iload_n O 1 dM_copy_87 rfl rfl ?_
        refine j_iald O hw129 0 rfl (by omega) (by omega) dM_copy_88 ?_
        refine j_eqi (nI (s.1 i).2.length) pk_us ?_
        refine j_imul O dM_copy_89 ?_
        refine j_eqi (nI (6 * (s.1 i).2.length)) (pk_mul 6 _) ?_
        refine j_copyl O w444 w446 w445 w30 hw132 hw132 3 3 rfl rfl (i := 0) (j := 0) (m := (6 * (s.1 i).2.length)) (by omega) (by omega) (by decide) (by decide) (Nat.le_of_ble_eq_true rfl) (Nat.le_of_ble_eq_true rfl) dM_copy_90 (fun gw135 ew136 => ?_)
        have hw137 := gUp_ne (e' := .inl (t 3, 1806, .inr (.inl (va_cpy fc fc 0 0 (6 * (s.1 i).2.length))))) hw127 (hw127.ne hw132 (by simp))
        rw [← ew136] at hw137
        have hw138 := gUp_ne (e' := .inl (t 3, 1806, .inr (.inl (va_cpy fc fc 0 0 (6 * (s.1 i).2.length))))) hw128 (hw128.ne hw132 (by simp))
        rw [← ew136] at hw138
        have hw139 := gUp_ne (e' := .inl (t 3, 1806, .inr (.inl (va_cpy fc fc 0 0 (6 * (s.1 i).2.length))))) hw129 (hw129.ne hw132 (by simp))
        rw [← ew136] at hw139
        have hw140 := gUp_ne (e' := .inl (t 3, 1806, .inr (.inl (va_cpy fc fc 0 0 (6 * (s.1 i).2.length))))) hw130 (hw130.ne hw132 (by simp))
        rw [← ew136] at hw140
        have hw141 := gUp_ne (e' := .inl (t 3, 1806, .inr (.inl (va_cpy fc fc 0 0 (6 * (s.1 i).2.length))))) hw131 (hw131.ne hw132 (by simp))
        rw [← ew136] at hw141
        have hw142 := gUp_ne (e' := .inl (t 3, 1806, .inr (.inl (va_cpy fc fc 0 0 (6 * (s.1 i).2.length))))) hw133 (hw133.ne hw132 (by simp))
        rw [← ew136] at hw142
        have hw143 := gUp_self (e' := .inl (t 3, 1806, .inr (.inl (va_cpy fc fc 0 0 (6 * (s.1 i).2.length))))) hw132
        rw [← ew136] at hw143
        have kpw144 := kpw134.up (a := (u (26 + i))) (e := .inl (t 3, 1806, .inr (.inl (va_cpy fc fc 0 0 (6 * (s.1 i).2.length))))) (by simp)
        rw [← ew136] at kpw144
        refine j_iconst O (v := 0) dM_copy_93 (by decide) ?_
        have hRT2 : RT t gw135 u (va_up s.1 i (s.1 i)) := by
          refine ⟨⟨_, hw138, fun a ha => ?_⟩, ⟨_, hw139, fun a ha => ?_⟩, ⟨_, hw140, hKv⟩, ⟨_, hw141, hLv⟩, fun a ha => ?_⟩
          · by_cases z : a = i
            · subst z; rw [pk_us, va_up_self]
            · rw [pk_un (by omega), va_up_ne _ _ z]; exact hCv a ha
          · by_cases z : a = i
            · subst z; rw [pk_us, va_up_self]
            · rw [pk_un (by omega), va_up_ne _ _ z]; exact hNv a ha
          · by_cases z : a = i
            · subst z; rw [va_up_self]; exact ⟨_, _, hw142, hw143, htab.cpy t2⟩
            · rw [va_up_ne _ _ z]
              obtain ⟨f1, f2, b1, b2, b3⟩ := hrow a ha
              exact ⟨f1, f2, kpw144.2 _ _ (un4 hne (by omega) i6 (by omega) (by omega) (by omega) (by omega)) b1, kpw144.2 _ _ (un4 hne (by omega) i6 (by omega) (by omega) (by omega) (by omega)) b2, b3⟩
        exact j_iret O M (Nat.le_of_ble_eq_true rfl) (Nat.le_of_ble_eq_true rfl) ⟨rfl, hRT2, hw137, kpw144.mono (tU_sub i6)⟩ dM_copy_94
      · refine j_aload_n O 0 dM_copy_20 rfl rfl ?_
        refine j_get O uwM hM rfl 0 (by decide) w447 rfl rfl dM_copy_21 ?_
        refine j_iload_n O 1 dM_copy_24 rfl rfl ?_
        refine j_aload_n O 0 dM_copy_25 rfl rfl ?_
        refine j_get O uwM hM rfl 0 (by decide) w447 rfl rfl dM_copy_26 ?_
        refine j_iload_n O 2 dM_copy_29 rfl rfl ?_
        refine j_iald O hC 0 rfl (by omega) (by omega) dM_copy_30 ?_
        refine j_eqi (nI (s.1 j).1) hCj ?_
        refine j_iast O hC 0 rfl i6 (by decide) dM_copy_31 (fun gw145 ew146 => ?_)
        have hw147 := gUp_ne (e' := .inl (t 0, 6, .inl (upd fC i (nI (s.1 j).1)))) hM (hM.ne hC (by simp))
        rw [← ew146] at hw147
        have hw148 := gUp_ne (e' := .inl (t 0, 6, .inl (upd fC i (nI (s.1 j).1)))) hNn0 (Ne.symm (hne 0 1 (by omega) (by omega) (by omega)))
        rw [← ew146] at hw148
        have hw149 := gUp_ne (e' := .inl (t 0, 6, .inl (upd fC i (nI (s.1 j).1)))) hK (hK.ne hC (by simp))
        rw [← ew146] at hw149
        have hw150 := gUp_ne (e' := .inl (t 0, 6, .inl (upd fC i (nI (s.1 j).1)))) hL (hL.ne hC (by simp))
        rw [← ew146] at hw150
        have hw151 := gUp_ne (e' := .inl (t 0, 6, .inl (upd fC i (nI (s.1 j).1)))) hk (hk.ne hC (by simp))
        rw [← ew146] at hw151
        have hw152 := gUp_ne (e' := .inl (t 0, 6, .inl (upd fC i (nI (s.1 j).1)))) hc (hc.ne hC (by simp))
        rw [← ew146] at hw152
        have hw153 := gUp_ne (e' := .inl (t 0, 6, .inl (upd fC i (nI (s.1 j).1)))) hk2 (hk2.ne hC (by simp))
        rw [← ew146] at hw153
        have hw154 := gUp_ne (e' := .inl (t 0, 6, .inl (upd fC i (nI (s.1 j).1)))) hc2 (hc2.ne hC (by simp))
        rw [← ew146] at hw154
        have hw155 := gUp_self (e' := .inl (t 0, 6, .inl (upd fC i (nI (s.1 j).1)))) hC
        rw [← ew146] at hw155
        have kpw156 := kp0.up (a := (u 0)) (e := .inl (t 0, 6, .inl (upd fC i (nI (s.1 j).1)))) (by simp)
        rw [← ew146] at kpw156
        refine j_aload_n O 0 dM_copy_32 rfl rfl ?_
        refine j_get O uwM hw147 rfl 1 (by decide) w448 rfl rfl dM_copy_33 ?_
        refine j_iload_n O 1 dM_copy_36 rfl rfl ?_
        refine j_aload_n O 0 dM_copy_37 rfl rfl ?_
        refine j_get O uwM hw147 rfl 1 (by decide) w448 rfl rfl dM_copy_38 ?_
        refine j_iload_n O 2 dM_copy_41 rfl rfl ?_
        refine j_iald O hw148 0 rfl (by omega) (by omega) dM_copy_42 ?_
        refine j_eqi (nI (s.1 j).2.length) hNj ?_
        refine j_iast O hw148 0 rfl i6 (by decide) dM_copy_43 (fun gw157 ew158 => ?_)
        have hw159 := gUp_ne (e' := .inl (t 0, 6, .inl (upd fN i (nI (s.1 j).2.length)))) hw147 (hw147.ne hw148 (by simp))
        rw [← ew158] at hw159
        have hw160 := gUp_ne (e' := .inl (t 0, 6, .inl (upd fN i (nI (s.1 j).2.length)))) hw155 (hne 0 1 (by omega) (by omega) (by omega))
        rw [← ew158] at hw160
        have hw161 := gUp_ne (e' := .inl (t 0, 6, .inl (upd fN i (nI (s.1 j).2.length)))) hw149 (hw149.ne hw148 (by simp))
        rw [← ew158] at hw161
        have hw162 := gUp_ne (e' := .inl (t 0, 6, .inl (upd fN i (nI (s.1 j).2.length)))) hw150 (hw150.ne hw148 (by simp))
        rw [← ew158] at hw162
        have hw163 := gUp_ne (e' := .inl (t 0, 6, .inl (upd fN i (nI (s.1 j).2.length)))) hw151 (hw151.ne hw148 (by simp))
        rw [← ew158] at hw163
        have hw164 := gUp_ne (e' := .inl (t 0, 6, .inl (upd fN i (nI (s.1 j).2.length)))) hw152 (hw152.ne hw148 (by simp))
        rw [← ew158] at hw164
        have hw165 := gUp_ne (e' := .inl (t 0, 6, .inl (upd fN i (nI (s.1 j).2.length)))) hw153 (hw153.ne hw148 (by simp))
        rw [← ew158] at hw165
        have hw166 := gUp_ne (e' := .inl (t 0, 6, .inl (upd fN i (nI (s.1 j).2.length)))) hw154 (hw154.ne hw148 (by simp))
        rw [← ew158] at hw166
        have hw167 := gUp_self (e' := .inl (t 0, 6, .inl (upd fN i (nI (s.1 j).2.length)))) hw148
        rw [← ew158] at hw167
        have kpw168 := kpw156.up (a := (u 1)) (e := .inl (t 0, 6, .inl (upd fN i (nI (s.1 j).2.length)))) (by simp)
        rw [← ew158] at kpw168
        refine j_aload_n O 0 dM_copy_44 rfl rfl ?_
        refine j_get O uwM hw159 rfl 2 (by decide) w449 rfl rfl dM_copy_45 ?_
        refine j_iload_n O 2 dM_copy_48 rfl rfl ?_
        refine j_aaldA O hw161 4 rfl (by omega) (by omega) dM_copy_49 ?_
        refine j_some (u (20 + j)) hKj ?_
        refine j_iconst O (v := 0) dM_copy_50 (by decide) ?_
        refine j_aload_n O 0 dM_copy_51 rfl rfl ?_
        refine j_get O uwM hw159 rfl 2 (by decide) w449 rfl rfl dM_copy_52 ?_
        refine j_iload_n O 1 dM_copy_55 rfl rfl ?_
        refine j_aaldA O hw161 4 rfl (by omega) (by omega) dM_copy_56 ?_
        refine j_some (u (20 + i)) hKi ?_
        refine j_iconst O (v := 0) dM_copy_57 (by decide) ?_
        refine j_aload_n O 0 dM_copy_58 rfl rfl ?_
        refine j_get O uwM hw159 rfl 1 (by decide) w448 rfl rfl dM_copy_59 ?_
        refine j_iload_n O 1 dM_copy_62 rfl rfl ?_
        refine j_iald O hw167 0 rfl (by omega) (by omega) dM_copy_63 ?_
        refine j_eqi (nI (s.1 j).2.length) pk_us ?_
        refine j_copyi O w444 w446 w445 w30 hw165 hw163 0 0 rfl rfl (i := 0) (j := 0) (m := (s.1 j).2.length) (by omega) (by omega) (by decide) (by decide) (Nat.le_of_ble_eq_true rfl) (Nat.le_of_ble_eq_true rfl) dM_copy_64 (fun gw169 ew170 => ?_)
        have hw171 := gUp_ne (e' := .inl (t 0, 301, .inl (va_cpy gk fk 0 0 ((s.1 j).2.length)))) hw159 (hw159.ne hw163 (by simp))
        rw [← ew170] at hw171
        have hw172 := gUp_ne (e' := .inl (t 0, 301, .inl (va_cpy gk fk 0 0 ((s.1 j).2.length)))) hw160 (hw160.ne hw163 (by simp))
        rw [← ew170] at hw172
        have hw173 := gUp_ne (e' := .inl (t 0, 301, .inl (va_cpy gk fk 0 0 ((s.1 j).2.length)))) hw167 (hw167.ne hw163 (by simp))
        rw [← ew170] at hw173
        have hw174 := gUp_ne (e' := .inl (t 0, 301, .inl (va_cpy gk fk 0 0 ((s.1 j).2.length)))) hw161 (hw161.ne hw163 (by simp))
        rw [← ew170] at hw174
        have hw175 := gUp_ne (e' := .inl (t 0, 301, .inl (va_cpy gk fk 0 0 ((s.1 j).2.length)))) hw162 (hw162.ne hw163 (by simp))
        rw [← ew170] at hw175
        have hw176 := gUp_ne (e' := .inl (t 0, 301, .inl (va_cpy gk fk 0 0 ((s.1 j).2.length)))) hw164 (hw164.ne hw163 (by simp))
        rw [← ew170] at hw176
        have hw177 := gUp_ne (e' := .inl (t 0, 301, .inl (va_cpy gk fk 0 0 ((s.1 j).2.length)))) hw165 (hne (20 + j) (20 + i) (by omega) (by omega) (by omega))
        rw [← ew170] at hw177
        have hw178 := gUp_ne (e' := .inl (t 0, 301, .inl (va_cpy gk fk 0 0 ((s.1 j).2.length)))) hw166 (hw166.ne hw163 (by simp))
        rw [← ew170] at hw178
        have hw179 := gUp_self (e' := .inl (t 0, 301, .inl (va_cpy gk fk 0 0 ((s.1 j).2.length)))) hw163
        rw [← ew170] at hw179
        have kpw180 := kpw168.up (a := (u (20 + i))) (e := .inl (t 0, 301, .inl (va_cpy gk fk 0 0 ((s.1 j).2.length)))) (by simp)
        rw [← ew170] at kpw180
        refine j_aload_n O 0 dM_copy_67 rfl rfl ?_
        refine j_get O uwM hw171 rfl 3 (by decide) w450 rfl rfl dM_copy_68 ?_
        refine j_iload_n O 2 dM_copy_71 rfl rfl ?_
        refine j_aaldA O hw175 5 rfl (by omega) (by omega) dM_copy_72 ?_
        refine j_some (u (26 + j)) hLj ?_
        refine j_iconst O (v := 0) dM_copy_73 (by decide) ?_
        refine j_aload_n O 0 dM_copy_74 rfl rfl ?_
        refine j_get O uwM hw171 rfl 3 (by decide) w450 rfl rfl dM_copy_75 ?_
        refine j_iload_n O 1 dM_copy_78 rfl rfl ?_
        refine j_aaldA O hw175 5 rfl (by omega) (by omega) dM_copy_79 ?_
        refine j_some (u (26 + i)) hLi ?_
        refine j_iconst O (v := 0) dM_copy_80 (by decide) ?_
        refine j_bipush O (v := 6) dM_copy_81 (by decide) ?_
        refine j_aload_n O 0 dM_copy_83 rfl rfl ?_
        refine j_get O uwM hw171 rfl 1 (by decide) w448 rfl rfl dM_copy_84 ?_
        refine j_iload_n O 1 dM_copy_87 rfl rfl ?_
        refine j_iald O hw173 0 rfl (by omega) (by omega) dM_copy_88 ?_
        refine j_eqi (nI (s.1 j).2.length) pk_us ?_
        refine j_imul O dM_copy_89 ?_
        refine j_eqi (nI (6 * (s.1 j).2.length)) (pk_mul 6 _) ?_
        refine j_copyl O w444 w446 w445 w30 hw178 hw176 3 3 rfl rfl (i := 0) (j := 0) (m := (6 * (s.1 j).2.length)) (by omega) (by omega) (by decide) (by decide) (Nat.le_of_ble_eq_true rfl) (Nat.le_of_ble_eq_true rfl) dM_copy_90 (fun gw181 ew182 => ?_)
        have hw183 := gUp_ne (e' := .inl (t 3, 1806, .inr (.inl (va_cpy gc fc 0 0 (6 * (s.1 j).2.length))))) hw171 (hw171.ne hw176 (by simp))
        rw [← ew182] at hw183
        have hw184 := gUp_ne (e' := .inl (t 3, 1806, .inr (.inl (va_cpy gc fc 0 0 (6 * (s.1 j).2.length))))) hw172 (hw172.ne hw176 (by simp))
        rw [← ew182] at hw184
        have hw185 := gUp_ne (e' := .inl (t 3, 1806, .inr (.inl (va_cpy gc fc 0 0 (6 * (s.1 j).2.length))))) hw173 (hw173.ne hw176 (by simp))
        rw [← ew182] at hw185
        have hw186 := gUp_ne (e' := .inl (t 3, 1806, .inr (.inl (va_cpy gc fc 0 0 (6 * (s.1 j).2.length))))) hw174 (hw174.ne hw176 (by simp))
        rw [← ew182] at hw186
        have hw187 := gUp_ne (e' := .inl (t 3, 1806, .inr (.inl (va_cpy gc fc 0 0 (6 * (s.1 j).2.length))))) hw175 (hw175.ne hw176 (by simp))
        rw [← ew182] at hw187
        have hw188 := gUp_ne (e' := .inl (t 3, 1806, .inr (.inl (va_cpy gc fc 0 0 (6 * (s.1 j).2.length))))) hw179 (hw179.ne hw176 (by simp))
        rw [← ew182] at hw188
        have hw189 := gUp_ne (e' := .inl (t 3, 1806, .inr (.inl (va_cpy gc fc 0 0 (6 * (s.1 j).2.length))))) hw177 (hw177.ne hw176 (by simp))
        rw [← ew182] at hw189
        have hw190 := gUp_ne (e' := .inl (t 3, 1806, .inr (.inl (va_cpy gc fc 0 0 (6 * (s.1 j).2.length))))) hw178 (hne (26 + j) (26 + i) (by omega) (by omega) (by omega))
        rw [← ew182] at hw190
        have hw191 := gUp_self (e' := .inl (t 3, 1806, .inr (.inl (va_cpy gc fc 0 0 (6 * (s.1 j).2.length))))) hw176
        rw [← ew182] at hw191
        have kpw192 := kpw180.up (a := (u (26 + i))) (e := .inl (t 3, 1806, .inr (.inl (va_cpy gc fc 0 0 (6 * (s.1 j).2.length))))) (by simp)
        rw [← ew182] at kpw192
        refine j_iconst O (v := 0) dM_copy_93 (by decide) ?_
        have hRT2 : RT t gw181 u (va_up s.1 i (s.1 j)) := by
          refine ⟨⟨_, hw184, fun a ha => ?_⟩, ⟨_, hw185, fun a ha => ?_⟩, ⟨_, hw186, hKv⟩, ⟨_, hw187, hLv⟩, fun a ha => ?_⟩
          · by_cases z : a = i
            · subst z; rw [pk_us, va_up_self]
            · rw [pk_un (by omega), va_up_ne _ _ z]; exact hCv a ha
          · by_cases z : a = i
            · subst z; rw [pk_us, va_up_self]
            · rw [pk_un (by omega), va_up_ne _ _ z]; exact hNv a ha
          · by_cases z : a = i
            · subst z; rw [va_up_self]; exact ⟨_, _, hw188, hw191, htab2.cpy t2⟩
            · rw [va_up_ne _ _ z]
              obtain ⟨f1, f2, b1, b2, b3⟩ := hrow a ha
              exact ⟨f1, f2, kpw192.2 _ _ (un4 hne (by omega) i6 (by omega) (by omega) (by omega) (by omega)) b1, kpw192.2 _ _ (un4 hne (by omega) i6 (by omega) (by omega) (by omega) (by omega)) b2, b3⟩
        exact j_iret O M (Nat.le_of_ble_eq_true rfl) (Nat.le_of_ble_eq_true rfl) ⟨rfl, hRT2, hw183, kpw192.mono (tU_sub i6)⟩ dM_copy_94
    · have hy0 : ¬ (0 ≤ y ∧ y ≤ 5) := fun z => by rw [if_pos z] at c2; exact absurd c2 (by decide)
      have er : aCopy s (nI i) y = (-1, s) := if_neg (fun z => hy0 ((in5 y).mpr z.2))
      rw [er] at M
      refine j_iconst O (v := -1) dM_copy_18 (by decide) ?_
      exact j_iret O M (Nat.le_of_ble_eq_true rfl) (Nat.le_of_ble_eq_true rfl) ⟨rfl, hRT, hM, Kp.rf⟩ dM_copy_19
