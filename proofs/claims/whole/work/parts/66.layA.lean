set_option maxRecDepth 100000 in
set_option maxHeartbeats 1000000 in
theorem lay_cells {X : CX} {D : va_G} {t : Nat → ClassId} {A : Nat → Prop} {rm : Room} {g : GH} {k0 n0 : Nat} {u : Nat → Nat} {oc om df nn us lm ta co si : Int32} {i n w r m : Nat} {row : RV} {fL : Nat → Option Nat} {fc fm0 : Nat → Int64} (O : Ok X bM_lay 7 "TwinTreesModel" (zz D t A) rm) (hL : gAt g (u 3) (eLL t 6 fL)) (hLi : fL i = some (u (26 + i))) (hc : gAt g (u (26 + i)) (eL t 1806 fc)) (hcv : ∀ c, c < w → fc (6 * r + c) = cv row c) (i6 : i < 6) (hr : r < 300) (w6 : w ≤ 6) (hm6 : m + 1 + w ≤ 2100) (hne : ∀ i j, i < 32 → j < 32 → i ≠ j → u i ≠ u j) (HK : ∀ (g1 : GH) (fm1 : Nat → Int64), gAt g1 (u 19) (eM u oc om df nn us lm (nI (m + 1 + w)) ta co si) → gAt g1 (u 18) (eL t 2100 fm1) → (∀ k, k < m + 1 → fm1 k = fm0 k) → (∀ j, j < w → fm1 (m + 1 + j) = cv row j) → Kp [u 18, u 19] g g1 → J X 7 (zz D t A) g1 k0 n0 140 [(0, .ref (u 19)), (1, .int (nI i)), (2, .int 0), (3, .int (nI n)), (4, .int (nI w)), (5, .int (nI r))] []) : ∀ (d c : Nat) (g1 : GH) (fm1 : Nat → Int64), c + d = w → gAt g1 (u 19) (eM u oc om df nn us lm (nI (m + 1 + c)) ta co si) → gAt g1 (u 18) (eL t 2100 fm1) → (∀ k, k < m + 1 → fm1 k = fm0 k) → (∀ j, j < c → fm1 (m + 1 + j) = cv row j) → Kp [u 18, u 19] g g1 → J X 7 (zz D t A) g1 k0 n0 96 [(0, .ref (u 19)), (1, .int (nI i)), (2, .int 0), (3, .int (nI n)), (4, .int (nI w)), (5, .int (nI r)), (6, .int (nI c))] [] := by
  intro d
  induction d with
  | zero =>
    intro c g1 fm1 hd hM1 hm1 h1 h2 kp
    have e : c = w := by omega
    subst e
    refine j_iload O dM_lay_96 rfl ?_
    refine j_iload O dM_lay_98 rfl ?_
    refine j_icmp_ge O 140 dM_lay_100 (by decide) (fun c0 => ?_) (fun c0 => absurd (nI_le (Nat.le_refl _) (by omega)) c0)
    refine J.pk [0, 1, 2, 3, 4, 5] rfl ?_
    exact HK g1 fm1 hM1 hm1 h1 h2 kp
  | succ d ih =>
    intro c g1 fm1 hd hM1 hm1 h1 h2 kp
    have hcw : c < w := by omega
    have hL1 := kp.2 _ _ (two_ne (hne 3 18 (by omega) (by omega) (by omega)) (hne 3 19 (by omega) (by omega) (by omega))) hL
    have hc1 := kp.2 _ _ (two_ne (hne (26 + i) 18 (by omega) (by omega) (by omega)) (hne (26 + i) 19 (by omega) (by omega) (by omega))) hc
    have hv := hcv c hcw
    refine j_iload O dM_lay_96 rfl ?_
    refine j_iload O dM_lay_98 rfl ?_
    refine j_icmp_ge O 140 dM_lay_100 (by decide) (fun c0 => absurd c0 (nI_ge (by omega) (by omega))) (fun c0 => ?_)
    refine j_aload_n O 0 dM_lay_103 rfl rfl ?_
    refine j_get O uwM hM1 rfl 24 (by decide) w471 rfl rfl dM_lay_104 ?_
    refine j_aload_n O 0 dM_lay_107 rfl rfl ?_
    refine j_dup O dM_lay_108 rfl ?_
    refine j_get O uwM hM1 rfl 25 (by decide) w472 rfl rfl dM_lay_109 ?_
    refine j_dup_x1 O dM_lay_112 rfl rfl ?_
    refine j_iconst O (v := 1) dM_lay_113 (by decide) ?_
    refine j_iadd O dM_lay_114 ?_
    refine j_eqi (nI (m + 1 + c + 1)) (nI_1 _) ?_
    refine j_put O uwM hM1 rfl 25 (by decide) w472 rfl tM ftM fnM rfl (.int) (by decide +kernel) rfl rfl (Nat.le_of_ble_eq_true rfl) [.ref (u 0), .ref (u 1), .ref (u 2), .ref (u 3), .int oc, .int om, .ref (u 4), .ref (u 5), .ref (u 6), .ref (u 7), .ref (u 8), .int df, .ref (u 9), .ref (u 10), .ref (u 11), .ref (u 12), .ref (u 13), .ref (u 14), .ref (u 15), .int nn, .int us, .ref (u 16), .ref (u 17), .int lm, .ref (u 18), .int (nI (m + 1 + c + 1)), .int ta, .int co, .int si] rfl dM_lay_115 (fun gw4 ew5 => ?_)
    have hw6 := gUp_ne (e' := .inr (6, [.ref (u 0), .ref (u 1), .ref (u 2), .ref (u 3), .int oc, .int om, .ref (u 4), .ref (u 5), .ref (u 6), .ref (u 7), .ref (u 8), .int df, .ref (u 9), .ref (u 10), .ref (u 11), .ref (u 12), .ref (u 13), .ref (u 14), .ref (u 15), .int nn, .int us, .ref (u 16), .ref (u 17), .int lm, .ref (u 18), .int (nI (m + 1 + c + 1)), .int ta, .int co, .int si])) hm1 (hm1.ne hM1 (by simp))
    rw [← ew5] at hw6
    have hw7 := gUp_ne (e' := .inr (6, [.ref (u 0), .ref (u 1), .ref (u 2), .ref (u 3), .int oc, .int om, .ref (u 4), .ref (u 5), .ref (u 6), .ref (u 7), .ref (u 8), .int df, .ref (u 9), .ref (u 10), .ref (u 11), .ref (u 12), .ref (u 13), .ref (u 14), .ref (u 15), .int nn, .int us, .ref (u 16), .ref (u 17), .int lm, .ref (u 18), .int (nI (m + 1 + c + 1)), .int ta, .int co, .int si])) hL1 (hL1.ne hM1 (by simp))
    rw [← ew5] at hw7
    have hw8 := gUp_ne (e' := .inr (6, [.ref (u 0), .ref (u 1), .ref (u 2), .ref (u 3), .int oc, .int om, .ref (u 4), .ref (u 5), .ref (u 6), .ref (u 7), .ref (u 8), .int df, .ref (u 9), .ref (u 10), .ref (u 11), .ref (u 12), .ref (u 13), .ref (u 14), .ref (u 15), .int nn, .int us, .ref (u 16), .ref (u 17), .int lm, .ref (u 18), .int (nI (m + 1 + c + 1)), .int ta, .int co, .int si])) hc1 (hc1.ne hM1 (by simp))
    rw [← ew5] at hw8
    have hw9 := gUp_self (e' := .inr (6, [.ref (u 0), .ref (u 1), .ref (u 2), .ref (u 3), .int oc, .int om, .ref (u 4), .ref (u 5), .ref (u 6), .ref (u 7), .ref (u 8), .int df, .ref (u 9), .ref (u 10), .ref (u 11), .ref (u 12), .ref (u 13), .ref (u 14), .ref (u 15), .int nn, .int us, .ref (u 16), .ref (u 17), .int lm, .ref (u 18), .int (nI (m + 1 + c + 1)), .int ta, .int co, .int si])) hM1
    rw [← ew5] at hw9
    have kpw10 := kp.up (a := (u 19)) (e := .inr (6, [.ref (u 0), .ref (u 1), .ref (u 2), .ref (u 3), .int oc, .int om, .ref (u 4), .ref (u 5), .ref (u 6), .ref (u 7), .ref (u 8), .int df, .ref (u 9), .ref (u 10), .ref (u 11), .ref (u 12), .ref (u 13), .ref (u 14), .ref (u 15), .int nn, .int us, .ref (u 16), .ref (u 17), .int lm, .ref (u 18), .int (nI (m + 1 + c + 1)), .int ta, .int co, .int si])) (by simp)
    rw [← ew5] at kpw10
    refine j_aload_n O 0 dM_lay_118 rfl rfl ?_
    refine j_get O uwM hw9 rfl 3 (by decide) w450 rfl rfl dM_lay_119 ?_
    refine j_iload_n O 1 dM_lay_122 rfl rfl ?_
    refine j_aaldA O hw7 5 rfl (by omega) (by omega) dM_lay_123 ?_
    refine j_some (u (26 + i)) hLi ?_
    refine j_bipush O (v := 6) dM_lay_124 (by decide) ?_
    refine j_iload O dM_lay_126 rfl ?_
    refine j_imul O dM_lay_128 ?_
    refine j_eqi (nI (6 * r)) (pk_mul 6 _) ?_
    refine j_iload O dM_lay_129 rfl ?_
    refine j_iadd O dM_lay_131 ?_
    refine j_eqi (nI (6 * r + c)) (nI_add _ _) ?_
    refine j_lald O hw8 3 rfl (by omega) (by omega) dM_lay_132 ?_
    refine j_eql (cv row c) hv ?_
    refine j_last O hw6 3 rfl (by omega) (by decide) dM_lay_133 (fun gw11 ew12 => ?_)
    have hw13 := gUp_ne (e' := .inl (t 3, 2100, .inr (.inl (vp_updL fm1 (m + 1 + c) (cv row c))))) hw9 (hw9.ne hw6 (by simp))
    rw [← ew12] at hw13
    have hw14 := gUp_ne (e' := .inl (t 3, 2100, .inr (.inl (vp_updL fm1 (m + 1 + c) (cv row c))))) hw7 (hw7.ne hw6 (by simp))
    rw [← ew12] at hw14
    have hw15 := gUp_ne (e' := .inl (t 3, 2100, .inr (.inl (vp_updL fm1 (m + 1 + c) (cv row c))))) hw8 (hw8.ne hw6 (by simp))
    rw [← ew12] at hw15
    have hw16 := gUp_self (e' := .inl (t 3, 2100, .inr (.inl (vp_updL fm1 (m + 1 + c) (cv row c))))) hw6
    rw [← ew12] at hw16
    have kpw17 := kpw10.up (a := (u 18)) (e := .inl (t 3, 2100, .inr (.inl (vp_updL fm1 (m + 1 + c) (cv row c))))) (by simp)
    rw [← ew12] at kpw17
    refine j_iinc O (nI (c + 1)) [(6, .int (nI (c + 1))), (0, .ref (u 19)), (1, .int (nI i)), (2, .int 0), (3, .int (nI n)), (4, .int (nI w)), (5, .int (nI r))] dM_lay_134 rfl (nI_1 _) (by decide) rfl ?_
    refine j_goto O 96 dM_lay_137 (by decide) ?_
    refine J.pk [1, 2, 3, 4, 5, 6, 0] rfl ?_
    exact ih (c + 1) gw11 _ (by omega) hw13 hw16 (fun k hk => by
      show vp_updL fm1 (m + 1 + c) _ k = _
      unfold vp_updL
      rw [if_neg (by omega)]
      exact h1 k hk) (fun j hj => by
      show vp_updL fm1 (m + 1 + c) _ (m + 1 + j) = _
      unfold vp_updL
      by_cases z : j = c
      · subst z; rw [if_pos rfl]
      · rw [if_neg (by omega)]; exact h2 j (by omega)) kpw17
set_option maxRecDepth 100000 in
set_option maxHeartbeats 1000000 in
theorem lay_row {X : CX} {D : va_G} {t : Nat → ClassId} {A : Nat → Prop} {rm : Room} {g : GH} {k0 n0 : Nat} {u : Nat → Nat} {oc om df nn us lm ta co si : Int32} {i w r m : Nat} {tb : TB} {rs : List RV} {fm : Nat → Int64} (O : Ok X bM_lay 7 "TwinTreesModel" (zz D t A) rm) (hM : gAt g (u 19) (eM u oc om df nn us lm (nI m) ta co si)) (hm : gAt g (u 18) (eL t 2100 fm)) (hRT : RT t g u tb) (i6 : i < 6) (htb : tb i = (w, rs)) (hr : r < rs.length) (hl3 : rs.length ≤ 300) (w6 : w ≤ 6) (hwr : ∀ q ∈ rs, q.2.1.length = w) (hm6 : m + 1 + w ≤ 2100) (hne : ∀ i j, i < 32 → j < 32 → i ≠ j → u i ≠ u j) (HK : ∀ (g1 : GH) (fm1 : Nat → Int64), gAt g1 (u 19) (eM u oc om df nn us lm (nI (m + 1 + w)) ta co si) → gAt g1 (u 18) (eL t 2100 fm1) → (∀ k, k < m → fm1 k = fm k) → (∀ k (hk : k < (rowE rs[r]).length), fm1 (m + k) = (rowE rs[r])[k]) → Kp [u 18, u 19] g g1 → J X 7 (zz D t A) g1 k0 n0 140 [(0, .ref (u 19)), (1, .int (nI i)), (2, .int 0), (3, .int (nI rs.length)), (4, .int (nI w)), (5, .int (nI r))] []) :  J X 7 (zz D t A) g k0 n0 45 [(0, .ref (u 19)), (1, .int (nI i)), (2, .int 0), (3, .int (nI rs.length)), (4, .int (nI w)), (5, .int (nI r))] [] := by
  obtain ⟨⟨fC, hC, hCv⟩, ⟨fN, hNn0, hNv⟩, ⟨fK, hK, hKv⟩, ⟨fL, hL, hLv⟩, hrow⟩ := id hRT
  obtain ⟨fk, fc, hk, hc, htab⟩ := hrow i i6
  rw [htb] at htab
  have hKi := hKv i i6
  have hLi := hLv i i6
  obtain ⟨hkr, hcr⟩ := htab r hr
  dsimp only at hkr hcr
  have kp0 : Kp [u 18, u 19] g g := Kp.rf
  refine j_iload O dM_lay_45 rfl ?_
  refine j_iload_n O 3 dM_lay_47 rfl rfl ?_
  refine j_icmp_lt O 62 dM_lay_48 (by decide) (fun c0 => ?_) (fun c0 => absurd (nI_lt hr (by omega)) c0)
  refine j_iload_n O 2 dM_lay_62 rfl rfl ?_
  refine j_iload_n O 3 dM_lay_63 rfl rfl ?_
  refine j_icmp_ge O 140 dM_lay_64 (by decide) (fun c1 => absurd c1 (nI_ge (a := 0) (b := rs.length) (by omega) (by omega))) (fun c1 => ?_)
  refine j_aload_n O 0 dM_lay_67 rfl rfl ?_
  refine j_get O uwM hM rfl 24 (by decide) w471 rfl rfl dM_lay_68 ?_
  refine j_aload_n O 0 dM_lay_71 rfl rfl ?_
  refine j_dup O dM_lay_72 rfl ?_
  refine j_get O uwM hM rfl 25 (by decide) w472 rfl rfl dM_lay_73 ?_
  refine j_dup_x1 O dM_lay_76 rfl rfl ?_
  refine j_iconst O (v := 1) dM_lay_77 (by decide) ?_
  refine j_iadd O dM_lay_78 ?_
  refine j_eqi (nI (m + 1)) (nI_1 _) ?_
  refine j_put O uwM hM rfl 25 (by decide) w472 rfl tM ftM fnM rfl (.int) (by decide +kernel) rfl rfl (Nat.le_of_ble_eq_true rfl) [.ref (u 0), .ref (u 1), .ref (u 2), .ref (u 3), .int oc, .int om, .ref (u 4), .ref (u 5), .ref (u 6), .ref (u 7), .ref (u 8), .int df, .ref (u 9), .ref (u 10), .ref (u 11), .ref (u 12), .ref (u 13), .ref (u 14), .ref (u 15), .int nn, .int us, .ref (u 16), .ref (u 17), .int lm, .ref (u 18), .int (nI (m + 1)), .int ta, .int co, .int si] rfl dM_lay_79 (fun gw18 ew19 => ?_)
  have hw20 := gUp_ne (e' := .inr (6, [.ref (u 0), .ref (u 1), .ref (u 2), .ref (u 3), .int oc, .int om, .ref (u 4), .ref (u 5), .ref (u 6), .ref (u 7), .ref (u 8), .int df, .ref (u 9), .ref (u 10), .ref (u 11), .ref (u 12), .ref (u 13), .ref (u 14), .ref (u 15), .int nn, .int us, .ref (u 16), .ref (u 17), .int lm, .ref (u 18), .int (nI (m + 1)), .int ta, .int co, .int si])) hm (hm.ne hM (by simp))
  rw [← ew19] at hw20
  have hw21 := gUp_ne (e' := .inr (6, [.ref (u 0), .ref (u 1), .ref (u 2), .ref (u 3), .int oc, .int om, .ref (u 4), .ref (u 5), .ref (u 6), .ref (u 7), .ref (u 8), .int df, .ref (u 9), .ref (u 10), .ref (u 11), .ref (u 12), .ref (u 13), .ref (u 14), .ref (u 15), .int nn, .int us, .ref (u 16), .ref (u 17), .int lm, .ref (u 18), .int (nI (m + 1)), .int ta, .int co, .int si])) hK (hK.ne hM (by simp))
  rw [← ew19] at hw21
  have hw22 := gUp_ne (e' := .inr (6, [.ref (u 0), .ref (u 1), .ref (u 2), .ref (u 3), .int oc, .int om, .ref (u 4), .ref (u 5), .ref (u 6), .ref (u 7), .ref (u 8), .int df, .ref (u 9), .ref (u 10), .ref (u 11), .ref (u 12), .ref (u 13), .ref (u 14), .ref (u 15), .int nn, .int us, .ref (u 16), .ref (u 17), .int lm, .ref (u 18), .int (nI (m + 1)), .int ta, .int co, .int si])) hL (hL.ne hM (by simp))
  rw [← ew19] at hw22
  have hw23 := gUp_ne (e' := .inr (6, [.ref (u 0), .ref (u 1), .ref (u 2), .ref (u 3), .int oc, .int om, .ref (u 4), .ref (u 5), .ref (u 6), .ref (u 7), .ref (u 8), .int df, .ref (u 9), .ref (u 10), .ref (u 11), .ref (u 12), .ref (u 13), .ref (u 14), .ref (u 15), .int nn, .int us, .ref (u 16), .ref (u 17), .int lm, .ref (u 18), .int (nI (m + 1)), .int ta, .int co, .int si])) hk (hk.ne hM (by simp))
  rw [← ew19] at hw23
  have hw24 := gUp_ne (e' := .inr (6, [.ref (u 0), .ref (u 1), .ref (u 2), .ref (u 3), .int oc, .int om, .ref (u 4), .ref (u 5), .ref (u 6), .ref (u 7), .ref (u 8), .int df, .ref (u 9), .ref (u 10), .ref (u 11), .ref (u 12), .ref (u 13), .ref (u 14), .ref (u 15), .int nn, .int us, .ref (u 16), .ref (u 17), .int lm, .ref (u 18), .int (nI (m + 1)), .int ta, .int co, .int si])) hc (hc.ne hM (by simp))
  rw [← ew19] at hw24
  have hw25 := gUp_self (e' := .inr (6, [.ref (u 0), .ref (u 1), .ref (u 2), .ref (u 3), .int oc, .int om, .ref (u 4), .ref (u 5), .ref (u 6), .ref (u 7), .ref (u 8), .int df, .ref (u 9), .ref (u 10), .ref (u 11), .ref (u 12), .ref (u 13), .ref (u 14), .ref (u 15), .int nn, .int us, .ref (u 16), .ref (u 17), .int lm, .ref (u 18), .int (nI (m + 1)), .int ta, .int co, .int si])) hM
  rw [← ew19] at hw25
  have kpw26 := kp0.up (a := (u 19)) (e := .inr (6, [.ref (u 0), .ref (u 1), .ref (u 2), .ref (u 3), .int oc, .int om, .ref (u 4), .ref (u 5), .ref (u 6), .ref (u 7), .ref (u 8), .int df, .ref (u 9), .ref (u 10), .ref (u 11), .ref (u 12), .ref (u 13), .ref (u 14), .ref (u 15), .int nn, .int us, .ref (u 16), .ref (u 17), .int lm, .ref (u 18), .int (nI (m + 1)), .int ta, .int co, .int si])) (by simp)
  rw [← ew19] at kpw26
  refine j_aload_n O 0 dM_lay_82 rfl rfl ?_
  refine j_get O uwM hw25 rfl 2 (by decide) w449 rfl rfl dM_lay_83 ?_
  refine j_iload_n O 1 dM_lay_86 rfl rfl ?_
  refine j_aaldA O hw21 4 rfl (by omega) (by omega) dM_lay_87 ?_
  refine j_some (u (20 + i)) hKi ?_
  refine j_iload O dM_lay_88 rfl ?_
  refine j_iald O hw23 0 rfl (by omega) (by omega) dM_lay_90 ?_
  refine j_eqi (rs[r].1) hkr ?_
  refine j_i2l O dM_lay_91 ?_
  refine j_last O hw20 3 rfl (by omega) (by decide) dM_lay_92 (fun gw27 ew28 => ?_)
  have hw29 := gUp_ne (e' := .inl (t 3, 2100, .inr (.inl (vp_updL fm m ((rs[r].1).toInt64))))) hw25 (hw25.ne hw20 (by simp))
  rw [← ew28] at hw29
  have hw30 := gUp_ne (e' := .inl (t 3, 2100, .inr (.inl (vp_updL fm m ((rs[r].1).toInt64))))) hw21 (hw21.ne hw20 (by simp))
  rw [← ew28] at hw30
  have hw31 := gUp_ne (e' := .inl (t 3, 2100, .inr (.inl (vp_updL fm m ((rs[r].1).toInt64))))) hw22 (hw22.ne hw20 (by simp))
  rw [← ew28] at hw31
  have hw32 := gUp_ne (e' := .inl (t 3, 2100, .inr (.inl (vp_updL fm m ((rs[r].1).toInt64))))) hw23 (hw23.ne hw20 (by simp))
  rw [← ew28] at hw32
  have hw33 := gUp_ne (e' := .inl (t 3, 2100, .inr (.inl (vp_updL fm m ((rs[r].1).toInt64))))) hw24 (hw24.ne hw20 (by simp))
  rw [← ew28] at hw33
  have hw34 := gUp_self (e' := .inl (t 3, 2100, .inr (.inl (vp_updL fm m ((rs[r].1).toInt64))))) hw20
  rw [← ew28] at hw34
  have kpw35 := kpw26.up (a := (u 18)) (e := .inl (t 3, 2100, .inr (.inl (vp_updL fm m ((rs[r].1).toInt64))))) (by simp)
  rw [← ew28] at kpw35
  refine j_iconst O (v := 0) dM_lay_93 (by decide) ?_
  refine j_istore O [(6, .int 0), (0, .ref (u 19)), (1, .int (nI i)), (2, .int 0), (3, .int (nI rs.length)), (4, .int (nI w)), (5, .int (nI r))] dM_lay_94 (by decide) rfl ?_
  refine J.pk [1, 2, 3, 4, 5, 6, 0] rfl ?_
  refine lay_cells O (row := rs[r]) (fm0 := vp_updL fm m ((rs[r].1).toInt64)) hw31 hLi hw33 hcr i6 (by omega) w6 hm6 hne (fun g1 fm1 q1 q2 q3 q4 q5 => ?_) w 0 gw27 _ (by omega) hw29 hw34 (fun k _ => rfl) (fun j hj => by omega) Kp.rf
  refine HK g1 fm1 q1 q2 (fun k hk => ?_) (fun k hk => ?_) (kpw35.tr q5)
  · rw [q3 k (by omega)]
    show vp_updL fm m _ k = _
    unfold vp_updL
    rw [if_neg (by omega)]
  · have hk0 := id hk
    rw [rowE_len, hwr _ (List.getElem_mem hr)] at hk0
    cases k with
    | zero =>
      rw [q3 _ (by omega)]
      show vp_updL fm m _ (m + 0) = _
      unfold vp_updL
      rw [if_pos (by rfl)]
      rfl
    | succ k =>
      have := q4 k (by omega)
      rw [show m + (k + 1) = m + 1 + k by omega, this]
      simp [rowE]
