set_option maxRecDepth 100000 in
set_option maxHeartbeats 1000000 in
theorem node_new {X : CX} {D : va_G} {t : Nat → ClassId} {A : Nat → Prop} {rm : Room} {g : GH} {u : Nat → Nat} {oc om df lm ta co si : Int32} {Ls : List ME} {h w : Nat} {c : List Int64} {fm : Nat → Int64}  (O : Ok X bM_node 5 "TwinTreesModel" (zz D t A) rm) (M : Om X (zz D t A) (some .int) 0 0 (fun v g' => (∃ (n : Nat) (hn : n < Ls.length), Ls[n] = (h, w, c) ∧ v = some (.int (nI n)) ∧ g' = g) ∨ ((h, w, c) ∉ Ls ∧ (60000 < siz Ls + c.length ∨ Ls.length = 60000) ∧ v = some (.int (-2)) ∧ g' = g) ∨ ((h, w, c) ∉ Ls ∧ v = some (.int (nI Ls.length)) ∧ RS t g' u (Ls ++ [(h, w, c)]) ∧ gAt g' (u 19) (eM u oc om df (nI (Ls.length + 1)) (nI (siz Ls + c.length)) lm (nI c.length) ta co si) ∧ Kp (sU.map u) g g'))) (hM : gAt g (u 19) (eM u oc om df (nI Ls.length) (nI (siz Ls)) lm (nI c.length) ta co si)) (hm : gAt g (u 18) (eL t 2100 fm)) (hfm : ∀ k (hk : k < c.length), fm k = c[k]) (he : eOK (h, w, c)) (hR : RS t g u Ls) (hne : ∀ i j, i < 32 → j < 32 → i ≠ j → u i ≠ u j) (hnot : (h, w, c) ∉ Ls) (hrm : 1 ≤ rm.frames ∧ 100 ≤ rm.locals) :  J X 5 (zz D t A) g 0 0 48 [(0, .ref (u 19)), (1, .int (nI h)), (2, .int (nI w)), (3, .int (nI (hsN (h, w, c))))] [] := by
  obtain ⟨⟨fh, fb, fl, fw, fc, fp, fB, a1, a2, a3, a4, a5, a6, a7, a8⟩, hl6, hs6, hok⟩ := id hR
  obtain ⟨e1, e2, e3⟩ := id he
  dsimp only at e1 e2 e3
  have hbl := hsN_lt (h, w, c)
  have kp0 : Kp [u 9, u 10, u 11, u 12, u 13, u 14, u 15, u 19] g g := Kp.rf
  have e60 : (60000 : Int32) = nI 60000 := by decide
  refine j_aload_n O 0 dM_node_48 rfl rfl ?_
  refine j_get O uwM hM rfl 20 (by decide) w467 rfl rfl dM_node_49 ?_
  refine j_aload_n O 0 dM_node_52 rfl rfl ?_
  refine j_get O uwM hM rfl 25 (by decide) w472 rfl rfl dM_node_53 ?_
  refine j_iadd O dM_node_56 ?_
  refine j_eqi (nI (siz Ls + c.length)) (nI_add _ _) ?_
  refine j_ldc O 60000 w418 dM_node_57 ?_
  refine j_eqi (nI 60000) e60 ?_
  refine j_icmp_gt O 71 dM_node_59 (by decide) (fun c1 => ?_) (fun c1 => ?_)
  · have hbig : 60000 < siz Ls + c.length := by
      rcases Nat.lt_or_ge 60000 (siz Ls + c.length) with z | z
      · exact z
      · exact absurd c1 (fun q => absurd (Int32.lt_iff_toInt_lt.mp q) (by rw [nI_toInt (by omega), nI_toInt (by omega)]; omega))
    refine j_bipush O (v := -2) dM_node_71 (by decide) ?_
    exact j_iret O M (Nat.le_of_ble_eq_true rfl) (Nat.le_of_ble_eq_true rfl) (Or.inr (Or.inl ⟨hnot, Or.inl hbig, rfl, rfl⟩)) dM_node_73
  · have hsm : siz Ls + c.length ≤ 60000 := by
      rcases Nat.lt_or_ge 60000 (siz Ls + c.length) with z | z
      · exact absurd (Int32.lt_iff_toInt_lt.mpr (by rw [nI_toInt (by omega), nI_toInt (by omega)]; omega)) c1
      · exact z
    refine j_aload_n O 0 dM_node_62 rfl rfl ?_
    refine j_get O uwM hM rfl 19 (by decide) w466 rfl rfl dM_node_63 ?_
    refine j_ldc O 60000 w418 dM_node_66 ?_
    refine j_eqi (nI 60000) e60 ?_
    refine j_icmp_ne O 74 dM_node_68 (by decide) (fun c2 => ?_) (fun c2 => ?_)
    · have hlt : Ls.length < 60000 := by
        rcases Nat.lt_or_ge Ls.length 60000 with z | z
        · exact z
        · exact absurd (by rw [show Ls.length = 60000 by omega]) c2
      refine j_aload_n O 0 dM_node_74 rfl rfl ?_
      refine j_get O uwM hM rfl 12 (by decide) w459 rfl rfl dM_node_75 ?_
      refine j_aload_n O 0 dM_node_78 rfl rfl ?_
      refine j_get O uwM hM rfl 19 (by decide) w466 rfl rfl dM_node_79 ?_
      refine j_iload_n O 1 dM_node_82 rfl rfl ?_
      refine j_iast O a1 0 rfl hlt (by decide) dM_node_83 (fun gw97 ew98 => ?_)
      have hw99 := gUp_ne (e' := .inl (t 0, 60000, .inl (upd fh Ls.length (nI h)))) hM (hM.ne a1 (by simp))
      rw [← ew98] at hw99
      have hw100 := gUp_ne (e' := .inl (t 0, 60000, .inl (upd fh Ls.length (nI h)))) hm (hm.ne a1 (by simp))
      rw [← ew98] at hw100
      have hw101 := gUp_ne (e' := .inl (t 0, 60000, .inl (upd fh Ls.length (nI h)))) a2 (hne 10 9 (by omega) (by omega) (by omega))
      rw [← ew98] at hw101
      have hw102 := gUp_ne (e' := .inl (t 0, 60000, .inl (upd fh Ls.length (nI h)))) a3 (hne 11 9 (by omega) (by omega) (by omega))
      rw [← ew98] at hw102
      have hw103 := gUp_ne (e' := .inl (t 0, 60000, .inl (upd fh Ls.length (nI h)))) a4 (hne 12 9 (by omega) (by omega) (by omega))
      rw [← ew98] at hw103
      have hw104 := gUp_ne (e' := .inl (t 0, 60000, .inl (upd fh Ls.length (nI h)))) a5 (hne 13 9 (by omega) (by omega) (by omega))
      rw [← ew98] at hw104
      have hw105 := gUp_ne (e' := .inl (t 0, 60000, .inl (upd fh Ls.length (nI h)))) a6 (a6.ne a1 (by simp))
      rw [← ew98] at hw105
      have hw106 := gUp_ne (e' := .inl (t 0, 60000, .inl (upd fh Ls.length (nI h)))) a7 (a7.ne a1 (by simp))
      rw [← ew98] at hw106
      have hw107 := gUp_self (e' := .inl (t 0, 60000, .inl (upd fh Ls.length (nI h)))) a1
      rw [← ew98] at hw107
      have kpw108 := kp0.up (a := (u 9)) (e := .inl (t 0, 60000, .inl (upd fh Ls.length (nI h)))) (by simp)
      rw [← ew98] at kpw108
      refine j_aload_n O 0 dM_node_84 rfl rfl ?_
      refine j_get O uwM hw99 rfl 15 (by decide) w462 rfl rfl dM_node_85 ?_
      refine j_aload_n O 0 dM_node_88 rfl rfl ?_
      refine j_get O uwM hw99 rfl 19 (by decide) w466 rfl rfl dM_node_89 ?_
      refine j_iload_n O 2 dM_node_92 rfl rfl ?_
      refine j_iast O hw103 0 rfl hlt (by decide) dM_node_93 (fun gw109 ew110 => ?_)
      have hw111 := gUp_ne (e' := .inl (t 0, 60000, .inl (upd fw Ls.length (nI w)))) hw99 (hw99.ne hw103 (by simp))
      rw [← ew110] at hw111
      have hw112 := gUp_ne (e' := .inl (t 0, 60000, .inl (upd fw Ls.length (nI w)))) hw100 (hw100.ne hw103 (by simp))
      rw [← ew110] at hw112
      have hw113 := gUp_ne (e' := .inl (t 0, 60000, .inl (upd fw Ls.length (nI w)))) hw107 (hne 9 12 (by omega) (by omega) (by omega))
      rw [← ew110] at hw113
      have hw114 := gUp_ne (e' := .inl (t 0, 60000, .inl (upd fw Ls.length (nI w)))) hw101 (hne 10 12 (by omega) (by omega) (by omega))
      rw [← ew110] at hw114
      have hw115 := gUp_ne (e' := .inl (t 0, 60000, .inl (upd fw Ls.length (nI w)))) hw102 (hne 11 12 (by omega) (by omega) (by omega))
      rw [← ew110] at hw115
      have hw116 := gUp_ne (e' := .inl (t 0, 60000, .inl (upd fw Ls.length (nI w)))) hw104 (hne 13 12 (by omega) (by omega) (by omega))
      rw [← ew110] at hw116
      have hw117 := gUp_ne (e' := .inl (t 0, 60000, .inl (upd fw Ls.length (nI w)))) hw105 (hw105.ne hw103 (by simp))
      rw [← ew110] at hw117
      have hw118 := gUp_ne (e' := .inl (t 0, 60000, .inl (upd fw Ls.length (nI w)))) hw106 (hw106.ne hw103 (by simp))
      rw [← ew110] at hw118
      have hw119 := gUp_self (e' := .inl (t 0, 60000, .inl (upd fw Ls.length (nI w)))) hw103
      rw [← ew110] at hw119
      have kpw120 := kpw108.up (a := (u 12)) (e := .inl (t 0, 60000, .inl (upd fw Ls.length (nI w)))) (by simp)
      rw [← ew110] at kpw120
      refine j_aload_n O 0 dM_node_94 rfl rfl ?_
      refine j_get O uwM hw111 rfl 13 (by decide) w460 rfl rfl dM_node_95 ?_
      refine j_aload_n O 0 dM_node_98 rfl rfl ?_
      refine j_get O uwM hw111 rfl 19 (by decide) w466 rfl rfl dM_node_99 ?_
      refine j_aload_n O 0 dM_node_102 rfl rfl ?_
      refine j_get O uwM hw111 rfl 20 (by decide) w467 rfl rfl dM_node_103 ?_
      refine j_iast O hw114 0 rfl hlt (by decide) dM_node_106 (fun gw121 ew122 => ?_)
      have hw123 := gUp_ne (e' := .inl (t 0, 60000, .inl (upd fb Ls.length (nI (siz Ls))))) hw111 (hw111.ne hw114 (by simp))
      rw [← ew122] at hw123
      have hw124 := gUp_ne (e' := .inl (t 0, 60000, .inl (upd fb Ls.length (nI (siz Ls))))) hw112 (hw112.ne hw114 (by simp))
      rw [← ew122] at hw124
      have hw125 := gUp_ne (e' := .inl (t 0, 60000, .inl (upd fb Ls.length (nI (siz Ls))))) hw113 (hne 9 10 (by omega) (by omega) (by omega))
      rw [← ew122] at hw125
      have hw126 := gUp_ne (e' := .inl (t 0, 60000, .inl (upd fb Ls.length (nI (siz Ls))))) hw115 (hne 11 10 (by omega) (by omega) (by omega))
      rw [← ew122] at hw126
      have hw127 := gUp_ne (e' := .inl (t 0, 60000, .inl (upd fb Ls.length (nI (siz Ls))))) hw119 (hne 12 10 (by omega) (by omega) (by omega))
      rw [← ew122] at hw127
      have hw128 := gUp_ne (e' := .inl (t 0, 60000, .inl (upd fb Ls.length (nI (siz Ls))))) hw116 (hne 13 10 (by omega) (by omega) (by omega))
      rw [← ew122] at hw128
      have hw129 := gUp_ne (e' := .inl (t 0, 60000, .inl (upd fb Ls.length (nI (siz Ls))))) hw117 (hw117.ne hw114 (by simp))
      rw [← ew122] at hw129
      have hw130 := gUp_ne (e' := .inl (t 0, 60000, .inl (upd fb Ls.length (nI (siz Ls))))) hw118 (hw118.ne hw114 (by simp))
      rw [← ew122] at hw130
      have hw131 := gUp_self (e' := .inl (t 0, 60000, .inl (upd fb Ls.length (nI (siz Ls))))) hw114
      rw [← ew122] at hw131
      have kpw132 := kpw120.up (a := (u 10)) (e := .inl (t 0, 60000, .inl (upd fb Ls.length (nI (siz Ls))))) (by simp)
      rw [← ew122] at kpw132
      refine j_aload_n O 0 dM_node_107 rfl rfl ?_
      refine j_get O uwM hw123 rfl 14 (by decide) w461 rfl rfl dM_node_108 ?_
      refine j_aload_n O 0 dM_node_111 rfl rfl ?_
      refine j_get O uwM hw123 rfl 19 (by decide) w466 rfl rfl dM_node_112 ?_
      refine j_aload_n O 0 dM_node_115 rfl rfl ?_
      refine j_get O uwM hw123 rfl 25 (by decide) w472 rfl rfl dM_node_116 ?_
      refine j_iast O hw126 0 rfl hlt (by decide) dM_node_119 (fun gw133 ew134 => ?_)
      have hw135 := gUp_ne (e' := .inl (t 0, 60000, .inl (upd fl Ls.length (nI c.length)))) hw123 (hw123.ne hw126 (by simp))
      rw [← ew134] at hw135
      have hw136 := gUp_ne (e' := .inl (t 0, 60000, .inl (upd fl Ls.length (nI c.length)))) hw124 (hw124.ne hw126 (by simp))
      rw [← ew134] at hw136
      have hw137 := gUp_ne (e' := .inl (t 0, 60000, .inl (upd fl Ls.length (nI c.length)))) hw125 (hne 9 11 (by omega) (by omega) (by omega))
      rw [← ew134] at hw137
      have hw138 := gUp_ne (e' := .inl (t 0, 60000, .inl (upd fl Ls.length (nI c.length)))) hw131 (hne 10 11 (by omega) (by omega) (by omega))
      rw [← ew134] at hw138
      have hw139 := gUp_ne (e' := .inl (t 0, 60000, .inl (upd fl Ls.length (nI c.length)))) hw127 (hne 12 11 (by omega) (by omega) (by omega))
      rw [← ew134] at hw139
      have hw140 := gUp_ne (e' := .inl (t 0, 60000, .inl (upd fl Ls.length (nI c.length)))) hw128 (hne 13 11 (by omega) (by omega) (by omega))
      rw [← ew134] at hw140
      have hw141 := gUp_ne (e' := .inl (t 0, 60000, .inl (upd fl Ls.length (nI c.length)))) hw129 (hw129.ne hw126 (by simp))
      rw [← ew134] at hw141
      have hw142 := gUp_ne (e' := .inl (t 0, 60000, .inl (upd fl Ls.length (nI c.length)))) hw130 (hw130.ne hw126 (by simp))
      rw [← ew134] at hw142
      have hw143 := gUp_self (e' := .inl (t 0, 60000, .inl (upd fl Ls.length (nI c.length)))) hw126
      rw [← ew134] at hw143
      have kpw144 := kpw132.up (a := (u 11)) (e := .inl (t 0, 60000, .inl (upd fl Ls.length (nI c.length)))) (by simp)
      rw [← ew134] at kpw144
      refine j_aload_n O 0 dM_node_120 rfl rfl ?_
      refine j_get O uwM hw135 rfl 24 (by decide) w471 rfl rfl dM_node_121 ?_
      refine j_iconst O (v := 0) dM_node_124 (by decide) ?_
      refine j_aload_n O 0 dM_node_125 rfl rfl ?_
      refine j_get O uwM hw135 rfl 17 (by decide) w464 rfl rfl dM_node_126 ?_
      refine j_aload_n O 0 dM_node_129 rfl rfl ?_
      refine j_get O uwM hw135 rfl 20 (by decide) w467 rfl rfl dM_node_130 ?_
      refine j_aload_n O 0 dM_node_133 rfl rfl ?_
      refine j_get O uwM hw135 rfl 25 (by decide) w472 rfl rfl dM_node_134 ?_
      refine j_copyl O w444 w446 w445 w30 hw136 hw141 3 3 rfl rfl (i := 0) (j := (siz Ls)) (m := c.length) (by omega) (by omega) (by decide) (by decide) hrm.1 (by show _ + (_ + 11) ≤ _; exact Nat.le_trans (Nat.le_of_ble_eq_true rfl) hrm.2) dM_node_137 (fun gw145 ew146 => ?_)
      have hw147 := gUp_ne (e' := .inl (t 3, 60000, .inr (.inl (va_cpy fm fp 0 (siz Ls) c.length)))) hw135 (hw135.ne hw141 (by simp))
      rw [← ew146] at hw147
      have hw148 := gUp_ne (e' := .inl (t 3, 60000, .inr (.inl (va_cpy fm fp 0 (siz Ls) c.length)))) hw136 (hw136.ne hw141 (by simp))
      rw [← ew146] at hw148
      have hw149 := gUp_ne (e' := .inl (t 3, 60000, .inr (.inl (va_cpy fm fp 0 (siz Ls) c.length)))) hw137 (hw137.ne hw141 (by simp))
      rw [← ew146] at hw149
      have hw150 := gUp_ne (e' := .inl (t 3, 60000, .inr (.inl (va_cpy fm fp 0 (siz Ls) c.length)))) hw138 (hw138.ne hw141 (by simp))
      rw [← ew146] at hw150
      have hw151 := gUp_ne (e' := .inl (t 3, 60000, .inr (.inl (va_cpy fm fp 0 (siz Ls) c.length)))) hw143 (hw143.ne hw141 (by simp))
      rw [← ew146] at hw151
      have hw152 := gUp_ne (e' := .inl (t 3, 60000, .inr (.inl (va_cpy fm fp 0 (siz Ls) c.length)))) hw139 (hw139.ne hw141 (by simp))
      rw [← ew146] at hw152
      have hw153 := gUp_ne (e' := .inl (t 3, 60000, .inr (.inl (va_cpy fm fp 0 (siz Ls) c.length)))) hw140 (hw140.ne hw141 (by simp))
      rw [← ew146] at hw153
      have hw154 := gUp_ne (e' := .inl (t 3, 60000, .inr (.inl (va_cpy fm fp 0 (siz Ls) c.length)))) hw142 (hw142.ne hw141 (by simp))
      rw [← ew146] at hw154
      have hw155 := gUp_self (e' := .inl (t 3, 60000, .inr (.inl (va_cpy fm fp 0 (siz Ls) c.length)))) hw141
      rw [← ew146] at hw155
      have kpw156 := kpw144.up (a := (u 14)) (e := .inl (t 3, 60000, .inr (.inl (va_cpy fm fp 0 (siz Ls) c.length)))) (by simp)
      rw [← ew146] at kpw156
      refine j_aload_n O 0 dM_node_140 rfl rfl ?_
      refine j_get O uwM hw147 rfl 16 (by decide) w463 rfl rfl dM_node_141 ?_
      refine j_aload_n O 0 dM_node_144 rfl rfl ?_
      refine j_get O uwM hw147 rfl 19 (by decide) w466 rfl rfl dM_node_145 ?_
      refine j_aload_n O 0 dM_node_148 rfl rfl ?_
      refine j_get O uwM hw147 rfl 18 (by decide) w465 rfl rfl dM_node_149 ?_
      refine j_iload_n O 3 dM_node_152 rfl rfl ?_
      refine j_iald O hw154 0 rfl (by omega) (by omega) dM_node_153 ?_
      refine j_iconst O (v := 1) dM_node_154 (by decide) ?_
      refine j_isub O dM_node_155 ?_
      refine j_iast O hw153 0 rfl hlt (by decide) dM_node_156 (fun gw157 ew158 => ?_)
      have hw159 := gUp_ne (e' := .inl (t 0, 60000, .inl (upd fc Ls.length ((fB (hsN (h, w, c))) - 1)))) hw147 (hw147.ne hw153 (by simp))
      rw [← ew158] at hw159
      have hw160 := gUp_ne (e' := .inl (t 0, 60000, .inl (upd fc Ls.length ((fB (hsN (h, w, c))) - 1)))) hw148 (hw148.ne hw153 (by simp))
      rw [← ew158] at hw160
      have hw161 := gUp_ne (e' := .inl (t 0, 60000, .inl (upd fc Ls.length ((fB (hsN (h, w, c))) - 1)))) hw149 (hne 9 13 (by omega) (by omega) (by omega))
      rw [← ew158] at hw161
      have hw162 := gUp_ne (e' := .inl (t 0, 60000, .inl (upd fc Ls.length ((fB (hsN (h, w, c))) - 1)))) hw150 (hne 10 13 (by omega) (by omega) (by omega))
      rw [← ew158] at hw162
      have hw163 := gUp_ne (e' := .inl (t 0, 60000, .inl (upd fc Ls.length ((fB (hsN (h, w, c))) - 1)))) hw151 (hne 11 13 (by omega) (by omega) (by omega))
      rw [← ew158] at hw163
      have hw164 := gUp_ne (e' := .inl (t 0, 60000, .inl (upd fc Ls.length ((fB (hsN (h, w, c))) - 1)))) hw152 (hne 12 13 (by omega) (by omega) (by omega))
      rw [← ew158] at hw164
      have hw165 := gUp_ne (e' := .inl (t 0, 60000, .inl (upd fc Ls.length ((fB (hsN (h, w, c))) - 1)))) hw155 (hw155.ne hw153 (by simp))
      rw [← ew158] at hw165
      have hw166 := gUp_ne (e' := .inl (t 0, 60000, .inl (upd fc Ls.length ((fB (hsN (h, w, c))) - 1)))) hw154 (hw154.ne hw153 (by simp))
      rw [← ew158] at hw166
      have hw167 := gUp_self (e' := .inl (t 0, 60000, .inl (upd fc Ls.length ((fB (hsN (h, w, c))) - 1)))) hw153
      rw [← ew158] at hw167
      have kpw168 := kpw156.up (a := (u 13)) (e := .inl (t 0, 60000, .inl (upd fc Ls.length ((fB (hsN (h, w, c))) - 1)))) (by simp)
      rw [← ew158] at kpw168
      refine j_aload_n O 0 dM_node_157 rfl rfl ?_
      refine j_get O uwM hw159 rfl 18 (by decide) w465 rfl rfl dM_node_158 ?_
      refine j_iload_n O 3 dM_node_161 rfl rfl ?_
      refine j_aload_n O 0 dM_node_162 rfl rfl ?_
      refine j_get O uwM hw159 rfl 19 (by decide) w466 rfl rfl dM_node_163 ?_
      refine j_iconst O (v := 1) dM_node_166 (by decide) ?_
      refine j_iadd O dM_node_167 ?_
      refine j_eqi (nI (Ls.length + 1)) (nI_1 _) ?_
      refine j_iast O hw166 0 rfl hbl (by decide) dM_node_168 (fun gw169 ew170 => ?_)
      have hw171 := gUp_ne (e' := .inl (t 0, 4096, .inl (upd fB (hsN (h, w, c)) (nI (Ls.length + 1))))) hw159 (hw159.ne hw166 (by simp))
      rw [← ew170] at hw171
      have hw172 := gUp_ne (e' := .inl (t 0, 4096, .inl (upd fB (hsN (h, w, c)) (nI (Ls.length + 1))))) hw160 (hw160.ne hw166 (by simp))
      rw [← ew170] at hw172
      have hw173 := gUp_ne (e' := .inl (t 0, 4096, .inl (upd fB (hsN (h, w, c)) (nI (Ls.length + 1))))) hw161 (hw161.ne hw166 (by simp))
      rw [← ew170] at hw173
      have hw174 := gUp_ne (e' := .inl (t 0, 4096, .inl (upd fB (hsN (h, w, c)) (nI (Ls.length + 1))))) hw162 (hw162.ne hw166 (by simp))
      rw [← ew170] at hw174
      have hw175 := gUp_ne (e' := .inl (t 0, 4096, .inl (upd fB (hsN (h, w, c)) (nI (Ls.length + 1))))) hw163 (hw163.ne hw166 (by simp))
      rw [← ew170] at hw175
      have hw176 := gUp_ne (e' := .inl (t 0, 4096, .inl (upd fB (hsN (h, w, c)) (nI (Ls.length + 1))))) hw164 (hw164.ne hw166 (by simp))
      rw [← ew170] at hw176
      have hw177 := gUp_ne (e' := .inl (t 0, 4096, .inl (upd fB (hsN (h, w, c)) (nI (Ls.length + 1))))) hw167 (hw167.ne hw166 (by simp))
      rw [← ew170] at hw177
      have hw178 := gUp_ne (e' := .inl (t 0, 4096, .inl (upd fB (hsN (h, w, c)) (nI (Ls.length + 1))))) hw165 (hw165.ne hw166 (by simp))
      rw [← ew170] at hw178
      have hw179 := gUp_self (e' := .inl (t 0, 4096, .inl (upd fB (hsN (h, w, c)) (nI (Ls.length + 1))))) hw166
      rw [← ew170] at hw179
      have kpw180 := kpw168.up (a := (u 15)) (e := .inl (t 0, 4096, .inl (upd fB (hsN (h, w, c)) (nI (Ls.length + 1))))) (by simp)
      rw [← ew170] at kpw180
      refine j_aload_n O 0 dM_node_169 rfl rfl ?_
      refine j_dup O dM_node_170 rfl ?_
      refine j_get O uwM hw171 rfl 20 (by decide) w467 rfl rfl dM_node_171 ?_
      refine j_aload_n O 0 dM_node_174 rfl rfl ?_
      refine j_get O uwM hw171 rfl 25 (by decide) w472 rfl rfl dM_node_175 ?_
      refine j_iadd O dM_node_178 ?_
      refine j_eqi (nI (siz Ls + c.length)) (nI_add _ _) ?_
      refine j_put O uwM hw171 rfl 20 (by decide) w467 rfl tM ftM fnM rfl (.int) (by decide +kernel) rfl rfl (Nat.le_of_ble_eq_true rfl) [.ref (u 0), .ref (u 1), .ref (u 2), .ref (u 3), .int oc, .int om, .ref (u 4), .ref (u 5), .ref (u 6), .ref (u 7), .ref (u 8), .int df, .ref (u 9), .ref (u 10), .ref (u 11), .ref (u 12), .ref (u 13), .ref (u 14), .ref (u 15), .int (nI Ls.length), .int (nI (siz Ls + c.length)), .ref (u 16), .ref (u 17), .int lm, .ref (u 18), .int (nI c.length), .int ta, .int co, .int si] rfl dM_node_179 (fun gw181 ew182 => ?_)
      have hw183 := gUp_ne (e' := .inr (6, [.ref (u 0), .ref (u 1), .ref (u 2), .ref (u 3), .int oc, .int om, .ref (u 4), .ref (u 5), .ref (u 6), .ref (u 7), .ref (u 8), .int df, .ref (u 9), .ref (u 10), .ref (u 11), .ref (u 12), .ref (u 13), .ref (u 14), .ref (u 15), .int (nI Ls.length), .int (nI (siz Ls + c.length)), .ref (u 16), .ref (u 17), .int lm, .ref (u 18), .int (nI c.length), .int ta, .int co, .int si])) hw172 (hw172.ne hw171 (by simp))
      rw [← ew182] at hw183
      have hw184 := gUp_ne (e' := .inr (6, [.ref (u 0), .ref (u 1), .ref (u 2), .ref (u 3), .int oc, .int om, .ref (u 4), .ref (u 5), .ref (u 6), .ref (u 7), .ref (u 8), .int df, .ref (u 9), .ref (u 10), .ref (u 11), .ref (u 12), .ref (u 13), .ref (u 14), .ref (u 15), .int (nI Ls.length), .int (nI (siz Ls + c.length)), .ref (u 16), .ref (u 17), .int lm, .ref (u 18), .int (nI c.length), .int ta, .int co, .int si])) hw173 (hw173.ne hw171 (by simp))
      rw [← ew182] at hw184
      have hw185 := gUp_ne (e' := .inr (6, [.ref (u 0), .ref (u 1), .ref (u 2), .ref (u 3), .int oc, .int om, .ref (u 4), .ref (u 5), .ref (u 6), .ref (u 7), .ref (u 8), .int df, .ref (u 9), .ref (u 10), .ref (u 11), .ref (u 12), .ref (u 13), .ref (u 14), .ref (u 15), .int (nI Ls.length), .int (nI (siz Ls + c.length)), .ref (u 16), .ref (u 17), .int lm, .ref (u 18), .int (nI c.length), .int ta, .int co, .int si])) hw174 (hw174.ne hw171 (by simp))
      rw [← ew182] at hw185
      have hw186 := gUp_ne (e' := .inr (6, [.ref (u 0), .ref (u 1), .ref (u 2), .ref (u 3), .int oc, .int om, .ref (u 4), .ref (u 5), .ref (u 6), .ref (u 7), .ref (u 8), .int df, .ref (u 9), .ref (u 10), .ref (u 11), .ref (u 12), .ref (u 13), .ref (u 14), .ref (u 15), .int (nI Ls.length), .int (nI (siz Ls + c.length)), .ref (u 16), .ref (u 17), .int lm, .ref (u 18), .int (nI c.length), .int ta, .int co, .int si])) hw175 (hw175.ne hw171 (by simp))
      rw [← ew182] at hw186
      have hw187 := gUp_ne (e' := .inr (6, [.ref (u 0), .ref (u 1), .ref (u 2), .ref (u 3), .int oc, .int om, .ref (u 4), .ref (u 5), .ref (u 6), .ref (u 7), .ref (u 8), .int df, .ref (u 9), .ref (u 10), .ref (u 11), .ref (u 12), .ref (u 13), .ref (u 14), .ref (u 15), .int (nI Ls.length), .int (nI (siz Ls + c.length)), .ref (u 16), .ref (u 17), .int lm, .ref (u 18), .int (nI c.length), .int ta, .int co, .int si])) hw176 (hw176.ne hw171 (by simp))
      rw [← ew182] at hw187
      have hw188 := gUp_ne (e' := .inr (6, [.ref (u 0), .ref (u 1), .ref (u 2), .ref (u 3), .int oc, .int om, .ref (u 4), .ref (u 5), .ref (u 6), .ref (u 7), .ref (u 8), .int df, .ref (u 9), .ref (u 10), .ref (u 11), .ref (u 12), .ref (u 13), .ref (u 14), .ref (u 15), .int (nI Ls.length), .int (nI (siz Ls + c.length)), .ref (u 16), .ref (u 17), .int lm, .ref (u 18), .int (nI c.length), .int ta, .int co, .int si])) hw177 (hw177.ne hw171 (by simp))
      rw [← ew182] at hw188
      have hw189 := gUp_ne (e' := .inr (6, [.ref (u 0), .ref (u 1), .ref (u 2), .ref (u 3), .int oc, .int om, .ref (u 4), .ref (u 5), .ref (u 6), .ref (u 7), .ref (u 8), .int df, .ref (u 9), .ref (u 10), .ref (u 11), .ref (u 12), .ref (u 13), .ref (u 14), .ref (u 15), .int (nI Ls.length), .int (nI (siz Ls + c.length)), .ref (u 16), .ref (u 17), .int lm, .ref (u 18), .int (nI c.length), .int ta, .int co, .int si])) hw178 (hw178.ne hw171 (by simp))
      rw [← ew182] at hw189
      have hw190 := gUp_ne (e' := .inr (6, [.ref (u 0), .ref (u 1), .ref (u 2), .ref (u 3), .int oc, .int om, .ref (u 4), .ref (u 5), .ref (u 6), .ref (u 7), .ref (u 8), .int df, .ref (u 9), .ref (u 10), .ref (u 11), .ref (u 12), .ref (u 13), .ref (u 14), .ref (u 15), .int (nI Ls.length), .int (nI (siz Ls + c.length)), .ref (u 16), .ref (u 17), .int lm, .ref (u 18), .int (nI c.length), .int ta, .int co, .int si])) hw179 (hw179.ne hw171 (by simp))
      rw [← ew182] at hw190
      have hw191 := gUp_self (e' := .inr (6, [.ref (u 0), .ref (u 1), .ref (u 2), .ref (u 3), .int oc, .int om, .ref (u 4), .ref (u 5), .ref (u 6), .ref (u 7), .ref (u 8), .int df, .ref (u 9), .ref (u 10), .ref (u 11), .ref (u 12), .ref (u 13), .ref (u 14), .ref (u 15), .int (nI Ls.length), .int (nI (siz Ls + c.length)), .ref (u 16), .ref (u 17), .int lm, .ref (u 18), .int (nI c.length), .int ta, .int co, .int si])) hw171
      rw [← ew182] at hw191
      have kpw192 := kpw180.up (a := (u 19)) (e := .inr (6, [.ref (u 0), .ref (u 1), .ref (u 2), .ref (u 3), .int oc, .int om, .ref (u 4), .ref (u 5), .ref (u 6), .ref (u 7), .ref (u 8), .int df, .ref (u 9), .ref (u 10), .ref (u 11), .ref (u 12), .ref (u 13), .ref (u 14), .ref (u 15), .int (nI Ls.length), .int (nI (siz Ls + c.length)), .ref (u 16), .ref (u 17), .int lm, .ref (u 18), .int (nI c.length), .int ta, .int co, .int si])) (by simp)
      rw [← ew182] at kpw192
      refine j_aload_n O 0 dM_node_182 rfl rfl ?_
      refine j_dup O dM_node_183 rfl ?_
      refine j_get O uwM hw191 rfl 19 (by decide) w466 rfl rfl dM_node_184 ?_
      refine j_iconst O (v := 1) dM_node_187 (by decide) ?_
      refine j_iadd O dM_node_188 ?_
      refine j_eqi (nI (Ls.length + 1)) (nI_1 _) ?_
      refine j_put O uwM hw191 rfl 19 (by decide) w466 rfl tM ftM fnM rfl (.int) (by decide +kernel) rfl rfl (Nat.le_of_ble_eq_true rfl) [.ref (u 0), .ref (u 1), .ref (u 2), .ref (u 3), .int oc, .int om, .ref (u 4), .ref (u 5), .ref (u 6), .ref (u 7), .ref (u 8), .int df, .ref (u 9), .ref (u 10), .ref (u 11), .ref (u 12), .ref (u 13), .ref (u 14), .ref (u 15), .int (nI (Ls.length + 1)), .int (nI (siz Ls + c.length)), .ref (u 16), .ref (u 17), .int lm, .ref (u 18), .int (nI c.length), .int ta, .int co, .int si] rfl dM_node_189 (fun gw193 ew194 => ?_)
      have hw195 := gUp_ne (e' := .inr (6, [.ref (u 0), .ref (u 1), .ref (u 2), .ref (u 3), .int oc, .int om, .ref (u 4), .ref (u 5), .ref (u 6), .ref (u 7), .ref (u 8), .int df, .ref (u 9), .ref (u 10), .ref (u 11), .ref (u 12), .ref (u 13), .ref (u 14), .ref (u 15), .int (nI (Ls.length + 1)), .int (nI (siz Ls + c.length)), .ref (u 16), .ref (u 17), .int lm, .ref (u 18), .int (nI c.length), .int ta, .int co, .int si])) hw183 (hw183.ne hw191 (by simp))
      rw [← ew194] at hw195
      have hw196 := gUp_ne (e' := .inr (6, [.ref (u 0), .ref (u 1), .ref (u 2), .ref (u 3), .int oc, .int om, .ref (u 4), .ref (u 5), .ref (u 6), .ref (u 7), .ref (u 8), .int df, .ref (u 9), .ref (u 10), .ref (u 11), .ref (u 12), .ref (u 13), .ref (u 14), .ref (u 15), .int (nI (Ls.length + 1)), .int (nI (siz Ls + c.length)), .ref (u 16), .ref (u 17), .int lm, .ref (u 18), .int (nI c.length), .int ta, .int co, .int si])) hw184 (hw184.ne hw191 (by simp))
      rw [← ew194] at hw196
      have hw197 := gUp_ne (e' := .inr (6, [.ref (u 0), .ref (u 1), .ref (u 2), .ref (u 3), .int oc, .int om, .ref (u 4), .ref (u 5), .ref (u 6), .ref (u 7), .ref (u 8), .int df, .ref (u 9), .ref (u 10), .ref (u 11), .ref (u 12), .ref (u 13), .ref (u 14), .ref (u 15), .int (nI (Ls.length + 1)), .int (nI (siz Ls + c.length)), .ref (u 16), .ref (u 17), .int lm, .ref (u 18), .int (nI c.length), .int ta, .int co, .int si])) hw185 (hw185.ne hw191 (by simp))
      rw [← ew194] at hw197
      have hw198 := gUp_ne (e' := .inr (6, [.ref (u 0), .ref (u 1), .ref (u 2), .ref (u 3), .int oc, .int om, .ref (u 4), .ref (u 5), .ref (u 6), .ref (u 7), .ref (u 8), .int df, .ref (u 9), .ref (u 10), .ref (u 11), .ref (u 12), .ref (u 13), .ref (u 14), .ref (u 15), .int (nI (Ls.length + 1)), .int (nI (siz Ls + c.length)), .ref (u 16), .ref (u 17), .int lm, .ref (u 18), .int (nI c.length), .int ta, .int co, .int si])) hw186 (hw186.ne hw191 (by simp))
      rw [← ew194] at hw198
      have hw199 := gUp_ne (e' := .inr (6, [.ref (u 0), .ref (u 1), .ref (u 2), .ref (u 3), .int oc, .int om, .ref (u 4), .ref (u 5), .ref (u 6), .ref (u 7), .ref (u 8), .int df, .ref (u 9), .ref (u 10), .ref (u 11), .ref (u 12), .ref (u 13), .ref (u 14), .ref (u 15), .int (nI (Ls.length + 1)), .int (nI (siz Ls + c.length)), .ref (u 16), .ref (u 17), .int lm, .ref (u 18), .int (nI c.length), .int ta, .int co, .int si])) hw187 (hw187.ne hw191 (by simp))
      rw [← ew194] at hw199
      have hw200 := gUp_ne (e' := .inr (6, [.ref (u 0), .ref (u 1), .ref (u 2), .ref (u 3), .int oc, .int om, .ref (u 4), .ref (u 5), .ref (u 6), .ref (u 7), .ref (u 8), .int df, .ref (u 9), .ref (u 10), .ref (u 11), .ref (u 12), .ref (u 13), .ref (u 14), .ref (u 15), .int (nI (Ls.length + 1)), .int (nI (siz Ls + c.length)), .ref (u 16), .ref (u 17), .int lm, .ref (u 18), .int (nI c.length), .int ta, .int co, .int si])) hw188 (hw188.ne hw191 (by simp))
      rw [← ew194] at hw200
      have hw201 := gUp_ne (e' := .inr (6, [.ref (u 0), .ref (u 1), .ref (u 2), .ref (u 3), .int oc, .int om, .ref (u 4), .ref (u 5), .ref (u 6), .ref (u 7), .ref (u 8), .int df, .ref (u 9), .ref (u 10), .ref (u 11), .ref (u 12), .ref (u 13), .ref (u 14), .ref (u 15), .int (nI (Ls.length + 1)), .int (nI (siz Ls + c.length)), .ref (u 16), .ref (u 17), .int lm, .ref (u 18), .int (nI c.length), .int ta, .int co, .int si])) hw189 (hw189.ne hw191 (by simp))
      rw [← ew194] at hw201
      have hw202 := gUp_ne (e' := .inr (6, [.ref (u 0), .ref (u 1), .ref (u 2), .ref (u 3), .int oc, .int om, .ref (u 4), .ref (u 5), .ref (u 6), .ref (u 7), .ref (u 8), .int df, .ref (u 9), .ref (u 10), .ref (u 11), .ref (u 12), .ref (u 13), .ref (u 14), .ref (u 15), .int (nI (Ls.length + 1)), .int (nI (siz Ls + c.length)), .ref (u 16), .ref (u 17), .int lm, .ref (u 18), .int (nI c.length), .int ta, .int co, .int si])) hw190 (hw190.ne hw191 (by simp))
      rw [← ew194] at hw202
      have hw203 := gUp_self (e' := .inr (6, [.ref (u 0), .ref (u 1), .ref (u 2), .ref (u 3), .int oc, .int om, .ref (u 4), .ref (u 5), .ref (u 6), .ref (u 7), .ref (u 8), .int df, .ref (u 9), .ref (u 10), .ref (u 11), .ref (u 12), .ref (u 13), .ref (u 14), .ref (u 15), .int (nI (Ls.length + 1)), .int (nI (siz Ls + c.length)), .ref (u 16), .ref (u 17), .int lm, .ref (u 18), .int (nI c.length), .int ta, .int co, .int si])) hw191
      rw [← ew194] at hw203
      have kpw204 := kpw192.up (a := (u 19)) (e := .inr (6, [.ref (u 0), .ref (u 1), .ref (u 2), .ref (u 3), .int oc, .int om, .ref (u 4), .ref (u 5), .ref (u 6), .ref (u 7), .ref (u 8), .int df, .ref (u 9), .ref (u 10), .ref (u 11), .ref (u 12), .ref (u 13), .ref (u 14), .ref (u 15), .int (nI (Ls.length + 1)), .int (nI (siz Ls + c.length)), .ref (u 16), .ref (u 17), .int lm, .ref (u 18), .int (nI c.length), .int ta, .int co, .int si])) (by simp)
      rw [← ew194] at kpw204
      refine j_aload_n O 0 dM_node_192 rfl rfl ?_
      refine j_get O uwM hw203 rfl 19 (by decide) w466 rfl rfl dM_node_193 ?_
      refine j_iconst O (v := 1) dM_node_196 (by decide) ?_
      refine j_isub O dM_node_197 ?_
      refine j_eqi (nI (Ls.length + 1 - 1)) (pk_sub (b := 1) (by omega)) ?_
      have hr2 := a8.app (h, w, c) fm hfm
      have hR2 : RS t gw193 u (Ls ++ [(h, w, c)]) := ⟨⟨_, _, _, _, _, _, _, hw196, hw197, hw198, hw199, hw200, hw201, hw202, hr2⟩, by rw [List.length_append, List.length_singleton]; omega, by rw [siz_app, siz_one]; exact hsm, fun x hx => by
        rcases List.mem_append.mp hx with q | q
        · exact hok x q
        · rw [List.mem_singleton.mp q]; exact he⟩
      exact j_iret O M (Nat.le_of_ble_eq_true rfl) (Nat.le_of_ble_eq_true rfl) (Or.inr (Or.inr ⟨hnot, rfl, hR2, hw203, kpw204⟩)) dM_node_198
    · have hfu : Ls.length = 60000 := by
        have q := congrArg Int32.toInt c2
        rw [nI_toInt (by omega), nI_toInt (by omega)] at q
        omega
      refine j_bipush O (v := -2) dM_node_71 (by decide) ?_
      exact j_iret O M (Nat.le_of_ble_eq_true rfl) (Nat.le_of_ble_eq_true rfl) (Or.inr (Or.inl ⟨hnot, Or.inr hfu, rfl, rfl⟩)) dM_node_73
set_option maxRecDepth 100000 in
set_option maxHeartbeats 1000000 in
theorem node_loop {X : CX} {D : va_G} {t : Nat → ClassId} {A : Nat → Prop} {rm : Room} {g : GH} {u : Nat → Nat} {oc om df lm ta co si : Int32} {Ls : List ME} {h w : Nat} {c : List Int64} {fm : Nat → Int64}  (O : Ok X bM_node 5 "TwinTreesModel" (zz D t A) rm) (M : Om X (zz D t A) (some .int) 0 0 (fun v g' => (∃ (n : Nat) (hn : n < Ls.length), Ls[n] = (h, w, c) ∧ v = some (.int (nI n)) ∧ g' = g) ∨ ((h, w, c) ∉ Ls ∧ (60000 < siz Ls + c.length ∨ Ls.length = 60000) ∧ v = some (.int (-2)) ∧ g' = g) ∨ ((h, w, c) ∉ Ls ∧ v = some (.int (nI Ls.length)) ∧ RS t g' u (Ls ++ [(h, w, c)]) ∧ gAt g' (u 19) (eM u oc om df (nI (Ls.length + 1)) (nI (siz Ls + c.length)) lm (nI c.length) ta co si) ∧ Kp (sU.map u) g g'))) (hM : gAt g (u 19) (eM u oc om df (nI Ls.length) (nI (siz Ls)) lm (nI c.length) ta co si)) (hm : gAt g (u 18) (eL t 2100 fm)) (hfm : ∀ k (hk : k < c.length), fm k = c[k]) (he : eOK (h, w, c)) (hR : RS t g u Ls) (hne : ∀ i j, i < 32 → j < 32 → i ≠ j → u i ≠ u j) (hrm : 1 ≤ rm.frames ∧ 100 ≤ rm.locals) : ∀ (n m : Nat), m ≤ n → m ≤ Ls.length → (∀ (hm : 0 < m) (hl : m - 1 < Ls.length), hsN Ls[m - 1] = hsN (h, w, c)) → (∀ i (hi : i < Ls.length), m ≤ i → Ls[i] ≠ (h, w, c)) → J X 5 (zz D t A) g 0 0 17 [(0, .ref (u 19)), (1, .int (nI h)), (2, .int (nI w)), (3, .int (nI (hsN (h, w, c)))), (4, .int (nI m - 1))] [] := by
  obtain ⟨⟨fh, fb, fl, fw, fc, fp, fB, a1, a2, a3, a4, a5, a6, a7, a8⟩, hl6, hs6, hok⟩ := id hR
  obtain ⟨e1, e2, e3⟩ := id he
  dsimp only at e1 e2 e3
  intro n
  induction n with
  | zero =>
    intro m hmn hml hhs hno
    have em : m = 0 := by omega
    subst em
    refine j_iload O dM_node_17 rfl ?_
    refine j_if_lt O 48 dM_node_19 (by decide) (fun c0 => ?_) (fun c0 => absurd (by decide) c0)
    refine J.pk [0, 1, 2, 3] rfl ?_
    exact node_new O M hM hm hfm he hR hne (fun q => by
      obtain ⟨i, hi, e⟩ := List.mem_iff_getElem.mp q
      exact hno i hi (Nat.zero_le _) e) hrm
  | succ n ih =>
    intro m hmn hml hhs hno
    rcases m with _ | m
    · skip
      refine j_iload O dM_node_17 rfl ?_
      refine j_if_lt O 48 dM_node_19 (by decide) (fun c0 => ?_) (fun c0 => absurd (by decide) c0)
      refine J.pk [0, 1, 2, 3] rfl ?_
      exact node_new O M hM hm hfm he hR hne (fun q => by
        obtain ⟨i, hi, e⟩ := List.mem_iff_getElem.mp q
        exact hno i hi (Nat.zero_le _) e) hrm
    · have hmL : m < Ls.length := by omega
      have ep : nI (m + 1) - 1 = nI m := pk_sub (a := m + 1) (b := 1) (by omega)
      rw [ep]
      have hb := hhs (by omega) (by simpa using hmL)
      simp only [Nat.add_sub_cancel] at hb
      obtain ⟨b1, b2, b3, b4, b5, b6⟩ := a8.1 m hmL
      have hst := siz_take hmL
      have hokm := hok _ (List.getElem_mem hmL)
      obtain ⟨k1, k2, k3⟩ := id hokm
      refine j_iload O dM_node_17 rfl ?_
      refine j_if_lt O 48 dM_node_19 (by decide) (fun c0 => absurd c0 (fun q => absurd (Int32.lt_iff_toInt_lt.mp q) (by rw [nI_toInt (by omega)]; show ¬ _ < (0 : Int); omega))) (fun c0 => ?_)
      refine j_aload_n O 0 dM_node_22 rfl rfl ?_
      refine j_iload O dM_node_23 rfl ?_
      refine j_iload_n O 1 dM_node_25 rfl rfl ?_
      refine j_iload_n O 2 dM_node_26 rfl rfl ?_
      refine j_callV O [.int (nI m), .int (nI h), .int (nI w)] (c_M_isMade X.2.1 D t A g u oc om df (nI Ls.length) (nI (siz Ls)) lm ta co si c.length (nI h) (nI w) fm fp fh fb fl fw m (siz (Ls.take m)) hM hm e3 a1 a2 a3 a4 a6 (by omega) b2 (fun q => by
        rw [b3] at q
        have q2 := congrArg Int32.toInt q
        rw [nI_toInt (by omega), nI_toInt (by omega)] at q2
        omega)) hM rfl w441 w442 w14 w28 w443 3 rfl rfl rfl (by decide +kernel) ⟨hrm.1, by show 8 + (5 + 11) + 0 ≤ _; omega⟩ rfl (Nat.le_of_ble_eq_true rfl) dM_node_27 ⟨Nat.zero_le _, Nat.zero_le _⟩ (fun vw205 gw206 hpw207 => ?_)
      obtain ⟨z, rfl, hz, hgg⟩ := hpw207
      have hgg := hgg.symm
      subst hgg
      refine j_if_eq O 36 dM_node_30 (by decide) (fun c1 => ?_) (fun c1 => ?_)
      · have hna := (hz.resolve_left (fun q => by rw [q.1] at c1; exact absurd c1 (by decide))).2
        have hneq : Ls[m] ≠ (h, w, c) := by
          intro q
          apply hna
          rw [b1, b3, b4, q]
          refine ⟨rfl, rfl, rfl, fun k hk => ?_⟩
          rw [b6 k (by rw [q]; exact hk), hfm k hk]
          simp only [q]
        have hle := lastB_le Ls (hsN Ls[m]) m
        refine j_aload_n O 0 dM_node_36 rfl rfl ?_
        refine j_get O uwM hM rfl 16 (by decide) w463 rfl rfl dM_node_37 ?_
        refine j_iload O dM_node_40 rfl ?_
        refine j_iald O a5 0 rfl (by omega) (by omega) dM_node_42 ?_
        refine j_eqi (nI (lastB Ls (hsN Ls[m]) m) - 1) b5 ?_
        refine j_istore O [(4, .int (nI (lastB Ls (hsN Ls[m]) m) - 1)), (0, .ref (u 19)), (1, .int (nI h)), (2, .int (nI w)), (3, .int (nI (hsN (h, w, c))))] dM_node_43 (by decide) rfl ?_
        refine j_goto O 17 dM_node_45 (by decide) ?_
        refine J.pk [1, 2, 3, 4, 0] rfl ?_
        exact ih _ (by omega) (by omega) (fun h0 hl => by
          obtain ⟨y, hy⟩ : ∃ y, lastB Ls (hsN Ls[m]) m = y + 1 := ⟨_, (Nat.sub_add_cancel h0).symm⟩
          obtain ⟨-, h2, h3⟩ := lastB_hit hy
          simp only [hy, Nat.add_sub_cancel]
          rw [h3, hb]) (fun i hi hge => by
          rcases Nat.lt_or_ge i m with q | q
          · intro e
            have := lastB_out hi hge q
            rw [e] at this
            exact this hb.symm
          · by_cases z : i = m
            · subst z; exact hneq
            · exact hno i hi (by omega))
      · have hall := (hz.resolve_right (fun q => c1 q.1)).2
        have heq : Ls[m] = (h, w, c) := by
          obtain ⟨d1, d2, d3, d4⟩ := hall
          rw [b1] at d1
          rw [b4] at d2
          rw [b3] at d3
          have d1 := nI_inj (by omega) (by omega) d1
          have d2 := nI_inj (by omega) (by omega) d2
          have d3 := nI_inj (by omega) (by omega) d3
          have d5 : Ls[m].2.2 = c := List.ext_getElem d3 (fun k z1 z2 => by rw [← b6 k z1, d4 k z2, hfm k z2])
          exact Prod.ext d1 (Prod.ext d2 d5)
        refine j_iload O dM_node_33 rfl ?_
        exact j_iret O M (Nat.le_of_ble_eq_true rfl) (Nat.le_of_ble_eq_true rfl) (Or.inl ⟨m, hmL, heq, rfl, rfl⟩) dM_node_35
set_option maxRecDepth 100000 in
set_option maxHeartbeats 1000000 in
theorem c_M_node (l : Launch) (D : va_G) (t : Nat → ClassId) (A : Nat → Prop) (g : GH) (u : Nat → Nat) (oc om df lm ta co si : Int32) (Ls : List ME) (h w : Nat) (c : List Int64) (fm : Nat → Int64) (hM : gAt g (u 19) (eM u oc om df (nI Ls.length) (nI (siz Ls)) lm (nI c.length) ta co si)) (hm : gAt g (u 18) (eL t 2100 fm)) (hfm : ∀ k (hk : k < c.length), fm k = c[k]) (he : eOK (h, w, c)) (hR : RS t g u Ls) (hne : ∀ i j, i < 32 → j < 32 → i ≠ j → u i ≠ u j) : Ct l yM_node sM_node { frames := 1, cells := 0, slots := 0, locals := 100 } (zz D t A) [.ref (u 19), .int (nI h), .int (nI w)] g 0 0 (fun v g' => (∃ (n : Nat) (hn : n < Ls.length), Ls[n] = (h, w, c) ∧ v = some (.int (nI n)) ∧ g' = g) ∨ ((h, w, c) ∉ Ls ∧ (60000 < siz Ls + c.length ∨ Ls.length = 60000) ∧ v = some (.int (-2)) ∧ g' = g) ∨ ((h, w, c) ∉ Ls ∧ v = some (.int (nI Ls.length)) ∧ RS t g' u (Ls ++ [(h, w, c)]) ∧ gAt g' (u 19) (eM u oc om df (nI (Ls.length + 1)) (nI (siz Ls + c.length)) lm (nI c.length) ta co si) ∧ Kp (sU.map u) g g')) := by
  refine Ct.of (cc := bM_node) (maxL := 5) (ret := (some .int)) (by decide) (Nat.le_of_ble_eq_true rfl) (fun X hlX O M hNn => ?_)
  show J X 5 (zz D t A) g 0 0 0 [(0, .ref (u 19)), (1, .int (nI h)), (2, .int (nI w))] []
  obtain ⟨⟨fh, fb, fl, fw, fc, fp, fB, a1, a2, a3, a4, a5, a6, a7, a8⟩, hl6, hs6, hok⟩ := id hR
  obtain ⟨e1, e2, e3⟩ := id he
  dsimp only at e1 e2 e3
  have hbl := hsN_lt (h, w, c)
  have ehs : hsh (nI h) (nI w) fm c.length = nI (hsN (h, w, c)) := by
    rw [← hsN_nI]
    exact hsh_congr (fun k hk => by rw [hfm k hk]; simp [List.getD, hk])
  refine j_aload_n O 0 dM_node_0 rfl rfl ?_
  refine j_iload_n O 1 dM_node_1 rfl rfl ?_
  refine j_iload_n O 2 dM_node_2 rfl rfl ?_
  refine j_callV O [.int (nI h), .int (nI w)] (c_M_hash X.2.1 D t A g u oc om df (nI Ls.length) (nI (siz Ls)) lm ta co si c.length (nI h) (nI w) fm hM hm e3) hM rfl w436 w437 w13 w28 w438 2 rfl rfl rfl (by decide +kernel) ⟨(Nat.le_of_ble_eq_true rfl), (Nat.le_of_ble_eq_true rfl)⟩ rfl (Nat.le_of_ble_eq_true rfl) dM_node_3 ⟨(Nat.le_of_ble_eq_true rfl), (Nat.le_of_ble_eq_true rfl)⟩ (fun vw208 gw209 hpw210 => ?_)
  obtain ⟨rfl, hgw211⟩ := hpw210
  have hgw211 := hgw211.symm
  subst hgw211
  refine j_eqi (nI (hsN (h, w, c))) ehs ?_
  refine j_istore_n O 3 [(3, .int (nI (hsN (h, w, c)))), (0, .ref (u 19)), (1, .int (nI h)), (2, .int (nI w))] dM_node_6 rfl (by decide) rfl ?_
  refine j_aload_n O 0 dM_node_7 rfl rfl ?_
  refine j_get O uwM hM rfl 18 (by decide) w465 rfl rfl dM_node_8 ?_
  refine j_iload_n O 3 dM_node_11 rfl rfl ?_
  refine j_iald O a7 0 rfl (by omega) (by omega) dM_node_12 ?_
  refine j_eqi (nI (lastB Ls (hsN (h, w, c)) Ls.length)) (a8.2 _ hbl) ?_
  refine j_iconst O (v := 1) dM_node_13 (by decide) ?_
  refine j_isub O dM_node_14 ?_
  refine j_istore O [(4, .int (nI (lastB Ls (hsN (h, w, c)) Ls.length) - 1)), (3, .int (nI (hsN (h, w, c)))), (0, .ref (u 19)), (1, .int (nI h)), (2, .int (nI w))] dM_node_15 (by decide) rfl ?_
  refine J.pk [2, 3, 4, 1, 0] rfl ?_
  exact node_loop O M hM hm hfm he hR hne ⟨(Nat.le_of_ble_eq_true rfl), (Nat.le_of_ble_eq_true rfl)⟩ _ _ (Nat.le_refl _) (lastB_le _ _ _) (fun h0 hl => by
    obtain ⟨y, hy⟩ : ∃ y, lastB Ls (hsN (h, w, c)) Ls.length = y + 1 := ⟨_, (Nat.sub_add_cancel h0).symm⟩
    obtain ⟨-, h2, h3⟩ := lastB_hit hy
    simp only [hy, Nat.add_sub_cancel]
    exact h3) (fun i hi hge e => by
    have := lastB_out hi hge hi
    rw [e] at this
    exact this rfl)
