/-- the reference's store and its working arrays -/
def SB (t : Nat → ClassId) (g : GH) (u : Nat → Nat) (df : Int32) (V : List NV) : Prop := (∃ oc om lm mm ta co si, gAt g (u 19) (eM u oc om df (nI V.length) (nI (szL V)) lm mm ta co si)) ∧ (∃ f, gAt g (u 16) (eI t 301 f)) ∧ (∃ f, gAt g (u 17) (eI t 301 f)) ∧ (∃ f, gAt g (u 18) (eL t 2100 f)) ∧ (∃ f, gAt g (u 4) (eI t 301 f)) ∧ (∃ f, gAt g (u 5) (eL t 1806 f)) ∧ RS t g u (encL V) ∧ VOK V
theorem LY.sb {t : Nat → ClassId} {g : GH} {u : Nat → Nat} {oc om df : Int32} {V : List NV} {j m h k : Nat} {fv fl : Nat → Int32} {fm : Nat → Int64} (hL : LY t g u oc om df V j m h k fv fl fm) (h4 : ∃ f, gAt g (u 4) (eI t 301 f)) (h5 : ∃ f, gAt g (u 5) (eL t 1806 f)) : SB t g u df V := by
  obtain ⟨⟨si, a1⟩, a2, a3, a4, a5, a6⟩ := hL
  exact ⟨⟨_, _, _, _, _, _, _, a1⟩, ⟨_, a2⟩, ⟨_, a3⟩, ⟨_, a4⟩, h4, h5, a5, a6⟩
theorem encL_take {V X : List NV} (h : VOK V) : (encL (V ++ X)).take V.length = encL V := by
  rw [encL_app h, List.take_append_of_le_length (by rw [encL_len]; exact Nat.le_refl _)]
  rw [List.take_of_length_le (by rw [encL_len]; exact Nat.le_refl _)]
set_option maxRecDepth 100000 in
set_option maxHeartbeats 1000000 in
theorem c_M_write (l : Launch) (D : va_G) (t : Nat → ClassId) (A : Nat → Prop) (g : GH) (u : Nat → Nat) (df lm mm ta co si : Int32) (i w w0 : Nat) (tb : TB) (rs rs0 : List RV) (V0 : List NV) (fv fl fo : Nat → Int32) (fm fp : Nat → Int64) (hM : gAt g (u 19) (eM u (nI w0) (nI rs0.length) df (nI V0.length) (nI (szL V0)) lm mm ta co si)) (hv : gAt g (u 16) (eI t 301 fv)) (hl : gAt g (u 17) (eI t 301 fl)) (hm : gAt g (u 18) (eL t 2100 fm)) (ho : gAt g (u 4) (eI t 301 fo)) (hp : gAt g (u 5) (eL t 1806 fp)) (hR : RS t g u (encL V0)) (hV : VOK V0) (hRT : RT t g u tb) (i6 : i < 6) (htb : tb i = (w, rs)) (htk : tOK (w, rs)) (htk0 : tOK (w0, rs0)) (hold : tabOK fo fp w0 rs0) (hrc : ∀ r ∈ rs, rowC r) (hne : ∀ i j, i < 32 → j < 32 → i ≠ j → u i ≠ u j) : Ct l yM_write sM_write { frames := 4, cells := 0, slots := 0, locals := 240 } (zz D t A) [.ref (u 19), .int (nI i)] g 0 0 (fun v g' => ((v = some (.int (nI (news V0 (ndl rs)).length)) ∧ szL V0 + szL (news V0 (ndl rs)) ≤ 60000 ∧ RT t g' u tb ∧ SB t g' u df (V0 ++ news V0 (ndl rs))) ∨ (v = some (.int (-3)) ∧ nofitA V0 (ndl rs) ∧ RT t g' u (va_up tb i (w0, rs0)) ∧ SB t g' u df V0)) ∧ (∀ k e, (4 ≤ k ∧ k < 9) → gAt g (u k) e → gAt g' (u k) e)) := by
  refine Ct.of (cc := bM_write) (maxL := 3) (ret := (some .int)) (by decide) (Nat.le_of_ble_eq_true rfl) (fun X hlX O M hNn => ?_)
  show J X 3 (zz D t A) g 0 0 0 [(0, .ref (u 19)), (1, .int (nI i))] []
  obtain ⟨q1, q2, q3, q4, q5⟩ := id htk0
  dsimp only at q1 q2 q3 q4 q5
  refine j_aload_n O 0 dM_write_0 rfl rfl ?_
  refine j_get O uwM hM rfl 19 (by decide) w466 rfl rfl dM_write_1 ?_
  refine j_istore_n O 2 [(2, .int (nI V0.length)), (0, .ref (u 19)), (1, .int (nI i))] dM_write_4 rfl (by decide) rfl ?_
  refine j_aload_n O 0 dM_write_5 rfl rfl ?_
  refine j_iload_n O 1 dM_write_6 rfl rfl ?_
  refine j_callV O [.int (nI i)] (c_M_lay X.2.1 D t A g u (nI w0) (nI rs0.length) df lm mm ta co si i w tb rs V0 fv fl fm hM hv hl hm hR hV hRT i6 htb htk hrc hne) hM rfl w419 w420 w10 w28 w421 1 rfl rfl rfl (by decide +kernel) ⟨(Nat.le_of_ble_eq_true rfl), (Nat.le_of_ble_eq_true rfl)⟩ rfl (Nat.le_of_ble_eq_true rfl) dM_write_7 ⟨(Nat.le_of_ble_eq_true rfl), (Nat.le_of_ble_eq_true rfl)⟩ (fun vw133 gw134 hpw135 => ?_)
  have hpost := hpw135
  rcases hpost with ⟨rfl, hnf, dn, j1, m1, h1, k1, fv1, fl1, fm1, hLY, kp⟩ | ⟨rfl, m1, fv1, fl1, fm1, hLY, hf0, kp⟩
  · refine j_if_eq O 20 dM_write_10 (by decide) (fun c0 => ?_) (fun c0 => absurd rfl c0)
    obtain ⟨⟨si1, hM1⟩, hv1, hl1, hm1, hR1, hV1⟩ := id hLY
    have hM1' := hM1
    rw [← encL_len, ← siz_encL] at hM1'
    refine j_aload_n O 0 dM_write_20 rfl rfl ?_
    refine j_iload_n O 2 dM_write_21 rfl rfl ?_
    refine j_callV O [.int (nI V0.length)] (c_M_back X.2.1 D t A gw134 u (nI w0) (nI rs0.length) df (nI j1) (nI m1) (nI h1) (nI k1) si1 (encL (vst V0 dn)) (encL V0) V0.length fm1 hM1' hm1 hR1 (by rw [encL_len]; unfold vst; rw [List.length_append]; omega) (encL_take hV) hne) hM1 rfl w549 w550 w17 w28 w551 1 rfl rfl rfl (by decide +kernel) ⟨(Nat.le_of_ble_eq_true rfl), (Nat.le_of_ble_eq_true rfl)⟩ rfl (Nat.le_of_ble_eq_true rfl) dM_write_22 ⟨(Nat.le_of_ble_eq_true rfl), (Nat.le_of_ble_eq_true rfl)⟩ (fun vw136 gw137 hpw138 => ?_)
    obtain ⟨rfl, hR2, ⟨mm2, hM2⟩, ⟨fm2, hm2⟩, kp2⟩ := hpw138
    have kp2' := kp.tr (kp2.mono (lU_sub (u := u) (S := [9, 10, 11, 12, 13, 14, 15, 19, 18]) (by decide)))
    rw [siz_encL] at hM2
    have hkp2 : ∀ k e, k < 32 → (k < 9 ∨ 20 ≤ k) → gAt g (u k) e → gAt gw137 (u k) e := fun k e h0 hk q => lU_kp hne kp2' (by omega) q
    have hv2 := kp2.2 _ _ (fun z => by
      simp only [List.mem_cons, List.not_mem_nil, or_false] at z
      rcases z with z | z | z | z | z | z | z | z | z
      all_goals exact absurd z (hne _ _ (by omega) (by omega) (by omega))) hv1
    have hl2 := kp2.2 _ _ (fun z => by
      simp only [List.mem_cons, List.not_mem_nil, or_false] at z
      rcases z with z | z | z | z | z | z | z | z | z
      all_goals exact absurd z (hne _ _ (by omega) (by omega) (by omega))) hl1
    have ho2 := hkp2 4 _ (by omega) (by omega) ho
    have hp2 := hkp2 5 _ (by omega) (by omega) hp
    have hRT2 := hRT.lU hne kp2'
    obtain ⟨⟨fC, hC, hCv⟩, ⟨fN, hNn0, hNv⟩, ⟨fK, hK, hKv⟩, ⟨fL, hL, hLv⟩, hrow⟩ := id hRT2
    obtain ⟨fk, fc, hk, hc, htab⟩ := hrow i i6
    have hKi := hKv i i6
    have hLi := hLv i i6
    have kp0 : Kp [u 0, u 1, u (20 + i), u (26 + i)] gw137 gw137 := Kp.rf
    refine j_aload_n O 0 dM_write_25 rfl rfl ?_
    refine j_get O uwM hM2 rfl 0 (by decide) w447 rfl rfl dM_write_26 ?_
    refine j_iload_n O 1 dM_write_29 rfl rfl ?_
    refine j_aload_n O 0 dM_write_30 rfl rfl ?_
    refine j_get O uwM hM2 rfl 4 (by decide) w451 rfl rfl dM_write_31 ?_
    refine j_iast O hC 0 rfl i6 (by decide) dM_write_34 (fun gw139 ew140 => ?_)
    have hw141 := gUp_ne (e' := .inl (t 0, 6, .inl (upd fC i (nI w0)))) hM2 (hM2.ne hC (by simp))
    rw [← ew140] at hw141
    have hw142 := gUp_ne (e' := .inl (t 0, 6, .inl (upd fC i (nI w0)))) hNn0 (Ne.symm (hne 0 1 (by omega) (by omega) (by omega)))
    rw [← ew140] at hw142
    have hw143 := gUp_ne (e' := .inl (t 0, 6, .inl (upd fC i (nI w0)))) hK (hK.ne hC (by simp))
    rw [← ew140] at hw143
    have hw144 := gUp_ne (e' := .inl (t 0, 6, .inl (upd fC i (nI w0)))) hL (hL.ne hC (by simp))
    rw [← ew140] at hw144
    have hw145 := gUp_ne (e' := .inl (t 0, 6, .inl (upd fC i (nI w0)))) hk (hk.ne hC (by simp))
    rw [← ew140] at hw145
    have hw146 := gUp_ne (e' := .inl (t 0, 6, .inl (upd fC i (nI w0)))) hc (hc.ne hC (by simp))
    rw [← ew140] at hw146
    have hw147 := gUp_ne (e' := .inl (t 0, 6, .inl (upd fC i (nI w0)))) ho2 (ho2.ne hC (by simp))
    rw [← ew140] at hw147
    have hw148 := gUp_ne (e' := .inl (t 0, 6, .inl (upd fC i (nI w0)))) hp2 (hp2.ne hC (by simp))
    rw [← ew140] at hw148
    have hw149 := gUp_self (e' := .inl (t 0, 6, .inl (upd fC i (nI w0)))) hC
    rw [← ew140] at hw149
    have kpw150 := kp0.up (a := (u 0)) (e := .inl (t 0, 6, .inl (upd fC i (nI w0)))) (by simp)
    rw [← ew140] at kpw150
    refine j_aload_n O 0 dM_write_35 rfl rfl ?_
    refine j_get O uwM hw141 rfl 1 (by decide) w448 rfl rfl dM_write_36 ?_
    refine j_iload_n O 1 dM_write_39 rfl rfl ?_
    refine j_aload_n O 0 dM_write_40 rfl rfl ?_
    refine j_get O uwM hw141 rfl 5 (by decide) w452 rfl rfl dM_write_41 ?_
    refine j_iast O hw142 0 rfl i6 (by decide) dM_write_44 (fun gw151 ew152 => ?_)
    have hw153 := gUp_ne (e' := .inl (t 0, 6, .inl (upd fN i (nI rs0.length)))) hw141 (hw141.ne hw142 (by simp))
    rw [← ew152] at hw153
    have hw154 := gUp_ne (e' := .inl (t 0, 6, .inl (upd fN i (nI rs0.length)))) hw149 (hne 0 1 (by omega) (by omega) (by omega))
    rw [← ew152] at hw154
    have hw155 := gUp_ne (e' := .inl (t 0, 6, .inl (upd fN i (nI rs0.length)))) hw143 (hw143.ne hw142 (by simp))
    rw [← ew152] at hw155
    have hw156 := gUp_ne (e' := .inl (t 0, 6, .inl (upd fN i (nI rs0.length)))) hw144 (hw144.ne hw142 (by simp))
    rw [← ew152] at hw156
    have hw157 := gUp_ne (e' := .inl (t 0, 6, .inl (upd fN i (nI rs0.length)))) hw145 (hw145.ne hw142 (by simp))
    rw [← ew152] at hw157
    have hw158 := gUp_ne (e' := .inl (t 0, 6, .inl (upd fN i (nI rs0.length)))) hw146 (hw146.ne hw142 (by simp))
    rw [← ew152] at hw158
    have hw159 := gUp_ne (e' := .inl (t 0, 6, .inl (upd fN i (nI rs0.length)))) hw147 (hw147.ne hw142 (by simp))
    rw [← ew152] at hw159
    have hw160 := gUp_ne (e' := .inl (t 0, 6, .inl (upd fN i (nI rs0.length)))) hw148 (hw148.ne hw142 (by simp))
    rw [← ew152] at hw160
    have hw161 := gUp_self (e' := .inl (t 0, 6, .inl (upd fN i (nI rs0.length)))) hw142
    rw [← ew152] at hw161
    have kpw162 := kpw150.up (a := (u 1)) (e := .inl (t 0, 6, .inl (upd fN i (nI rs0.length)))) (by simp)
    rw [← ew152] at kpw162
    refine j_aload_n O 0 dM_write_45 rfl rfl ?_
    refine j_get O uwM hw153 rfl 6 (by decide) w453 rfl rfl dM_write_46 ?_
    refine j_iconst O (v := 0) dM_write_49 (by decide) ?_
    refine j_aload_n O 0 dM_write_50 rfl rfl ?_
    refine j_get O uwM hw153 rfl 2 (by decide) w449 rfl rfl dM_write_51 ?_
    refine j_iload_n O 1 dM_write_54 rfl rfl ?_
    refine j_aaldA O hw155 4 rfl (by omega) (by omega) dM_write_55 ?_
    refine j_some (u (20 + i)) hKi ?_
    refine j_iconst O (v := 0) dM_write_56 (by decide) ?_
    refine j_aload_n O 0 dM_write_57 rfl rfl ?_
    refine j_get O uwM hw153 rfl 5 (by decide) w452 rfl rfl dM_write_58 ?_
    refine j_copyi O w444 w446 w445 w30 hw159 hw157 0 0 rfl rfl (i := 0) (j := 0) (m := rs0.length) (by omega) (by omega) (by decide) (by decide) (Nat.le_of_ble_eq_true rfl) (Nat.le_of_ble_eq_true rfl) dM_write_61 (fun gw163 ew164 => ?_)
    have hw165 := gUp_ne (e' := .inl (t 0, 301, .inl (va_cpy fo fk 0 0 rs0.length))) hw153 (hw153.ne hw157 (by simp))
    rw [← ew164] at hw165
    have hw166 := gUp_ne (e' := .inl (t 0, 301, .inl (va_cpy fo fk 0 0 rs0.length))) hw154 (hw154.ne hw157 (by simp))
    rw [← ew164] at hw166
    have hw167 := gUp_ne (e' := .inl (t 0, 301, .inl (va_cpy fo fk 0 0 rs0.length))) hw161 (hw161.ne hw157 (by simp))
    rw [← ew164] at hw167
    have hw168 := gUp_ne (e' := .inl (t 0, 301, .inl (va_cpy fo fk 0 0 rs0.length))) hw155 (hw155.ne hw157 (by simp))
    rw [← ew164] at hw168
    have hw169 := gUp_ne (e' := .inl (t 0, 301, .inl (va_cpy fo fk 0 0 rs0.length))) hw156 (hw156.ne hw157 (by simp))
    rw [← ew164] at hw169
    have hw170 := gUp_ne (e' := .inl (t 0, 301, .inl (va_cpy fo fk 0 0 rs0.length))) hw158 (hw158.ne hw157 (by simp))
    rw [← ew164] at hw170
    have hw171 := gUp_ne (e' := .inl (t 0, 301, .inl (va_cpy fo fk 0 0 rs0.length))) hw159 (hne 4 (20 + i) (by omega) (by omega) (by omega))
    rw [← ew164] at hw171
    have hw172 := gUp_ne (e' := .inl (t 0, 301, .inl (va_cpy fo fk 0 0 rs0.length))) hw160 (hw160.ne hw157 (by simp))
    rw [← ew164] at hw172
    have hw173 := gUp_self (e' := .inl (t 0, 301, .inl (va_cpy fo fk 0 0 rs0.length))) hw157
    rw [← ew164] at hw173
    have kpw174 := kpw162.up (a := (u (20 + i))) (e := .inl (t 0, 301, .inl (va_cpy fo fk 0 0 rs0.length))) (by simp)
    rw [← ew164] at kpw174
    refine j_aload_n O 0 dM_write_64 rfl rfl ?_
    refine j_get O uwM hw165 rfl 7 (by decide) w454 rfl rfl dM_write_65 ?_
    refine j_iconst O (v := 0) dM_write_68 (by decide) ?_
    refine j_aload_n O 0 dM_write_69 rfl rfl ?_
    refine j_get O uwM hw165 rfl 3 (by decide) w450 rfl rfl dM_write_70 ?_
    refine j_iload_n O 1 dM_write_73 rfl rfl ?_
    refine j_aaldA O hw169 5 rfl (by omega) (by omega) dM_write_74 ?_
    refine j_some (u (26 + i)) hLi ?_
    refine j_iconst O (v := 0) dM_write_75 (by decide) ?_
    refine j_bipush O (v := 6) dM_write_76 (by decide) ?_
    refine j_aload_n O 0 dM_write_78 rfl rfl ?_
    refine j_get O uwM hw165 rfl 5 (by decide) w452 rfl rfl dM_write_79 ?_
    refine j_imul O dM_write_82 ?_
    refine j_eqi (nI (6 * rs0.length)) (pk_mul 6 _) ?_
    refine j_copyl O w444 w446 w445 w30 hw172 hw170 3 3 rfl rfl (i := 0) (j := 0) (m := (6 * rs0.length)) (by omega) (by omega) (by decide) (by decide) (Nat.le_of_ble_eq_true rfl) (Nat.le_of_ble_eq_true rfl) dM_write_83 (fun gw175 ew176 => ?_)
    have hw177 := gUp_ne (e' := .inl (t 3, 1806, .inr (.inl (va_cpy fp fc 0 0 (6 * rs0.length))))) hw165 (hw165.ne hw170 (by simp))
    rw [← ew176] at hw177
    have hw178 := gUp_ne (e' := .inl (t 3, 1806, .inr (.inl (va_cpy fp fc 0 0 (6 * rs0.length))))) hw166 (hw166.ne hw170 (by simp))
    rw [← ew176] at hw178
    have hw179 := gUp_ne (e' := .inl (t 3, 1806, .inr (.inl (va_cpy fp fc 0 0 (6 * rs0.length))))) hw167 (hw167.ne hw170 (by simp))
    rw [← ew176] at hw179
    have hw180 := gUp_ne (e' := .inl (t 3, 1806, .inr (.inl (va_cpy fp fc 0 0 (6 * rs0.length))))) hw168 (hw168.ne hw170 (by simp))
    rw [← ew176] at hw180
    have hw181 := gUp_ne (e' := .inl (t 3, 1806, .inr (.inl (va_cpy fp fc 0 0 (6 * rs0.length))))) hw169 (hw169.ne hw170 (by simp))
    rw [← ew176] at hw181
    have hw182 := gUp_ne (e' := .inl (t 3, 1806, .inr (.inl (va_cpy fp fc 0 0 (6 * rs0.length))))) hw173 (hw173.ne hw170 (by simp))
    rw [← ew176] at hw182
    have hw183 := gUp_ne (e' := .inl (t 3, 1806, .inr (.inl (va_cpy fp fc 0 0 (6 * rs0.length))))) hw171 (hw171.ne hw170 (by simp))
    rw [← ew176] at hw183
    have hw184 := gUp_ne (e' := .inl (t 3, 1806, .inr (.inl (va_cpy fp fc 0 0 (6 * rs0.length))))) hw172 (hne 5 (26 + i) (by omega) (by omega) (by omega))
    rw [← ew176] at hw184
    have hw185 := gUp_self (e' := .inl (t 3, 1806, .inr (.inl (va_cpy fp fc 0 0 (6 * rs0.length))))) hw170
    rw [← ew176] at hw185
    have kpw186 := kpw174.up (a := (u (26 + i))) (e := .inl (t 3, 1806, .inr (.inl (va_cpy fp fc 0 0 (6 * rs0.length))))) (by simp)
    rw [← ew176] at kpw186
    refine j_bipush O (v := -3) dM_write_86 (by decide) ?_
    have hRT3 : RT t gw175 u (va_up tb i (w0, rs0)) := by
      refine ⟨⟨_, hw178, fun a ha => ?_⟩, ⟨_, hw179, fun a ha => ?_⟩, ⟨_, hw180, hKv⟩, ⟨_, hw181, hLv⟩, fun a ha => ?_⟩
      · by_cases z : a = i
        · subst z; rw [pk_us, va_up_self]
        · rw [pk_un (by omega), va_up_ne _ _ z]; exact hCv a ha
      · by_cases z : a = i
        · subst z; rw [pk_us, va_up_self]
        · rw [pk_un (by omega), va_up_ne _ _ z]; exact hNv a ha
      · by_cases z : a = i
        · subst z; rw [va_up_self]; exact ⟨_, _, hw182, hw185, hold.cpy q2⟩
        · rw [va_up_ne _ _ z]
          obtain ⟨f1, f2, b1, b2, b3⟩ := hrow a ha
          exact ⟨f1, f2, kpw186.2 _ _ (un4 hne (by omega) i6 (by omega) (by omega) (by omega) (by omega)) b1, kpw186.2 _ _ (un4 hne (by omega) i6 (by omega) (by omega) (by omega) (by omega)) b2, b3⟩
    have hkz : ∀ k e, k < 32 → k ≠ 0 → k ≠ 1 → k < 20 → gAt gw137 (u k) e → gAt gw175 (u k) e := fun k e h0 h1 h2 h3 q => kpw186.2 _ _ (un4 hne h0 i6 h1 h2 (by omega) (by omega)) q
    have hSB : SB t gw175 u df V0 := ⟨⟨_, _, _, _, _, _, _, hw177⟩, ⟨_, hkz 16 _ (by omega) (by omega) (by omega) (by omega) hv2⟩, ⟨_, hkz 17 _ (by omega) (by omega) (by omega) (by omega) hl2⟩, ⟨_, hkz 18 _ (by omega) (by omega) (by omega) (by omega) hm2⟩, ⟨_, hw183⟩, ⟨_, hw184⟩, hR2.keep (fun k e k1 k2 q => hkz k e (by omega) (by omega) (by omega) (by omega) q), hV⟩
    exact j_iret O M (Nat.le_of_ble_eq_true rfl) (Nat.le_of_ble_eq_true rfl) ⟨Or.inr ⟨rfl, hnf, hRT3, hSB⟩, fun k e hk q => hkz k e (by omega) (by omega) (by omega) (by omega) (hkp2 k e (by omega) (by omega) q)⟩ dM_write_88
  · have hkp : ∀ k e, (4 ≤ k ∧ k < 9) → gAt g (u k) e → gAt gw134 (u k) e := fun k e hk q => lU_kp hne kp (by omega) q
    have hSB := hLY.sb ⟨_, hkp 4 _ (by omega) ho⟩ ⟨_, hkp 5 _ (by omega) hp⟩
    obtain ⟨⟨si1, hM1⟩, hv1, hl1, hm1, hR1, hV1⟩ := id hLY
    have hs1 := hR1.2.2.1
    rw [siz_encL] at hs1
    have eL : nI (vst V0 (ndl rs)).length - nI V0.length = nI (news V0 (ndl rs)).length := by
      unfold vst
      rw [List.length_append, pk_sub (by omega)]
      congr 1
      omega
    unfold vst at hs1
    rw [szL_app] at hs1
    refine j_if_eq O 20 dM_write_10 (by decide) (fun c0 => absurd c0 (by decide)) (fun c0 => ?_)
    refine j_aload_n O 0 dM_write_13 rfl rfl ?_
    refine j_get O uwM hM1 rfl 19 (by decide) w466 rfl rfl dM_write_14 ?_
    refine j_iload_n O 2 dM_write_17 rfl rfl ?_
    refine j_isub O dM_write_18 ?_
    refine j_eqi (nI (news V0 (ndl rs)).length) eL ?_
    exact j_iret O M (Nat.le_of_ble_eq_true rfl) (Nat.le_of_ble_eq_true rfl) ⟨Or.inl ⟨rfl, hs1, hRT.lU hne kp, hSB⟩, hkp⟩ dM_write_19
