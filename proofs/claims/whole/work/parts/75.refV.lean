theorem flat_get {w : Nat} : ∀ (rs : List RV), (∀ r ∈ rs, r.2.1.length = w) → ∀ (r : Nat) (hr : r < rs.length) (q : Nat) (hq : q < (rowE rs[r]).length), ∃ h : r * (1 + w) + q < (rs.flatMap rowE).length, (rs.flatMap rowE)[r * (1 + w) + q] = (rowE rs[r])[q]
  | [], _, r, hr, _, _ => absurd hr (Nat.not_lt_zero _)
  | a :: rs, h, 0, _, q, hq => by
    refine ⟨?_, ?_⟩
    · rw [List.flatMap_cons, List.length_append]
      simp only [List.getElem_cons_zero] at hq
      omega
    · simp only [List.flatMap_cons, Nat.zero_mul, Nat.zero_add, List.getElem_cons_zero]
      simp only [List.getElem_cons_zero] at hq
      rw [List.getElem_append_left hq]
  | a :: rs, h, r + 1, hr, q, hq => by
    have hr2 : r < rs.length := by rw [List.length_cons] at hr; omega
    simp only [List.getElem_cons_succ] at hq
    obtain ⟨h1, h2⟩ := flat_get rs (fun x hx => h x (by simp [hx])) r hr2 q hq
    have hl : (rowE a).length = 1 + w := by rw [rowE_len, h a (by simp)]
    have e : (r + 1) * (1 + w) + q = (rowE a).length + (r * (1 + w) + q) := by rw [Nat.succ_mul, hl]; omega
    refine ⟨?_, ?_⟩
    · rw [List.flatMap_cons, List.length_append]; omega
    · simp only [List.flatMap_cons, e, List.getElem_cons_succ]
      rw [List.getElem_append_right (by omega)]
      simp only [Nat.add_sub_cancel_left]
      exact h2
theorem flat_len {w : Nat} (rs : List RV) (h : ∀ r ∈ rs, r.2.1.length = w) : (rs.flatMap rowE).length = rs.length * (1 + w) := by
  induction rs with
  | nil => simp
  | cons a rs ih =>
    rw [List.flatMap_cons, List.length_append, rowE_len, h a (by simp), ih (fun x hx => h x (by simp [hx])), List.length_cons, Nat.succ_mul]
    omega
set_option maxRecDepth 100000 in
set_option maxHeartbeats 1000000 in
theorem addr_cells {X : CX} {D : va_G} {t : Nat → ClassId} {A : Nat → Prop} {rm : Room} {g : GH} {k0 n0 : Nat} {u : Nat → Nat} {oc om df nn us lm mm ta co si : Int32} {fb fl fw : Nat → Int32} {fp : Nat → Int64} {n B w : Nat} {row : RV} {b : Int64} {k : Nat} (O : Ok X bM_addressOf 8 "TwinTreesModel" (zz D t A) rm) (hM : gAt g (u 19) (eM u oc om df nn us lm mm ta co si)) (a2 : gAt g (u 10) (eI t 60000 fb)) (a3 : gAt g (u 11) (eI t 60000 fl)) (a4 : gAt g (u 12) (eI t 60000 fw)) (a6 : gAt g (u 14) (eL t 60000 fp)) (hn : n < 60000) (eb : fb n = nI B) (ew : fw n = nI w) (hw6 : w ≤ 6) (hcv : ∀ q, q < w → fp (B + k + (q + 1)) = cv row q) (hbk : B + k + w < 60000) (hrm : 1 ≤ rm.frames ∧ 40 ≤ rm.locals ∧ k0 + 0 ≤ rm.cells ∧ n0 + 0 ≤ rm.slots) (HK : J X 8 (zz D t A) g k0 n0 176 [(0, .ref (u 19)), (1, .int (nI n)), (2, .long (radG row b w)), (4, .int (nI k))] []) : ∀ (d q : Nat), q + d = w → J X 8 (zz D t A) g k0 n0 105 [(0, .ref (u 19)), (1, .int (nI n)), (2, .long (radG row b q)), (4, .int (nI k)), (5, .int (nI (q + 1)))] [] := by
  intro d
  induction d with
  | zero =>
    intro q hq
    have e : q = w := by omega
    subst e
    refine j_iload O dM_addressOf_105 rfl ?_
    refine j_aload_n O 0 dM_addressOf_107 rfl rfl ?_
    refine j_get O uwM hM rfl 15 (by decide) w462 rfl rfl dM_addressOf_108 ?_
    refine j_iload_n O 1 dM_addressOf_111 rfl rfl ?_
    refine j_iald O a4 0 rfl (by omega) (by omega) dM_addressOf_112 ?_
    refine j_eqi (nI q) ew ?_
    refine j_icmp_gt O 176 dM_addressOf_113 (by decide) (fun c0 => ?_) (fun c0 => absurd (nI_lt (by omega) (by omega)) c0)
    refine J.pk [0, 1, 2, 3] rfl ?_
    exact HK
  | succ d ih =>
    intro q hq
    have hv := hcv q (by omega)
    refine j_iload O dM_addressOf_105 rfl ?_
    refine j_aload_n O 0 dM_addressOf_107 rfl rfl ?_
    refine j_get O uwM hM rfl 15 (by decide) w462 rfl rfl dM_addressOf_108 ?_
    refine j_iload_n O 1 dM_addressOf_111 rfl rfl ?_
    refine j_iald O a4 0 rfl (by omega) (by omega) dM_addressOf_112 ?_
    refine j_eqi (nI w) ew ?_
    refine j_icmp_gt O 176 dM_addressOf_113 (by decide) (fun c0 => absurd c0 (nI_nlt (by omega) (by omega))) (fun c0 => ?_)
    refine j_aload_n O 0 dM_addressOf_116 rfl rfl ?_
    refine j_get O uwM hM rfl 17 (by decide) w464 rfl rfl dM_addressOf_117 ?_
    refine j_aload_n O 0 dM_addressOf_120 rfl rfl ?_
    refine j_get O uwM hM rfl 13 (by decide) w460 rfl rfl dM_addressOf_121 ?_
    refine j_iload_n O 1 dM_addressOf_124 rfl rfl ?_
    refine j_iald O a2 0 rfl (by omega) (by omega) dM_addressOf_125 ?_
    refine j_eqi (nI B) eb ?_
    refine j_iload O dM_addressOf_126 rfl ?_
    refine j_iadd O dM_addressOf_128 ?_
    refine j_eqi (nI (B + k)) (nI_add _ _) ?_
    refine j_iload O dM_addressOf_129 rfl ?_
    refine j_iadd O dM_addressOf_131 ?_
    refine j_eqi (nI (B + k + (q + 1))) (nI_add _ _) ?_
    refine j_lald O a6 3 rfl (by omega) (by omega) dM_addressOf_132 ?_
    refine j_eql (cv row q) hv ?_
    by_cases hb : bitN row.2.2 q = true
    · rw [cv_null hb]
      refine j_lstore O [(6, .long (-9223372036854775808)), (0, .ref (u 19)), (1, .int (nI n)), (2, .long (radG row b q)), (4, .int (nI k)), (5, .int (nI (q + 1)))] dM_addressOf_133 (by decide) rfl ?_
      refine j_lload_n O 2 dM_addressOf_135 rfl rfl ?_
      refine j_lload O dM_addressOf_136 rfl ?_
      refine j_ldc2 O (-9223372036854775808) w565 dM_addressOf_138 ?_
      refine j_lcmp O dM_addressOf_141 ?_
      refine j_if_ne O 149 dM_addressOf_142 (by decide) (fun c1 => absurd (by decide) c1) (fun c1 => ?_)
      refine j_lconst O (v := 0) dM_addressOf_145 (by decide) ?_
      refine j_goto O 150 dM_addressOf_146 (by decide) ?_
      refine j_callS O [.long (radG row b q), .long 0] (c_M_step X.2.1 D t A g _ _) w593 w594 w28 w595 2 rfl rfl rfl (by decide +kernel) ⟨by show 0 + 1 ≤ _; omega, by show 8 + (4 + 11) + 0 ≤ _; omega⟩ rfl (Nat.le_of_ble_eq_true rfl) dM_addressOf_150 ⟨hrm.2.2.1, hrm.2.2.2⟩ (fun vw294 gw295 hpw296 => ?_)
      obtain ⟨rfl, hgw297⟩ := hpw296
      have hgw297 := hgw297.symm
      subst hgw297
      refine j_eql (radG row b (q + 1)) (by rw [radG, if_pos hb]) ?_
      refine j_lstore_n O 2 [(2, .long (radG row b (q + 1))), (6, .long (-9223372036854775808)), (0, .ref (u 19)), (1, .int (nI n)), (4, .int (nI k)), (5, .int (nI (q + 1)))] dM_addressOf_153 rfl (by decide) rfl ?_
      refine j_lload O dM_addressOf_154 rfl ?_
      refine j_ldc2 O (-9223372036854775808) w565 dM_addressOf_156 ?_
      refine j_lcmp O dM_addressOf_159 ?_
      refine j_if_eq O 170 dM_addressOf_160 (by decide) (fun c2 => ?_) (fun c2 => absurd (by decide) c2)
      refine j_iinc O (nI (q + 1 + 1)) [(5, .int (nI (q + 1 + 1))), (2, .long (radG row b (q + 1))), (6, .long (-9223372036854775808)), (0, .ref (u 19)), (1, .int (nI n)), (4, .int (nI k))] dM_addressOf_170 rfl (nI_1 _) (by decide) rfl ?_
      refine j_goto O 105 dM_addressOf_173 (by decide) ?_
      refine J.pk [3, 4, 1, 5, 0] rfl ?_
      exact ih (q + 1) (by omega)
    · rw [cv_val hb]
      refine j_lstore O [(6, .long ((row.2.1.getD q 0).toInt64)), (0, .ref (u 19)), (1, .int (nI n)), (2, .long (radG row b q)), (4, .int (nI k)), (5, .int (nI (q + 1)))] dM_addressOf_133 (by decide) rfl ?_
      refine j_lload_n O 2 dM_addressOf_135 rfl rfl ?_
      refine j_lload O dM_addressOf_136 rfl ?_
      refine j_ldc2 O (-9223372036854775808) w565 dM_addressOf_138 ?_
      refine j_lcmp O dM_addressOf_141 ?_
      refine j_if_ne O 149 dM_addressOf_142 (by decide) (fun c1 => ?_) (fun c1 => absurd c1 (cmp_ne _))
      refine j_lconst O (v := 1) dM_addressOf_149 (by decide) ?_
      refine j_callS O [.long (radG row b q), .long 1] (c_M_step X.2.1 D t A g _ _) w593 w594 w28 w595 2 rfl rfl rfl (by decide +kernel) ⟨by show 0 + 1 ≤ _; omega, by show 8 + (4 + 11) + 0 ≤ _; omega⟩ rfl (Nat.le_of_ble_eq_true rfl) dM_addressOf_150 ⟨hrm.2.2.1, hrm.2.2.2⟩ (fun vw298 gw299 hpw300 => ?_)
      obtain ⟨rfl, hgw301⟩ := hpw300
      have hgw301 := hgw301.symm
      subst hgw301
      refine j_lstore_n O 2 [(2, .long (adM (radG row b q) 1)), (6, .long ((row.2.1.getD q 0).toInt64)), (0, .ref (u 19)), (1, .int (nI n)), (4, .int (nI k)), (5, .int (nI (q + 1)))] dM_addressOf_153 rfl (by decide) rfl ?_
      refine j_lload O dM_addressOf_154 rfl ?_
      refine j_ldc2 O (-9223372036854775808) w565 dM_addressOf_156 ?_
      refine j_lcmp O dM_addressOf_159 ?_
      refine j_if_eq O 170 dM_addressOf_160 (by decide) (fun c2 => absurd c2 (cmp_ne _)) (fun c2 => ?_)
      refine j_lload_n O 2 dM_addressOf_163 rfl rfl ?_
      refine j_lload O dM_addressOf_164 rfl ?_
      refine j_callS O [.long (adM (radG row b q) 1), .long ((row.2.1.getD q 0).toInt64)] (c_M_step X.2.1 D t A g _ _) w593 w594 w28 w595 2 rfl rfl rfl (by decide +kernel) ⟨by show 0 + 1 ≤ _; omega, by show 8 + (4 + 11) + 0 ≤ _; omega⟩ rfl (Nat.le_of_ble_eq_true rfl) dM_addressOf_166 ⟨hrm.2.2.1, hrm.2.2.2⟩ (fun vw302 gw303 hpw304 => ?_)
      obtain ⟨rfl, hgw305⟩ := hpw304
      have hgw305 := hgw305.symm
      subst hgw305
      refine j_eql (radG row b (q + 1)) (by rw [radG, if_neg hb]) ?_
      refine j_lstore_n O 2 [(2, .long (radG row b (q + 1))), (6, .long ((row.2.1.getD q 0).toInt64)), (0, .ref (u 19)), (1, .int (nI n)), (4, .int (nI k)), (5, .int (nI (q + 1)))] dM_addressOf_169 rfl (by decide) rfl ?_
      refine j_iinc O (nI (q + 1 + 1)) [(5, .int (nI (q + 1 + 1))), (2, .long (radG row b (q + 1))), (6, .long ((row.2.1.getD q 0).toInt64)), (0, .ref (u 19)), (1, .int (nI n)), (4, .int (nI k))] dM_addressOf_170 rfl (nI_1 _) (by decide) rfl ?_
      refine j_goto O 105 dM_addressOf_173 (by decide) ?_
      refine J.pk [3, 4, 1, 5, 0] rfl ?_
      exact ih (q + 1) (by omega)
set_option maxRecDepth 100000 in
set_option maxHeartbeats 1000000 in
theorem addr_rows {X : CX} {D : va_G} {t : Nat → ClassId} {A : Nat → Prop} {rm : Room} {g : GH} {u : Nat → Nat} {oc om df nn us lm mm ta co si : Int32} {fb fl fw : Nat → Int32} {fp : Nat → Int64} {n B w : Nat} {rs : List RV} (O : Ok X bM_addressOf 8 "TwinTreesModel" (zz D t A) rm) (M : Om X (zz D t A) (some .long) 0 0 (fun v g' => v = some (.long (nadL rs)) ∧ g' = g)) (hM : gAt g (u 19) (eM u oc om df nn us lm mm ta co si)) (a2 : gAt g (u 10) (eI t 60000 fb)) (a3 : gAt g (u 11) (eI t 60000 fl)) (a4 : gAt g (u 12) (eI t 60000 fw)) (a6 : gAt g (u 14) (eL t 60000 fp)) (hn : n < 60000) (eb : fb n = nI B) (ew : fw n = nI w) (hw6 : w ≤ 6) (el : fl n = nI (rs.length * (1 + w))) (hwr : ∀ r ∈ rs, r.2.1.length = w) (hfp : ∀ k (hk : k < (rs.flatMap rowE).length), fp (B + k) = (rs.flatMap rowE)[k]) (hB : B + rs.length * (1 + w) ≤ 60000) (hrm : 1 ≤ rm.frames ∧ 40 ≤ rm.locals) : ∀ (d r : Nat), r + d = rs.length → J X 8 (zz D t A) g 0 0 72 [(0, .ref (u 19)), (1, .int (nI n)), (2, .long (nadL (rs.take r))), (4, .int (nI (r * (1 + w))))] [] := by
  intro d
  induction d with
  | zero =>
    intro r hr
    have e : r = rs.length := by omega
    subst e
    rw [List.take_length]
    refine j_iload O dM_addressOf_72 rfl ?_
    refine j_aload_n O 0 dM_addressOf_74 rfl rfl ?_
    refine j_get O uwM hM rfl 14 (by decide) w461 rfl rfl dM_addressOf_75 ?_
    refine j_iload_n O 1 dM_addressOf_78 rfl rfl ?_
    refine j_iald O a3 0 rfl (by omega) (by omega) dM_addressOf_79 ?_
    refine j_eqi (nI (rs.length * (1 + w))) el ?_
    refine j_icmp_ge O 192 dM_addressOf_80 (by decide) (fun c0 => ?_) (fun c0 => absurd (nI_le (Nat.le_refl _) (by omega)) c0)
    refine j_lload_n O 2 dM_addressOf_192 rfl rfl ?_
    exact j_lret O M (Nat.le_of_ble_eq_true rfl) (Nat.le_of_ble_eq_true rfl) ⟨rfl, rfl⟩ dM_addressOf_193
  | succ d ih =>
    intro r hr
    have hr1 : r < rs.length := by omega
    have hrl : (rowE rs[r]).length = 1 + w := by rw [rowE_len, hwr _ (List.getElem_mem hr1)]
    have hmul : (r + 1) * (1 + w) ≤ rs.length * (1 + w) := Nat.mul_le_mul_right _ (by omega)
    rw [Nat.succ_mul] at hmul
    have hkey : fp (B + r * (1 + w)) = rs[r].1.toInt64 := by
      obtain ⟨h1, h2⟩ := flat_get rs hwr r hr1 0 (by omega)
      rw [hfp (r * (1 + w)) h1]
      exact h2
    have hcell : ∀ q, q < w → fp (B + r * (1 + w) + (q + 1)) = cv rs[r] q := fun q hq => by
      obtain ⟨h1, h2⟩ := flat_get rs hwr r hr1 (q + 1) (by omega)
      rw [show B + r * (1 + w) + (q + 1) = B + (r * (1 + w) + (q + 1)) by omega, hfp _ h1, h2]
      simp [rowE]
    have hrl2 := hwr _ (List.getElem_mem hr1)
    have hrad := radG_rad (nadL (rs.take r)) rs[r]
    rw [hrl2] at hrad
    refine j_iload O dM_addressOf_72 rfl ?_
    refine j_aload_n O 0 dM_addressOf_74 rfl rfl ?_
    refine j_get O uwM hM rfl 14 (by decide) w461 rfl rfl dM_addressOf_75 ?_
    refine j_iload_n O 1 dM_addressOf_78 rfl rfl ?_
    refine j_iald O a3 0 rfl (by omega) (by omega) dM_addressOf_79 ?_
    refine j_eqi (nI (rs.length * (1 + w))) el ?_
    refine j_icmp_ge O 192 dM_addressOf_80 (by decide) (fun c0 => absurd c0 (nI_ge (by omega) (by omega))) (fun c0 => ?_)
    refine j_lload_n O 2 dM_addressOf_83 rfl rfl ?_
    refine j_aload_n O 0 dM_addressOf_84 rfl rfl ?_
    refine j_get O uwM hM rfl 17 (by decide) w464 rfl rfl dM_addressOf_85 ?_
    refine j_aload_n O 0 dM_addressOf_88 rfl rfl ?_
    refine j_get O uwM hM rfl 13 (by decide) w460 rfl rfl dM_addressOf_89 ?_
    refine j_iload_n O 1 dM_addressOf_92 rfl rfl ?_
    refine j_iald O a2 0 rfl (by omega) (by omega) dM_addressOf_93 ?_
    refine j_eqi (nI B) eb ?_
    refine j_iload O dM_addressOf_94 rfl ?_
    refine j_iadd O dM_addressOf_96 ?_
    refine j_eqi (nI (B + (r * (1 + w)))) (nI_add _ _) ?_
    refine j_lald O a6 3 rfl (by omega) (by omega) dM_addressOf_97 ?_
    refine j_eql (rs[r].1.toInt64) hkey ?_
    refine j_callS O [.long (nadL (rs.take r)), .long (rs[r].1.toInt64)] (c_M_step X.2.1 D t A g _ _) w593 w594 w28 w595 2 rfl rfl rfl (by decide +kernel) ⟨by show 0 + 1 ≤ _; omega, by show 8 + (4 + 11) + 0 ≤ _; omega⟩ rfl (Nat.le_of_ble_eq_true rfl) dM_addressOf_98 ⟨Nat.zero_le _, Nat.zero_le _⟩ (fun vw306 gw307 hpw308 => ?_)
    obtain ⟨rfl, hgw309⟩ := hpw308
    have hgw309 := hgw309.symm
    subst hgw309
    refine j_lstore_n O 2 [(2, .long (adM (nadL (rs.take r)) rs[r].1.toInt64)), (0, .ref (u 19)), (1, .int (nI n)), (4, .int (nI (r * (1 + w))))] dM_addressOf_101 rfl (by decide) rfl ?_
    refine j_iconst O (v := 1) dM_addressOf_102 (by decide) ?_
    refine j_istore O [(5, .int 1), (2, .long (adM (nadL (rs.take r)) rs[r].1.toInt64)), (0, .ref (u 19)), (1, .int (nI n)), (4, .int (nI (r * (1 + w))))] dM_addressOf_103 (by decide) rfl ?_
    refine J.pk [2, 3, 1, 4, 0] rfl ?_
    refine addr_cells (k0 := 0) (n0 := 0) (row := rs[r]) (b := adM (nadL (rs.take r)) rs[r].1.toInt64) O hM a2 a3 a4 a6 hn eb ew hw6 hcell (by omega) ⟨hrm.1, hrm.2, Nat.zero_le _, Nat.zero_le _⟩ ?_ w 0 (by omega)
    rw [hrad, ← nadL_take rs r hr1]
    refine j_iload O dM_addressOf_176 rfl ?_
    refine j_iconst O (v := 1) dM_addressOf_178 (by decide) ?_
    refine j_aload_n O 0 dM_addressOf_179 rfl rfl ?_
    refine j_get O uwM hM rfl 15 (by decide) w462 rfl rfl dM_addressOf_180 ?_
    refine j_iload_n O 1 dM_addressOf_183 rfl rfl ?_
    refine j_iald O a4 0 rfl (by omega) (by omega) dM_addressOf_184 ?_
    refine j_eqi (nI w) ew ?_
    refine j_iadd O dM_addressOf_185 ?_
    refine j_eqi (nI (1 + w)) (nI_add 1 w) ?_
    refine j_iadd O dM_addressOf_186 ?_
    refine j_eqi (nI ((r + 1) * (1 + w))) (by rw [nI_add, Nat.succ_mul]) ?_
    refine j_istore O [(4, .int (nI ((r + 1) * (1 + w)))), (0, .ref (u 19)), (1, .int (nI n)), (2, .long (nadL (rs.take (r + 1))))] dM_addressOf_187 (by decide) rfl ?_
    refine j_goto O 72 dM_addressOf_189 (by decide) ?_
    refine J.pk [1, 2, 3, 0] rfl ?_
    exact ih (r + 1) (by omega)
set_option maxRecDepth 100000 in
set_option maxHeartbeats 1000000 in
theorem addr_kids {X : CX} {D : va_G} {t : Nat → ClassId} {A : Nat → Prop} {rm : Room} {g : GH} {u : Nat → Nat} {oc om df nn us lm mm ta co si : Int32} {fb fl fw : Nat → Int32} {fp : Nat → Int64} {n B w : Nat} {V : List NV} {h : Nat} {qs : List (List RV)} (O : Ok X bM_addressOf 8 "TwinTreesModel" (zz D t A) rm) (M : Om X (zz D t A) (some .long) 0 0 (fun v g' => v = some (.long (nadB h qs)) ∧ g' = g)) (hM : gAt g (u 19) (eM u oc om df nn us lm mm ta co si)) (a2 : gAt g (u 10) (eI t 60000 fb)) (a3 : gAt g (u 11) (eI t 60000 fl)) (a4 : gAt g (u 12) (eI t 60000 fw)) (a6 : gAt g (u 14) (eL t 60000 fp)) (hn : n < 60000) (eb : fb n = nI B) (ew : fw n = nI w) (hw6 : w ≤ 6) (el : fl n = nI qs.length) (hfp : ∀ k (hk : k < qs.length), fp (B + k) = (nI (V.idxOf (h, qs[k]))).toInt64) (hB : B + qs.length ≤ 60000) (hrm : h + 2 ≤ rm.frames ∧ 40 * h + 80 ≤ rm.locals) (IH : ∀ k (hk : k < qs.length), Ct X.2.1 yM_addressOf sM_addressOf { frames := h + 1, cells := 0, slots := 0, locals := 40 * h + 40 } (zz D t A) [.ref (u 19), .int (nI (V.idxOf (h, qs[k])))] g 0 0 (fun v g' => v = some (.long (nad h qs[k])) ∧ g' = g)) : ∀ (d k : Nat), k + d = qs.length → J X 8 (zz D t A) g 0 0 26 [(0, .ref (u 19)), (1, .int (nI n)), (2, .long (nadB h (qs.take k))), (4, .int (nI k))] [] := by
  intro d
  induction d with
  | zero =>
    intro k hk
    have e : k = qs.length := by omega
    subst e
    rw [List.take_length]
    refine j_iload O dM_addressOf_26 rfl ?_
    refine j_aload_n O 0 dM_addressOf_28 rfl rfl ?_
    refine j_get O uwM hM rfl 14 (by decide) w461 rfl rfl dM_addressOf_29 ?_
    refine j_iload_n O 1 dM_addressOf_32 rfl rfl ?_
    refine j_iald O a3 0 rfl (by omega) (by omega) dM_addressOf_33 ?_
    refine j_eqi (nI qs.length) el ?_
    refine j_icmp_ge O 67 dM_addressOf_34 (by decide) (fun c0 => ?_) (fun c0 => absurd (nI_le (Nat.le_refl _) (by omega)) c0)
    refine j_lload_n O 2 dM_addressOf_67 rfl rfl ?_
    exact j_lret O M (Nat.le_of_ble_eq_true rfl) (Nat.le_of_ble_eq_true rfl) ⟨rfl, rfl⟩ dM_addressOf_68
  | succ d ih =>
    intro k hk
    have hk1 : k < qs.length := by omega
    have hv := hfp k hk1
    refine j_iload O dM_addressOf_26 rfl ?_
    refine j_aload_n O 0 dM_addressOf_28 rfl rfl ?_
    refine j_get O uwM hM rfl 14 (by decide) w461 rfl rfl dM_addressOf_29 ?_
    refine j_iload_n O 1 dM_addressOf_32 rfl rfl ?_
    refine j_iald O a3 0 rfl (by omega) (by omega) dM_addressOf_33 ?_
    refine j_eqi (nI qs.length) el ?_
    refine j_icmp_ge O 67 dM_addressOf_34 (by decide) (fun c0 => absurd c0 (nI_ge (by omega) (by omega))) (fun c0 => ?_)
    refine j_lload_n O 2 dM_addressOf_37 rfl rfl ?_
    refine j_aload_n O 0 dM_addressOf_38 rfl rfl ?_
    refine j_aload_n O 0 dM_addressOf_39 rfl rfl ?_
    refine j_get O uwM hM rfl 17 (by decide) w464 rfl rfl dM_addressOf_40 ?_
    refine j_aload_n O 0 dM_addressOf_43 rfl rfl ?_
    refine j_get O uwM hM rfl 13 (by decide) w460 rfl rfl dM_addressOf_44 ?_
    refine j_iload_n O 1 dM_addressOf_47 rfl rfl ?_
    refine j_iald O a2 0 rfl (by omega) (by omega) dM_addressOf_48 ?_
    refine j_eqi (nI B) eb ?_
    refine j_iload O dM_addressOf_49 rfl ?_
    refine j_iadd O dM_addressOf_51 ?_
    refine j_eqi (nI (B + k)) (nI_add _ _) ?_
    refine j_lald O a6 3 rfl (by omega) (by omega) dM_addressOf_52 ?_
    refine j_eql ((nI (V.idxOf (h, qs[k]))).toInt64) hv ?_
    refine j_l2i O dM_addressOf_53 ?_
    refine j_eqi (nI (V.idxOf (h, qs[k]))) (Int32.toInt32_toInt64 _) ?_
    refine j_callV O [.int (nI (V.idxOf (h, qs[k])))] (IH k hk1) hM rfl w589 w590 w21 w28 w591 1 rfl rfl rfl (by decide +kernel) ⟨by show h + 1 + 1 ≤ _; omega, by show 8 + (8 + 11) + (40 * h + 40) ≤ _; omega⟩ rfl (Nat.le_of_ble_eq_true rfl) dM_addressOf_54 ⟨Nat.zero_le _, Nat.zero_le _⟩ (fun vw310 gw311 hpw312 => ?_)
    obtain ⟨rfl, hgw313⟩ := hpw312
    have hgw313 := hgw313.symm
    subst hgw313
    refine j_callS O [.long (nadB h (qs.take k)), .long (nad h qs[k])] (c_M_step X.2.1 D t A g _ _) w593 w594 w28 w595 2 rfl rfl rfl (by decide +kernel) ⟨by show 0 + 1 ≤ _; omega, by show 8 + (4 + 11) + 0 ≤ _; omega⟩ rfl (Nat.le_of_ble_eq_true rfl) dM_addressOf_57 ⟨Nat.zero_le _, Nat.zero_le _⟩ (fun vw314 gw315 hpw316 => ?_)
    obtain ⟨rfl, hgw317⟩ := hpw316
    have hgw317 := hgw317.symm
    subst hgw317
    refine j_eql (nadB h (qs.take (k + 1))) (nadB_take h qs k hk1).symm ?_
    refine j_lstore_n O 2 [(2, .long (nadB h (qs.take (k + 1)))), (0, .ref (u 19)), (1, .int (nI n)), (4, .int (nI k))] dM_addressOf_60 rfl (by decide) rfl ?_
    refine j_iinc O (nI (k + 1)) [(4, .int (nI (k + 1))), (2, .long (nadB h (qs.take (k + 1)))), (0, .ref (u 19)), (1, .int (nI n))] dM_addressOf_61 rfl (nI_1 _) (by decide) rfl ?_
    refine j_goto O 26 dM_addressOf_64 (by decide) ?_
    refine J.pk [2, 3, 1, 0] rfl ?_
    exact ih (k + 1) (by omega)
set_option maxRecDepth 100000 in
set_option maxHeartbeats 1000000 in
theorem c_M_addressOf (l : Launch) (D : va_G) (t : Nat → ClassId) (A : Nat → Prop) (g : GH) (u : Nat → Nat) (oc om df nn us lm mm ta co si : Int32) (V : List NV) (hM : gAt g (u 19) (eM u oc om df nn us lm mm ta co si)) (hR : RS t g u (encL V)) (hV : VOK V) : ∀ (h : Nat) (v : NV), v ∈ V → v.1 = h → Ct l yM_addressOf sM_addressOf { frames := h + 1, cells := 0, slots := 0, locals := 40 * h + 40 } (zz D t A) [.ref (u 19), .int (nI (V.idxOf v))] g 0 0 (fun r g' => r = some (.long (nad v.1 v.2)) ∧ g' = g) := by
  obtain ⟨⟨fh, fb, fl, fw, fc, fp, fB, a1, a2, a3, a4, a5, a6, a7, a8⟩, hl6, hs6, hok⟩ := id hR
  have hnode : ∀ v ∈ V, ∃ B, V.idxOf v < 60000 ∧ fh (V.idxOf v) = nI v.1 ∧ fb (V.idxOf v) = nI B ∧ fl (V.idxOf v) = nI (cont V v).length ∧ fw (V.idxOf v) = nI (wdt v) ∧ B + (cont V v).length ≤ 60000 ∧ ∀ k (hk : k < (cont V v).length), fp (B + k) = (cont V v)[k] := by
    intro v hv
    have hlt := List.idxOf_lt_length_iff.mpr hv
    have hlt2 : V.idxOf v < (encL V).length := by rw [encL_len]; exact hlt
    have ee : (encL V)[V.idxOf v] = enc V v := by rw [encL_get V hlt, List.getElem_idxOf]
    obtain ⟨b1, b2, b3, b4, b5, b6⟩ := a8.1 _ hlt2
    have hst := siz_take hlt2
    simp only [ee] at b1 b3 b4 b6 hst
    exact ⟨_, by omega, b1, b2, b3, b4, by have : (enc V v).2.2.length = (cont V v).length := rfl; omega, b6⟩
  intro h
  induction h with
  | zero =>
    intro v hv hh
    obtain ⟨k0, rs⟩ := v
    dsimp only at hh
    subst hh
    obtain ⟨B, hn, e1, e2, e3, e4, hB, hfp⟩ := hnode _ hv
    obtain ⟨-, hl3, w, w1, w6, hw⟩ := hV.2.1 _ hv
    dsimp only at hl3 hw
    have hwr : ∀ r ∈ rs, r.2.1.length = w := fun r hr => (hw r hr).1
    have ecl : (cont V (0, rs)).length = rs.length * (1 + w) := flat_len rs hwr
    have hww : rs ≠ [] → wdt (0, rs) = w := fun q => wdt_of q hwr
    refine Ct.of (cc := bM_addressOf) (maxL := 8) (ret := (some .long)) (by decide) (Nat.le_of_ble_eq_true rfl) (fun X hlX O M hNn => ?_)
    show J X 8 (zz D t A) g 0 0 0 [(0, .ref (u 19)), (1, .int (nI (V.idxOf (0, rs))))] []
    generalize hix : V.idxOf (0, rs) = n at *
    refine j_ldc2 O 1469598103934665603 w592 dM_addressOf_0 ?_
    refine j_aload_n O 0 dM_addressOf_3 rfl rfl ?_
    refine j_get O uwM hM rfl 12 (by decide) w459 rfl rfl dM_addressOf_4 ?_
    refine j_iload_n O 1 dM_addressOf_7 rfl rfl ?_
    refine j_iald O a1 0 rfl (by omega) (by omega) dM_addressOf_8 ?_
    refine j_eqi (nI 0) e1 ?_
    refine j_i2l O dM_addressOf_9 ?_
    refine j_callS O [.long 1469598103934665603, .long ((nI 0).toInt64)] (c_M_step X.2.1 D t A g _ _) w593 w594 w28 w595 2 rfl rfl rfl (by decide +kernel) ⟨(Nat.le_of_ble_eq_true rfl), (Nat.le_of_ble_eq_true rfl)⟩ rfl (Nat.le_of_ble_eq_true rfl) dM_addressOf_10 ⟨(Nat.le_of_ble_eq_true rfl), (Nat.le_of_ble_eq_true rfl)⟩ (fun vw318 gw319 hpw320 => ?_)
    obtain ⟨rfl, hgw321⟩ := hpw320
    have hgw321 := hgw321.symm
    subst hgw321
    refine j_lstore_n O 2 [(2, .long (adM 1469598103934665603 (nI 0).toInt64)), (0, .ref (u 19)), (1, .int (nI n))] dM_addressOf_13 rfl (by decide) rfl ?_
    refine j_aload_n O 0 dM_addressOf_14 rfl rfl ?_
    refine j_get O uwM hM rfl 12 (by decide) w459 rfl rfl dM_addressOf_15 ?_
    refine j_iload_n O 1 dM_addressOf_18 rfl rfl ?_
    refine j_iald O a1 0 rfl (by omega) (by omega) dM_addressOf_19 ?_
    refine j_eqi (nI 0) e1 ?_
    refine j_if_le O 69 dM_addressOf_20 (by decide) (fun c0 => ?_) (fun c0 => absurd (by decide) c0)
    refine j_iconst O (v := 0) dM_addressOf_69 (by decide) ?_
    refine j_istore O [(4, .int 0), (2, .long (adM 1469598103934665603 (nI 0).toInt64)), (0, .ref (u 19)), (1, .int (nI n))] dM_addressOf_70 (by decide) rfl ?_
    refine J.pk [2, 3, 1, 0] rfl ?_
    by_cases hz : rs = []
    · subst hz
      exact addr_rows (rs := []) (w := 0) O M hM a2 a3 a4 a6 hn e2 e4 (by omega) e3 (fun r hr => by cases hr) (fun k hk => absurd hk (Nat.not_lt_zero _)) hB ⟨Nat.le_refl _, Nat.le_refl _⟩ 0 0 rfl
    · rw [hww hz] at e4
      rw [ecl] at e3 hB
      have := addr_rows (rs := rs) (w := w) O M hM a2 a3 a4 a6 hn e2 e4 w6 e3 hwr hfp hB ⟨Nat.le_refl _, Nat.le_refl _⟩ rs.length 0 (by omega)
      rw [Nat.zero_mul] at this
      exact this
  | succ h ih =>
    intro v hv hh
    obtain ⟨k0, rs⟩ := v
    dsimp only at hh
    subst hh
    obtain ⟨B, hn, e1, e2, e3, e4, hB, hfp⟩ := hnode _ hv
    have hkd := hV.kids hv h rfl
    have ecl : (cont V (h + 1, rs)).length = (runs (h + 1) rs).length := by show ((runs (h + 1) rs).map _).length = _; rw [List.length_map]
    have h5 := (hV.2.1 _ hv).1
    dsimp only at h5 hkd
    rw [ecl] at e3 hB
    have hfp2 : ∀ k (hk : k < (runs (h + 1) rs).length), fp (B + k) = (nI (V.idxOf (h, (runs (h + 1) rs)[k]))).toInt64 := fun k hk => by
      rw [hfp k (by rw [ecl]; exact hk)]
      show ((runs (h + 1) rs).map _)[k]'(by rw [List.length_map]; exact hk) = _
      rw [List.getElem_map]
    refine Ct.of (cc := bM_addressOf) (maxL := 8) (ret := (some .long)) (by decide) (Nat.le_of_ble_eq_true rfl) (fun X hlX O M hNn => ?_)
    show J X 8 (zz D t A) g 0 0 0 [(0, .ref (u 19)), (1, .int (nI (V.idxOf (h + 1, rs))))] []
    subst hlX
    have hw6 : wdt (h + 1, rs) ≤ 6 := by unfold wdt; rw [if_neg (by simp)]; omega
    generalize hix : V.idxOf (h + 1, rs) = n at *
    refine j_ldc2 O 1469598103934665603 w592 dM_addressOf_0 ?_
    refine j_aload_n O 0 dM_addressOf_3 rfl rfl ?_
    refine j_get O uwM hM rfl 12 (by decide) w459 rfl rfl dM_addressOf_4 ?_
    refine j_iload_n O 1 dM_addressOf_7 rfl rfl ?_
    refine j_iald O a1 0 rfl (by omega) (by omega) dM_addressOf_8 ?_
    refine j_eqi (nI (h + 1)) e1 ?_
    refine j_i2l O dM_addressOf_9 ?_
    refine j_callS O [.long 1469598103934665603, .long ((nI (h + 1)).toInt64)] (c_M_step X.2.1 D t A g _ _) w593 w594 w28 w595 2 rfl rfl rfl (by decide +kernel) ⟨by show 0 + 1 ≤ h + 1 + 1; omega, by show 8 + (4 + 11) + 0 ≤ 40 * (h + 1) + 40; omega⟩ rfl (Nat.le_of_ble_eq_true rfl) dM_addressOf_10 ⟨(Nat.le_of_ble_eq_true rfl), (Nat.le_of_ble_eq_true rfl)⟩ (fun vw322 gw323 hpw324 => ?_)
    obtain ⟨rfl, hgw325⟩ := hpw324
    have hgw325 := hgw325.symm
    subst hgw325
    refine j_lstore_n O 2 [(2, .long (adM 1469598103934665603 (nI (h + 1)).toInt64)), (0, .ref (u 19)), (1, .int (nI n))] dM_addressOf_13 rfl (by decide) rfl ?_
    refine j_aload_n O 0 dM_addressOf_14 rfl rfl ?_
    refine j_get O uwM hM rfl 12 (by decide) w459 rfl rfl dM_addressOf_15 ?_
    refine j_iload_n O 1 dM_addressOf_18 rfl rfl ?_
    refine j_iald O a1 0 rfl (by omega) (by omega) dM_addressOf_19 ?_
    refine j_eqi (nI (h + 1)) e1 ?_
    refine j_if_le O 69 dM_addressOf_20 (by decide) (fun c0 => absurd c0 (nI_ge (a := 0) (by omega) (by omega))) (fun c0 => ?_)
    refine j_iconst O (v := 0) dM_addressOf_23 (by decide) ?_
    refine j_istore O [(4, .int 0), (2, .long (adM 1469598103934665603 (nI (h + 1)).toInt64)), (0, .ref (u 19)), (1, .int (nI n))] dM_addressOf_24 (by decide) rfl ?_
    refine J.pk [2, 3, 1, 0] rfl ?_
    exact addr_kids (V := V) (qs := runs (h + 1) rs) O M hM a2 a3 a4 a6 hn e2 e4 hw6 e3 hfp2 hB ⟨by show h + 2 ≤ h + 1 + 1; omega, by show 40 * h + 80 ≤ 40 * (h + 1) + 40; omega⟩ (fun k hk => ih (h, (runs (h + 1) rs)[k]) (hkd _ (List.getElem_mem hk)) rfl) (runs (h + 1) rs).length 0 (by omega)
set_option maxRecDepth 100000 in
set_option maxHeartbeats 1000000 in
theorem c_M_address (l : Launch) (D : va_G) (t : Nat → ClassId) (A : Nat → Prop) (g : GH) (u : Nat → Nat) (s : AS) (V : List NV) (x : Int32) (hW : RW t g u s V) (hA : aOK s) : Ct l yM_address sM_address { frames := 7, cells := 0, slots := 0, locals := 280 } (zz D t A) [.ref (u 19), .int x] g 0 0 (fun v g' => v = some (.long (aAddr s x)) ∧ RW t g' u s V) := by
  refine Ct.of (cc := bM_address) (maxL := 2) (ret := (some .long)) (by decide) (Nat.le_of_ble_eq_true rfl) (fun X hlX O M hNn => ?_)
  show J X 2 (zz D t A) g 0 0 0 [(0, .ref (u 19)), (1, .int x)] []
  obtain ⟨hRT, hD, ⟨⟨oc, om, lm, mm, ta, co, si, hM⟩, ⟨fv, hv⟩, ⟨fl, hl⟩, ⟨fm, hm⟩, ⟨fo, ho⟩, ⟨fp, hp⟩, hR, hV⟩, hpm, hne⟩ := id hW
  obtain ⟨htb, hrc, hso⟩ := id hA
  refine j_iload_n O 1 dM_address_0 rfl rfl ?_
  refine j_iconst O (v := 0) dM_address_1 (by decide) ?_
  refine j_iconst O (v := 5) dM_address_2 (by decide) ?_
  refine j_callS O [.int x, .int 0, .int 5] (c_M_in X.2.1 D t A g x 0 5) w540 w541 w28 w542 3 rfl rfl rfl (by decide +kernel) ⟨(Nat.le_of_ble_eq_true rfl), (Nat.le_of_ble_eq_true rfl)⟩ rfl (Nat.le_of_ble_eq_true rfl) dM_address_3 ⟨(Nat.le_of_ble_eq_true rfl), (Nat.le_of_ble_eq_true rfl)⟩ (fun vw326 gw327 hpw328 => ?_)
  obtain ⟨rfl, hgw329⟩ := hpw328
  have hgw329 := hgw329.symm
  subst hgw329
  refine j_if_ne O 11 dM_address_6 (by decide) (fun c1 => ?_) (fun c1 => ?_)
  · have hx0 : 0 ≤ x ∧ x ≤ 5 := by
      by_cases z : 0 ≤ x ∧ x ≤ 5
      · exact z
      · rw [if_neg z] at c1; exact absurd rfl c1
    have hx := (in5 _).mp hx0
    obtain ⟨i, i6, rfl⟩ := tb_of hx
    have ei : ix (nI i) = i := ix_nI (by omega)
    have er : aAddr s (nI i) = nad (hgt (s.1 i).2) (s.1 i).2 := by
      unfold aAddr
      rw [if_pos hx, ei]
    rw [er] at M
    refine j_aload_n O 0 dM_address_11 rfl rfl ?_
    refine j_iload_n O 1 dM_address_12 rfl rfl ?_
    have hin : ∀ v ∈ ndl (s.1 i).2, v ∈ V := fun v hv => hpm.mem_iff.mpr (hso.1 i i6 v hv)
    have hle := hR.le
    have hvs := vst_same hin
    refine j_callV O [.int (nI i)] (c_M_lay X.2.1 D t A g u oc om (nI s.2.2.length) lm mm ta co si i (s.1 i).1 s.1 (s.1 i).2 V fv fl fm hM hv hl hm hR hV hRT i6 rfl (htb i i6) (hrc i i6) hne) hM rfl w419 w420 w10 w28 w421 1 rfl rfl rfl (by decide +kernel) ⟨(Nat.le_of_ble_eq_true rfl), (Nat.le_of_ble_eq_true rfl)⟩ rfl (Nat.le_of_ble_eq_true rfl) dM_address_13 ⟨(Nat.le_of_ble_eq_true rfl), (Nat.le_of_ble_eq_true rfl)⟩ (fun vw330 gw331 hpw332 => ?_)
    have hpost := hpw332
    rcases hpost with ⟨-, hnf, -⟩ | ⟨rfl, m1, fv1, fl1, fm1, hLY, hf0, kp⟩
    · exact absurd hnf (fit_same hin hle.2 hle.1)
    rw [hvs] at hLY hf0
    have hkp : ∀ k e, (4 ≤ k ∧ k < 9) → gAt g (u k) e → gAt gw331 (u k) e := fun k e hk q => lU_kp hne kp (by omega) q
    have hSB := hLY.sb ⟨_, hkp 4 _ (by omega) ho⟩ ⟨_, hkp 5 _ (by omega) hp⟩
    have hRT1 := hRT.lU hne kp
    have hW1 : RW t gw331 u s V := ⟨hRT1, hD.keep hkp, hSB, hpm, hne⟩
    obtain ⟨⟨si1, hM1⟩, hv1, hl1, hm1, hR1, hV1⟩ := id hLY
    obtain ⟨⟨fC, hC, hCv⟩, ⟨fN, hNn0, hNv⟩, -⟩ := id hRT1
    have hNi := hNv i i6
    have hCi := hCv i i6
    have hroot : (hgt (s.1 i).2, (s.1 i).2) ∈ V := hin _ (by rw [ndl_lvsB]; simp)
    have hh5 : hgt (s.1 i).2 ≤ 5 := hgtT_le _ 5 0
    refine j_pop O dM_address_16 rfl ?_
    refine j_aload_n O 0 dM_address_17 rfl rfl ?_
    refine j_aload_n O 0 dM_address_18 rfl rfl ?_
    refine j_get O uwM hM1 rfl 21 (by decide) w468 rfl rfl dM_address_19 ?_
    refine j_iconst O (v := 0) dM_address_22 (by decide) ?_
    refine j_iald (i := 0) O hv1 0 rfl (by decide) (by decide) dM_address_23 ?_
    refine j_eqi (nI (V.idxOf (hgt (s.1 i).2, (s.1 i).2))) hf0 ?_
    refine j_callV O [.int (nI (V.idxOf (hgt (s.1 i).2, (s.1 i).2)))] (c_M_addressOf X.2.1 D t A gw331 u oc om (nI s.2.2.length) (nI V.length) (nI (szL V)) (nI 1) (nI m1) (nI (hgt (s.1 i).2)) (nI (ndl (s.1 i).2).length) si1 V hM1 hR1 hV1 _ _ hroot rfl) hM1 rfl w589 w590 w21 w28 w591 1 rfl rfl rfl (by decide +kernel) ⟨by show hgt (s.1 i).2 + 1 + 1 ≤ 7; omega, by show 8 + (8 + 11) + (40 * hgt (s.1 i).2 + 40) ≤ 280; omega⟩ rfl (Nat.le_of_ble_eq_true rfl) dM_address_24 ⟨(Nat.le_of_ble_eq_true rfl), (Nat.le_of_ble_eq_true rfl)⟩ (fun vw333 gw334 hpw335 => ?_)
    obtain ⟨rfl, hgg⟩ := hpw335
    have hgg := hgg.symm
    subst hgg
    exact j_lret O M (Nat.le_of_ble_eq_true rfl) (Nat.le_of_ble_eq_true rfl) ⟨rfl, hW1⟩ dM_address_27
  · have hx0 : ¬ (0 ≤ x ∧ x ≤ 5) := fun z => by rw [if_pos z] at c1; exact absurd c1 (by decide)
    have er : aAddr s x = 0 := if_neg (fun z => hx0 ((in5 x).mpr z))
    rw [er] at M
    refine j_lconst O (v := 0) dM_address_9 (by decide) ?_
    exact j_lret O M (Nat.le_of_ble_eq_true rfl) (Nat.le_of_ble_eq_true rfl) ⟨rfl, hW⟩ dM_address_10
