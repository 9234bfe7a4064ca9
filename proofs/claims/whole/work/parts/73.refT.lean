theorem cv_blank (k : Int32) {w c : Nat} (hw : w < 7) (hc : c < w) : cv (blankR k w) c = (-9223372036854775808) := by
  apply cv_null
  show bitN (((1 : Int32) <<< (nI w &&& 31)) - 1) c = true
  rw [bitN_get _ (by omega), full_shl w hw c (by omega)]
  simp [hc]
theorem tabOK.setc {fk : Nat → Int32} {fc : Nat → Int64} {w : Nat} {rs : List RV} (h : tabOK fk fc w rs) (hw : w ≤ 6) (hr : ∀ r ∈ rs, r.2.1.length = w) {at0 j : Nat} (ha : at0 < rs.length) (hj : j < w) (x z : Int32) : tabOK fk (vp_updL fc (6 * at0 + j) (if z = 0 then x.toInt64 else (-9223372036854775808))) w (rs.set at0 (setC rs[at0] j x z)) := by
  intro r hl
  rw [List.length_set] at hl
  obtain ⟨a, b⟩ := h r hl
  have hra := hr rs[at0] (List.getElem_mem ha)
  by_cases e : at0 = r
  · subst e
    rw [List.getElem_set_self]
    refine ⟨a, fun c hc => ?_⟩
    rw [cv_set x z (by omega) (by omega) c (by omega)]
    unfold vp_updL
    by_cases ec : c = j
    · subst ec; rw [if_pos rfl, if_pos rfl]
    · rw [if_neg (by omega), if_neg ec]; exact b c hc
  · rw [List.getElem_set_ne e]
    refine ⟨a, fun c hc => ?_⟩
    unfold vp_updL
    rw [if_neg (by omega)]
    exact b c hc
theorem ins_at {rs : List RV} {p : Nat} (hp : p ≤ rs.length) (b : RV) (r : Nat) (h : r < (rs.take p ++ b :: rs.drop p).length) : (∃ h2 : r < rs.length, r < p ∧ (rs.take p ++ b :: rs.drop p)[r] = rs[r]) ∨ (r = p ∧ (rs.take p ++ b :: rs.drop p)[r] = b) ∨ (∃ h2 : r - 1 < rs.length, p < r ∧ (rs.take p ++ b :: rs.drop p)[r] = rs[r - 1]) := by
  have hl : (rs.take p).length = p := by rw [List.length_take]; omega
  have hL : (rs.take p ++ b :: rs.drop p).length = rs.length + 1 := by rw [List.length_append, List.length_cons, hl, List.length_drop]; omega
  rcases Nat.lt_trichotomy r p with z | z | z
  · refine Or.inl ⟨by omega, z, ?_⟩
    rw [List.getElem_append_left (by omega), List.getElem_take]
  · refine Or.inr (Or.inl ⟨z, ?_⟩)
    subst z
    rw [List.getElem_append_right (by omega)]
    simp [hl]
  · refine Or.inr (Or.inr ⟨by omega, z, ?_⟩)
    rw [List.getElem_append_right (by omega)]
    simp only [hl]
    obtain ⟨d, rfl⟩ : ∃ d, r = p + 1 + d := ⟨r - (p + 1), by omega⟩
    simp only [show p + 1 + d - p = d + 1 by omega, List.getElem_cons_succ, List.getElem_drop, show p + 1 + d - 1 = p + d by omega]
set_option maxRecDepth 100000 in
set_option maxHeartbeats 1000000 in
theorem put_tailM {X : CX} {D : va_G} {t : Nat → ClassId} {A : Nat → Prop} {rm : Room} {g : GH} {u : Nat → Nat} {s : AS} {V : List NV} {lm mm ta co si a z : Int32} {i j at0 : Nat} {rs1 rs2 : List RV} {fv fl fo1 : Nat → Int32} {fm fp1 : Nat → Int64} (O : Ok X bM_put 8 "TwinTreesModel" (zz D t A) rm) (M : Om X (zz D t A) (some .int) 0 0 (fun v g' => v = some (.int (aPlant s i (s.1 i).1 rs2).1) ∧ ∃ V', RW t g' u (aPlant s i (s.1 i).1 rs2).2 V')) (hM1 : gAt g (u 19) (eM u (nI (s.1 i).1) (nI (s.1 i).2.length) (nI s.2.2.length) (nI V.length) (nI (szL V)) lm mm ta co si)) (hRT1 : RT t g u (va_up s.1 i ((s.1 i).1, rs1))) (hD1 : RD t g u s.2.2) (hR1 : RS t g u (encL V)) (hV : VOK V) (hv1 : gAt g (u 16) (eI t 301 fv)) (hl1 : gAt g (u 17) (eI t 301 fl)) (hm1 : gAt g (u 18) (eL t 2100 fm)) (ho1 : gAt g (u 4) (eI t 301 fo1)) (hp1 : gAt g (u 5) (eL t 1806 fp1)) (hold : tabOK fo1 fp1 (s.1 i).1 (s.1 i).2) (htb : ∀ i, i < 6 → tOK (s.1 i)) (i6 : i < 6) (hat : at0 < rs1.length) (hr1 : ∀ r ∈ rs1, r.2.1.length = (s.1 i).1) (hl1l : rs1.length ≤ 300) (hj : j < (s.1 i).1) (hset : rs1.set at0 (setC rs1[at0] j a z) = rs2) (htk2 : tOK ((s.1 i).1, rs2)) (hrc2 : ∀ r ∈ rs2, rowC r) (hpm : V.Perm s.2.1) (hn : s.2.1.length + 12 ≤ 60000) (hn1 : (news s.2.1 (ndl rs2)).length ≤ 12) (hne : ∀ i j, i < 32 → j < 32 → i ≠ j → u i ≠ u j) (hrm : 5 ≤ rm.frames ∧ 280 ≤ rm.locals) :  J X 8 (zz D t A) g 0 0 154 [(0, .ref (u 19)), (1, .int (nI i)), (3, .int (nI j)), (4, .int a), (5, .int z), (6, .int (nI at0))] [] := by
  obtain ⟨t1, t2, t3, t4, t5⟩ := id (htb i i6)
  obtain ⟨⟨fC, hC, hCv⟩, ⟨fN, hNn0, hNv⟩, ⟨fK, hK, hKv⟩, ⟨fL, hL, hLv⟩, hrow⟩ := id hRT1
  obtain ⟨fk, fc, hk, hc, htab⟩ := hrow i i6
  rw [va_up_self] at htab
  dsimp only at htab
  have hKi := hKv i i6
  have hLi := hLv i i6
  have kp0 : Kp [u (26 + i)] g g := Kp.rf
  have hset2 := htab.setc t2 hr1 hat hj a z
  rw [hset] at hset2
  have hl2 : rs2.length = rs1.length := by rw [← hset, List.length_set]
  refine j_aload_n O 0 dM_put_154 rfl rfl ?_
  refine j_get O uwM hM1 rfl 3 (by decide) w450 rfl rfl dM_put_155 ?_
  refine j_iload_n O 1 dM_put_158 rfl rfl ?_
  refine j_aaldA O hL 5 rfl (by omega) (by omega) dM_put_159 ?_
  refine j_some (u (26 + i)) hLi ?_
  refine j_bipush O (v := 6) dM_put_160 (by decide) ?_
  refine j_iload O dM_put_162 rfl ?_
  refine j_imul O dM_put_164 ?_
  refine j_eqi (nI (6 * at0)) (pk_mul 6 _) ?_
  refine j_iload_n O 3 dM_put_165 rfl rfl ?_
  refine j_iadd O dM_put_166 ?_
  refine j_eqi (nI (6 * at0 + j)) (nI_add _ _) ?_
  refine j_iload O dM_put_167 rfl ?_
  refine j_if_eq O 178 dM_put_169 (by decide) (fun c1 => ?_) (fun c1 => ?_)
  · have hz : z = 0 := c1
    rw [if_pos hz] at hset2
    refine j_iload O dM_put_178 rfl ?_
    refine j_i2l O dM_put_180 ?_
    refine j_last O hc 3 rfl (by omega) (by decide) dM_put_181 (fun gw222 ew223 => ?_)
    have hw224 := gUp_ne (e' := .inl (t 3, 1806, .inr (.inl (vp_updL fc (6 * at0 + j) a.toInt64)))) hM1 (hM1.ne hc (by simp))
    rw [← ew223] at hw224
    have hw225 := gUp_ne (e' := .inl (t 3, 1806, .inr (.inl (vp_updL fc (6 * at0 + j) a.toInt64)))) hC (hC.ne hc (by simp))
    rw [← ew223] at hw225
    have hw226 := gUp_ne (e' := .inl (t 3, 1806, .inr (.inl (vp_updL fc (6 * at0 + j) a.toInt64)))) hNn0 (hNn0.ne hc (by simp))
    rw [← ew223] at hw226
    have hw227 := gUp_ne (e' := .inl (t 3, 1806, .inr (.inl (vp_updL fc (6 * at0 + j) a.toInt64)))) hK (hK.ne hc (by simp))
    rw [← ew223] at hw227
    have hw228 := gUp_ne (e' := .inl (t 3, 1806, .inr (.inl (vp_updL fc (6 * at0 + j) a.toInt64)))) hL (hL.ne hc (by simp))
    rw [← ew223] at hw228
    have hw229 := gUp_ne (e' := .inl (t 3, 1806, .inr (.inl (vp_updL fc (6 * at0 + j) a.toInt64)))) hk (hk.ne hc (by simp))
    rw [← ew223] at hw229
    have hw230 := gUp_self (e' := .inl (t 3, 1806, .inr (.inl (vp_updL fc (6 * at0 + j) a.toInt64)))) hc
    rw [← ew223] at hw230
    have kpw231 := kp0.up (a := (u (26 + i))) (e := .inl (t 3, 1806, .inr (.inl (vp_updL fc (6 * at0 + j) a.toInt64)))) (by simp)
    rw [← ew223] at kpw231
    have hRT2 : RT t gw222 u (va_up s.1 i ((s.1 i).1, rs2)) := by
      refine ⟨⟨_, hw225, fun b hb => ?_⟩, ⟨_, hw226, fun b hb => ?_⟩, ⟨_, hw227, hKv⟩, ⟨_, hw228, hLv⟩, fun b hb => ?_⟩
      · have := hCv b hb
        by_cases e : b = i
        · subst e; rw [va_up_self] at this ⊢; exact this
        · rw [va_up_ne _ _ e] at this ⊢; exact this
      · have := hNv b hb
        by_cases e : b = i
        · subst e; rw [va_up_self] at this ⊢; rw [hl2]; exact this
        · rw [va_up_ne _ _ e] at this ⊢; exact this
      · by_cases e : b = i
        · subst e; rw [va_up_self]; exact ⟨_, _, hw229, hw230, hset2⟩
        · obtain ⟨f1, f2, b1, b2, b3⟩ := hrow b hb
          rw [va_up_ne _ _ e] at b3 ⊢
          exact ⟨f1, f2, kpw231.2 _ _ (one_ne (hne _ _ (by omega) (by omega) (by omega))) b1, kpw231.2 _ _ (one_ne (hne _ _ (by omega) (by omega) (by omega))) b2, b3⟩
    have hkz : ∀ k e, k < 20 → gAt g (u k) e → gAt gw222 (u k) e := fun k e h0 q => kpw231.2 _ _ (one_ne (hne _ _ (by omega) (by omega) (by omega))) q
    have hR2 : RS t gw222 u (encL V) := hR1.keep (fun k e k1 k2 q => hkz k e (by omega) q)
    have hv2 := hkz 16 _ (by omega) hv1
    have hl2x := hkz 17 _ (by omega) hl1
    have hm2 := hkz 18 _ (by omega) hm1
    have ho2 := hkz 4 _ (by omega) ho1
    have hp2 := hkz 5 _ (by omega) hp1
    have hD2 : RD t gw222 u s.2.2 := hD1.keep (fun k e hk q => hkz k e (by omega) q)
    refine j_aload_n O 0 dM_put_182 rfl rfl ?_
    refine j_iload_n O 1 dM_put_183 rfl rfl ?_
    refine j_callV O [.int (nI i)] (c_M_write X.2.1 D t A gw222 u (nI s.2.2.length) lm mm ta co si i (s.1 i).1 (s.1 i).1 (va_up s.1 i ((s.1 i).1, rs2)) rs2 (s.1 i).2 V fv fl fo1 fm fp1 hw224 hv2 hl2x hm2 ho2 hp2 hR2 hV hRT2 i6 (va_up_self _ _ _) htk2 (htb i i6) hold hrc2 hne) hw224 rfl w546 w547 w16 w28 w548 1 rfl rfl rfl (by decide +kernel) ⟨hrm.1, by show 8 + (3 + 11) + 240 ≤ _; omega⟩ rfl (Nat.le_of_ble_eq_true rfl) dM_put_184 ⟨Nat.zero_le _, Nat.zero_le _⟩ (fun vw232 gw233 hpw234 => ?_)
    have hpost := hpw234
    obtain ⟨ev, hRW⟩ := plant_rw hpm hD2 hne (by omega) hpost
    rw [ev]
    exact j_iret O M (Nat.le_of_ble_eq_true rfl) (Nat.le_of_ble_eq_true rfl) ⟨rfl, hRW⟩ dM_put_187
  · have hz : ¬ z = 0 := c1
    rw [if_neg hz] at hset2
    refine j_ldc2 O (-9223372036854775808) w565 dM_put_172 ?_
    refine j_goto O 181 dM_put_175 (by decide) ?_
    refine j_last O hc 3 rfl (by omega) (by decide) dM_put_181 (fun gw235 ew236 => ?_)
    have hw237 := gUp_ne (e' := .inl (t 3, 1806, .inr (.inl (vp_updL fc (6 * at0 + j) (-9223372036854775808))))) hM1 (hM1.ne hc (by simp))
    rw [← ew236] at hw237
    have hw238 := gUp_ne (e' := .inl (t 3, 1806, .inr (.inl (vp_updL fc (6 * at0 + j) (-9223372036854775808))))) hC (hC.ne hc (by simp))
    rw [← ew236] at hw238
    have hw239 := gUp_ne (e' := .inl (t 3, 1806, .inr (.inl (vp_updL fc (6 * at0 + j) (-9223372036854775808))))) hNn0 (hNn0.ne hc (by simp))
    rw [← ew236] at hw239
    have hw240 := gUp_ne (e' := .inl (t 3, 1806, .inr (.inl (vp_updL fc (6 * at0 + j) (-9223372036854775808))))) hK (hK.ne hc (by simp))
    rw [← ew236] at hw240
    have hw241 := gUp_ne (e' := .inl (t 3, 1806, .inr (.inl (vp_updL fc (6 * at0 + j) (-9223372036854775808))))) hL (hL.ne hc (by simp))
    rw [← ew236] at hw241
    have hw242 := gUp_ne (e' := .inl (t 3, 1806, .inr (.inl (vp_updL fc (6 * at0 + j) (-9223372036854775808))))) hk (hk.ne hc (by simp))
    rw [← ew236] at hw242
    have hw243 := gUp_self (e' := .inl (t 3, 1806, .inr (.inl (vp_updL fc (6 * at0 + j) (-9223372036854775808))))) hc
    rw [← ew236] at hw243
    have kpw244 := kp0.up (a := (u (26 + i))) (e := .inl (t 3, 1806, .inr (.inl (vp_updL fc (6 * at0 + j) (-9223372036854775808))))) (by simp)
    rw [← ew236] at kpw244
    have hRT2 : RT t gw235 u (va_up s.1 i ((s.1 i).1, rs2)) := by
      refine ⟨⟨_, hw238, fun b hb => ?_⟩, ⟨_, hw239, fun b hb => ?_⟩, ⟨_, hw240, hKv⟩, ⟨_, hw241, hLv⟩, fun b hb => ?_⟩
      · have := hCv b hb
        by_cases e : b = i
        · subst e; rw [va_up_self] at this ⊢; exact this
        · rw [va_up_ne _ _ e] at this ⊢; exact this
      · have := hNv b hb
        by_cases e : b = i
        · subst e; rw [va_up_self] at this ⊢; rw [hl2]; exact this
        · rw [va_up_ne _ _ e] at this ⊢; exact this
      · by_cases e : b = i
        · subst e; rw [va_up_self]; exact ⟨_, _, hw242, hw243, hset2⟩
        · obtain ⟨f1, f2, b1, b2, b3⟩ := hrow b hb
          rw [va_up_ne _ _ e] at b3 ⊢
          exact ⟨f1, f2, kpw244.2 _ _ (one_ne (hne _ _ (by omega) (by omega) (by omega))) b1, kpw244.2 _ _ (one_ne (hne _ _ (by omega) (by omega) (by omega))) b2, b3⟩
    have hkz : ∀ k e, k < 20 → gAt g (u k) e → gAt gw235 (u k) e := fun k e h0 q => kpw244.2 _ _ (one_ne (hne _ _ (by omega) (by omega) (by omega))) q
    have hR2 : RS t gw235 u (encL V) := hR1.keep (fun k e k1 k2 q => hkz k e (by omega) q)
    have hv2 := hkz 16 _ (by omega) hv1
    have hl2x := hkz 17 _ (by omega) hl1
    have hm2 := hkz 18 _ (by omega) hm1
    have ho2 := hkz 4 _ (by omega) ho1
    have hp2 := hkz 5 _ (by omega) hp1
    have hD2 : RD t gw235 u s.2.2 := hD1.keep (fun k e hk q => hkz k e (by omega) q)
    refine j_aload_n O 0 dM_put_182 rfl rfl ?_
    refine j_iload_n O 1 dM_put_183 rfl rfl ?_
    refine j_callV O [.int (nI i)] (c_M_write X.2.1 D t A gw235 u (nI s.2.2.length) lm mm ta co si i (s.1 i).1 (s.1 i).1 (va_up s.1 i ((s.1 i).1, rs2)) rs2 (s.1 i).2 V fv fl fo1 fm fp1 hw237 hv2 hl2x hm2 ho2 hp2 hR2 hV hRT2 i6 (va_up_self _ _ _) htk2 (htb i i6) hold hrc2 hne) hw237 rfl w546 w547 w16 w28 w548 1 rfl rfl rfl (by decide +kernel) ⟨hrm.1, by show 8 + (3 + 11) + 240 ≤ _; omega⟩ rfl (Nat.le_of_ble_eq_true rfl) dM_put_184 ⟨Nat.zero_le _, Nat.zero_le _⟩ (fun vw245 gw246 hpw247 => ?_)
    have hpost := hpw247
    obtain ⟨ev, hRW⟩ := plant_rw hpm hD2 hne (by omega) hpost
    rw [ev]
    exact j_iret O M (Nat.le_of_ble_eq_true rfl) (Nat.le_of_ble_eq_true rfl) ⟨rfl, hRW⟩ dM_put_187
set_option maxRecDepth 100000 in
set_option maxHeartbeats 1000000 in
theorem put_shift {X : CX} {D : va_G} {t : Nat → ClassId} {A : Nat → Prop} {rm : Room} {g : GH} {k0 n0 : Nat} {u : Nat → Nat} {oc om df nn us lm mm ta co si k a z : Int32} {i j len at0 : Nat} {fK fL : Nat → Option Nat} {fk : Nat → Int32} {fc : Nat → Int64} (O : Ok X bM_put 8 "TwinTreesModel" (zz D t A) rm) (hM : gAt g (u 19) (eM u oc om df nn us lm mm ta co si)) (hL : gAt g (u 3) (eLL t 6 fL)) (hLi : fL i = some (u (26 + i))) (i6 : i < 6) (hK : gAt g (u 2) (eII t 6 fK)) (hKi : fK i = some (u (20 + i))) (hne : ∀ i j, i < 32 → j < 32 → i ≠ j → u i ≠ u j) (hlen : len < 300) (hrm : 1 ≤ rm.frames ∧ 60 ≤ rm.locals ∧ k0 ≤ rm.cells ∧ n0 ≤ rm.slots) (HK : ∀ (g1 : GH) (fk1 : Nat → Int32) (fc1 : Nat → Int64), gAt g1 (u (20 + i)) (eI t 301 fk1) → gAt g1 (u (26 + i)) (eL t 1806 fc1) → (∀ r, (r < at0 → rowp fk1 fc1 r fk fc r) ∧ ((at0 < r ∧ r ≤ len) → rowp fk1 fc1 r fk fc (r - 1))) → Kp [u (20 + i), u (26 + i)] g g1 → J X 8 (zz D t A) g1 k0 n0 100 [(0, .ref (u 19)), (1, .int (nI i)), (2, .int k), (3, .int (nI j)), (4, .int a), (5, .int z), (6, .int (nI at0))] []) : ∀ (n m : Nat) (g1 : GH) (fk1 : Nat → Int32) (fc1 : Nat → Int64), m = at0 + n → m ≤ len → gAt g1 (u (20 + i)) (eI t 301 fk1) → gAt g1 (u (26 + i)) (eL t 1806 fc1) → (∀ r, (r < m → rowp fk1 fc1 r fk fc r) ∧ ((m < r ∧ r ≤ len) → rowp fk1 fc1 r fk fc (r - 1))) → Kp [u (20 + i), u (26 + i)] g g1 → J X 8 (zz D t A) g1 k0 n0 76 [(0, .ref (u 19)), (1, .int (nI i)), (2, .int k), (3, .int (nI j)), (4, .int a), (5, .int z), (6, .int (nI at0)), (7, .int (nI m))] [] := by
  have hkk : ∀ g1, Kp [u (20 + i), u (26 + i)] g g1 → ∀ k e, k < 20 → gAt g (u k) e → gAt g1 (u k) e := fun g1 kp k e hk q => kp.2 _ _ (two_ne (hne _ _ (by omega) (by omega) (by omega)) (hne _ _ (by omega) (by omega) (by omega))) q
  intro n
  induction n with
  | zero =>
    intro m g1 fk1 fc1 hn hml h1 h2 hok kp
    have e : at0 = m := by omega
    subst e
    refine j_iload O dM_put_76 rfl ?_
    refine j_iload O dM_put_78 rfl ?_
    refine j_icmp_le O 100 dM_put_80 (by decide) (fun c0 => ?_) (fun c0 => absurd (nI_le (Nat.le_refl _) (by omega)) c0)
    refine J.pk [0, 1, 2, 3, 4, 5, 6] rfl ?_
    exact HK g1 fk1 fc1 h1 h2 hok kp
  | succ n ih =>
    intro m g1 fk1 fc1 hn hml h1 h2 hok kp
    have hM1 := hkk g1 kp 19 _ (by omega) hM
    have hK1 := hkk g1 kp 2 _ (by omega) hK
    have hL1 := hkk g1 kp 3 _ (by omega) hL
    refine j_iload O dM_put_76 rfl ?_
    refine j_iload O dM_put_78 rfl ?_
    refine j_icmp_le O 100 dM_put_80 (by decide) (fun c0 => absurd c0 (nI_ge (by omega) (by omega))) (fun c0 => ?_)
    refine j_aload_n O 0 dM_put_83 rfl rfl ?_
    refine j_iload_n O 1 dM_put_84 rfl rfl ?_
    refine j_iload O dM_put_85 rfl ?_
    refine j_iconst O (v := 1) dM_put_87 (by decide) ?_
    refine j_isub O dM_put_88 ?_
    refine j_eqi (nI (m - 1)) (pk_sub (b := 1) (by omega)) ?_
    refine j_iload O dM_put_89 rfl ?_
    refine j_callV O [.int (nI i), .int (nI (m - 1)), .int (nI m)] (c_M_move X.2.1 D t A g1 u oc om df nn us lm mm ta co si i (m - 1) m fK fL fk1 fc1 hM1 hL1 hLi i6 (by omega) (by omega) (by omega) hK1 hKi h1 h2 (hne 2 3 (by omega) (by omega) (by omega))) hM1 rfl w562 w563 w20 w28 w564 3 rfl rfl rfl (by decide +kernel) ⟨hrm.1, by show 8 + (5 + 11) + 0 ≤ _; omega⟩ rfl (Nat.le_of_ble_eq_true rfl) dM_put_91 ⟨hrm.2.2.1, hrm.2.2.2⟩ (fun vw248 gw249 hpw250 => ?_)
    obtain ⟨rfl, hk2, ⟨f2, hc2, hf2, hf3⟩, kp2⟩ := hpw250
    obtain ⟨hmv, hms⟩ := move_rowp (fk := fk1) hf2 hf3
    refine j_iinc O (nI (m - 1)) [(7, .int (nI (m - 1))), (0, .ref (u 19)), (1, .int (nI i)), (2, .int k), (3, .int (nI j)), (4, .int a), (5, .int z), (6, .int (nI at0))] dM_put_94 rfl (sb_m1 (by omega)) (by decide) rfl ?_
    refine j_goto O 76 dM_put_97 (by decide) ?_
    refine J.pk [1, 2, 3, 4, 5, 6, 7, 0] rfl ?_
    exact ih (m - 1) gw249 _ f2 (by omega) (by omega) hk2 hc2 (fun r => by
      refine ⟨fun q => ?_, fun ⟨q1, q2⟩ => ?_⟩
      · exact (hms r (by omega)).tr ((hok r).1 (by omega))
      · by_cases e : r = m
        · subst e
          exact hmv.tr ((hok (r - 1)).1 (by omega))
        · exact (hms r e).tr ((hok r).2 ⟨by omega, q2⟩)) (kp.tr kp2)
set_option maxRecDepth 100000 in
set_option maxHeartbeats 1000000 in
theorem put_blank {X : CX} {D : va_G} {t : Nat → ClassId} {A : Nat → Prop} {rm : Room} {g : GH} {k0 n0 : Nat} {u : Nat → Nat} {oc om df nn us lm mm ta co si k a z : Int32} {i j at0 : Nat} {fL : Nat → Option Nat} {fc : Nat → Int64} (O : Ok X bM_put 8 "TwinTreesModel" (zz D t A) rm) (hM : gAt g (u 19) (eM u oc om df nn us lm mm ta co si)) (hL : gAt g (u 3) (eLL t 6 fL)) (hLi : fL i = some (u (26 + i))) (i6 : i < 6) (hne : ∀ i j, i < 32 → j < 32 → i ≠ j → u i ≠ u j) (hat : at0 < 300) (HK : ∀ (g1 : GH) (fc1 : Nat → Int64), gAt g1 (u (26 + i)) (eL t 1806 fc1) → (∀ q, q < 6 → fc1 (6 * at0 + q) = (-9223372036854775808)) → (∀ q, (q < 6 * at0 ∨ 6 * at0 + 6 ≤ q) → fc1 q = fc q) → Kp [u (26 + i)] g g1 → J X 8 (zz D t A) g1 k0 n0 144 [(0, .ref (u 19)), (1, .int (nI i)), (2, .int k), (3, .int (nI j)), (4, .int a), (5, .int z), (6, .int (nI at0))] []) : ∀ (n c : Nat) (g1 : GH) (fc1 : Nat → Int64), c + n = 6 → gAt g1 (u (26 + i)) (eL t 1806 fc1) → (∀ q, q < c → fc1 (6 * at0 + q) = (-9223372036854775808)) → (∀ q, (q < 6 * at0 ∨ 6 * at0 + 6 ≤ q) → fc1 q = fc q) → Kp [u (26 + i)] g g1 → J X 8 (zz D t A) g1 k0 n0 113 [(0, .ref (u 19)), (1, .int (nI i)), (2, .int k), (3, .int (nI j)), (4, .int a), (5, .int z), (6, .int (nI at0)), (7, .int (nI c))] [] := by
  intro n
  induction n with
  | zero =>
    intro c g1 fc1 hn h2 hb1 hb2 kp
    have e : c = 6 := by omega
    subst e
    refine j_iload O dM_put_113 rfl ?_
    refine j_bipush O (v := 6) dM_put_115 (by decide) ?_
    refine j_icmp_ge O 144 dM_put_117 (by decide) (fun c0 => ?_) (fun c0 => absurd (by decide) c0)
    refine J.pk [0, 1, 2, 3, 4, 5, 6] rfl ?_
    exact HK g1 fc1 h2 hb1 hb2 kp
  | succ n ih =>
    intro c g1 fc1 hn h2 hb1 hb2 kp
    have hM1 := kp.2 _ _ (one_ne (hne _ _ (by omega) (by omega) (by omega))) hM
    have hL1 := kp.2 _ _ (one_ne (hne _ _ (by omega) (by omega) (by omega))) hL
    refine j_iload O dM_put_113 rfl ?_
    refine j_bipush O (v := 6) dM_put_115 (by decide) ?_
    refine j_icmp_ge O 144 dM_put_117 (by decide) (fun c0 => absurd c0 (nI_ge (b := 6) (by omega) (by decide))) (fun c0 => ?_)
    refine j_aload_n O 0 dM_put_120 rfl rfl ?_
    refine j_get O uwM hM1 rfl 3 (by decide) w450 rfl rfl dM_put_121 ?_
    refine j_iload_n O 1 dM_put_124 rfl rfl ?_
    refine j_aaldA O hL1 5 rfl (by omega) (by omega) dM_put_125 ?_
    refine j_some (u (26 + i)) hLi ?_
    refine j_bipush O (v := 6) dM_put_126 (by decide) ?_
    refine j_iload O dM_put_128 rfl ?_
    refine j_imul O dM_put_130 ?_
    refine j_eqi (nI (6 * at0)) (pk_mul 6 _) ?_
    refine j_iload O dM_put_131 rfl ?_
    refine j_iadd O dM_put_133 ?_
    refine j_eqi (nI (6 * at0 + c)) (nI_add _ _) ?_
    refine j_ldc2 O (-9223372036854775808) w565 dM_put_134 ?_
    refine j_last O h2 3 rfl (by omega) (by decide) dM_put_137 (fun gw251 ew252 => ?_)
    have hw253 := gUp_ne (e' := .inl (t 3, 1806, .inr (.inl (vp_updL fc1 (6 * at0 + c) (-9223372036854775808))))) hM1 (hM1.ne h2 (by simp))
    rw [← ew252] at hw253
    have hw254 := gUp_ne (e' := .inl (t 3, 1806, .inr (.inl (vp_updL fc1 (6 * at0 + c) (-9223372036854775808))))) hL1 (hL1.ne h2 (by simp))
    rw [← ew252] at hw254
    have hw255 := gUp_self (e' := .inl (t 3, 1806, .inr (.inl (vp_updL fc1 (6 * at0 + c) (-9223372036854775808))))) h2
    rw [← ew252] at hw255
    have kpw256 := kp.up (a := (u (26 + i))) (e := .inl (t 3, 1806, .inr (.inl (vp_updL fc1 (6 * at0 + c) (-9223372036854775808))))) (by simp)
    rw [← ew252] at kpw256
    refine j_iinc O (nI (c + 1)) [(7, .int (nI (c + 1))), (0, .ref (u 19)), (1, .int (nI i)), (2, .int k), (3, .int (nI j)), (4, .int a), (5, .int z), (6, .int (nI at0))] dM_put_138 rfl (nI_1 _) (by decide) rfl ?_
    refine j_goto O 113 dM_put_141 (by decide) ?_
    refine J.pk [1, 2, 3, 4, 5, 6, 7, 0] rfl ?_
    exact ih (c + 1) gw251 _ (by omega) hw255 (fun q hq => by
      show vp_updL fc1 (6 * at0 + c) _ (6 * at0 + q) = _
      unfold vp_updL
      by_cases e : q = c
      · subst e; rw [if_pos rfl]
      · rw [if_neg (by omega)]; exact hb1 q (by omega)) (fun q hq => by
      show vp_updL fc1 (6 * at0 + c) _ q = _
      unfold vp_updL
      rw [if_neg (by omega)]
      exact hb2 q hq) kpw256
set_option maxRecDepth 100000 in
set_option maxHeartbeats 1000000 in
theorem c_M_put (l : Launch) (D : va_G) (t : Nat → ClassId) (A : Nat → Prop) (g : GH) (u : Nat → Nat) (s : AS) (V : List NV) (x k y a z : Int32) (hW : RW t g u s V) (hA : aOK s) (hn : s.2.1.length + 12 ≤ 60000) (hn12 : ∀ i j, i < 6 → j < (s.1 i).1 → (news s.2.1 (ndl (chg (s.1 i).2 (s.1 i).1 k j a z))).length ≤ 12) : Ct l yM_put sM_put { frames := 6, cells := 0, slots := 0, locals := 330 } (zz D t A) [.ref (u 19), .int x, .int k, .int y, .int a, .int z] g 0 0 (fun v g' => v = some (.int (aPut s x k y a z).1) ∧ ∃ V', RW t g' u (aPut s x k y a z).2 V') := by
  refine Ct.of (cc := bM_put) (maxL := 8) (ret := (some .int)) (by decide) (Nat.le_of_ble_eq_true rfl) (fun X hlX O M hNn => ?_)
  show J X 8 (zz D t A) g 0 0 0 [(0, .ref (u 19)), (1, .int x), (2, .int k), (3, .int y), (4, .int a), (5, .int z)] []
  obtain ⟨hRT, hD, ⟨⟨oc, om, lm, mm, ta, co, si, hM⟩, ⟨fv, hv⟩, ⟨fl, hl⟩, ⟨fm, hm⟩, ⟨fo, ho⟩, ⟨fp, hp⟩, hR, hV⟩, hpm, hne⟩ := id hW
  obtain ⟨htb, hrc, hso⟩ := id hA
  obtain ⟨⟨fC0, hC0, hCv0⟩, ⟨fN0, hN0, hNv0⟩, -⟩ := id hRT
  refine j_iload_n O 1 dM_put_0 rfl rfl ?_
  refine j_iconst O (v := 0) dM_put_1 (by decide) ?_
  refine j_iconst O (v := 5) dM_put_2 (by decide) ?_
  refine j_callS O [.int x, .int 0, .int 5] (c_M_in X.2.1 D t A g x 0 5) w540 w541 w28 w542 3 rfl rfl rfl (by decide +kernel) ⟨(Nat.le_of_ble_eq_true rfl), (Nat.le_of_ble_eq_true rfl)⟩ rfl (Nat.le_of_ble_eq_true rfl) dM_put_3 ⟨(Nat.le_of_ble_eq_true rfl), (Nat.le_of_ble_eq_true rfl)⟩ (fun vw257 gw258 hpw259 => ?_)
  obtain ⟨rfl, hgw260⟩ := hpw259
  have hgw260 := hgw260.symm
  subst hgw260
  refine j_if_eq O 25 dM_put_6 (by decide) (fun c1 => ?_) (fun c1 => ?_)
  · have hx0 : ¬ (0 ≤ x ∧ x ≤ 5) := fun z => by rw [if_pos z] at c1; exact absurd c1 (by decide)
    have er : aPut s x k y a z = (-1, s) := if_neg (fun q => hx0 ((in5 x).mpr q.1))
    rw [er] at M
    refine j_iconst O (v := -1) dM_put_25 (by decide) ?_
    exact j_iret O M (Nat.le_of_ble_eq_true rfl) (Nat.le_of_ble_eq_true rfl) ⟨rfl, V, hW⟩ dM_put_26
  · have hx0 : 0 ≤ x ∧ x ≤ 5 := by
      by_cases z : 0 ≤ x ∧ x ≤ 5
      · exact z
      · rw [if_neg z] at c1; exact absurd rfl c1
    have hx := (in5 _).mp hx0
    obtain ⟨i, i6, rfl⟩ := tb_of hx
    have ei : ix (nI i) = i := ix_nI (by omega)
    obtain ⟨t1, t2, t3, t4, t5⟩ := id (htb i i6)
    have hCi0 := hCv0 i i6
    refine j_iload_n O 3 dM_put_9 rfl rfl ?_
    refine j_iconst O (v := 0) dM_put_10 (by decide) ?_
    refine j_aload_n O 0 dM_put_11 rfl rfl ?_
    refine j_get O uwM hM rfl 0 (by decide) w447 rfl rfl dM_put_12 ?_
    refine j_iload_n O 1 dM_put_15 rfl rfl ?_
    refine j_iald O hC0 0 rfl (by omega) (by omega) dM_put_16 ?_
    refine j_eqi (nI (s.1 i).1) hCi0 ?_
    refine j_iconst O (v := 1) dM_put_17 (by decide) ?_
    refine j_isub O dM_put_18 ?_
    refine j_callS O [.int y, .int 0, .int (nI (s.1 i).1 - 1)] (c_M_in X.2.1 D t A g y 0 (nI (s.1 i).1 - 1)) w540 w541 w28 w542 3 rfl rfl rfl (by decide +kernel) ⟨(Nat.le_of_ble_eq_true rfl), (Nat.le_of_ble_eq_true rfl)⟩ rfl (Nat.le_of_ble_eq_true rfl) dM_put_19 ⟨(Nat.le_of_ble_eq_true rfl), (Nat.le_of_ble_eq_true rfl)⟩ (fun vw261 gw262 hpw263 => ?_)
    obtain ⟨rfl, hgw264⟩ := hpw263
    have hgw264 := hgw264.symm
    subst hgw264
    refine j_if_ne O 27 dM_put_22 (by decide) (fun c2 => ?_) (fun c2 => ?_)
    · have hy0 : 0 ≤ y ∧ y ≤ nI (s.1 i).1 - 1 := by
        by_cases z : 0 ≤ y ∧ y ≤ nI (s.1 i).1 - 1
        · exact z
        · rw [if_neg z] at c2; exact absurd rfl c2
      have yl := (le_pred (by omega) y).mp hy0.2
      have y0 := hy0.1
      obtain ⟨j, j31, rfl⟩ : ∃ j, j < 2 ^ 31 ∧ y = nI j := ⟨ix y, by have := Int32.toInt_lt y; unfold ix; omega, of_le0 y0⟩
      have hj : j < (s.1 i).1 := (nI_ltI j31 (by omega)).mp yl
      have ej : ix (nI j) = j := ix_nI (by omega)
      have hn1 := hn12 i j i6 hj
      have er : aPut s (nI i) k (nI j) a z = if (¬ ∃ h : plc k (s.1 i).2 < (s.1 i).2.length, (s.1 i).2[plc k (s.1 i).2].1 = k) ∧ 300 ≤ (s.1 i).2.length then (-3, s) else aPlant s i (s.1 i).1 (chg (s.1 i).2 (s.1 i).1 k j a z) := by
        unfold aPut
        rw [if_pos ⟨hx, y0, by rw [ei]; exact yl⟩, ei, ej]
      rw [er] at M
      refine j_aload_n O 0 dM_put_27 rfl rfl ?_
      refine j_iload_n O 1 dM_put_28 rfl rfl ?_
      refine j_callV O [.int (nI i)] (c_M_remember X.2.1 D t A g u oc om (nI s.2.2.length) (nI V.length) (nI (szL V)) lm mm ta co si s.1 i fo fp hM hRT i6 (htb i i6) ho hp hne) hM rfl w543 w544 w15 w28 w545 1 rfl rfl rfl (by decide +kernel) ⟨(Nat.le_of_ble_eq_true rfl), (Nat.le_of_ble_eq_true rfl)⟩ rfl (Nat.le_of_ble_eq_true rfl) dM_put_29 ⟨(Nat.le_of_ble_eq_true rfl), (Nat.le_of_ble_eq_true rfl)⟩ (fun vw265 gw266 hpw267 => ?_)
      obtain ⟨rfl, hM1, ⟨fo1, fp1, ho1, hp1, hold⟩, kpr⟩ := hpw267
      have hk1 : ∀ k e, k < 32 → k ≠ 19 → k ≠ 4 → k ≠ 5 → gAt g (u k) e → gAt gw266 (u k) e := fun k e h0 h1 h2 h3 q => kpr.2 _ _ (three_ne (hne _ _ h0 (by omega) h1) (hne _ _ h0 (by omega) h2) (hne _ _ h0 (by omega) h3)) q
      have hRT1 : RT t gw266 u s.1 := hRT.keep (fun k hk e q => hk1 k e (by omega) (by omega) (by omega) (by omega) q)
      have hD1 : RD t gw266 u s.2.2 := by
        obtain ⟨d1, d2, d3, d4, d5, d6, d7⟩ := hD
        exact ⟨d1, d2, d3, hk1 _ _ (by omega) (by omega) (by omega) (by omega) d4, hk1 _ _ (by omega) (by omega) (by omega) (by omega) d5, hk1 _ _ (by omega) (by omega) (by omega) (by omega) d6, d7⟩
      have hR1 : RS t gw266 u (encL V) := hR.keep (fun k e k1 k2 q => hk1 k e (by omega) (by omega) (by omega) (by omega) q)
      have hv1 := hk1 16 _ (by omega) (by omega) (by omega) (by omega) hv
      have hl1 := hk1 17 _ (by omega) (by omega) (by omega) (by omega) hl
      have hm1 := hk1 18 _ (by omega) (by omega) (by omega) (by omega) hm
      obtain ⟨⟨fC, hC, hCv⟩, ⟨fN, hNn0, hNv⟩, ⟨fK, hK, hKv⟩, ⟨fL, hL, hLv⟩, hrow⟩ := id hRT1
      obtain ⟨fk, fc, hk, hc, htab⟩ := hrow i i6
      have hKi := hKv i i6
      have hLi := hLv i i6
      have hNi := hNv i i6
      have hCi := hCv i i6
      have kp0 : Kp [u 0, u 1, u (20 + i), u (26 + i)] gw266 gw266 := Kp.rf
      refine j_aload_n O 0 dM_put_32 rfl rfl ?_
      refine j_iload_n O 1 dM_put_33 rfl rfl ?_
      refine j_iload_n O 2 dM_put_34 rfl rfl ?_
      refine j_callV O [.int (nI i), .int k] (c_M_find X.2.1 D t A gw266 u (nI (s.1 i).1) (nI (s.1 i).2.length) (nI s.2.2.length) (nI V.length) (nI (szL V)) lm mm ta co si s.1 i k hM1 hRT1 i6 t5) hM1 rfl w556 w557 w18 w28 w558 2 rfl rfl rfl (by decide +kernel) ⟨(Nat.le_of_ble_eq_true rfl), (Nat.le_of_ble_eq_true rfl)⟩ rfl (Nat.le_of_ble_eq_true rfl) dM_put_35 ⟨(Nat.le_of_ble_eq_true rfl), (Nat.le_of_ble_eq_true rfl)⟩ (fun vw268 gw269 hpw270 => ?_)
      obtain ⟨rfl, hgw271⟩ := hpw270
      have hgw271 := hgw271.symm
      subst hgw271
      by_cases hin : ∃ h : plc k (s.1 i).2 < (s.1 i).2.length, (s.1 i).2[plc k (s.1 i).2].1 = k
      · rw [if_pos hin]
        rw [if_neg (fun q => q.1 hin)] at M
        obtain ⟨hpl, hpk⟩ := id hin
        have hrch : ∀ r ∈ chg (s.1 i).2 (s.1 i).1 k j a z, rowC r := fun r hr => by
          unfold chg at hr
          rw [dif_pos hin] at hr
          rcases List.mem_or_eq_of_mem_set hr with q | q
          · exact hrc i i6 r q
          · rw [q]
            have hl0 := t3 _ (List.getElem_mem hpl)
            exact rowC_set (hrc i i6 _ (List.getElem_mem hpl)) a z (by omega) (by omega)
        have hRTs : RT t gw266 u (va_up s.1 i ((s.1 i).1, (s.1 i).2)) := by
          have : va_up s.1 i ((s.1 i).1, (s.1 i).2) = s.1 := va_up_same s.1 i
          rw [this]
          exact hRT1
        refine j_istore O [(6, .int (nI (plc k (s.1 i).2))), (0, .ref (u 19)), (1, .int (nI i)), (2, .int k), (3, .int (nI j)), (4, .int a), (5, .int z)] dM_put_38 (by decide) rfl ?_
        refine j_iload O dM_put_40 rfl ?_
        refine j_if_ge O 154 dM_put_42 (by decide) (fun c => ?_) (fun c => absurd (nI_le (a := 0) (Nat.zero_le _) (by omega)) c)
        refine J.pk [1, 2, 4, 5, 6, 0] rfl ?_
        exact put_tailM O M hM1 hRTs hD1 hR1 hV hv1 hl1 hm1 ho1 hp1 hold htb i6 hpl t3 t5 hj (by unfold chg; rw [dif_pos hin]) (tOK_chg (htb i i6) k j a z (fun q => absurd hin q)) hrch hpm hn hn1 hne ⟨(Nat.le_of_ble_eq_true rfl), (Nat.le_of_ble_eq_true rfl)⟩
      · rw [if_neg hin]
        refine j_istore O [(6, .int (-1)), (0, .ref (u 19)), (1, .int (nI i)), (2, .int k), (3, .int (nI j)), (4, .int a), (5, .int z)] dM_put_38 (by decide) rfl ?_
        refine j_iload O dM_put_40 rfl ?_
        refine j_if_ge O 154 dM_put_42 (by decide) (fun c => absurd c (by decide)) (fun c => ?_)
        refine j_aload_n O 0 dM_put_45 rfl rfl ?_
        refine j_get O uwM hM1 rfl 1 (by decide) w448 rfl rfl dM_put_46 ?_
        refine j_iload_n O 1 dM_put_49 rfl rfl ?_
        refine j_iald O hNn0 0 rfl (by omega) (by omega) dM_put_50 ?_
        refine j_eqi (nI (s.1 i).2.length) hNi ?_
        refine j_sipush O (v := 300) dM_put_51 (by decide) ?_
        refine j_icmp_ne O 60 dM_put_54 (by decide) (fun c3 => ?_) (fun c3 => ?_)
        · have hfull : (s.1 i).2.length < 300 := by
            rcases Nat.lt_or_ge (s.1 i).2.length 300 with q | q
            · exact q
            · exact absurd (by rw [show (s.1 i).2.length = 300 by omega]; rfl) c3
          rw [if_neg (fun q => by omega)] at M
          have hple := plc_le k (s.1 i).2
          refine j_aload_n O 0 dM_put_60 rfl rfl ?_
          refine j_iload_n O 1 dM_put_61 rfl rfl ?_
          refine j_iload_n O 2 dM_put_62 rfl rfl ?_
          refine j_callV O [.int (nI i), .int k] (c_M_placeOf X.2.1 D t A gw266 u (nI (s.1 i).1) (nI (s.1 i).2.length) (nI s.2.2.length) (nI V.length) (nI (szL V)) lm mm ta co si s.1 i k hM1 hRT1 i6 t5) hM1 rfl w559 w560 w19 w28 w561 2 rfl rfl rfl (by decide +kernel) ⟨(Nat.le_of_ble_eq_true rfl), (Nat.le_of_ble_eq_true rfl)⟩ rfl (Nat.le_of_ble_eq_true rfl) dM_put_63 ⟨(Nat.le_of_ble_eq_true rfl), (Nat.le_of_ble_eq_true rfl)⟩ (fun vw272 gw273 hpw274 => ?_)
          obtain ⟨rfl, hgw275⟩ := hpw274
          have hgw275 := hgw275.symm
          subst hgw275
          have hchg : chg (s.1 i).2 (s.1 i).1 k j a z = (s.1 i).2.take (plc k (s.1 i).2) ++ setC (blankR k (s.1 i).1) j a z :: (s.1 i).2.drop (plc k (s.1 i).2) := by
            unfold chg
            rw [dif_neg hin]
          have htkc := tOK_chg (htb i i6) k j a z (fun _ => hfull)
          rw [hchg] at M hn1 htkc
          generalize hat : plc k (s.1 i).2 = at0 at *
          refine j_istore O [(6, .int (nI at0)), (0, .ref (u 19)), (1, .int (nI i)), (2, .int k), (3, .int (nI j)), (4, .int a), (5, .int z)] dM_put_66 (by decide) rfl ?_
          refine j_aload_n O 0 dM_put_68 rfl rfl ?_
          refine j_get O uwM hM1 rfl 1 (by decide) w448 rfl rfl dM_put_69 ?_
          refine j_iload_n O 1 dM_put_72 rfl rfl ?_
          refine j_iald O hNn0 0 rfl (by omega) (by omega) dM_put_73 ?_
          refine j_eqi (nI (s.1 i).2.length) hNi ?_
          refine j_istore O [(7, .int (nI (s.1 i).2.length)), (6, .int (nI at0)), (0, .ref (u 19)), (1, .int (nI i)), (2, .int k), (3, .int (nI j)), (4, .int a), (5, .int z)] dM_put_74 (by decide) rfl ?_
          refine J.pk [2, 3, 4, 5, 6, 7, 1, 0] rfl ?_
          refine put_shift (k0 := 0) (n0 := 0) (len := (s.1 i).2.length) (at0 := at0) O hM1 hL hLi i6 hK hKi hne hfull ⟨(Nat.le_of_ble_eq_true rfl), (Nat.le_of_ble_eq_true rfl), Nat.zero_le _, Nat.zero_le _⟩ (fun g2 fk1 fc1 hk2 hc2 hok kp2 => ?_) ((s.1 i).2.length - at0) (s.1 i).2.length gw266 fk fc (by omega) (Nat.le_refl _) hk hc (fun r => ⟨fun _ => rowp.rf, fun ⟨q1, q2⟩ => absurd q1 (by omega)⟩) Kp.rf
          have hkk : ∀ k e, k < 20 → gAt gw266 (u k) e → gAt g2 (u k) e := fun k e hk q => kp2.2 _ _ (two_ne (hne _ _ (by omega) (by omega) (by omega)) (hne _ _ (by omega) (by omega) (by omega))) q
          have hM2 := hkk 19 _ (by omega) hM1
          have hK2 := hkk 2 _ (by omega) hK
          have hL2 := hkk 3 _ (by omega) hL
          have kp2a : Kp [u 0, u 1, u (20 + i), u (26 + i)] gw266 g2 := kp2.mono (fun x hx => List.mem_cons_of_mem _ (List.mem_cons_of_mem _ hx))
          refine j_aload_n O 0 dM_put_100 rfl rfl ?_
          refine j_get O uwM hM2 rfl 2 (by decide) w449 rfl rfl dM_put_101 ?_
          refine j_iload_n O 1 dM_put_104 rfl rfl ?_
          refine j_aaldA O hK2 4 rfl (by omega) (by omega) dM_put_105 ?_
          refine j_some (u (20 + i)) hKi ?_
          refine j_iload O dM_put_106 rfl ?_
          refine j_iload_n O 2 dM_put_108 rfl rfl ?_
          refine j_iast O hk2 0 rfl (by omega) (by decide) dM_put_109 (fun gw276 ew277 => ?_)
          have hw278 := gUp_ne (e' := .inl (t 0, 301, .inl (upd fk1 at0 k))) hM2 (hM2.ne hk2 (by simp))
          rw [← ew277] at hw278
          have hw279 := gUp_ne (e' := .inl (t 0, 301, .inl (upd fk1 at0 k))) hK2 (hK2.ne hk2 (by simp))
          rw [← ew277] at hw279
          have hw280 := gUp_ne (e' := .inl (t 0, 301, .inl (upd fk1 at0 k))) hL2 (hL2.ne hk2 (by simp))
          rw [← ew277] at hw280
          have hw281 := gUp_ne (e' := .inl (t 0, 301, .inl (upd fk1 at0 k))) hc2 (hc2.ne hk2 (by simp))
          rw [← ew277] at hw281
          have hw282 := gUp_self (e' := .inl (t 0, 301, .inl (upd fk1 at0 k))) hk2
          rw [← ew277] at hw282
          have kpw283 := kp2a.up (a := (u (20 + i))) (e := .inl (t 0, 301, .inl (upd fk1 at0 k))) (by simp)
          rw [← ew277] at kpw283
          refine j_iconst O (v := 0) dM_put_110 (by decide) ?_
          refine j_istore O [(7, .int 0), (0, .ref (u 19)), (1, .int (nI i)), (2, .int k), (3, .int (nI j)), (4, .int a), (5, .int z), (6, .int (nI at0))] dM_put_111 (by decide) rfl ?_
          refine J.pk [1, 2, 3, 4, 5, 6, 7, 0] rfl ?_
          refine put_blank (k0 := 0) (n0 := 0) (at0 := at0) O hw278 hw280 hLi i6 hne (by omega) (fun g4 fc4 hc4 hb1 hb2 kp4 => ?_) 6 0 gw276 fc1 rfl hw281 (fun q hq => by omega) (fun q _ => rfl) Kp.rf
          have kp5 : Kp [u 0, u 1, u (20 + i), u (26 + i)] gw266 g4 := kpw283.tr (kp4.mono (fun x hx => by rw [List.mem_singleton.mp hx]; simp))
          have hkz : ∀ k e, k ≠ 0 → k ≠ 1 → k < 20 → gAt gw266 (u k) e → gAt g4 (u k) e := fun k e h1 h2 h3 q => kp5.2 _ _ (un4 hne (by omega) i6 h1 h2 (by omega) (by omega)) q
          have hM4 := hkz 19 _ (by omega) (by omega) (by omega) hM1
          have hK4 := hkz 2 _ (by omega) (by omega) (by omega) hK
          have hL4 := hkz 3 _ (by omega) (by omega) (by omega) hL
          have hk4 := kp4.2 _ _ (one_ne (hne _ _ (by omega) (by omega) (by omega))) hw282
          have hN2 := kp2.2 _ _ (two_ne (hne 1 _ (by omega) (by omega) (by omega)) (hne 1 _ (by omega) (by omega) (by omega))) hNn0
          have hC2 := kp2.2 _ _ (two_ne (hne 0 _ (by omega) (by omega) (by omega)) (hne 0 _ (by omega) (by omega) (by omega))) hC
          have kpKB : Kp [u (20 + i), u (26 + i)] g2 g4 := by
            have q0 : Kp [u (20 + i), u (26 + i)] g2 g2 := Kp.rf
            have q1 := q0.up (a := (u (20 + i))) (e := .inl (t 0, 301, .inl (upd fk1 at0 k))) (by simp)
            rw [← ew277] at q1
            exact q1.tr (kp4.mono (fun x hx => by rw [List.mem_singleton.mp hx]; simp))
          have hN4 := kpKB.2 _ _ (two_ne (hne 1 _ (by omega) (by omega) (by omega)) (hne 1 _ (by omega) (by omega) (by omega))) hN2
          have hC4 := kpKB.2 _ _ (two_ne (hne 0 _ (by omega) (by omega) (by omega)) (hne 0 _ (by omega) (by omega) (by omega))) hC2
          refine j_aload_n O 0 dM_put_144 rfl rfl ?_
          refine j_get O uwM hM4 rfl 1 (by decide) w448 rfl rfl dM_put_145 ?_
          refine j_iload_n O 1 dM_put_148 rfl rfl ?_
          refine j_dup2 O dM_put_149 rfl rfl ?_
          refine j_iald O hN4 0 rfl (by omega) (by omega) dM_put_150 ?_
          refine j_eqi (nI (s.1 i).2.length) hNi ?_
          refine j_iconst O (v := 1) dM_put_151 (by decide) ?_
          refine j_iadd O dM_put_152 ?_
          refine j_eqi (nI ((s.1 i).2.length + 1)) (nI_1 _) ?_
          refine j_iast O hN4 0 rfl i6 (by decide) dM_put_153 (fun gw284 ew285 => ?_)
          have hw286 := gUp_ne (e' := .inl (t 0, 6, .inl (upd fN i (nI ((s.1 i).2.length + 1))))) hM4 (hM4.ne hN4 (by simp))
          rw [← ew285] at hw286
          have hw287 := gUp_ne (e' := .inl (t 0, 6, .inl (upd fN i (nI ((s.1 i).2.length + 1))))) hC4 (hne 0 1 (by omega) (by omega) (by omega))
          rw [← ew285] at hw287
          have hw288 := gUp_ne (e' := .inl (t 0, 6, .inl (upd fN i (nI ((s.1 i).2.length + 1))))) hK4 (hK4.ne hN4 (by simp))
          rw [← ew285] at hw288
          have hw289 := gUp_ne (e' := .inl (t 0, 6, .inl (upd fN i (nI ((s.1 i).2.length + 1))))) hL4 (hL4.ne hN4 (by simp))
          rw [← ew285] at hw289
          have hw290 := gUp_ne (e' := .inl (t 0, 6, .inl (upd fN i (nI ((s.1 i).2.length + 1))))) hk4 (hk4.ne hN4 (by simp))
          rw [← ew285] at hw290
          have hw291 := gUp_ne (e' := .inl (t 0, 6, .inl (upd fN i (nI ((s.1 i).2.length + 1))))) hc4 (hc4.ne hN4 (by simp))
          rw [← ew285] at hw291
          have hw292 := gUp_self (e' := .inl (t 0, 6, .inl (upd fN i (nI ((s.1 i).2.length + 1))))) hN4
          rw [← ew285] at hw292
          have kpw293 := kp5.up (a := (u 1)) (e := .inl (t 0, 6, .inl (upd fN i (nI ((s.1 i).2.length + 1))))) (by simp)
          rw [← ew285] at kpw293
          have hl1l : ((s.1 i).2.take at0 ++ blankR k (s.1 i).1 :: (s.1 i).2.drop at0).length = (s.1 i).2.length + 1 := by rw [List.length_append, List.length_cons, List.length_take, List.length_drop]; omega
          have hatl : at0 < ((s.1 i).2.take at0 ++ blankR k (s.1 i).1 :: (s.1 i).2.drop at0).length := by rw [hl1l]; omega
          have hr1 : ∀ r ∈ ((s.1 i).2.take at0 ++ blankR k (s.1 i).1 :: (s.1 i).2.drop at0), r.2.1.length = (s.1 i).1 := fun r hr => by
            rcases List.mem_append.mp hr with q | q
            · exact t3 r (List.mem_of_mem_take q)
            · rcases List.mem_cons.mp q with q | q
              · rw [q]; simp [blankR]
              · exact t3 r (List.mem_of_mem_drop q)
          have htab1 : tabOK (upd fk1 at0 k) fc4 (s.1 i).1 ((s.1 i).2.take at0 ++ blankR k (s.1 i).1 :: (s.1 i).2.drop at0) := fun r hr => by
            rcases ins_at hple (blankR k (s.1 i).1) r hr with ⟨h2, h3, e⟩ | ⟨h3, e⟩ | ⟨h2, h3, e⟩
            · rw [e]
              obtain ⟨x1, x2⟩ := htab r h2
              obtain ⟨p1, p2⟩ := (hok r).1 h3
              exact ⟨by rw [pk_un (by omega), p1, x1], fun c hc => by rw [hb2 _ (by omega), p2 c (by omega), x2 c hc]⟩
            · rw [e, h3]
              exact ⟨pk_us, fun c hc => by rw [hb1 c (by omega), cv_blank k (by omega) hc]⟩
            · rw [e]
              obtain ⟨x1, x2⟩ := htab (r - 1) h2
              obtain ⟨p1, p2⟩ := (hok r).2 ⟨h3, by omega⟩
              exact ⟨by rw [pk_un (by omega), p1, x1], fun c hc => by rw [hb2 _ (by omega), p2 c (by omega), x2 c hc]⟩
          have hRTs : RT t gw284 u (va_up s.1 i ((s.1 i).1, ((s.1 i).2.take at0 ++ blankR k (s.1 i).1 :: (s.1 i).2.drop at0))) := by
            refine ⟨⟨_, hw287, fun b hb => ?_⟩, ⟨_, hw292, fun b hb => ?_⟩, ⟨_, hw288, hKv⟩, ⟨_, hw289, hLv⟩, fun b hb => ?_⟩
            · by_cases e : b = i
              · subst e; rw [va_up_self]; exact hCv b hb
              · rw [va_up_ne _ _ e]; exact hCv b hb
            · by_cases e : b = i
              · subst e; rw [pk_us, va_up_self, hl1l]
              · rw [pk_un (by omega), va_up_ne _ _ e]; exact hNv b hb
            · by_cases e : b = i
              · subst e; rw [va_up_self]; exact ⟨_, _, hw290, hw291, htab1⟩
              · rw [va_up_ne _ _ e]
                obtain ⟨f1, f2, b1, b2, b3⟩ := hrow b hb
                exact ⟨f1, f2, kpw293.2 _ _ (un4 hne (by omega) i6 (by omega) (by omega) (by omega) (by omega)) b1, kpw293.2 _ _ (un4 hne (by omega) i6 (by omega) (by omega) (by omega) (by omega)) b2, b3⟩
          have hky : ∀ k e, k ≠ 0 → k ≠ 1 → k < 20 → gAt gw266 (u k) e → gAt gw284 (u k) e := fun k e h1 h2 h3 q => kpw293.2 _ _ (un4 hne (by omega) i6 h1 h2 (by omega) (by omega)) q
          have hgA : ((s.1 i).2.take at0 ++ blankR k (s.1 i).1 :: (s.1 i).2.drop at0)[at0] = blankR k (s.1 i).1 := by
            rcases ins_at hple (blankR k (s.1 i).1) at0 hatl with ⟨h2, h3, e⟩ | ⟨h3, e⟩ | ⟨h2, h3, e⟩
            · omega
            · exact e
            · omega
          have hset : ((s.1 i).2.take at0 ++ blankR k (s.1 i).1 :: (s.1 i).2.drop at0).set at0 (setC ((s.1 i).2.take at0 ++ blankR k (s.1 i).1 :: (s.1 i).2.drop at0)[at0] j a z) = (s.1 i).2.take at0 ++ setC (blankR k (s.1 i).1) j a z :: (s.1 i).2.drop at0 := by
            rw [hgA]
            have hl0 : ((s.1 i).2.take at0).length = at0 := by rw [List.length_take]; omega
            rw [List.set_append_right _ _ (by omega), hl0, Nat.sub_self]
            rfl
          have hrch : ∀ r ∈ (s.1 i).2.take at0 ++ setC (blankR k (s.1 i).1) j a z :: (s.1 i).2.drop at0, rowC r := fun r hr => by
            rcases List.mem_append.mp hr with q | q
            · exact hrc i i6 r (List.mem_of_mem_take q)
            · rcases List.mem_cons.mp q with q | q
              · rw [q]; exact rowC_set (rowC_blank k (by omega)) a z (by simp [blankR]; omega) (by simp [blankR]; omega)
              · exact hrc i i6 r (List.mem_of_mem_drop q)
          refine J.pk [0, 1, 3, 4, 5, 6] rfl ?_
          exact put_tailM O M hw286 hRTs (hD1.keep (fun k e hk q => hky k e (by omega) (by omega) (by omega) q)) (hR1.keep (fun k e k1 k2 q => hky k e (by omega) (by omega) (by omega) q)) hV (hky 16 _ (by omega) (by omega) (by omega) hv1) (hky 17 _ (by omega) (by omega) (by omega) hl1) (hky 18 _ (by omega) (by omega) (by omega) hm1) (hky 4 _ (by omega) (by omega) (by omega) ho1) (hky 5 _ (by omega) (by omega) (by omega) hp1) hold htb i6 hatl hr1 (by rw [hl1l]; omega) hj hset htkc hrch hpm hn hn1 hne ⟨(Nat.le_of_ble_eq_true rfl), (Nat.le_of_ble_eq_true rfl)⟩
        · have hfull : (s.1 i).2.length = 300 := nI_inj (b := 300) (by omega) (by omega) c3
          rw [if_pos ⟨hin, by omega⟩] at M
          refine j_bipush O (v := -3) dM_put_57 (by decide) ?_
          exact j_iret O M (Nat.le_of_ble_eq_true rfl) (Nat.le_of_ble_eq_true rfl) ⟨rfl, V, hRT1, hD1, ⟨⟨_, _, _, _, _, _, _, hM1⟩, ⟨_, hv1⟩, ⟨_, hl1⟩, ⟨_, hm1⟩, ⟨_, ho1⟩, ⟨_, hp1⟩, hR1, hV⟩, hpm, hne⟩ dM_put_59
    · have hy0 : ¬ (0 ≤ y ∧ y ≤ nI (s.1 i).1 - 1) := fun z => by rw [if_pos z] at c2; exact absurd c2 (by decide)
      have er : aPut s (nI i) k y a z = (-1, s) := if_neg (fun q => hy0 ⟨q.2.1, (le_pred (by omega) y).mpr (by have := q.2.2; rw [ei] at this; exact this)⟩)
      rw [er] at M
      refine j_iconst O (v := -1) dM_put_25 (by decide) ?_
      exact j_iret O M (Nat.le_of_ble_eq_true rfl) (Nat.le_of_ble_eq_true rfl) ⟨rfl, V, hW⟩ dM_put_26
