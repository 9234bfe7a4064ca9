/-- one row of a table's arrays is another's -/
def rowp (fk : Nat → Int32) (fc : Nat → Int64) (r : Nat) (fk0 : Nat → Int32) (fc0 : Nat → Int64) (r0 : Nat) : Prop := fk r = fk0 r0 ∧ ∀ j, j < 6 → fc (6 * r + j) = fc0 (6 * r0 + j)
theorem rowp.rf {fk : Nat → Int32} {fc : Nat → Int64} {r : Nat} : rowp fk fc r fk fc r := ⟨rfl, fun _ _ => rfl⟩
theorem rowp.tr {fk fk1 fk2 : Nat → Int32} {fc fc1 fc2 : Nat → Int64} {r r1 r2 : Nat} (h : rowp fk fc r fk1 fc1 r1) (h1 : rowp fk1 fc1 r1 fk2 fc2 r2) : rowp fk fc r fk2 fc2 r2 := ⟨h.1.trans h1.1, fun j hj => (h.2 j hj).trans (h1.2 j hj)⟩
theorem move_rowp {fk : Nat → Int32} {fc f1 : Nat → Int64} {fr to : Nat} (h2 : ∀ j, j < 6 → f1 (6 * to + j) = fc (6 * fr + j)) (h3 : ∀ k, (k < 6 * to ∨ 6 * to + 6 ≤ k) → f1 k = fc k) : rowp (upd fk to (fk fr)) f1 to fk fc fr ∧ ∀ r, r ≠ to → rowp (upd fk to (fk fr)) f1 r fk fc r := by
  refine ⟨⟨pk_us, h2⟩, fun r hr => ⟨pk_un (by omega), fun j hj => h3 _ (by omega)⟩⟩
theorem tabOK.rows {fk fk0 : Nat → Int32} {fc fc0 : Nat → Int64} {w : Nat} {rs rs' : List RV} (h : tabOK fk0 fc0 w rs) (hw : w ≤ 6) (hr : ∀ r (h : r < rs'.length), ∃ r0, ∃ h0 : r0 < rs.length, rowp fk fc r fk0 fc0 r0 ∧ rs'[r] = rs[r0]) : tabOK fk fc w rs' := by
  intro r hl
  obtain ⟨r0, h0, hp, he⟩ := hr r hl
  rw [he]
  obtain ⟨a, b⟩ := h r0 h0
  exact ⟨hp.1.trans a, fun c hc => (hp.2 c (by omega)).trans (b c hc)⟩
set_option maxRecDepth 100000 in
set_option maxHeartbeats 1000000 in
theorem rem_loop {X : CX} {D : va_G} {t : Nat → ClassId} {A : Nat → Prop} {rm : Room} {g : GH} {k0 n0 : Nat} {u : Nat → Nat} {oc om df nn us lm mm ta co si : Int32} {i len at0 : Nat} {fK fL : Nat → Option Nat} {fk : Nat → Int32} {fc : Nat → Int64} {fN : Nat → Int32} (O : Ok X bM_remove 5 "TwinTreesModel" (zz D t A) rm) (hM : gAt g (u 19) (eM u oc om df nn us lm mm ta co si)) (hL : gAt g (u 3) (eLL t 6 fL)) (hLi : fL i = some (u (26 + i))) (i6 : i < 6) (hK : gAt g (u 2) (eII t 6 fK)) (hKi : fK i = some (u (20 + i))) (hne : ∀ i j, i < 32 → j < 32 → i ≠ j → u i ≠ u j) (hN : gAt g (u 1) (eI t 6 fN)) (hNi : fN i = nI len) (hlen : len ≤ 300) (hrm : 1 ≤ rm.frames ∧ 60 ≤ rm.locals ∧ k0 ≤ rm.cells ∧ n0 ≤ rm.slots) (HK : ∀ (g1 : GH) (fk1 : Nat → Int32) (fc1 : Nat → Int64), gAt g1 (u (20 + i)) (eI t 301 fk1) → gAt g1 (u (26 + i)) (eL t 1806 fc1) → (∀ r, ((at0 ≤ r ∧ r + 1 < len) → rowp fk1 fc1 r fk fc (r + 1)) ∧ ((r < at0 ∨ len ≤ r) → rowp fk1 fc1 r fk fc r)) → Kp [u (20 + i), u (26 + i)] g g1 → J X 5 (zz D t A) g1 k0 n0 63 [(0, .ref (u 19)), (1, .int (nI i))] []) : ∀ (n m : Nat) (g1 : GH) (fk1 : Nat → Int32) (fc1 : Nat → Int64), m + n = len → at0 + 1 ≤ m → gAt g1 (u (20 + i)) (eI t 301 fk1) → gAt g1 (u (26 + i)) (eL t 1806 fc1) → (∀ r, ((at0 ≤ r ∧ r + 1 < m) → rowp fk1 fc1 r fk fc (r + 1)) ∧ ((r < at0 ∨ m ≤ r) → rowp fk1 fc1 r fk fc r)) → Kp [u (20 + i), u (26 + i)] g g1 → J X 5 (zz D t A) g1 k0 n0 35 [(0, .ref (u 19)), (1, .int (nI i)), (4, .int (nI m))] [] := by
  have hkk : ∀ g1, Kp [u (20 + i), u (26 + i)] g g1 → ∀ k e, k < 20 → gAt g (u k) e → gAt g1 (u k) e := fun g1 kp k e hk q => kp.2 _ _ (two_ne (hne _ _ (by omega) (by omega) (by omega)) (hne _ _ (by omega) (by omega) (by omega))) q
  intro n
  induction n with
  | zero =>
    intro m g1 fk1 fc1 hn ham h1 h2 hok kp
    have e : m = len := by omega
    subst e
    have hM1 := hkk g1 kp 19 _ (by omega) hM
    have hN1 := hkk g1 kp 1 _ (by omega) hN
    refine j_iload O dM_remove_35 rfl ?_
    refine j_aload_n O 0 dM_remove_37 rfl rfl ?_
    refine j_get O uwM hM1 rfl 1 (by decide) w448 rfl rfl dM_remove_38 ?_
    refine j_iload_n O 1 dM_remove_41 rfl rfl ?_
    refine j_iald O hN1 0 rfl (by omega) (by omega) dM_remove_42 ?_
    refine j_eqi (nI m) hNi ?_
    refine j_icmp_ge O 63 dM_remove_43 (by decide) (fun c0 => ?_) (fun c0 => absurd (nI_le (Nat.le_refl _) (by omega)) c0)
    refine J.pk [0, 1] rfl ?_
    exact HK g1 fk1 fc1 h1 h2 hok kp
  | succ n ih =>
    intro m g1 fk1 fc1 hn ham h1 h2 hok kp
    have hM1 := hkk g1 kp 19 _ (by omega) hM
    have hN1 := hkk g1 kp 1 _ (by omega) hN
    have hK1 := hkk g1 kp 2 _ (by omega) hK
    have hL1 := hkk g1 kp 3 _ (by omega) hL
    refine j_iload O dM_remove_35 rfl ?_
    refine j_aload_n O 0 dM_remove_37 rfl rfl ?_
    refine j_get O uwM hM1 rfl 1 (by decide) w448 rfl rfl dM_remove_38 ?_
    refine j_iload_n O 1 dM_remove_41 rfl rfl ?_
    refine j_iald O hN1 0 rfl (by omega) (by omega) dM_remove_42 ?_
    refine j_eqi (nI len) hNi ?_
    refine j_icmp_ge O 63 dM_remove_43 (by decide) (fun c0 => absurd c0 (nI_ge (by omega) (by omega))) (fun c0 => ?_)
    refine j_aload_n O 0 dM_remove_46 rfl rfl ?_
    refine j_iload_n O 1 dM_remove_47 rfl rfl ?_
    refine j_iload O dM_remove_48 rfl ?_
    refine j_iload O dM_remove_50 rfl ?_
    refine j_iconst O (v := 1) dM_remove_52 (by decide) ?_
    refine j_isub O dM_remove_53 ?_
    refine j_eqi (nI (m - 1)) (pk_sub (b := 1) (by omega)) ?_
    refine j_callV O [.int (nI i), .int (nI m), .int (nI (m - 1))] (c_M_move X.2.1 D t A g1 u oc om df nn us lm mm ta co si i m (m - 1) fK fL fk1 fc1 hM1 hL1 hLi i6 (by omega) (by omega) (by omega) hK1 hKi h1 h2 (hne 2 3 (by omega) (by omega) (by omega))) hM1 rfl w562 w563 w20 w28 w564 3 rfl rfl rfl (by decide +kernel) ⟨hrm.1, by show 8 + (5 + 11) + 0 ≤ _; omega⟩ rfl (Nat.le_of_ble_eq_true rfl) dM_remove_54 ⟨hrm.2.2.1, hrm.2.2.2⟩ (fun vw195 gw196 hpw197 => ?_)
    obtain ⟨rfl, hk2, ⟨f2, hc2, hf2, hf3⟩, kp2⟩ := hpw197
    obtain ⟨hmv, hms⟩ := move_rowp (fk := fk1) hf2 hf3
    refine j_iinc O (nI (m + 1)) [(4, .int (nI (m + 1))), (0, .ref (u 19)), (1, .int (nI i))] dM_remove_57 rfl (nI_1 _) (by decide) rfl ?_
    refine j_goto O 35 dM_remove_60 (by decide) ?_
    refine J.pk [1, 2, 0] rfl ?_
    exact ih (m + 1) gw196 _ f2 (by omega) (by omega) hk2 hc2 (fun r => by
      refine ⟨fun ⟨q1, q2⟩ => ?_, fun q => ?_⟩
      · by_cases z : r = m - 1
        · subst z
          have e : m - 1 + 1 = m := by omega
          rw [e]
          exact hmv.tr ((hok m).2 (Or.inr (Nat.le_refl _)))
        · exact (hms r z).tr ((hok r).1 ⟨q1, by omega⟩)
      · exact (hms r (by omega)).tr ((hok r).2 (by omega))) (kp.tr kp2)
set_option maxRecDepth 100000 in
set_option maxHeartbeats 1000000 in
theorem c_M_remove (l : Launch) (D : va_G) (t : Nat → ClassId) (A : Nat → Prop) (g : GH) (u : Nat → Nat) (s : AS) (V : List NV) (x k : Int32) (hW : RW t g u s V) (hA : aOK s) (hn : s.2.1.length + 12 ≤ 60000) (hn12 : ∀ i, i < 6 → (∃ h : plc k (s.1 i).2 < (s.1 i).2.length, (s.1 i).2[plc k (s.1 i).2].1 = k) → (news s.2.1 (ndl ((s.1 i).2.eraseIdx (plc k (s.1 i).2)))).length ≤ 12) : Ct l yM_remove sM_remove { frames := 5, cells := 0, slots := 0, locals := 280 } (zz D t A) [.ref (u 19), .int x, .int k] g 0 0 (fun v g' => v = some (.int (aRem s x k).1) ∧ ∃ V', RW t g' u (aRem s x k).2 V') := by
  refine Ct.of (cc := bM_remove) (maxL := 5) (ret := (some .int)) (by decide) (Nat.le_of_ble_eq_true rfl) (fun X hlX O M hNn => ?_)
  show J X 5 (zz D t A) g 0 0 0 [(0, .ref (u 19)), (1, .int x), (2, .int k)] []
  obtain ⟨hRT, hD, ⟨⟨oc, om, lm, mm, ta, co, si, hM⟩, ⟨fv, hv⟩, ⟨fl, hl⟩, ⟨fm, hm⟩, ⟨fo, ho⟩, ⟨fp, hp⟩, hR, hV⟩, hpm, hne⟩ := id hW
  obtain ⟨htb, hrc, hso⟩ := id hA
  refine j_iload_n O 1 dM_remove_0 rfl rfl ?_
  refine j_iconst O (v := 0) dM_remove_1 (by decide) ?_
  refine j_iconst O (v := 5) dM_remove_2 (by decide) ?_
  refine j_callS O [.int x, .int 0, .int 5] (c_M_in X.2.1 D t A g x 0 5) w540 w541 w28 w542 3 rfl rfl rfl (by decide +kernel) ⟨(Nat.le_of_ble_eq_true rfl), (Nat.le_of_ble_eq_true rfl)⟩ rfl (Nat.le_of_ble_eq_true rfl) dM_remove_3 ⟨(Nat.le_of_ble_eq_true rfl), (Nat.le_of_ble_eq_true rfl)⟩ (fun vw198 gw199 hpw200 => ?_)
  obtain ⟨rfl, hgw201⟩ := hpw200
  have hgw201 := hgw201.symm
  subst hgw201
  refine j_if_ne O 11 dM_remove_6 (by decide) (fun c1 => ?_) (fun c1 => ?_)
  · have hx0 : 0 ≤ x ∧ x ≤ 5 := by
      by_cases z : 0 ≤ x ∧ x ≤ 5
      · exact z
      · rw [if_neg z] at c1; exact absurd rfl c1
    have hx := (in5 _).mp hx0
    obtain ⟨i, i6, rfl⟩ := tb_of hx
    have ei : ix (nI i) = i := ix_nI (by omega)
    obtain ⟨t1, t2, t3, t4, t5⟩ := id (htb i i6)
    refine j_aload_n O 0 dM_remove_11 rfl rfl ?_
    refine j_iload_n O 1 dM_remove_12 rfl rfl ?_
    refine j_iload_n O 2 dM_remove_13 rfl rfl ?_
    refine j_callV O [.int (nI i), .int k] (c_M_find X.2.1 D t A g u oc om (nI s.2.2.length) (nI V.length) (nI (szL V)) lm mm ta co si s.1 i k hM hRT i6 t5) hM rfl w556 w557 w18 w28 w558 2 rfl rfl rfl (by decide +kernel) ⟨(Nat.le_of_ble_eq_true rfl), (Nat.le_of_ble_eq_true rfl)⟩ rfl (Nat.le_of_ble_eq_true rfl) dM_remove_14 ⟨(Nat.le_of_ble_eq_true rfl), (Nat.le_of_ble_eq_true rfl)⟩ (fun vw202 gw203 hpw204 => ?_)
    obtain ⟨rfl, hgw205⟩ := hpw204
    have hgw205 := hgw205.symm
    subst hgw205
    by_cases hin : ∃ h : plc k (s.1 i).2 < (s.1 i).2.length, (s.1 i).2[plc k (s.1 i).2].1 = k
    · rw [if_pos hin]
      obtain ⟨hpl, hpk⟩ := id hin
      have hn1 := hn12 i i6 hin
      have er : aRem s (nI i) k = aPlant s i (s.1 i).1 ((s.1 i).2.eraseIdx (plc k (s.1 i).2)) := by
        unfold aRem
        rw [if_pos hx, ei, if_pos hin]
      rw [er] at M
      generalize hat : plc k (s.1 i).2 = at0 at *
      refine j_istore_n O 3 [(3, .int (nI at0)), (0, .ref (u 19)), (1, .int (nI i)), (2, .int k)] dM_remove_17 rfl (by decide) rfl ?_
      refine j_iload_n O 3 dM_remove_18 rfl rfl ?_
      refine j_if_ge O 25 dM_remove_19 (by decide) (fun c => ?_) (fun c => absurd (nI_le (a := 0) (Nat.zero_le _) (by omega)) c)
      refine j_aload_n O 0 dM_remove_25 rfl rfl ?_
      refine j_iload_n O 1 dM_remove_26 rfl rfl ?_
      refine j_callV O [.int (nI i)] (c_M_remember X.2.1 D t A g u oc om (nI s.2.2.length) (nI V.length) (nI (szL V)) lm mm ta co si s.1 i fo fp hM hRT i6 (htb i i6) ho hp hne) hM rfl w543 w544 w15 w28 w545 1 rfl rfl rfl (by decide +kernel) ⟨(Nat.le_of_ble_eq_true rfl), (Nat.le_of_ble_eq_true rfl)⟩ rfl (Nat.le_of_ble_eq_true rfl) dM_remove_27 ⟨(Nat.le_of_ble_eq_true rfl), (Nat.le_of_ble_eq_true rfl)⟩ (fun vw206 gw207 hpw208 => ?_)
      obtain ⟨rfl, hM1, ⟨fo1, fp1, ho1, hp1, hold⟩, kpr⟩ := hpw208
      have hk1 : ∀ k e, k < 32 → k ≠ 19 → k ≠ 4 → k ≠ 5 → gAt g (u k) e → gAt gw207 (u k) e := fun k e h0 h1 h2 h3 q => kpr.2 _ _ (three_ne (hne _ _ h0 (by omega) h1) (hne _ _ h0 (by omega) h2) (hne _ _ h0 (by omega) h3)) q
      have hRT1 : RT t gw207 u s.1 := hRT.keep (fun k hk e q => hk1 k e (by omega) (by omega) (by omega) (by omega) q)
      have hD1 : RD t gw207 u s.2.2 := by
        obtain ⟨d1, d2, d3, d4, d5, d6, d7⟩ := hD
        exact ⟨d1, d2, d3, hk1 _ _ (by omega) (by omega) (by omega) (by omega) d4, hk1 _ _ (by omega) (by omega) (by omega) (by omega) d5, hk1 _ _ (by omega) (by omega) (by omega) (by omega) d6, d7⟩
      have hR1 : RS t gw207 u (encL V) := hR.keep (fun k e k1 k2 q => hk1 k e (by omega) (by omega) (by omega) (by omega) q)
      have hv1 := hk1 16 _ (by omega) (by omega) (by omega) (by omega) hv
      have hl1 := hk1 17 _ (by omega) (by omega) (by omega) (by omega) hl
      have hm1 := hk1 18 _ (by omega) (by omega) (by omega) (by omega) hm
      obtain ⟨⟨fC, hC, hCv⟩, ⟨fN, hNn0, hNv⟩, ⟨fK, hK, hKv⟩, ⟨fL, hL, hLv⟩, hrow⟩ := id hRT1
      obtain ⟨fk, fc, hk, hc, htab⟩ := hrow i i6
      have hKi := hKv i i6
      have hLi := hLv i i6
      have hNi := hNv i i6
      have hCi := hCv i i6
      have kp0 : Kp [u 0, u 1, u (20 + i), u (26 + i)] gw207 gw207 := Kp.rf
      refine j_iload_n O 3 dM_remove_30 rfl rfl ?_
      refine j_iconst O (v := 1) dM_remove_31 (by decide) ?_
      refine j_iadd O dM_remove_32 ?_
      refine j_eqi (nI (at0 + 1)) (nI_1 _) ?_
      refine j_istore O [(4, .int (nI (at0 + 1))), (3, .int (nI at0)), (0, .ref (u 19)), (1, .int (nI i)), (2, .int k)] dM_remove_33 (by decide) rfl ?_
      refine J.pk [2, 3, 0] rfl ?_
      refine rem_loop (k0 := 0) (n0 := 0) (len := (s.1 i).2.length) (at0 := at0) O hM1 hL hLi i6 hK hKi hne hNn0 hNi t5 ⟨(Nat.le_of_ble_eq_true rfl), (Nat.le_of_ble_eq_true rfl), Nat.zero_le _, Nat.zero_le _⟩ (fun g2 fk1 fc1 hk2 hc2 hok kp2 => ?_) ((s.1 i).2.length - (at0 + 1)) (at0 + 1) gw207 fk fc (by omega) (Nat.le_refl _) hk hc (fun r => ⟨fun ⟨q1, q2⟩ => absurd q2 (by omega), fun _ => rowp.rf⟩) Kp.rf
      have hkk : ∀ k e, k < 20 → gAt gw207 (u k) e → gAt g2 (u k) e := fun k e hk q => kp2.2 _ _ (two_ne (hne _ _ (by omega) (by omega) (by omega)) (hne _ _ (by omega) (by omega) (by omega))) q
      have hM2 := hkk 19 _ (by omega) hM1
      have hC2 := hkk 0 _ (by omega) hC
      have hN2 := hkk 1 _ (by omega) hNn0
      have hK2 := hkk 2 _ (by omega) hK
      have hL2 := hkk 3 _ (by omega) hL
      have kp3 : Kp [u 0, u 1, u (20 + i), u (26 + i)] gw207 g2 := kp2.mono (fun x hx => List.mem_cons_of_mem _ (List.mem_cons_of_mem _ hx))
      refine j_aload_n O 0 dM_remove_63 rfl rfl ?_
      refine j_get O uwM hM2 rfl 1 (by decide) w448 rfl rfl dM_remove_64 ?_
      refine j_iload_n O 1 dM_remove_67 rfl rfl ?_
      refine j_dup2 O dM_remove_68 rfl rfl ?_
      refine j_iald O hN2 0 rfl (by omega) (by omega) dM_remove_69 ?_
      refine j_eqi (nI (s.1 i).2.length) hNi ?_
      refine j_iconst O (v := 1) dM_remove_70 (by decide) ?_
      refine j_isub O dM_remove_71 ?_
      refine j_eqi (nI ((s.1 i).2.length - 1)) (pk_sub (b := 1) (by omega)) ?_
      refine j_iast O hN2 0 rfl i6 (by decide) dM_remove_72 (fun gw209 ew210 => ?_)
      have hw211 := gUp_ne (e' := .inl (t 0, 6, .inl (upd fN i (nI ((s.1 i).2.length - 1))))) hM2 (hM2.ne hN2 (by simp))
      rw [← ew210] at hw211
      have hw212 := gUp_ne (e' := .inl (t 0, 6, .inl (upd fN i (nI ((s.1 i).2.length - 1))))) hC2 (hne 0 1 (by omega) (by omega) (by omega))
      rw [← ew210] at hw212
      have hw213 := gUp_ne (e' := .inl (t 0, 6, .inl (upd fN i (nI ((s.1 i).2.length - 1))))) hK2 (hK2.ne hN2 (by simp))
      rw [← ew210] at hw213
      have hw214 := gUp_ne (e' := .inl (t 0, 6, .inl (upd fN i (nI ((s.1 i).2.length - 1))))) hL2 (hL2.ne hN2 (by simp))
      rw [← ew210] at hw214
      have hw215 := gUp_ne (e' := .inl (t 0, 6, .inl (upd fN i (nI ((s.1 i).2.length - 1))))) hk2 (hk2.ne hN2 (by simp))
      rw [← ew210] at hw215
      have hw216 := gUp_ne (e' := .inl (t 0, 6, .inl (upd fN i (nI ((s.1 i).2.length - 1))))) hc2 (hc2.ne hN2 (by simp))
      rw [← ew210] at hw216
      have hw217 := gUp_self (e' := .inl (t 0, 6, .inl (upd fN i (nI ((s.1 i).2.length - 1))))) hN2
      rw [← ew210] at hw217
      have kpw218 := kp3.up (a := (u 1)) (e := .inl (t 0, 6, .inl (upd fN i (nI ((s.1 i).2.length - 1))))) (by simp)
      rw [← ew210] at kpw218
      have hel : ((s.1 i).2.eraseIdx at0).length = (s.1 i).2.length - 1 := by rw [List.length_eraseIdx, if_pos hpl]
      have htab2 : tabOK fk1 fc1 (s.1 i).1 ((s.1 i).2.eraseIdx at0) := htab.rows t2 (fun r hr => by
        rw [hel] at hr
        rcases Nat.lt_or_ge r at0 with z | z
        · exact ⟨r, by omega, (hok r).2 (Or.inl z), by rw [List.getElem_eraseIdx, dif_pos z]⟩
        · exact ⟨r + 1, by omega, (hok r).1 ⟨z, by omega⟩, by rw [List.getElem_eraseIdx, dif_neg (by omega)]⟩)
      have hRT2 : RT t gw209 u (va_up s.1 i ((s.1 i).1, (s.1 i).2.eraseIdx at0)) := by
        refine ⟨⟨_, hw212, fun a ha => ?_⟩, ⟨_, hw217, fun a ha => ?_⟩, ⟨_, hw213, hKv⟩, ⟨_, hw214, hLv⟩, fun a ha => ?_⟩
        · by_cases z : a = i
          · subst z; rw [va_up_self]; exact hCv a ha
          · rw [va_up_ne _ _ z]; exact hCv a ha
        · by_cases z : a = i
          · subst z; rw [pk_us, va_up_self, hel]
          · rw [pk_un (by omega), va_up_ne _ _ z]; exact hNv a ha
        · by_cases z : a = i
          · subst z; rw [va_up_self]; exact ⟨_, _, hw215, hw216, htab2⟩
          · rw [va_up_ne _ _ z]
            obtain ⟨f1, f2, b1, b2, b3⟩ := hrow a ha
            exact ⟨f1, f2, kpw218.2 _ _ (un4 hne (by omega) i6 (by omega) (by omega) (by omega) (by omega)) b1, kpw218.2 _ _ (un4 hne (by omega) i6 (by omega) (by omega) (by omega) (by omega)) b2, b3⟩
      have htk2 : tOK ((s.1 i).1, (s.1 i).2.eraseIdx at0) := tOK_erase (htb i i6) at0
      have hrc2 : ∀ r ∈ (s.1 i).2.eraseIdx at0, rowC r := fun r hr => hrc i i6 r (List.mem_of_mem_eraseIdx hr)
      refine j_aload_n O 0 dM_remove_73 rfl rfl ?_
      refine j_iload_n O 1 dM_remove_74 rfl rfl ?_
      have hkz : ∀ k e, k < 32 → k ≠ 0 → k ≠ 1 → k < 20 → gAt gw207 (u k) e → gAt gw209 (u k) e := fun k e h0 h1 h2 h3 q => kpw218.2 _ _ (un4 hne h0 i6 h1 h2 (by omega) (by omega)) q
      have hR2 : RS t gw209 u (encL V) := hR1.keep (fun k e k1 k2 q => hkz k e (by omega) (by omega) (by omega) (by omega) q)
      have hv2 := hkz 16 _ (by omega) (by omega) (by omega) (by omega) hv1
      have hl2 := hkz 17 _ (by omega) (by omega) (by omega) (by omega) hl1
      have hm2 := hkz 18 _ (by omega) (by omega) (by omega) (by omega) hm1
      have ho2 := hkz 4 _ (by omega) (by omega) (by omega) (by omega) ho1
      have hp2 := hkz 5 _ (by omega) (by omega) (by omega) (by omega) hp1
      have hD2 : RD t gw209 u s.2.2 := hD1.keep (fun k e hk q => hkz k e (by omega) (by omega) (by omega) (by omega) q)
      refine j_callV O [.int (nI i)] (c_M_write X.2.1 D t A gw209 u (nI s.2.2.length) lm mm ta co si i ((s.1 i).1) (s.1 i).1 (va_up s.1 i ((s.1 i).1, (s.1 i).2.eraseIdx at0)) ((s.1 i).2.eraseIdx at0) (s.1 i).2 V fv fl fo1 fm fp1 hw211 hv2 hl2 hm2 ho2 hp2 hR2 hV hRT2 i6 (va_up_self _ _ _) htk2 (htb i i6) hold hrc2 hne) hw211 rfl w546 w547 w16 w28 w548 1 rfl rfl rfl (by decide +kernel) ⟨(Nat.le_of_ble_eq_true rfl), (Nat.le_of_ble_eq_true rfl)⟩ rfl (Nat.le_of_ble_eq_true rfl) dM_remove_75 ⟨(Nat.le_of_ble_eq_true rfl), (Nat.le_of_ble_eq_true rfl)⟩ (fun vw219 gw220 hpw221 => ?_)
      have hpost := hpw221
      obtain ⟨ev, hRW⟩ := plant_rw hpm hD2 hne (by omega) hpost
      rw [ev]
      exact j_iret O M (Nat.le_of_ble_eq_true rfl) (Nat.le_of_ble_eq_true rfl) ⟨rfl, hRW⟩ dM_remove_78
    · rw [if_neg hin]
      have er : aRem s (nI i) k = (-2, s) := by
        unfold aRem
        rw [if_pos hx, ei, if_neg hin]
      rw [er] at M
      refine j_istore_n O 3 [(3, .int (-1)), (0, .ref (u 19)), (1, .int (nI i)), (2, .int k)] dM_remove_17 rfl (by decide) rfl ?_
      refine j_iload_n O 3 dM_remove_18 rfl rfl ?_
      refine j_if_ge O 25 dM_remove_19 (by decide) (fun c => absurd c (by decide)) (fun c => ?_)
      refine j_bipush O (v := -2) dM_remove_22 (by decide) ?_
      exact j_iret O M (Nat.le_of_ble_eq_true rfl) (Nat.le_of_ble_eq_true rfl) ⟨rfl, V, hW⟩ dM_remove_24
  · have hx0 : ¬ (0 ≤ x ∧ x ≤ 5) := fun z => by rw [if_pos z] at c1; exact absurd c1 (by decide)
    have er : aRem s x k = (-1, s) := if_neg (fun z => hx0 ((in5 x).mpr z))
    rw [er] at M
    refine j_iconst O (v := -1) dM_remove_9 (by decide) ?_
    exact j_iret O M (Nat.le_of_ble_eq_true rfl) (Nat.le_of_ble_eq_true rfl) ⟨rfl, V, hW⟩ dM_remove_10
