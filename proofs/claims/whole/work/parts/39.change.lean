theorem plc_low (key : Int32) : ∀ (rs : List RV) (j : Nat) (h : j < rs.length), j < plc key rs → rs[j].1 < key
  | [], j, h, _ => by simp at h
  | r :: rs, j, h, hj => by
    unfold plc at hj
    split at hj
    · next hr =>
      cases j with
      | zero => exact hr
      | succ j => exact plc_low key rs j (by simpa using h) (by omega)
    · omega
theorem plc_high (key : Int32) : ∀ (rs : List RV), srt rs → ∀ (j : Nat) (h : j < rs.length), plc key rs ≤ j → ¬ rs[j].1 < key
  | [], _, j, h, _ => by simp at h
  | r :: rs, hs, j, h, hj => by
    have hs' := List.pairwise_cons.mp hs
    unfold plc at hj
    split at hj
    · next hr =>
      cases j with
      | zero => omega
      | succ j => exact plc_high key rs hs'.2 j (by simpa using h) (by omega)
    · next hr =>
      cases j with
      | zero => exact hr
      | succ j =>
        intro z
        have h1 := hs'.1 (rs[j]'(by simpa using h)) (List.getElem_mem _)
        exact hr (lt_tr32 h1 z)
theorem setC_key (r : RV) (j : Nat) (x z : Int32) : (setC r j x z).1 = r.1 := rfl
theorem setC_len (r : RV) (j : Nat) (x z : Int32) : (setC r j x z).2.1.length = r.2.1.length := by simp [setC]
theorem blank_len (k : Int32) (w : Nat) : (blankR k w).2.1.length = w := by simp [blankR]
theorem srt_set {rs : List RV} (hs : srt rs) (k : Nat) (r : RV) (hk : k < rs.length) (e : r.1 = rs[k].1) : srt (rs.set k r) := by
  unfold srt at hs ⊢
  rw [List.pairwise_iff_getElem] at hs ⊢
  intro a b ha hb hab
  rw [List.length_set] at ha hb
  have h0 := hs a b ha hb hab
  rw [List.getElem_set, List.getElem_set]
  split
  · next z =>
    subst z
    split
    · omega
    · rw [e]; exact h0
  · split
    · next z => subst z; rw [e]; exact h0
    · exact h0
theorem srt_ins {rs : List RV} (hs : srt rs) (r : RV) (hno : ¬ ∃ h : plc r.1 rs < rs.length, rs[plc r.1 rs].1 = r.1) : srt (rs.take (plc r.1 rs) ++ r :: rs.drop (plc r.1 rs)) := by
  have hle := plc_le r.1 rs
  unfold srt
  rw [List.pairwise_append, List.pairwise_cons]
  have hlow : ∀ a ∈ rs.take (plc r.1 rs), a.1 < r.1 := by
    intro a ha
    obtain ⟨j, hj, e⟩ := List.mem_iff_getElem.mp ha
    rw [List.length_take] at hj
    rw [List.getElem_take] at e
    rw [← e]
    exact plc_low _ rs j (by omega) (by omega)
  have hhigh : ∀ a ∈ rs.drop (plc r.1 rs), r.1 < a.1 := by
    intro a ha
    obtain ⟨j, hj, e⟩ := List.mem_iff_getElem.mp ha
    rw [List.length_drop] at hj
    rw [List.getElem_drop] at e
    rw [← e]
    have h1 := plc_high r.1 rs hs (plc r.1 rs + j) (by omega) (by omega)
    have h2 := plc_high r.1 rs hs (plc r.1 rs) (by omega) (by omega)
    have h0 : r.1 < rs[plc r.1 rs].1 := by
      rcases Classical.em (r.1 < rs[plc r.1 rs].1) with z | z
      · exact z
      · exact absurd ⟨by omega, (eq_of_nlt32 h2 z)⟩ hno
    cases j with
    | zero => exact h0
    | succ j =>
      have h3 := (List.pairwise_iff_getElem.mp hs) (plc r.1 rs) (plc r.1 rs + (j + 1)) (by omega) (by omega) (by omega)
      exact lt_tr32 h0 h3
  refine ⟨List.Pairwise.sublist (List.take_sublist _ _) hs, ⟨hhigh, List.Pairwise.sublist (List.drop_sublist _ _) hs⟩, ?_⟩
  intro a ha b hb
  rcases List.mem_cons.mp hb with z | z
  · rw [z]; exact hlow a ha
  · exact lt_tr32 (hlow a ha) (hhigh b z)
theorem ins_set {α : Type} (rs : List α) (k : Nat) (a b : α) (hk : k ≤ rs.length) : (rs.take k ++ a :: rs.drop k).set k b = rs.take k ++ b :: rs.drop k := by
  have e : (rs.take k).length = k := by rw [List.length_take]; omega
  rw [List.set_append_right _ _ (by omega)]
  simp [e]
theorem ins_get {α : Type} (rs : List α) (k : Nat) (a : α) (hk : k ≤ rs.length) (h : k < (rs.take k ++ a :: rs.drop k).length) : (rs.take k ++ a :: rs.drop k)[k] = a := by
  have e : (rs.take k).length = k := by rw [List.length_take]; omega
  rw [List.getElem_append_right (by omega)]
  simp [e]
theorem ins_len {α : Type} (rs : List α) (k : Nat) (a : α) (hk : k ≤ rs.length) : (rs.take k ++ a :: rs.drop k).length = rs.length + 1 := by
  rw [List.length_append, List.length_take, List.length_cons, List.length_drop]; omega
theorem tOK_chg {w : Nat} {rs : List RV} (h : tOK (w, rs)) (k : Int32) (j : Nat) (x z : Int32) (hl : (¬ ∃ h : plc k rs < rs.length, rs[plc k rs].1 = k) → rs.length < 300) : tOK (w, chg rs w k j x z) := by
  obtain ⟨h1, h2, h3, h4, h5⟩ := h
  have hle := plc_le k rs
  unfold chg
  split
  · next hc =>
    obtain ⟨hp, hk⟩ := hc
    refine ⟨h1, h2, fun r hr => ?_, srt_set h4 _ _ hp rfl, by simpa using h5⟩
    rcases List.mem_or_eq_of_mem_set hr with q | q
    · exact h3 r q
    · rw [q, setC_len]; exact h3 _ (List.getElem_mem _)
  · next hc =>
    refine ⟨h1, h2, fun r hr => ?_, srt_ins h4 (setC (blankR k w) j x z) hc, ?_⟩
    · rcases List.mem_append.mp hr with q | q
      · exact h3 r (List.mem_of_mem_take q)
      · rcases List.mem_cons.mp q with q | q
        · rw [q, setC_len, blank_len]
        · exact h3 r (List.mem_of_mem_drop q)
    · show (rs.take (plc k rs) ++ _ :: rs.drop (plc k rs)).length ≤ 300
      rw [ins_len _ _ _ hle]
      exact hl hc
theorem tOK_erase {w : Nat} {rs : List RV} (h : tOK (w, rs)) (k : Nat) : tOK (w, rs.eraseIdx k) := by
  obtain ⟨h1, h2, h3, h4, h5⟩ := h
  have hs := List.eraseIdx_sublist rs k
  exact ⟨h1, h2, fun r hr => h3 r (hs.subset hr), List.Pairwise.sublist hs h4, Nat.le_trans hs.length_le h5⟩
theorem news_nil (S : List NV) : (news S (ndl [])).length ≤ 12 := by
  have h : (news S (ndl [])).length ≤ (ndl []).length := List.length_filter_le _ _
  have e : (ndl []).length = 1 := rfl
  omega
/-- a table without rows gets another width -/
theorem TW.width {t : Nat → ClassId} {g g' : GH} {p : Nat → Nat} {w : GD} {ls : Nat} {s : AS} {i c : Nat} {f : Nat → Int32} (h : TW t g p w ls s) (hz : (s.1 i).2 = []) (hc : 1 ≤ c ∧ c ≤ 6) (kq : Kp [p 0] g g') (hf : ∀ a, a < 6 → f a = nI (va_up s.1 i (c, []) a).1) (hW' : gAt g' (p 0) (eI t 6 f)) : TW t g' p w ls (va_up s.1 i (c, []), s.2) := by
  obtain ⟨hT, ⟨fW, hW, hWv⟩, ⟨fR, hR, hRv⟩, hS, ⟨hpd, hval, hsz, hsn⟩, ⟨fk, fs, fu, hD, hk, hs, hu, hdf, hdl⟩, ⟨nF, fF, hF, hFb⟩, ⟨nE, fE, hE, hEb⟩, ⟨fL, hL⟩, hne, hI, hst, htb⟩ := id h
  have hS2 : SW t g' w (p 2) (p 3) (nI s.2.1.length) (nI (szL s.2.1)) := hS.kp kq.1 (fun y e hy he => kq.2 y e (by
    rcases hy with z | z | z | z
    · exact h.own (Or.inl z) [0] (by decide)
    · exact h.own (Or.inr z) [0] (by decide)
    · rw [z]; exact pn hne 2 [0] rfl
    · rw [z]; exact pn hne 3 [0] rfl) he)
  refine ⟨kq.2 (p 13) _ (pn hne 13 [0] rfl) hT, ⟨f, hW', hf⟩, ⟨fR, kq.2 (p 1) _ (pn hne 1 [0] rfl) hR, fun a ha => ?_⟩, hS2, ⟨hpd, hval, hsz, hsn⟩, ⟨fk, fs, fu, kq.2 (p 4) _ (pn hne 4 [0] rfl) hD, kq.2 (p 5) _ (pn hne 5 [0] rfl) hk, kq.2 (p 6) _ (pn hne 6 [0] rfl) hs, kq.2 (p 7) _ (pn hne 7 [0] rfl) hu, hdf, hdl⟩, ⟨nF, fF, kq.2 (p 8) _ (pn hne 8 [0] rfl) hF, kq.2 (p 9) _ (pn hne 9 [0] rfl) hFb⟩, ⟨nE, fE, kq.2 (p 10) _ (pn hne 10 [0] rfl) hE, kq.2 (p 11) _ (pn hne 11 [0] rfl) hEb⟩, ⟨fL, kq.2 (p 12) _ (pn hne 12 [0] rfl) hL⟩, hne, hI, hst, fun a ha => ?_⟩
  · show ∃ r, fR a = some r ∧ w.1 r = some (hgt (va_up s.1 i (c, []) a).2, (va_up s.1 i (c, []) a).2) ∧ _
    by_cases z : a = i
    · subst z; rw [va_up_self]
      have := hRv a ha
      rw [hz] at this
      exact this
    · rw [va_up_ne _ _ z]; exact hRv a ha
  · show tOK (va_up s.1 i (c, []) a)
    by_cases z : a = i
    · subst z; rw [va_up_self]; exact ⟨hc.1, hc.2, fun r hr => (by cases hr), List.Pairwise.nil, Nat.zero_le _⟩
    · rw [va_up_ne _ _ z]; exact htb a ha
set_option maxRecDepth 100000 in
set_option maxHeartbeats 1000000 in
theorem c_remove (l : Launch) (D : va_G) (t : Nat → ClassId) (A : Nat → Prop) (g : GH) (p : Nat → Nat) (w : GD) (ls : Nat) (s : AS) (x k : Int32) (h : TW t g p w ls s) (hls : ls < 2 ^ 30) (hsl : s.2.1.length < 2 ^ 29) (hn12 : ∀ i, i < 6 → (∃ h : plc k (s.1 i).2 < (s.1 i).2.length, (s.1 i).2[plc k (s.1 i).2].1 = k) → (news s.2.1 (ndl ((s.1 i).2.eraseIdx (plc k (s.1 i).2)))).length ≤ 12) : Ct l yT_remove sT_remove { frames := 10, cells := 36, slots := 3744, locals := 320 } (zz D t A) [.ref (p 13), .int x, .int k] g 36 3744 (fun v g' => v = some (.int (aRem s x k).1) ∧ ∃ w' ls', ls' ≤ ls + 1 ∧ TW t g' p w' ls' (aRem s x k).2) := by
  refine Ct.of (cc := bT_remove) (maxL := 4) (ret := (some .int)) (by decide) (Nat.le_of_ble_eq_true rfl) (fun X hlX O M hNn => ?_)
  show J X 4 (zz D t A) g 0 0 0 [(0, .ref (p 13)), (1, .int x), (2, .int k)] []
  obtain ⟨hT, ⟨fW, hW, hWv⟩, ⟨fR, hR, hRv⟩, hS, ⟨hpd, hval, hsz, hsn⟩, ⟨fk, fs, fu, hD, hk, hs, hu, hdf, hdl⟩, ⟨nF, fF, hF, hFb⟩, ⟨nE, fE, hE, hEb⟩, ⟨fL, hL⟩, hne, hI, hst, htb⟩ := id h
  refine j_iload_n O 1 dT_remove_0 rfl rfl ?_
  refine j_callS O [.int x] (c_isTable X.2.1 D t A g x) w221 w222 w23 w223 1 rfl rfl rfl (by decide +kernel) ⟨(Nat.le_of_ble_eq_true rfl), (Nat.le_of_ble_eq_true rfl)⟩ rfl (Nat.le_of_ble_eq_true rfl) dT_remove_1 ⟨(Nat.le_of_ble_eq_true rfl), (Nat.le_of_ble_eq_true rfl)⟩ (fun vw73 gw74 hpw75 => ?_)
  obtain ⟨rfl, hgw76⟩ := hpw75
  have hgw76 := hgw76.symm
  subst hgw76
  refine j_if_ne O 9 dT_remove_4 (by decide) (fun c1 => ?_) (fun c1 => ?_)
  · have hx : isT x := by
      by_cases z : isT x
      · exact z
      · rw [if_neg z] at c1; exact absurd rfl c1
    obtain ⟨i, i6, rfl⟩ := tb_of hx
    have ei : ix (nI i) = i := ix_nI (by omega)
    obtain ⟨r, hfr, hrv, hrS⟩ := hRv i i6
    obtain ⟨t1, t2, t3, t4, t5⟩ := htb i i6
    refine j_aload_n O 0 dT_remove_9 rfl rfl ?_
    refine j_iload_n O 1 dT_remove_10 rfl rfl ?_
    refine j_callV O [.int (nI i)] (c_draftRowsOf X.2.1 D t A g (p 13) (p 0) (p 1) (p 2) (p 4) (p 8) (p 9) (p 10) (p 12) ls i r w _ fR fF nF hT hR i6 hfr hrv hS.1 (h.fresh hls) hF hFb (hI 13 (by decide)) (hI 8 (by decide)) (hI 9 (by decide))) hT rfl w251 w252 w6 w23 w253 1 rfl rfl rfl (by decide +kernel) ⟨(Nat.le_of_ble_eq_true rfl), (Nat.le_of_ble_eq_true rfl)⟩ rfl (Nat.le_of_ble_eq_true rfl) dT_remove_11 ⟨(Nat.le_of_ble_eq_true rfl), (Nat.le_of_ble_eq_true rfl)⟩ (fun vw77 gw78 hpw79 => ?_)
    obtain ⟨rfl, hT1, hrl1, kp1⟩ := hpw79
    have hrl1 : rlI t gw78 w.2.2.2.1 (p 8) (p 9) (s.1 i).2 := hrl1
    obtain ⟨hq1, f1, hb1, hr1⟩ := id hrl1
    have hTW1 : TW t gw78 p w (ls + 1) s := h.draft kp1 hT1 (Nat.le_succ _) hq1 hb1
    have hple := plc_le k (s.1 i).2
    refine j_aload_n O 0 dT_remove_14 rfl rfl ?_
    refine j_get O uwT hT1 rfl 4 (by decide) w196 rfl rfl dT_remove_15 ?_
    refine j_iload_n O 2 dT_remove_18 rfl rfl ?_
    refine j_callV O [.int k] (c_placeOf X.2.1 D t A gw78 (p 8) (p 9) f1 (s.1 i).2 k hq1 hb1 hr1.in t5) hq1 rfl w264 w265 w266 w26 w267 1 rfl rfl rfl (by decide +kernel) ⟨(Nat.le_of_ble_eq_true rfl), (Nat.le_of_ble_eq_true rfl)⟩ rfl (Nat.le_of_ble_eq_true rfl) dT_remove_19 ⟨(Nat.le_of_ble_eq_true rfl), (Nat.le_of_ble_eq_true rfl)⟩ (fun vw80 gw81 hpw82 => ?_)
    obtain ⟨rfl, hgw83⟩ := hpw82
    have hgw83 := hgw83.symm
    subst hgw83
    refine j_istore_n O 3 [(3, .int (nI (plc k (s.1 i).2))), (0, .ref (p 13)), (1, .int (nI i)), (2, .int k)] dT_remove_22 rfl (by decide) rfl ?_
    refine j_aload_n O 0 dT_remove_23 rfl rfl ?_
    refine j_get O uwT hT1 rfl 4 (by decide) w196 rfl rfl dT_remove_24 ?_
    refine j_iload_n O 3 dT_remove_27 rfl rfl ?_
    refine j_iload_n O 2 dT_remove_28 rfl rfl ?_
    refine j_callV O [.int (nI (plc k (s.1 i).2)), .int k] (c_hasKeyAt X.2.1 D t A gw78 (p 8) (p 9) (plc k (s.1 i).2) f1 (s.1 i).2 k hple hq1 hb1 hr1.in t5) hq1 rfl w268 w269 w270 w26 w271 2 rfl rfl rfl (by decide +kernel) ⟨(Nat.le_of_ble_eq_true rfl), (Nat.le_of_ble_eq_true rfl)⟩ rfl (Nat.le_of_ble_eq_true rfl) dT_remove_29 ⟨(Nat.le_of_ble_eq_true rfl), (Nat.le_of_ble_eq_true rfl)⟩ (fun vw84 gw85 hpw86 => ?_)
    obtain ⟨rfl, hgw87⟩ := hpw86
    have hgw87 := hgw87.symm
    subst hgw87
    refine j_if_ne O 38 dT_remove_32 (by decide) (fun c2 => ?_) (fun c2 => ?_)
    · have hyes : ∃ h : plc k (s.1 i).2 < (s.1 i).2.length, (s.1 i).2[plc k (s.1 i).2].1 = k := by
        by_cases z : ∃ h : plc k (s.1 i).2 < (s.1 i).2.length, (s.1 i).2[plc k (s.1 i).2].1 = k
        · exact z
        · rw [if_neg z] at c2; exact absurd rfl c2
      have er : aRem s (nI i) k = aPlant s i (s.1 i).1 ((s.1 i).2.eraseIdx (plc k (s.1 i).2)) := by
        unfold aRem
        rw [if_pos hx, ei, if_pos hyes]
      rw [er] at M
      obtain ⟨hpl, hpk⟩ := id hyes
      obtain ⟨len, hlen⟩ : ∃ len, (s.1 i).2.length = len + 1 := ⟨(s.1 i).2.length - 1, by omega⟩
      have hq1' := hq1
      rw [hlen] at hq1'
      refine j_aload_n O 0 dT_remove_38 rfl rfl ?_
      refine j_get O uwT hT1 rfl 4 (by decide) w196 rfl rfl dT_remove_39 ?_
      refine j_iload_n O 3 dT_remove_42 rfl rfl ?_
      refine j_callV O [.int (nI (plc k (s.1 i).2))] (c_takeAt X.2.1 D t A gw78 (p 8) (p 9) (plc k (s.1 i).2) len f1 hq1' hb1 (fun j hj => by obtain ⟨b, e1, e2⟩ := hr1 j (by omega); rw [Nat.zero_add] at e1; exact ⟨b, e1, e2.at.isRow⟩) (by omega) (by omega)) hq1 rfl w328 w329 w330 w26 w331 1 rfl rfl rfl (by decide +kernel) ⟨(Nat.le_of_ble_eq_true rfl), (Nat.le_of_ble_eq_true rfl)⟩ rfl (Nat.le_of_ble_eq_true rfl) dT_remove_43 ⟨(Nat.le_of_ble_eq_true rfl), (Nat.le_of_ble_eq_true rfl)⟩ (fun vw88 gw89 hpw90 => ?_)
      obtain ⟨rfl, hq2, f2, hb2, ha2, hc2, kp2⟩ := hpw90
      have hel : ((s.1 i).2.eraseIdx (plc k (s.1 i).2)).length = len := by rw [List.length_eraseIdx_of_lt hpl]; omega
      have hT2 := kp2.2 (p 13) _ (pn hne 13 [8, 9] rfl) hT1
      have hTW2 : TW t gw89 p w (ls + 1) s := hTW1.draft (kp2.mono (fun x hx => List.mem_cons_of_mem _ hx)) hT2 (Nat.le_refl _) hq2 hb2
      have hrl2 : rlI t gw89 w.2.2.2.1 (p 8) (p 9) ((s.1 i).2.eraseIdx (plc k (s.1 i).2)) := by
        refine ⟨by rw [hel]; exact hq2, f2, hb2, fun j hj => ?_⟩
        rw [hel] at hj
        rw [Nat.zero_add, List.getElem_eraseIdx]
        have hkI : ∀ (y : Nat) (e : va_E), w.2.2.2.1 y → gAt gw78 y e → gAt gw89 y e := fun y e hy he => kp2.2 y e (h.own (Or.inl hy) [8, 9] (by decide)) he
        split
        · next hlt =>
          obtain ⟨b, e1, e2⟩ := hr1 j (by omega)
          rw [Nat.zero_add] at e1
          exact ⟨b, by rw [ha2 j hlt]; exact e1, e2.keep (fun _ z => z) hkI⟩
        · next hlt =>
          obtain ⟨b, e1, e2⟩ := hr1 (j + 1) (by omega)
          rw [Nat.zero_add] at e1
          exact ⟨b, by rw [hc2 j (by omega) hj]; exact e1, e2.keep (fun _ z => z) hkI⟩
      refine j_aload_n O 0 dT_remove_46 rfl rfl ?_
      refine j_iload_n O 1 dT_remove_47 rfl rfl ?_
      obtain ⟨hTx, -, ⟨fRx, hRx, hRvx⟩, hSx, ⟨hpdx, hvalx, hszx, hsnx⟩, -, -, -, hLx, hnex, hIx, -, htbx⟩ := id hTW2
      have htkx : tOK ((s.1 i).1, (s.1 i).2.eraseIdx (plc k (s.1 i).2)) := tOK_erase (htb i i6) _
      have h6x : ∀ r ∈ (((s.1 i).2.eraseIdx (plc k (s.1 i).2)) : List RV), r.2.1.length ≤ 6 := fun r hr => by have h1 := htkx.2.2.1 r hr; have h2 := htkx.2.1; dsimp only at h1 h2; omega
      have hnx : (news s.2.1 (ndl ((s.1 i).2.eraseIdx (plc k (s.1 i).2)))).length ≤ 12 := hn12 i i6 hyes
      have hcx : (news (vals w.1 (stL w.2.2.2.2.1)) (ndl ((s.1 i).2.eraseIdx (plc k (s.1 i).2)))).length ≤ 12 := by rw [news_perm hvalx]; exact hnx
      have hbx : szL s.2.1 + szL (news (vals w.1 (stL w.2.2.2.2.1)) (ndl ((s.1 i).2.eraseIdx (plc k (s.1 i).2)))) < 2 ^ 30 := by
        rw [news_perm hvalx]
        have := szL_news s.2.1 h6x htkx.2.2.2.2
        omega
      refine j_callV O [.int (nI i)] (c_plantDraft X.2.1 D t A gw89 (p 13) (p 0) (p 1) (p 2) (p 3) (p 4) (p 8) (p 9) (p 10) (p 12) i s.2.1.length (szL s.2.1) (nI (ls + 1)) w ((s.1 i).2.eraseIdx (plc k (s.1 i).2)) fRx hTx hSx ⟨hLx, hIx 12 (by decide), hnex 3 12 (by decide) (by decide) (by decide), hnex 2 12 (by decide) (by decide) (by decide), hTW2.nn 12 (by decide)⟩ h6x htkx.2.2.2.2 htkx.2.2.2.1 hrl2 (hnex 9 12 (by decide) (by decide) (by decide)) hpdx hRx (hIx 1 (by decide)) (hnex 1 12 (by decide) (by decide) (by decide)) (hnex 1 3 (by decide) (by decide) (by decide)) i6 hbx) hTx rfl w224 w225 w2 w23 w226 1 rfl rfl rfl (by decide +kernel) ⟨(Nat.le_of_ble_eq_true rfl), (Nat.le_of_ble_eq_true rfl)⟩ rfl (Nat.le_of_ble_eq_true rfl) dT_remove_48 ⟨(by show 0 + 3 * _ ≤ 36; omega), (by show 0 + 312 * _ ≤ 3744; omega)⟩ (fun vw91 gw92 hpw93 => ?_)
      have hplx := hpw93
      obtain ⟨rfl, wx, hTWx⟩ := hTW2.plant i6 htkx hRx hRvx (by omega) hplx
      exact j_iret O M (by omega) (by omega) ⟨rfl, wx, ls + 1, Nat.le_refl _, hTWx⟩ dT_remove_51
    · have hno : ¬ ∃ h : plc k (s.1 i).2 < (s.1 i).2.length, (s.1 i).2[plc k (s.1 i).2].1 = k := fun z => by rw [if_pos z] at c2; exact absurd c2 (by decide)
      have er : aRem s (nI i) k = (-2, s) := by
        unfold aRem
        rw [if_pos hx, ei, if_neg hno]
      rw [er] at M
      refine j_bipush O (v := -2) dT_remove_35 (by decide) ?_
      exact j_iret O M (Nat.le_of_ble_eq_true rfl) (Nat.le_of_ble_eq_true rfl) ⟨rfl, w, ls + 1, Nat.le_refl _, hTW1⟩ dT_remove_37
  · have hx : ¬ isT x := fun z => by rw [if_pos z] at c1; exact absurd c1 (by decide)
    have er : aRem s x k = (-1, s) := if_neg (fun z => hx z)
    rw [er] at M
    refine j_iconst O (v := -1) dT_remove_7 (by decide) ?_
    exact j_iret O M (Nat.le_of_ble_eq_true rfl) (Nat.le_of_ble_eq_true rfl) ⟨rfl, w, ls, by omega, h⟩ dT_remove_8
set_option maxRecDepth 100000 in
set_option maxHeartbeats 1000000 in
theorem c_make (l : Launch) (D : va_G) (t : Nat → ClassId) (A : Nat → Prop) (g : GH) (p : Nat → Nat) (w : GD) (ls : Nat) (s : AS) (x y : Int32) (h : TW t g p w ls s) (hsl : s.2.1.length < 2 ^ 29) : Ct l yT_make sT_make { frames := 10, cells := 36, slots := 3744, locals := 320 } (zz D t A) [.ref (p 13), .int x, .int y] g 36 3744 (fun v g' => v = some (.int (aMake s x y).1) ∧ ∃ w', TW t g' p w' ls (aMake s x y).2) := by
  refine Ct.of (cc := bT_make) (maxL := 4) (ret := (some .int)) (by decide) (Nat.le_of_ble_eq_true rfl) (fun X hlX O M hNn => ?_)
  show J X 4 (zz D t A) g 0 0 0 [(0, .ref (p 13)), (1, .int x), (2, .int y)] []
  obtain ⟨hT, ⟨fW, hW, hWv⟩, ⟨fR, hR, hRv⟩, hS, ⟨hpd, hval, hsz, hsn⟩, ⟨fk, fs, fu, hD, hk, hs, hu, hdf, hdl⟩, ⟨nF, fF, hF, hFb⟩, ⟨nE, fE, hE, hEb⟩, ⟨fL, hL⟩, hne, hI, hst, htb⟩ := id h
  refine j_iload_n O 1 dT_make_0 rfl rfl ?_
  refine j_callS O [.int x] (c_isTable X.2.1 D t A g x) w221 w222 w23 w223 1 rfl rfl rfl (by decide +kernel) ⟨(Nat.le_of_ble_eq_true rfl), (Nat.le_of_ble_eq_true rfl)⟩ rfl (Nat.le_of_ble_eq_true rfl) dT_make_1 ⟨(Nat.le_of_ble_eq_true rfl), (Nat.le_of_ble_eq_true rfl)⟩ (fun vw94 gw95 hpw96 => ?_)
  obtain ⟨rfl, hgw97⟩ := hpw96
  have hgw97 := hgw97.symm
  subst hgw97
  refine j_if_eq O 18 dT_make_4 (by decide) (fun c1 => ?_) (fun c1 => ?_)
  · have hx : ¬ isT x := fun z => by rw [if_pos z] at c1; exact absurd c1 (by decide)
    have er : aMake s x y = (-1, s) := if_neg (fun z => hx z.1)
    rw [er] at M
    refine j_iconst O (v := -1) dT_make_18 (by decide) ?_
    exact j_iret O M (Nat.le_of_ble_eq_true rfl) (Nat.le_of_ble_eq_true rfl) ⟨rfl, w, h⟩ dT_make_19
  · have hx : isT x := by
      by_cases z : isT x
      · exact z
      · rw [if_neg z] at c1; exact absurd rfl c1
    obtain ⟨i, i6, rfl⟩ := tb_of hx
    have ei : ix (nI i) = i := ix_nI (by omega)
    refine j_iload_n O 2 dT_make_7 rfl rfl ?_
    refine j_iconst O (v := 1) dT_make_8 (by decide) ?_
    refine j_icmp_lt O 18 dT_make_9 (by decide) (fun c2 => ?_) (fun c2 => ?_)
    · 
      have er : aMake s (nI i) y = (-1, s) := if_neg (fun z => absurd (Int32.lt_iff_toInt_lt.mp c2) (by have := Int32.le_iff_toInt_le.mp z.2.1; omega))
      rw [er] at M
      refine j_iconst O (v := -1) dT_make_18 (by decide) ?_
      exact j_iret O M (Nat.le_of_ble_eq_true rfl) (Nat.le_of_ble_eq_true rfl) ⟨rfl, w, h⟩ dT_make_19
    · refine j_iload_n O 2 dT_make_12 rfl rfl ?_
      refine j_bipush O (v := 6) dT_make_13 (by decide) ?_
      refine j_icmp_le O 20 dT_make_15 (by decide) (fun c3 => ?_) (fun c3 => ?_)
      · have y1 : 1 ≤ y := Int32.le_iff_toInt_le.mpr (by have z : ¬ y.toInt < (1 : Int32).toInt := fun z => c2 (Int32.lt_iff_toInt_lt.mpr z); omega)
        have y0 : 0 ≤ y := Int32.le_iff_toInt_le.mpr (by have := Int32.le_iff_toInt_le.mp y1; have e0 : (0 : Int32).toInt = 0 := by decide
                                                         have e1 : (1 : Int32).toInt = 1 := by decide
                                                         omega)
        obtain ⟨c, c31, rfl⟩ : ∃ c, c < 2 ^ 31 ∧ y = nI c := ⟨ix y, by have := Int32.toInt_lt y; unfold ix; omega, of_le0 y0⟩
        have hc : 1 ≤ c ∧ c ≤ 6 := by
          have h1 := Int32.le_iff_toInt_le.mp y1
          have h2 := Int32.le_iff_toInt_le.mp c3
          rw [nI_toInt c31] at h1 h2
          have e1 : (1 : Int32).toInt = 1 := by decide
          have e6 : (6 : Int32).toInt = 6 := by decide
          omega
        have er : aMake s (nI i) (nI c) = aPlant s i c [] := by
          unfold aMake
          rw [if_pos ⟨hx, y1, c3⟩, ei, ix_nI c31]
        rw [er] at M
        have kp0 : Kp [p 8] g g := Kp.rf
        refine j_aload_n O 0 dT_make_20 rfl rfl ?_
        refine j_get O uwT hT rfl 4 (by decide) w196 rfl rfl dT_make_21 ?_
        refine j_iconst O (v := 0) dT_make_24 (by decide) ?_
        refine j_put O uwQ hF rfl 1 (by decide) w97 rfl tQ ftQ fnQ rfl (.int) (by decide +kernel) rfl rfl (Nat.le_of_ble_eq_true rfl) [.ref (p 9), .int 0] rfl dT_make_25 (fun gw98 ew99 => ?_)
        have hw100 := gUp_ne (e' := .inr (4, [.ref (p 9), .int 0])) hT (hT.ne hF (by simp))
        rw [← ew99] at hw100
        have hw101 := gUp_ne (e' := .inr (4, [.ref (p 9), .int 0])) hW (hW.ne hF (by simp))
        rw [← ew99] at hw101
        have hw102 := gUp_ne (e' := .inr (4, [.ref (p 9), .int 0])) hR (hR.ne hF (by simp))
        rw [← ew99] at hw102
        have hw103 := gUp_ne (e' := .inr (4, [.ref (p 9), .int 0])) hFb (hFb.ne hF (by simp))
        rw [← ew99] at hw103
        have hw104 := gUp_self (e' := .inr (4, [.ref (p 9), .int 0])) hF
        rw [← ew99] at hw104
        have kpw105 := kp0.up (a := (p 8)) (e := .inr (4, [.ref (p 9), .int 0])) (by simp)
        rw [← ew99] at kpw105
        have hTW1 : TW t gw98 p w ls s := h.draft (kpw105.mono (fun x hx => by rw [List.mem_singleton.mp hx]; simp)) hw100 (Nat.le_refl _) hw104 hw103
        have hrl1 : rlI t gw98 w.2.2.2.1 (p 8) (p 9) [] := ⟨hw104, fF, hw103, fun j hj => by cases hj⟩
        refine j_aload_n O 0 dT_make_28 rfl rfl ?_
        refine j_iload_n O 1 dT_make_29 rfl rfl ?_
        obtain ⟨hTx, -, ⟨fRx, hRx, hRvx⟩, hSx, ⟨hpdx, hvalx, hszx, hsnx⟩, -, -, -, hLx, hnex, hIx, -, htbx⟩ := id hTW1
        have htkx : tOK ((s.1 i).1, []) := ⟨(htb i i6).1, (htb i i6).2.1, fun r hr => (by cases hr), List.Pairwise.nil, Nat.zero_le _⟩
        have h6x : ∀ r ∈ (([]) : List RV), r.2.1.length ≤ 6 := fun r hr => by have h1 := htkx.2.2.1 r hr; have h2 := htkx.2.1; dsimp only at h1 h2; omega
        have hnx : (news s.2.1 (ndl ([]))).length ≤ 12 := news_nil _
        have hcx : (news (vals w.1 (stL w.2.2.2.2.1)) (ndl ([]))).length ≤ 12 := by rw [news_perm hvalx]; exact hnx
        have hbx : szL s.2.1 + szL (news (vals w.1 (stL w.2.2.2.2.1)) (ndl ([]))) < 2 ^ 30 := by
          rw [news_perm hvalx]
          have := szL_news s.2.1 h6x htkx.2.2.2.2
          omega
        refine j_callV O [.int (nI i)] (c_plantDraft X.2.1 D t A gw98 (p 13) (p 0) (p 1) (p 2) (p 3) (p 4) (p 8) (p 9) (p 10) (p 12) i s.2.1.length (szL s.2.1) (nI (ls)) w ([]) fRx hTx hSx ⟨hLx, hIx 12 (by decide), hnex 3 12 (by decide) (by decide) (by decide), hnex 2 12 (by decide) (by decide) (by decide), hTW1.nn 12 (by decide)⟩ h6x htkx.2.2.2.2 htkx.2.2.2.1 hrl1 (hnex 9 12 (by decide) (by decide) (by decide)) hpdx hRx (hIx 1 (by decide)) (hnex 1 12 (by decide) (by decide) (by decide)) (hnex 1 3 (by decide) (by decide) (by decide)) i6 hbx) hTx rfl w224 w225 w2 w23 w226 1 rfl rfl rfl (by decide +kernel) ⟨(Nat.le_of_ble_eq_true rfl), (Nat.le_of_ble_eq_true rfl)⟩ rfl (Nat.le_of_ble_eq_true rfl) dT_make_30 ⟨(by show 0 + 3 * _ ≤ 36; omega), (by show 0 + 312 * _ ≤ 3744; omega)⟩ (fun vw106 gw107 hpw108 => ?_)
        have hplx := hpw108
        obtain ⟨rfl, wx, hTWx⟩ := hTW1.plant i6 htkx hRx hRvx (by omega) hplx
        by_cases hfit : szL s.2.1 + szL (news s.2.1 (ndl [])) ≤ 60000
        · have e1 : aPlant s i (s.1 i).1 [] = (nI (news s.2.1 (ndl [])).length, (va_up s.1 i ((s.1 i).1, []), s.2.1 ++ news s.2.1 (ndl []), s.2.2)) := if_pos hfit
          have e2 : aPlant s i c [] = (nI (news s.2.1 (ndl [])).length, (va_up s.1 i (c, []), s.2.1 ++ news s.2.1 (ndl []), s.2.2)) := if_pos hfit
          rw [e1] at hTWx ⊢
          rw [e2] at M
          have hne3 : ¬ nI (news s.2.1 (ndl [])).length = (-3) := by
            intro z
            have := congrArg Int32.toInt z
            rw [nI_toInt (by omega)] at this
            have e3 : (-3 : Int32).toInt = -3 := by decide
            omega
          obtain ⟨hT3, ⟨fW3, hW3, hWv3⟩, -⟩ := id hTWx
          have kpy : Kp [p 0] gw107 gw107 := Kp.rf
          refine j_istore_n O 3 [(3, .int (nI (news s.2.1 (ndl [])).length)), (0, .ref (p 13)), (1, .int (nI i)), (2, .int (nI c))] dT_make_33 rfl (by decide) rfl ?_
          refine j_iload_n O 3 dT_make_34 rfl rfl ?_
          refine j_bipush O (v := -3) dT_make_35 (by decide) ?_
          refine j_icmp_eq O 47 dT_make_37 (by decide) (fun cc => absurd cc hne3) (fun cc => ?_)
          refine j_aload_n O 0 dT_make_40 rfl rfl ?_
          refine j_get O uwT hT3 rfl 0 (by decide) w192 rfl rfl dT_make_41 ?_
          refine j_iload_n O 1 dT_make_44 rfl rfl ?_
          refine j_iload_n O 2 dT_make_45 rfl rfl ?_
          refine j_iast O hW3 0 rfl i6 (by decide) dT_make_46 (fun gw109 ew110 => ?_)
          have hw111 := gUp_ne (e' := .inl (t 0, 6, .inl (upd fW3 i (nI c)))) hT3 (hT3.ne hW3 (by simp))
          rw [← ew110] at hw111
          have hw112 := gUp_self (e' := .inl (t 0, 6, .inl (upd fW3 i (nI c)))) hW3
          rw [← ew110] at hw112
          have kpw113 := kpy.up (a := (p 0)) (e := .inl (t 0, 6, .inl (upd fW3 i (nI c)))) (by simp)
          rw [← ew110] at kpw113
          refine j_iload_n O 3 dT_make_47 rfl rfl ?_
          have hTW4 : TW t gw109 p wx ls (va_up s.1 i (c, []), s.2.1 ++ news s.2.1 (ndl []), s.2.2) := by
            have h4 := hTWx.width (i := i) (c := c) (by show (va_up s.1 i ((s.1 i).1, []) i).2 = []; rw [va_up_self]) hc kpw113 (fun a ha => ?_) hw112
            · have e5 : va_up (va_up s.1 i ((s.1 i).1, [])) i (c, []) = va_up s.1 i (c, []) := by
                funext a
                by_cases z : a = i
                · subst z; rw [va_up_self, va_up_self]
                · rw [va_up_ne _ _ z, va_up_ne _ _ z, va_up_ne _ _ z]
              dsimp only at h4
              rw [e5] at h4
              exact h4
            · show _ = nI (va_up (va_up s.1 i ((s.1 i).1, [])) i (c, []) a).1
              by_cases z : a = i
              · subst z; rw [pk_us, va_up_self]
              · rw [pk_un (by omega), va_up_ne _ _ z]; exact hWv3 a ha
          exact j_iret O M (by omega) (by omega) ⟨rfl, wx, hTW4⟩ dT_make_48
        · have e1 : aPlant s i (s.1 i).1 [] = (-3, s) := if_neg hfit
          have e2 : aPlant s i c [] = (-3, s) := if_neg hfit
          rw [e1] at hTWx ⊢
          rw [e2] at M
          refine j_istore_n O 3 [(3, .int (-3)), (0, .ref (p 13)), (1, .int (nI i)), (2, .int (nI c))] dT_make_33 rfl (by decide) rfl ?_
          refine j_iload_n O 3 dT_make_34 rfl rfl ?_
          refine j_bipush O (v := -3) dT_make_35 (by decide) ?_
          refine j_icmp_eq O 47 dT_make_37 (by decide) (fun c => ?_) (fun c => absurd rfl c)
          refine j_iload_n O 3 dT_make_47 rfl rfl ?_
          exact j_iret O M (by omega) (by omega) ⟨rfl, wx, hTWx⟩ dT_make_48
      · 
        have er : aMake s (nI i) y = (-1, s) := if_neg (fun z => c3 z.2.2)
        rw [er] at M
        refine j_iconst O (v := -1) dT_make_18 (by decide) ?_
        exact j_iret O M (Nat.le_of_ble_eq_true rfl) (Nat.le_of_ble_eq_true rfl) ⟨rfl, w, h⟩ dT_make_19
