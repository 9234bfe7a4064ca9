def lkp (key : Int32) (rs : List RV) : Option RV := rs.find? (fun r => decide (r.1 = key))
theorem lkp_none {key : Int32} {rs : List RV} (h : ∀ r ∈ rs, r.1 ≠ key) : lkp key rs = none := by
  unfold lkp
  rw [List.find?_eq_none]
  intro r hr
  simpa using h r hr
theorem lkp_app {key : Int32} {xs ys : List RV} (h : ∀ r ∈ xs, r.1 ≠ key) : lkp key (xs ++ ys) = lkp key ys := by
  have := lkp_none h
  unfold lkp at *
  rw [List.find?_append, this]
  rfl
theorem lkp_app2 {key : Int32} {xs ys : List RV} (h : ∀ r ∈ ys, r.1 ≠ key) : lkp key (xs ++ ys) = lkp key xs := by
  have := lkp_none h
  unfold lkp at *
  rw [List.find?_append, this]
  cases xs.find? _ <;> rfl
theorem lkp_at {key : Int32} {rs : List RV} {i : Nat} (hi : i < rs.length) (h1 : ∀ j (hj : j < rs.length), j < i → rs[j].1 ≠ key) (h2 : rs[i].1 = key) : lkp key rs = some rs[i] := by
  have e : rs = rs.take i ++ rs[i] :: rs.drop (i + 1) := by rw [← List.drop_eq_getElem_cons hi, List.take_append_drop]
  have h3 : ∀ r ∈ rs.take i, r.1 ≠ key := by
    intro r hr
    obtain ⟨j, hj, rfl⟩ := List.getElem_of_mem hr
    rw [List.length_take] at hj
    rw [List.getElem_take]
    exact h1 j (by omega) (by omega)
  have e2 : lkp key rs = lkp key (rs.take i ++ rs[i] :: rs.drop (i + 1)) := congrArg (lkp key) e
  rw [e2, lkp_app h3]
  unfold lkp
  rw [List.find?_cons_of_pos (by simpa using h2)]
theorem srt_flat {qs : List (List RV)} (h : srt qs.flatten) {i : Nat} (hi : i < qs.length) : srt qs[i] := by
  unfold srt at *
  rw [List.pairwise_flatten] at h
  exact h.1 _ (List.getElem_mem _)
theorem flat_split {qs : List (List RV)} {i : Nat} (hi : i < qs.length) : qs.flatten = (qs.take i).flatten ++ (qs[i] ++ (qs.drop (i + 1)).flatten) := by
  have e : qs = qs.take i ++ qs[i] :: qs.drop (i + 1) := by rw [← List.drop_eq_getElem_cons hi, List.take_append_drop]
  have := congrArg List.flatten e
  rw [List.flatten_append, List.flatten_cons] at this
  exact this
theorem lastK_ge {rs : List RV} (h : srt rs) : ∀ r ∈ rs, r.1 ≤ lastK rs := by
  intro r hr
  obtain ⟨i, hi, rfl⟩ := List.getElem_of_mem hr
  obtain ⟨n, hn⟩ : ∃ n, rs.length = n + 1 := ⟨rs.length - 1, by omega⟩
  rw [lastK_at hn]
  rcases Nat.lt_or_ge i n with z | z
  · exact Int32.le_of_lt ((List.pairwise_iff_getElem.mp h) i n hi (by omega) z)
  · have : i = n := by omega
    subst this
    exact Int32.le_refl _
/-- the node below in which the key must be -/
theorem lkp_child {qs : List (List RV)} {key : Int32} {i : Nat} (hs : srt qs.flatten) (hn : ∀ q ∈ qs, q ≠ []) (hi : i < qs.length) (h1 : ∀ j (hj : j < qs.length), j < i → lastK qs[j] < key) (h2 : i + 1 = qs.length ∨ ¬ lastK qs[i] < key) : lkp key qs.flatten = lkp key qs[i] := by
  rw [flat_split hi]
  have hb : ∀ r ∈ (qs.take i).flatten, r.1 ≠ key := by
    intro r hr
    obtain ⟨q, hq, hrq⟩ := List.mem_flatten.mp hr
    obtain ⟨j, hj, rfl⟩ := List.getElem_of_mem hq
    rw [List.length_take] at hj
    rw [List.getElem_take] at hrq
    have e1 := lastK_ge (srt_flat hs (show j < qs.length by omega)) r hrq
    have e2 := h1 j (by omega) (by omega)
    intro z
    subst z
    exact absurd (Int32.lt_of_le_of_lt e1 e2) (Int32.lt_irrefl)
  rw [lkp_app hb]
  refine lkp_app2 (fun r hr => ?_)
  rcases h2 with h2 | h2
  · rw [show qs.drop (i + 1) = [] from List.drop_eq_nil_of_le (by omega)] at hr
    cases hr
  · have hs2 := hs
    unfold srt at hs2
    rw [flat_split hi, List.pairwise_append] at hs2
    have hs3 := (List.pairwise_append.mp hs2.2.1).2.2
    obtain ⟨n, hn2⟩ : ∃ n, qs[i].length = n + 1 := by
      have := List.length_pos_iff.mpr (hn _ (List.getElem_mem hi))
      exact ⟨qs[i].length - 1, by omega⟩
    have h4 := hs3 (qs[i][n]'(by omega)) (List.getElem_mem _) r hr
    rw [← lastK_at hn2] at h4
    intro z
    subst z
    exact h2 h4
set_option maxRecDepth 100000 in
set_option maxHeartbeats 1000000 in
theorem rowWithKey_rows {X : CX} {D : va_G} {t : Nat → ClassId} {A : Nat → Prop} {rm : Room} {g : GH} {I : Nat → Prop} {ra : Nat} {fr : Nat → Option Nat} {rs : List RV} {key : Int32} {res : Option RV} (O : Ok X bT_rowWithKey 7 "TwinTrees" (zz D t A) rm) (M : Om X (zz D t A) (some (.object "TwinTrees$Row")) 0 0 (fun r g' => ∃ o : Option Nat, r = some (va_rf o) ∧ ((∃ x rv, o = some x ∧ res = some rv ∧ rowI t g I x rv) ∨ (o = none ∧ res = none)) ∧ g' = g)) (hra : gAt g ra (eRs t rs.length fr)) (hr : rowsI t g I fr 0 rs) (hl : rs.length ≤ 300) (hres : lkp key rs = res) : ∀ (k i : Nat), i + k = rs.length → (∀ j (hj : j < rs.length), j < i → rs[j].1 ≠ key) → J X 7 (zz D t A) g 0 0 76 [(1, .int key), (3, .ref ra), (4, .int (nI rs.length)), (5, .int (nI i))] [] := by
  intro k
  induction k with
  | zero =>
    intro i hi hlow
    have hi : i = rs.length := by omega
    subst hi
    have hn : res = none := by
      rw [← hres]
      refine lkp_none (fun r hr => ?_)
      obtain ⟨j, hj, rfl⟩ := List.getElem_of_mem hr
      exact hlow j hj hj
    refine j_iload O dT_rowWithKey_76 rfl ?_
    refine j_iload O dT_rowWithKey_78 rfl ?_
    refine j_icmp_ge O 107 dT_rowWithKey_80 (by decide) (fun c => ?_) (fun c => absurd (nI_le (Nat.le_refl _) (by omega)) c)
    refine j_null O dT_rowWithKey_107 ?_
    exact j_aret (o := none) O (Or.inl ⟨_, rfl⟩) M (Nat.le_refl _) (Nat.le_refl _) ⟨none, rfl, Or.inr ⟨rfl, hn⟩, rfl⟩ dT_rowWithKey_108
  | succ k ih =>
    intro i hi hlow
    have hi1 : i < rs.length := by omega
    obtain ⟨x, hfx, hx⟩ := hr i hi1
    rw [Nat.zero_add] at hfx
    obtain ⟨xc, xf, hxc, -, -⟩ := hx.at
    refine j_iload O dT_rowWithKey_76 rfl ?_
    refine j_iload O dT_rowWithKey_78 rfl ?_
    refine j_icmp_ge O 107 dT_rowWithKey_80 (by decide) (fun c => absurd c (nI_ge hi1 (by omega))) (fun c => ?_)
    refine j_aload_n O 3 dT_rowWithKey_83 rfl rfl ?_
    refine j_iload O dT_rowWithKey_84 rfl ?_
    refine j_aald O hra 1 rfl (by omega) (by omega) dT_rowWithKey_86 ?_
    refine j_some x hfx ?_
    refine j_astore O [(6, .ref x), (1, .int key), (3, .ref ra), (4, .int (nI rs.length)), (5, .int (nI i))] dT_rowWithKey_87 (by decide) rfl ?_
    refine j_aload O dT_rowWithKey_89 rfl ?_
    refine j_get O uwR hxc rfl 0 (by decide) w288 rfl rfl dT_rowWithKey_91 ?_
    refine j_iload_n O 1 dT_rowWithKey_94 rfl rfl ?_
    refine j_icmp_ne O 101 dT_rowWithKey_95 (by decide) (fun c1 => ?_) (fun c1 => ?_)
    · refine j_iinc O (nI (i + 1)) [(5, .int (nI (i + 1))), (6, .ref x), (1, .int key), (3, .ref ra), (4, .int (nI rs.length))] dT_rowWithKey_101 rfl (nI_1 _) (by decide) rfl ?_
      refine j_goto O 76 dT_rowWithKey_104 (by decide) ?_
      refine J.pk [2, 3, 4, 0] rfl ?_
      refine ih (i + 1) (by omega) (fun j hj hji => ?_)
      rcases Nat.lt_or_ge j i with z | z
      · exact hlow j hj z
      · have : j = i := by omega
        subst this
        exact c1
    · refine j_aload O dT_rowWithKey_98 rfl ?_
      exact j_aret (o := (some x)) O (Or.inl ⟨_, rfl⟩) M (Nat.le_of_ble_eq_true rfl) (Nat.le_of_ble_eq_true rfl) ⟨some x, rfl, Or.inl ⟨x, rs[i], rfl, by rw [← hres]; exact lkp_at hi1 hlow c1, hx⟩, rfl⟩ dT_rowWithKey_100
set_option maxRecDepth 100000 in
set_option maxHeartbeats 1000000 in
theorem rowWithKey_child {X : CX} {D : va_G} {t : Nat → ClassId} {A : Nat → Prop} {rm : Room} {g : GH} {k0 n0 : Nat} {a d ra ba h : Nat} {u : NV} {mu : MU} {fb : Nat → Option Nat} {ks : List Nat} {qs : List (List RV)} {key : Int32} (O : Ok X bT_rowWithKey 7 "TwinTrees" (zz D t A) rm) (hac : gAt g a (nCell u.1 u.2 ra ba mu)) (hba : gAt g ba (eNs t ks.length fb)) (hfb : ∀ i (hi : i < ks.length), fb i = some ks[i]) (hkl : ks.length ≤ 300) (hkq : ks.length = qs.length) (hkc : ∀ i (hi : i < ks.length) (hj : i < qs.length), nodeC g ks[i] h qs[i]) (HK : ∀ (i : Nat) (hi : i < ks.length) (hj : i < qs.length), (∀ j (hj : j < qs.length), j < i → lastK qs[j] < key) → (i + 1 = qs.length ∨ ¬ lastK qs[i] < key) → J X 7 (zz D t A) g k0 n0 50 [(1, .int key), (2, .ref a), (3, .int (nI d)), (4, .int (nI i))] []) : ∀ (k i : Nat), i + k + 1 = ks.length → (∀ j (hj : j < qs.length), j < i → lastK qs[j] < key) → J X 7 (zz D t A) g k0 n0 18 [(1, .int key), (2, .ref a), (3, .int (nI d)), (4, .int (nI i))] [] := by
  intro k
  induction k with
  | zero =>
    intro i hi hlow
    refine j_iload O dT_rowWithKey_18 rfl ?_
    refine j_iconst O (v := 1) dT_rowWithKey_20 (by decide) ?_
    refine j_iadd O dT_rowWithKey_21 ?_
    refine j_eqi (nI (i + 1)) (nI_1 _) ?_
    refine j_aload_n O 2 dT_rowWithKey_22 rfl rfl ?_
    refine j_get O uwN hac rfl 2 (by decide) w136 rfl rfl dT_rowWithKey_23 ?_
    refine j_alen O hba 2 rfl dT_rowWithKey_26 ?_
    refine j_icmp_ge O 50 dT_rowWithKey_27 (by decide) (fun c => ?_) (fun c => absurd (nI_le (by omega) (by omega)) c)
    refine J.pk [0, 1, 2, 3] rfl ?_
    exact HK i (by omega) (by omega) hlow (Or.inl (by omega))
  | succ k ih =>
    intro i hi hlow
    have hi1 : i < ks.length := by omega
    obtain ⟨xra, xba, xmu, hxc⟩ := hkc i hi1 (by omega)
    refine j_iload O dT_rowWithKey_18 rfl ?_
    refine j_iconst O (v := 1) dT_rowWithKey_20 (by decide) ?_
    refine j_iadd O dT_rowWithKey_21 ?_
    refine j_eqi (nI (i + 1)) (nI_1 _) ?_
    refine j_aload_n O 2 dT_rowWithKey_22 rfl rfl ?_
    refine j_get O uwN hac rfl 2 (by decide) w136 rfl rfl dT_rowWithKey_23 ?_
    refine j_alen O hba 2 rfl dT_rowWithKey_26 ?_
    refine j_icmp_ge O 50 dT_rowWithKey_27 (by decide) (fun c => absurd c (nI_ge (by omega) (by omega))) (fun c => ?_)
    refine j_aload_n O 2 dT_rowWithKey_30 rfl rfl ?_
    refine j_get O uwN hac rfl 2 (by decide) w136 rfl rfl dT_rowWithKey_31 ?_
    refine j_iload O dT_rowWithKey_34 rfl ?_
    refine j_aald O hba 2 rfl (by omega) (by omega) dT_rowWithKey_36 ?_
    refine j_some (ks[i]) (hfb i hi1) ?_
    refine j_get O uwN hxc rfl 5 (by decide) w142 rfl rfl dT_rowWithKey_37 ?_
    refine j_iload_n O 1 dT_rowWithKey_40 rfl rfl ?_
    refine j_icmp_ge O 50 dT_rowWithKey_41 (by decide) (fun c1 => ?_) (fun c1 => ?_)
    · refine J.pk [0, 1, 2, 3] rfl ?_
      exact HK i hi1 (by omega) hlow (Or.inr (Int32.not_lt.mpr c1))
    · refine j_iinc O (nI (i + 1)) [(4, .int (nI (i + 1))), (1, .int key), (2, .ref a), (3, .int (nI d))] dT_rowWithKey_44 rfl (nI_1 _) (by decide) rfl ?_
      refine j_goto O 18 dT_rowWithKey_47 (by decide) ?_
      refine J.pk [1, 2, 3, 0] rfl ?_
      refine ih (i + 1) (by omega) (fun j hj hji => ?_)
      rcases Nat.lt_or_ge j i with z | z
      · exact hlow j hj z
      · have : j = i := by omega
        subst this
        exact Int32.not_le.mp c1
set_option maxRecDepth 100000 in
set_option maxHeartbeats 1000000 in
theorem rowWithKey_loop {X : CX} {D : va_G} {t : Nat → ClassId} {A : Nat → Prop} {rm : Room} {g : GH} {w : GD} {I : Nat → Prop} {key : Int32} {res : Option RV} (O : Ok X bT_rowWithKey 7 "TwinTrees" (zz D t A) rm) (M : Om X (zz D t A) (some (.object "TwinTrees$Row")) 0 0 (fun r g' => ∃ o : Option Nat, r = some (va_rf o) ∧ ((∃ x rv, o = some x ∧ res = some rv ∧ rowI t g I x rv) ∨ (o = none ∧ res = none)) ∧ g' = g)) (hN : NI t g w) (hI : w.2.2.2.1 = I) : ∀ (h : Nat) (a : Nat) (u : NV) (d : Nat), w.1 a = some u → u.1 = h → h ≤ d → d ≤ 5 → srt u.2 → lkp key u.2 = res → J X 7 (zz D t A) g 0 0 4 [(1, .int key), (2, .ref a), (3, .int (nI d))] [] := by
  subst hI
  intro h
  induction h with
  | zero =>
    intro a u d hu hu0 hhd hd5 hs hres
    obtain ⟨hvo, hIa, ⟨ra, ba, nr, fr, fb, iA, iB, hac, hra, hba, -, h0, -, hfb, h8⟩, had⟩ := hN a u hu
    obtain ⟨hnr, -, hrr⟩ := h0 hu0
    subst hnr
    refine j_iload_n O 3 dT_rowWithKey_4 rfl rfl ?_
    refine j_if_le O 64 dT_rowWithKey_5 (by decide) (fun c1 => ?_) (fun c1 => ?_)
    · refine j_aload_n O 2 dT_rowWithKey_64 rfl rfl ?_
      refine j_get O uwN hac rfl 1 (by decide) w134 rfl rfl dT_rowWithKey_65 ?_
      refine j_astore_n O 3 [(3, .ref ra), (1, .int key), (2, .ref a)] dT_rowWithKey_68 rfl (by decide) rfl ?_
      refine j_aload_n O 3 dT_rowWithKey_69 rfl rfl ?_
      refine j_alen O hra 1 rfl dT_rowWithKey_70 ?_
      refine j_istore O [(4, .int (nI u.2.length)), (3, .ref ra), (1, .int key), (2, .ref a)] dT_rowWithKey_71 (by decide) rfl ?_
      refine j_iconst O (v := 0) dT_rowWithKey_73 (by decide) ?_
      refine j_istore O [(5, .int 0), (4, .int (nI u.2.length)), (3, .ref ra), (1, .int key), (2, .ref a)] dT_rowWithKey_74 (by decide) rfl ?_
      refine J.pk [3, 2, 1, 0] rfl ?_
      exact rowWithKey_rows O M hra hrr hvo.2.1 hres u.2.length 0 (Nat.zero_add _) (fun j _ h => by omega)
    · refine j_aload_n O 2 dT_rowWithKey_8 rfl rfl ?_
      refine j_get O uwN hac rfl 0 (by decide) w132 rfl rfl dT_rowWithKey_9 ?_
      refine j_if_le O 64 dT_rowWithKey_12 (by decide) (fun c => ?_) (fun c => absurd (by rw [hu0]; decide) c)
      refine j_aload_n O 2 dT_rowWithKey_64 rfl rfl ?_
      refine j_get O uwN hac rfl 1 (by decide) w134 rfl rfl dT_rowWithKey_65 ?_
      refine j_astore_n O 3 [(3, .ref ra), (1, .int key), (2, .ref a)] dT_rowWithKey_68 rfl (by decide) rfl ?_
      refine j_aload_n O 3 dT_rowWithKey_69 rfl rfl ?_
      refine j_alen O hra 1 rfl dT_rowWithKey_70 ?_
      refine j_istore O [(4, .int (nI u.2.length)), (3, .ref ra), (1, .int key), (2, .ref a)] dT_rowWithKey_71 (by decide) rfl ?_
      refine j_iconst O (v := 0) dT_rowWithKey_73 (by decide) ?_
      refine j_istore O [(5, .int 0), (4, .int (nI u.2.length)), (3, .ref ra), (1, .int key), (2, .ref a)] dT_rowWithKey_74 (by decide) rfl ?_
      refine J.pk [3, 2, 1, 0] rfl ?_
      exact rowWithKey_rows O M hra hrr hvo.2.1 hres u.2.length 0 (Nat.zero_add _) (fun j _ h => by omega)
  | succ h ih =>
    intro a u d hu hu0 hhd hd5 hs hres
    obtain ⟨hvo, hIa, ⟨ra, ba, nr, fr, fb, iA, iB, hac, hra, hba, -, h0, -, hfb, h8⟩, had⟩ := hN a u hu
    obtain ⟨q1, q2⟩ := h8 h hu0
    have hfl : (runs (h + 1) u.2).flatten = u.2 := runsP_flat _ _
    have hne : ∀ q ∈ runs (h + 1) u.2, q ≠ [] := fun q hq => runsP_ne _ _ q hq
    have hkl : (w.2.1 a).length ≤ 300 := by rw [q1]; exact Nat.le_trans (runs_len_le _ _) hvo.2.1
    obtain ⟨d, rfl⟩ : ∃ e, d = e + 1 := ⟨d - 1, by omega⟩
    refine j_iload_n O 3 dT_rowWithKey_4 rfl rfl ?_
    refine j_if_le O 64 dT_rowWithKey_5 (by decide) (fun c => absurd c (nI_nle (by omega) (by omega))) (fun c => ?_)
    refine j_aload_n O 2 dT_rowWithKey_8 rfl rfl ?_
    refine j_get O uwN hac rfl 0 (by decide) w132 rfl rfl dT_rowWithKey_9 ?_
    refine j_if_le O 64 dT_rowWithKey_12 (by decide) (fun c => absurd c (by rw [hu0]; exact nI_nle (by omega) (by omega))) (fun c => ?_)
    refine j_iconst O (v := 0) dT_rowWithKey_15 (by decide) ?_
    refine j_istore O [(4, .int 0), (1, .int key), (2, .ref a), (3, .int (nI (d + 1)))] dT_rowWithKey_16 (by decide) rfl ?_
    refine J.pk [1, 2, 3, 0] rfl ?_
    refine (Nat.eq_zero_or_pos (w.2.1 a).length).elim (fun hz => ?_) (fun hp => ?_)
    · exfalso
      rw [q1] at hz
      have := runsP_nil _ (List.length_eq_zero_iff.mp hz)
      exact hvo.2.2.2.1 (by omega) this
    · refine rowWithKey_child (k0 := 0) (n0 := 0) (h := h) (key := key) O hac hba hfb hkl q1 (fun i hi hj => ?_) (fun i hi hj hlow hstop => ?_) ((w.2.1 a).length - 1) 0 (by omega) (fun j _ h => by omega)
      · obtain ⟨xra, xba, hc⟩ := hN.cell (q2 i hi hj)
        exact ⟨xra, xba, _, hc⟩
      · refine j_aload_n O 2 dT_rowWithKey_50 rfl rfl ?_
        refine j_get O uwN hac rfl 2 (by decide) w136 rfl rfl dT_rowWithKey_51 ?_
        refine j_iload O dT_rowWithKey_54 rfl ?_
        refine j_aald O hba 2 rfl (by omega) (by omega) dT_rowWithKey_56 ?_
        refine j_some ((w.2.1 a)[i]) (hfb i hi) ?_
        refine j_astore_n O 2 [(2, .ref ((w.2.1 a)[i])), (1, .int key), (3, .int (nI (d + 1))), (4, .int (nI i))] dT_rowWithKey_57 rfl (by decide) rfl ?_
        refine j_iinc O (nI (d + 1 - 1)) [(3, .int (nI (d + 1 - 1))), (2, .ref ((w.2.1 a)[i])), (1, .int key), (4, .int (nI i))] dT_rowWithKey_58 rfl (sb_m1 (by omega)) (by decide) rfl ?_
        refine j_goto O 4 dT_rowWithKey_61 (by decide) ?_
        refine J.pk [2, 1, 0] rfl ?_
        refine ih _ _ d (q2 i hi hj) rfl (by omega) (by omega) (srt_flat (by rw [hfl]; exact hs) hj) ?_
        rw [← hres, ← lkp_child (by rw [hfl]; exact hs) hne hj hlow hstop, hfl]
set_option maxRecDepth 100000 in
set_option maxHeartbeats 1000000 in
theorem c_rowWithKey (l : Launch) (D : va_G) (t : Nat → ClassId) (A : Nat → Prop) (g : GH) (a : Nat) (key : Int32) (w : GD) (v0 : NV) (hN : NI t g w) (hv : w.1 a = some v0) : Ct l yT_rowWithKey sT_rowWithKey { frames := 0, cells := 0, slots := 0, locals := 0 } (zz D t A) [.ref a, .int key] g 0 0 (fun v g' => ∃ o : Option Nat, v = some (va_rf o) ∧ ((∃ x rv, o = some x ∧ lkp key v0.2 = some rv ∧ rowI t g w.2.2.2.1 x rv) ∨ (o = none ∧ lkp key v0.2 = none)) ∧ g' = g) := by
  refine Ct.of (cc := bT_rowWithKey) (maxL := 7) (ret := (some (.object "TwinTrees$Row"))) (by decide) (Nat.le_of_ble_eq_true rfl) (fun X hlX O M hNn => ?_)
  show J X 7 (zz D t A) g 0 0 0 [(0, .ref a), (1, .int key)] []
  have hvo := (hN a v0 hv).1
  refine j_aload_n O 0 dT_rowWithKey_0 rfl rfl ?_
  refine j_astore_n O 2 [(2, .ref a), (0, .ref a), (1, .int key)] dT_rowWithKey_1 rfl (by decide) rfl ?_
  refine j_iconst O (v := 5) dT_rowWithKey_2 (by decide) ?_
  refine j_istore_n O 3 [(3, .int 5), (2, .ref a), (0, .ref a), (1, .int key)] dT_rowWithKey_3 rfl (by decide) rfl ?_
  refine J.pk [3, 1, 0] rfl ?_
  exact rowWithKey_loop O M hN rfl v0.1 a v0 5 hv rfl hvo.1 (Nat.le_refl _) hvo.2.2.2.2 rfl
theorem flat_at {qs : List (List RV)} {i l : Nat} (hi : i < qs.length) (hl : l < qs[i].length) (h : (qs.take i).flatten.length + l < qs.flatten.length) : qs.flatten[(qs.take i).flatten.length + l] = qs[i][l] := by
  have e := flat_split hi
  have : qs.flatten[(qs.take i).flatten.length + l] = ((qs.take i).flatten ++ (qs[i] ++ (qs.drop (i + 1)).flatten))[(qs.take i).flatten.length + l]'(by rw [← e]; exact h) := by simp only [e]
  rw [this, List.getElem_append_right (by omega)]
  simp only [Nat.add_sub_cancel_left]
  rw [List.getElem_append_left hl]
set_option maxRecDepth 100000 in
set_option maxHeartbeats 1000000 in
theorem keyInOrder_child {X : CX} {D : va_G} {t : Nat → ClassId} {A : Nat → Prop} {rm : Room} {g : GH} {k0 n0 : Nat} {a d ra ba h : Nat} {u : NV} {mu : MU} {fb : Nat → Option Nat} {ks : List Nat} {qs : List (List RV)} {left0 : Nat} (O : Ok X bT_keyInOrder 6 "TwinTrees" (zz D t A) rm) (hac : gAt g a (nCell u.1 u.2 ra ba mu)) (hba : gAt g ba (eNs t ks.length fb)) (hfb : ∀ i (hi : i < ks.length), fb i = some ks[i]) (hkl : ks.length ≤ 300) (hkq : ks.length = qs.length) (hkc : ∀ i (hi : i < ks.length) (hj : i < qs.length), nodeC g ks[i] h qs[i]) (hfl : qs.flatten.length ≤ 300) (hlt : left0 < qs.flatten.length) (HK : ∀ (i left : Nat) (hi : i < ks.length) (hj : i < qs.length), left0 = (qs.take i).flatten.length + left → left < qs[i].length → J X 6 (zz D t A) g k0 n0 67 [(2, .ref a), (3, .int (nI left)), (4, .int (nI d)), (5, .int (nI i))] []) : ∀ (k i left : Nat), i + k + 1 = ks.length → left0 = (qs.take i).flatten.length + left → J X 6 (zz D t A) g k0 n0 22 [(2, .ref a), (3, .int (nI left)), (4, .int (nI d)), (5, .int (nI i))] [] := by
  intro k
  induction k with
  | zero =>
    intro i left hi hle
    have hj : i < qs.length := by omega
    have hfs := flat_split hj
    have hd0 : qs.drop (i + 1) = [] := List.drop_eq_nil_of_le (by omega)
    have hll : left < qs[i].length := by
      rw [hfs, hd0, List.length_append, List.flatten_nil, List.append_nil] at hlt
      omega
    refine j_iload O dT_keyInOrder_22 rfl ?_
    refine j_iconst O (v := 1) dT_keyInOrder_24 (by decide) ?_
    refine j_iadd O dT_keyInOrder_25 ?_
    refine j_eqi (nI (i + 1)) (nI_1 _) ?_
    refine j_aload_n O 2 dT_keyInOrder_26 rfl rfl ?_
    refine j_get O uwN hac rfl 2 (by decide) w136 rfl rfl dT_keyInOrder_27 ?_
    refine j_alen O hba 2 rfl dT_keyInOrder_30 ?_
    refine j_icmp_ge O 67 dT_keyInOrder_31 (by decide) (fun c => ?_) (fun c => absurd (nI_le (by omega) (by omega)) c)
    refine J.pk [0, 1, 2, 3] rfl ?_
    exact HK i left (by omega) hj hle hll
  | succ k ih =>
    intro i left hi hle
    have hi1 : i < ks.length := by omega
    have hj : i < qs.length := by omega
    obtain ⟨xra, xba, xmu, hxc⟩ := hkc i hi1 hj
    have hft := flat_take qs i hj
    have hq300 : qs[i].length ≤ 300 := by
      have hfs := congrArg List.length (flat_split hj)
      rw [List.length_append, List.length_append] at hfs
      omega
    refine j_iload O dT_keyInOrder_22 rfl ?_
    refine j_iconst O (v := 1) dT_keyInOrder_24 (by decide) ?_
    refine j_iadd O dT_keyInOrder_25 ?_
    refine j_eqi (nI (i + 1)) (nI_1 _) ?_
    refine j_aload_n O 2 dT_keyInOrder_26 rfl rfl ?_
    refine j_get O uwN hac rfl 2 (by decide) w136 rfl rfl dT_keyInOrder_27 ?_
    refine j_alen O hba 2 rfl dT_keyInOrder_30 ?_
    refine j_icmp_ge O 67 dT_keyInOrder_31 (by decide) (fun c => absurd c (nI_ge (by omega) (by omega))) (fun c => ?_)
    refine j_iload_n O 3 dT_keyInOrder_34 rfl rfl ?_
    refine j_aload_n O 2 dT_keyInOrder_35 rfl rfl ?_
    refine j_get O uwN hac rfl 2 (by decide) w136 rfl rfl dT_keyInOrder_36 ?_
    refine j_iload O dT_keyInOrder_39 rfl ?_
    refine j_aald O hba 2 rfl (by omega) (by omega) dT_keyInOrder_41 ?_
    refine j_some (ks[i]) (hfb i hi1) ?_
    refine j_get O uwN hxc rfl 3 (by decide) w138 rfl rfl dT_keyInOrder_42 ?_
    refine j_icmp_lt O 67 dT_keyInOrder_45 (by decide) (fun c1 => ?_) (fun c1 => ?_)
    · refine J.pk [0, 1, 2, 3] rfl ?_
      exact HK i left hi1 hj hle ((nI_ltI (by omega) (by omega)).mp c1)
    · have hge : qs[i].length ≤ left := by
        rcases Nat.lt_or_ge left qs[i].length with z | z
        · exact absurd (nI_lt z (by omega)) c1
        · exact z
      refine j_iload_n O 3 dT_keyInOrder_48 rfl rfl ?_
      refine j_aload_n O 2 dT_keyInOrder_49 rfl rfl ?_
      refine j_get O uwN hac rfl 2 (by decide) w136 rfl rfl dT_keyInOrder_50 ?_
      refine j_iload O dT_keyInOrder_53 rfl ?_
      refine j_aald O hba 2 rfl (by omega) (by omega) dT_keyInOrder_55 ?_
      refine j_some (ks[i]) (hfb i hi1) ?_
      refine j_get O uwN hxc rfl 3 (by decide) w138 rfl rfl dT_keyInOrder_56 ?_
      refine j_isub O dT_keyInOrder_59 ?_
      refine j_eqi (nI (left - (qs[i].length))) (pk_sub (by omega)) ?_
      refine j_istore_n O 3 [(3, .int (nI (left - (qs[i].length)))), (2, .ref a), (4, .int (nI d)), (5, .int (nI i))] dT_keyInOrder_60 rfl (by decide) rfl ?_
      refine j_iinc O (nI (i + 1)) [(5, .int (nI (i + 1))), (3, .int (nI (left - (qs[i].length)))), (2, .ref a), (4, .int (nI d))] dT_keyInOrder_61 rfl (nI_1 _) (by decide) rfl ?_
      refine j_goto O 22 dT_keyInOrder_64 (by decide) ?_
      refine J.pk [2, 1, 3, 0] rfl ?_
      exact ih (i + 1) (left - qs[i].length) (by omega) (by rw [hft]; omega)
set_option maxRecDepth 100000 in
set_option maxHeartbeats 1000000 in
theorem keyInOrder_loop {X : CX} {D : va_G} {t : Nat → ClassId} {A : Nat → Prop} {rm : Room} {g : GH} {w : GD} {key : Int32} (O : Ok X bT_keyInOrder 6 "TwinTrees" (zz D t A) rm) (M : Om X (zz D t A) (some .long) 0 0 (fun r g' => r = some (.long key.toInt64) ∧ g' = g)) (hN : NI t g w) : ∀ (h : Nat) (a : Nat) (u : NV) (d left : Nat) (hl : left < u.2.length), w.1 a = some u → u.1 = h → h ≤ d → d ≤ 5 → u.2[left].1 = key → J X 6 (zz D t A) g 0 0 7 [(2, .ref a), (3, .int (nI left)), (4, .int (nI d))] [] := by
  intro h
  induction h with
  | zero =>
    intro a u d left hl hu hu0 hhd hd5 hres
    obtain ⟨hvo, hIa, ⟨ra, ba, nr, fr, fb, iA, iB, hac, hra, hba, -, h0, -, hfb, h8⟩, had⟩ := hN a u hu
    obtain ⟨hnr, -, hrr⟩ := h0 hu0
    subst hnr
    have hv3 := hvo.2.1
    obtain ⟨x, hfx, hx⟩ := hrr left hl
    rw [Nat.zero_add] at hfx
    obtain ⟨xc, xf, hxc, -, -⟩ := hx.at
    refine j_iload O dT_keyInOrder_7 rfl ?_
    refine j_if_le O 81 dT_keyInOrder_9 (by decide) (fun c1 => ?_) (fun c1 => ?_)
    · refine j_iload_n O 3 dT_keyInOrder_81 rfl rfl ?_
      refine j_aload_n O 2 dT_keyInOrder_82 rfl rfl ?_
      refine j_get O uwN hac rfl 1 (by decide) w134 rfl rfl dT_keyInOrder_83 ?_
      refine j_alen O hra 1 rfl dT_keyInOrder_86 ?_
      refine j_icmp_ge O 103 dT_keyInOrder_87 (by decide) (fun c => absurd c (nI_ge hl (by omega))) (fun c => ?_)
      refine j_aload_n O 2 dT_keyInOrder_90 rfl rfl ?_
      refine j_get O uwN hac rfl 1 (by decide) w134 rfl rfl dT_keyInOrder_91 ?_
      refine j_iload_n O 3 dT_keyInOrder_94 rfl rfl ?_
      refine j_aald O hra 1 rfl (by omega) (by omega) dT_keyInOrder_95 ?_
      refine j_some x hfx ?_
      refine j_get O uwR hxc rfl 0 (by decide) w288 rfl rfl dT_keyInOrder_96 ?_
      refine j_i2l O dT_keyInOrder_99 ?_
      refine j_goto O 106 dT_keyInOrder_100 (by decide) ?_
      exact j_lret O M (Nat.le_of_ble_eq_true rfl) (Nat.le_of_ble_eq_true rfl) ⟨by rw [hres], rfl⟩ dT_keyInOrder_106
    · refine j_aload_n O 2 dT_keyInOrder_12 rfl rfl ?_
      refine j_get O uwN hac rfl 0 (by decide) w132 rfl rfl dT_keyInOrder_13 ?_
      refine j_if_le O 81 dT_keyInOrder_16 (by decide) (fun c => ?_) (fun c => absurd (by rw [hu0]; decide) c)
      refine j_iload_n O 3 dT_keyInOrder_81 rfl rfl ?_
      refine j_aload_n O 2 dT_keyInOrder_82 rfl rfl ?_
      refine j_get O uwN hac rfl 1 (by decide) w134 rfl rfl dT_keyInOrder_83 ?_
      refine j_alen O hra 1 rfl dT_keyInOrder_86 ?_
      refine j_icmp_ge O 103 dT_keyInOrder_87 (by decide) (fun c => absurd c (nI_ge hl (by omega))) (fun c => ?_)
      refine j_aload_n O 2 dT_keyInOrder_90 rfl rfl ?_
      refine j_get O uwN hac rfl 1 (by decide) w134 rfl rfl dT_keyInOrder_91 ?_
      refine j_iload_n O 3 dT_keyInOrder_94 rfl rfl ?_
      refine j_aald O hra 1 rfl (by omega) (by omega) dT_keyInOrder_95 ?_
      refine j_some x hfx ?_
      refine j_get O uwR hxc rfl 0 (by decide) w288 rfl rfl dT_keyInOrder_96 ?_
      refine j_i2l O dT_keyInOrder_99 ?_
      refine j_goto O 106 dT_keyInOrder_100 (by decide) ?_
      exact j_lret O M (Nat.le_of_ble_eq_true rfl) (Nat.le_of_ble_eq_true rfl) ⟨by rw [hres], rfl⟩ dT_keyInOrder_106
  | succ h ih =>
    intro a u d left hl hu hu0 hhd hd5 hres
    obtain ⟨hvo, hIa, ⟨ra, ba, nr, fr, fb, iA, iB, hac, hra, hba, -, h0, -, hfb, h8⟩, had⟩ := hN a u hu
    obtain ⟨q1, q2⟩ := h8 h hu0
    have hfl : (runs (h + 1) u.2).flatten = u.2 := runsP_flat _ _
    have hkl : (w.2.1 a).length ≤ 300 := by rw [q1]; exact Nat.le_trans (runs_len_le _ _) hvo.2.1
    obtain ⟨d, rfl⟩ : ∃ e, d = e + 1 := ⟨d - 1, by omega⟩
    have hp : 0 < (w.2.1 a).length := by
      rcases Nat.eq_zero_or_pos (w.2.1 a).length with hz | hp
      · exfalso
        rw [q1] at hz
        have := runsP_nil _ (List.length_eq_zero_iff.mp hz)
        exact hvo.2.2.2.1 (by omega) this
      · exact hp
    refine j_iload O dT_keyInOrder_7 rfl ?_
    refine j_if_le O 81 dT_keyInOrder_9 (by decide) (fun c => absurd c (nI_nle (by omega) (by omega))) (fun c => ?_)
    refine j_aload_n O 2 dT_keyInOrder_12 rfl rfl ?_
    refine j_get O uwN hac rfl 0 (by decide) w132 rfl rfl dT_keyInOrder_13 ?_
    refine j_if_le O 81 dT_keyInOrder_16 (by decide) (fun c => absurd c (by rw [hu0]; exact nI_nle (by omega) (by omega))) (fun c => ?_)
    refine j_iconst O (v := 0) dT_keyInOrder_19 (by decide) ?_
    refine j_istore O [(5, .int 0), (2, .ref a), (3, .int (nI left)), (4, .int (nI (d + 1)))] dT_keyInOrder_20 (by decide) rfl ?_
    refine J.pk [1, 2, 3, 0] rfl ?_
    refine keyInOrder_child (k0 := 0) (n0 := 0) (h := h) (left0 := left) O hac hba hfb hkl q1 (fun i hi hj => ?_) (by rw [hfl]; exact hvo.2.1) (by rw [hfl]; exact hl) (fun i l2 hi hj hle hl2 => ?_) ((w.2.1 a).length - 1) 0 left (by omega) (by simp)
    · obtain ⟨xra, xba, hc⟩ := hN.cell (q2 i hi hj)
      exact ⟨xra, xba, _, hc⟩
    · refine j_aload_n O 2 dT_keyInOrder_67 rfl rfl ?_
      refine j_get O uwN hac rfl 2 (by decide) w136 rfl rfl dT_keyInOrder_68 ?_
      refine j_iload O dT_keyInOrder_71 rfl ?_
      refine j_aald O hba 2 rfl (by omega) (by omega) dT_keyInOrder_73 ?_
      refine j_some ((w.2.1 a)[i]) (hfb i hi) ?_
      refine j_astore_n O 2 [(2, .ref ((w.2.1 a)[i])), (3, .int (nI l2)), (4, .int (nI (d + 1))), (5, .int (nI i))] dT_keyInOrder_74 rfl (by decide) rfl ?_
      refine j_iinc O (nI (d + 1 - 1)) [(4, .int (nI (d + 1 - 1))), (2, .ref ((w.2.1 a)[i])), (3, .int (nI l2)), (5, .int (nI i))] dT_keyInOrder_75 rfl (sb_m1 (by omega)) (by decide) rfl ?_
      refine j_goto O 7 dT_keyInOrder_78 (by decide) ?_
      refine J.pk [1, 2, 0] rfl ?_
      refine ih _ _ d l2 hl2 (q2 i hi hj) rfl (by omega) (by omega) ?_
      have e := flat_at hj hl2 (by rw [← hle, hfl]; exact hl)
      rw [← e, ← hres]
      simp only [← hle, hfl]
set_option maxRecDepth 100000 in
set_option maxHeartbeats 1000000 in
theorem c_keyInOrder (l : Launch) (D : va_G) (t : Nat → ClassId) (A : Nat → Prop) (g : GH) (a k : Nat) (w : GD) (v0 : NV) (hN : NI t g w) (hv : w.1 a = some v0) (hk : k < v0.2.length) : Ct l yT_keyInOrder sT_keyInOrder { frames := 0, cells := 0, slots := 0, locals := 0 } (zz D t A) [.ref a, .int (nI k)] g 0 0 (fun v g' => v = some (.long (v0.2[k].1).toInt64) ∧ g' = g) := by
  refine Ct.of (cc := bT_keyInOrder) (maxL := 6) (ret := (some .long)) (by decide) (Nat.le_of_ble_eq_true rfl) (fun X hlX O M hNn => ?_)
  show J X 6 (zz D t A) g 0 0 0 [(0, .ref a), (1, .int (nI k))] []
  have hvo := (hN a v0 hv).1
  refine j_aload_n O 0 dT_keyInOrder_0 rfl rfl ?_
  refine j_astore_n O 2 [(2, .ref a), (0, .ref a), (1, .int (nI k))] dT_keyInOrder_1 rfl (by decide) rfl ?_
  refine j_iload_n O 1 dT_keyInOrder_2 rfl rfl ?_
  refine j_istore_n O 3 [(3, .int (nI k)), (2, .ref a), (0, .ref a), (1, .int (nI k))] dT_keyInOrder_3 rfl (by decide) rfl ?_
  refine j_iconst O (v := 5) dT_keyInOrder_4 (by decide) ?_
  refine j_istore O [(4, .int 5), (3, .int (nI k)), (2, .ref a), (0, .ref a), (1, .int (nI k))] dT_keyInOrder_5 (by decide) rfl ?_
  refine J.pk [2, 1, 0] rfl ?_
  exact keyInOrder_loop O M hN v0.1 a v0 5 k hk hv rfl hvo.1 (Nat.le_refl _) rfl
