/-! what is sure of the state after any number of calls -/
theorem aOK_plant {s : AS} (h : aOK s) {i w : Nat} {rs : List RV} (ht : tOK (w, rs)) (hc : ∀ r ∈ rs, rowC r) : aOK (aPlant s i w rs).2 := by
  refine ⟨?_, ?_, h.2.2.plant w ht.2.2.2.1⟩
  · intro j hj
    unfold aPlant
    split
    · show tOK (va_up s.1 i (w, rs) j)
      by_cases z : j = i
      · subst z; rw [va_up_self]; exact ht
      · rw [va_up_ne _ _ z]; exact h.1 j hj
    · exact h.1 j hj
  · intro j hj
    unfold aPlant
    split
    · show ∀ r ∈ (va_up s.1 i (w, rs) j).2, rowC r
      by_cases z : j = i
      · subst z; rw [va_up_self]; exact hc
      · rw [va_up_ne _ _ z]; exact h.2.1 j hj
    · exact h.2.1 j hj
theorem aPlant_len {s : AS} {i w : Nat} {rs : List RV} (hn : (news s.2.1 (ndl rs)).length ≤ 12) : (aPlant s i w rs).2.2.1.length ≤ s.2.1.length + 12 := by
  unfold aPlant
  split
  · show (s.2.1 ++ news s.2.1 (ndl rs)).length ≤ _
    rw [List.length_append]
    omega
  · exact Nat.le_add_right _ _
theorem ndl_nil : ndl [] = [((0, []) : NV)] := by decide
theorem ix_lt {x : Int32} (h : isT x) : ix x < 6 := by
  obtain ⟨i, hi, rfl⟩ := tb_of h
  rw [ix_nI (by omega)]
  exact hi
theorem aOK_make {s : AS} (h : aOK s) (x y : Int32) : aOK (aMake s x y).2 ∧ (aMake s x y).2.2.1.length ≤ s.2.1.length + 12 := by
  unfold aMake
  split
  · next z =>
    have e1 : (1 : Int32).toInt = 1 := by decide
    have e6 : (6 : Int32).toInt = 6 := by decide
    have y1 := Int32.le_iff_toInt_le.mp z.2.1
    have y6 := Int32.le_iff_toInt_le.mp z.2.2
    have hj : 1 ≤ ix y ∧ ix y ≤ 6 := by unfold ix; omega
    exact ⟨aOK_plant h ⟨hj.1, hj.2, fun r hr => (by cases hr), List.Pairwise.nil, Nat.zero_le _⟩ (fun r hr => by cases hr), aPlant_len (Nat.le_trans (List.length_filter_le _ _) (by rw [ndl_nil]; decide))⟩
  · exact ⟨h, Nat.le_add_right _ _⟩
theorem rowC_chg {w : Nat} {rs : List RV} (ht : tOK (w, rs)) (hc : ∀ r ∈ rs, rowC r) (k : Int32) {j : Nat} (hj : j < w) (a z : Int32) : ∀ r ∈ chg rs w k j a z, rowC r := by
  obtain ⟨t1, t2, t3, t4, t5⟩ := ht
  dsimp only at t1 t2 t3
  intro r hr
  unfold chg at hr
  split at hr
  · next hin =>
    rcases List.mem_or_eq_of_mem_set hr with q | q
    · exact hc r q
    · rw [q]
      have hl0 := t3 _ (List.getElem_mem hin.1)
      exact rowC_set (hc _ (List.getElem_mem hin.1)) a z (by omega) (by omega)
  · rcases List.mem_append.mp hr with q | q
    · exact hc r (List.mem_of_mem_take q)
    · rcases List.mem_cons.mp q with q | q
      · rw [q]; exact rowC_set (rowC_blank k (by omega)) a z (by simp [blankR]; omega) (by simp [blankR]; omega)
      · exact hc r (List.mem_of_mem_drop q)
theorem aOK_put {s : AS} (h : aOK s) (x k y a z : Int32) : aOK (aPut s x k y a z).2 ∧ (aPut s x k y a z).2.2.1.length ≤ s.2.1.length + 12 := by
  unfold aPut
  split
  · next hx =>
    have hi := ix_lt hx.1
    obtain ⟨t1, t2, t3, t4, t5⟩ := id (h.1 _ hi)
    have hj : ix y < (s.1 (ix x)).1 := by
      have q0 := Int32.le_iff_toInt_le.mp hx.2.1
      have q1 := Int32.lt_iff_toInt_lt.mp hx.2.2
      rw [nI_toInt (by omega)] at q1
      have e0 : (0 : Int32).toInt = 0 := by decide
      unfold ix at *
      omega
    split
    · exact ⟨h, Nat.le_add_right _ _⟩
    · next hf =>
      refine ⟨aOK_plant h (tOK_chg (h.1 _ hi) k _ a z (fun q => ?_)) (rowC_chg (h.1 _ hi) (h.2.1 _ hi) k hj a z), aPlant_len (few_chg (fun v hv => h.2.2.1 _ hi v hv) _ k _ a z)⟩
      rcases Nat.lt_or_ge (s.1 (ix x)).2.length 300 with c | c
      · exact c
      · exact absurd ⟨q, c⟩ hf
  · exact ⟨h, Nat.le_add_right _ _⟩
theorem aOK_rem {s : AS} (h : aOK s) (x k : Int32) : aOK (aRem s x k).2 ∧ (aRem s x k).2.2.1.length ≤ s.2.1.length + 12 := by
  unfold aRem
  split
  · next hx =>
    have hi := ix_lt hx
    split
    · next hin =>
      exact ⟨aOK_plant h (tOK_erase (h.1 _ hi) _) (fun r hr => h.2.1 _ hi r (List.mem_of_mem_eraseIdx hr)), aPlant_len (few_erase (fun v hv => h.2.2.1 _ hi v hv) _ hin.1)⟩
    · exact ⟨h, Nat.le_add_right _ _⟩
  · exact ⟨h, Nat.le_add_right _ _⟩
theorem aOK_copy {s : AS} (h : aOK s) (x y : Int32) : aOK (aCopy s x y).2 ∧ (aCopy s x y).2.2.1.length ≤ s.2.1.length + 12 := by
  unfold aCopy
  split
  · next hxy =>
    have hj := ix_lt hxy.2
    refine ⟨⟨fun i hi => ?_, fun i hi => ?_, fun i hi => ?_, h.2.2.2⟩, Nat.le_add_right _ _⟩
    · show tOK (va_up s.1 (ix x) (s.1 (ix y)) i)
      by_cases z : i = ix x
      · subst z; rw [va_up_self]; exact h.1 _ hj
      · rw [va_up_ne _ _ z]; exact h.1 i hi
    · show ∀ r ∈ (va_up s.1 (ix x) (s.1 (ix y)) i).2, rowC r
      by_cases z : i = ix x
      · subst z; rw [va_up_self]; exact h.2.1 _ hj
      · rw [va_up_ne _ _ z]; exact h.2.1 i hi
    · show ∀ v ∈ ndl (va_up s.1 (ix x) (s.1 (ix y)) i).2, v ∈ s.2.1
      by_cases z : i = ix x
      · subst z; rw [va_up_self]; exact h.2.2.1 _ hj
      · rw [va_up_ne _ _ z]; exact h.2.2.1 i hi
  · exact ⟨h, Nat.le_add_right _ _⟩
theorem aOK_cmp {s : AS} (h : aOK s) (x y : Int32) : aOK (aCmp s x y).2 ∧ (aCmp s x y).2.2.1.length ≤ s.2.1.length + 12 := by
  unfold aCmp
  split
  · exact ⟨h, Nat.le_add_right _ _⟩
  · exact ⟨h, Nat.le_add_right _ _⟩
theorem aOK_sweep {s : AS} (h : aOK s) : aOK (aSweep s).2 ∧ (aSweep s).2.2.1.length ≤ s.2.1.length + 12 := by
  refine ⟨⟨h.1, h.2.1, fun i hi v hv => ?_, h.2.2.2.filter _⟩, Nat.le_trans (List.length_filter_le _ _) (Nat.le_add_right _ _)⟩
  show v ∈ s.2.1.filter (lives s.1)
  rw [List.mem_filter]
  exact ⟨h.2.2.1 i hi v hv, (lives_iff s.1 v).mpr ⟨i, hi, hv⟩⟩
theorem aOK_s00 : aOK s00 := by
  refine ⟨fun i hi => ⟨by show 1 ≤ 1; decide, by show 1 ≤ 6; decide, fun r hr => (by cases hr), List.Pairwise.nil, Nat.zero_le _⟩, fun i hi r hr => (by cases hr), fun i hi v hv => ?_, by decide⟩
  have h2 : v ∈ ndl [] := hv
  rw [ndl_nil] at h2
  exact h2
theorem few_put {s : AS} (h : aOK s) (k a z : Int32) : ∀ i j, i < 6 → j < (s.1 i).1 → (news s.2.1 (ndl (chg (s.1 i).2 (s.1 i).1 k j a z))).length ≤ 12 := fun i j hi _ => few_chg (fun v hv => h.2.2.1 i hi v hv) _ k j a z
theorem few_rem {s : AS} (h : aOK s) (k : Int32) : ∀ i, i < 6 → (∃ h : plc k (s.1 i).2 < (s.1 i).2.length, (s.1 i).2[plc k (s.1 i).2].1 = k) → (news s.2.1 (ndl ((s.1 i).2.eraseIdx (plc k (s.1 i).2)))).length ≤ 12 := fun i hi hin => few_erase (fun v hv => h.2.2.1 i hi v hv) _ hin.1
