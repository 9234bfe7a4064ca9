/-! one row more, less or other makes at most two runs new at each height -/
def cnt {α : Type} [DecidableEq α] (S L : List α) : Nat := (L.filter (fun x => decide (x ∉ S))).length
theorem cnt_cons {α : Type} [DecidableEq α] (S : List α) (a : α) (L : List α) : cnt S (a :: L) ≤ 1 + cnt S L := by
  unfold cnt
  rw [List.filter_cons]
  split
  · rw [List.length_cons]; omega
  · omega
theorem cnt_in {α : Type} [DecidableEq α] {S : List α} {a : α} (h : a ∈ S) (L : List α) : cnt S (a :: L) = cnt S L := by
  unfold cnt
  rw [List.filter_cons_of_neg (by simpa using h)]
theorem cnt_mono {α : Type} [DecidableEq α] {S S' : List α} (h : ∀ x ∈ S, x ∈ S') : ∀ L : List α, cnt S' L ≤ cnt S L
  | [] => Nat.le_refl _
  | a :: L => by
    have ih := cnt_mono h L
    by_cases ha : a ∈ S
    · rw [cnt_in ha, cnt_in (h a ha)]; exact ih
    · have e : cnt S (a :: L) = 1 + cnt S L := by
        unfold cnt
        rw [List.filter_cons_of_pos (by simpa using ha), List.length_cons]; omega
      have := cnt_cons S' a L
      omega
theorem cnt_sub {α : Type} [DecidableEq α] {S L : List α} (h : ∀ x ∈ L, x ∈ S) : cnt S L = 0 := by
  unfold cnt
  rw [List.length_eq_zero_iff, List.filter_eq_nil_iff]
  intro x hx
  simpa using h x hx
theorem cnt_len {α : Type} [DecidableEq α] (S L : List α) : cnt S L ≤ L.length := List.length_filter_le _ _
theorem tail_in {α : Type} {L : List α} : ∀ x ∈ L.tail, x ∈ L := fun _ hx => List.mem_of_mem_tail hx
def IV {α : Type} [DecidableEq α] (RX RY : List α) : Prop := cnt RX.tail RY.tail ≤ 1 ∨ (RX.head? = RY.head? ∧ cnt RX.tail RY.tail ≤ 2)
theorem IV.two {α : Type} [DecidableEq α] {RX RY : List α} (h : IV RX RY) : cnt RX RY ≤ 2 := by
  cases RY with
  | nil => exact Nat.zero_le _
  | cons y ys =>
    have hm := cnt_mono (tail_in (L := RX)) ys
    rcases h with z | ⟨z1, z2⟩
    · have z : cnt RX.tail ys ≤ 1 := z
      have := cnt_cons RX y ys
      omega
    · have z2 : cnt RX.tail ys ≤ 2 := z2
      have hy : y ∈ RX := List.mem_of_mem_head? z1
      rw [cnt_in hy]
      omega
def ext {α : Type} (a : α) : List (List α) → List (List α)
  | [] => [[a]]
  | q :: qs => (a :: q) :: qs
theorem runsP_cons {α : Type} (p : α → Bool) (a : α) (X : List α) : runsP p (a :: X) = if p a then [a] :: runsP p X else ext a (runsP p X) := by
  rw [runsP]
  split
  · rfl
  · cases runsP p X <;> rfl
theorem ext_tail {α : Type} (a : α) (R : List (List α)) : (ext a R).tail = R.tail := by cases R <;> rfl
theorem IV.pre {α : Type} [DecidableEq α] (p : α → Bool) (a : α) {X Y : List α} (h : IV (runsP p X) (runsP p Y)) : IV (runsP p (a :: X)) (runsP p (a :: Y)) := by
  rw [runsP_cons, runsP_cons]
  by_cases hp : p a = true
  · rw [if_pos hp, if_pos hp]
    exact Or.inr ⟨rfl, h.two⟩
  · rw [if_neg hp, if_neg hp]
    unfold IV
    rw [ext_tail, ext_tail]
    rcases h with z | ⟨z1, z2⟩
    · exact Or.inl z
    · refine Or.inr ⟨?_, z2⟩
      cases hX : runsP p X with
      | nil =>
        cases hY : runsP p Y with
        | nil => rfl
        | cons y ys => rw [hX, hY] at z1; cases z1
      | cons x xs =>
        cases hY : runsP p Y with
        | nil => rw [hX, hY] at z1; cases z1
        | cons y ys =>
          rw [hX, hY] at z1
          have : x = y := by simpa using z1
          rw [this]
          rfl
theorem IV.app {α : Type} [DecidableEq α] (p : α → Bool) {X Y : List α} (h : IV (runsP p X) (runsP p Y)) : ∀ A : List α, IV (runsP p (A ++ X)) (runsP p (A ++ Y))
  | [] => h
  | a :: A => by rw [List.cons_append, List.cons_append]; exact (IV.app p h A).pre p a
theorem tl_mid {α : Type} (p : α → Bool) (M B : List α) (hM : M.length ≤ 1) : (runsP p (M ++ B)).tail = runsP p B ∨ (runsP p (M ++ B)).tail = (runsP p B).tail := by
  match M, hM with
  | [], _ => exact Or.inr rfl
  | [m], _ =>
    rw [List.singleton_append, runsP_cons]
    split
    · exact Or.inl rfl
    · exact Or.inr (ext_tail _ _)
  | _ :: _ :: _, h => simp at h
theorem cnt_tail {α : Type} [DecidableEq α] (L : List α) : cnt L.tail L ≤ 1 := by
  cases L with
  | nil => exact Nat.zero_le _
  | cons a L =>
    have h1 := cnt_cons L a L
    have h2 : cnt L L = 0 := cnt_sub (fun x hx => hx)
    show cnt L (a :: L) ≤ 1
    omega
theorem IV.mid {α : Type} [DecidableEq α] (p : α → Bool) (M1 M2 B : List α) (h1 : M1.length ≤ 1) (h2 : M2.length ≤ 1) : IV (runsP p (M1 ++ B)) (runsP p (M2 ++ B)) := by
  refine Or.inl ?_
  have z0 : ∀ L : List (List α), cnt L L ≤ 1 := fun L => by rw [cnt_sub (fun x hx => hx)]; omega
  have z1 : ∀ L : List (List α), cnt L L.tail ≤ 1 := fun L => by rw [cnt_sub tail_in]; omega
  rcases tl_mid p M1 B h1 with e1 | e1 <;> rcases tl_mid p M2 B h2 with e2 | e2 <;> rw [e1, e2]
  · exact z0 _
  · exact z1 _
  · exact cnt_tail _
  · exact z0 _
theorem runs_new {α : Type} [DecidableEq α] (p : α → Bool) (A M1 M2 B : List α) (h1 : M1.length ≤ 1) (h2 : M2.length ≤ 1) : cnt (runsP p (A ++ (M1 ++ B))) (runsP p (A ++ (M2 ++ B))) ≤ 2 := (IV.app p (IV.mid p M1 M2 B h1 h2) A).two
theorem ext_len {α : Type} (a : α) (R : List (List α)) : (ext a R).length = max 1 R.length := by
  cases R with
  | nil => rfl
  | cons q qs => show qs.length + 1 = max 1 (qs.length + 1); omega
theorem runs_one {α : Type} (p : α → Bool) (M1 M2 B : List α) (h1 : M1.length ≤ 1) (h2 : M2.length ≤ 1) : ∀ A : List α, (runsP p (A ++ (M2 ++ B))).length ≤ (runsP p (A ++ (M1 ++ B))).length + 1
  | a :: A => by
    have ih := runs_one p M1 M2 B h1 h2 A
    rw [List.cons_append, List.cons_append, runsP_cons, runsP_cons]
    split
    · rw [List.length_cons, List.length_cons]; omega
    · rw [ext_len, ext_len]; omega
  | [] => by
    rw [List.nil_append, List.nil_append]
    have hb : ∀ M : List α, M.length ≤ 1 → (runsP p B).length ≤ (runsP p (M ++ B)).length ∧ (runsP p (M ++ B)).length ≤ (runsP p B).length + 1 := by
      intro M hM
      match M, hM with
      | [], _ => exact ⟨Nat.le_refl _, Nat.le_succ _⟩
      | [m], _ =>
        rw [List.singleton_append, runsP_cons]
        split
        · rw [List.length_cons]; omega
        · rw [ext_len]; omega
      | _ :: _ :: _, h => simp at h
    have a1 := hb M1 h1
    have a2 := hb M2 h2
    omega
theorem fm_len {α β : Type} (f : α → List β) : ∀ L : List α, (∀ x ∈ L, f x ≠ []) → L.length ≤ (L.flatMap f).length
  | [], _ => Nat.le_refl _
  | x :: L, h => by
    have ih := fm_len f L (fun y hy => h y (List.mem_cons_of_mem _ hy))
    have h1 : 0 < (f x).length := List.length_pos_iff.mpr (h x List.mem_cons_self)
    rw [List.flatMap_cons, List.length_append, List.length_cons]
    omega
theorem runs_anti {k m : Nat} (h : k ≤ m) (rs : List RV) : (runs m rs).length ≤ (runs k rs).length := by
  rw [← runs_ref h rs]
  refine fm_len _ _ (fun q hq z => ?_)
  exact runsP_ne _ _ q hq (runsP_nil _ z)
theorem lvsB_in {rs : List RV} {k : Nat} : ∀ {h : Nat}, k < h → ∀ q ∈ runs (k + 1) rs, (k, q) ∈ lvsB rs h
  | 0, hk, _, _ => by omega
  | h + 1, hk, q, hq => by
    rw [lvsB, List.mem_append]
    rcases Nat.lt_or_ge k h with z | z
    · exact Or.inl (lvsB_in z q hq)
    · have e : k = h := by omega
      subst e
      exact Or.inr (List.mem_map.mpr ⟨q, hq, rfl⟩)
theorem top_run {rs : List RV} (hne : rs ≠ []) : runs (hgt rs + 1) rs = [rs] := by
  have h2 : (qlv rs (hgt rs)).length = 1 := hgtT_one rs 5 0 rfl
  obtain ⟨q, hq⟩ := List.length_eq_one_iff.mp h2
  have h4 : q = rs := by
    have := qlv_flat rs (hgt rs)
    rw [hq] at this
    simpa using this
  rw [qlv_runs hne] at hq
  rw [hq, h4]
theorem news_lvsH {St : List NV} {k : Nat} {Q Q' : List (List RV)} (h : ∀ q ∈ Q, (k, q) ∈ St) : (news St (lvsH k Q')).length ≤ cnt Q Q' := by
  unfold news lvsH cnt
  induction Q' with
  | nil => exact Nat.le_refl _
  | cons a L ih =>
    rw [List.map_cons]
    by_cases ha : a ∈ Q
    · rw [List.filter_cons_of_neg (a := (k, a)) (by simpa using h a ha), List.filter_cons_of_neg (a := a) (by simpa using ha)]
      exact ih
    · rw [List.filter_cons_of_pos (a := a) (by simpa using ha), List.length_cons, List.filter_cons]
      split
      · rw [List.length_cons]; omega
      · omega
/-- a table whose nodes are all stored, and another that differs in one row -/
theorem news_few {St : List NV} (A M1 M2 B : List RV) (h1 : M1.length ≤ 1) (h2 : M2.length ≤ 1) (hSt : ∀ v ∈ ndl (A ++ (M1 ++ B)), v ∈ St) : (news St (ndl (A ++ (M2 ++ B)))).length ≤ 12 := by
  by_cases hne2 : A ++ (M2 ++ B) = []
  · rw [hne2]; exact news_nil St
  have hlev : ∀ k, (news St (lvsH k (runs (k + 1) (A ++ (M2 ++ B))))).length ≤ 2 := by
    intro k
    by_cases hk : ∀ q ∈ runs (k + 1) (A ++ (M1 ++ B)), (k, q) ∈ St
    · exact Nat.le_trans (news_lvsH hk) (runs_new _ A M1 M2 B h1 h2)
    · have hone : (runs (k + 1) (A ++ (M1 ++ B))).length ≤ 1 := by
        by_cases hne1 : A ++ (M1 ++ B) = []
        · rw [hne1]; exact Nat.zero_le _
        · rw [ndl_lvsB] at hSt
          have htop := top_run hne1
          rcases Nat.lt_trichotomy k (hgt (A ++ (M1 ++ B))) with z | z | z
          · exact absurd (fun q hq => hSt _ (List.mem_append_left _ (lvsB_in z q hq))) hk
          · rw [z, htop]; exact Nat.le_refl _
          · have := runs_anti (k := hgt (A ++ (M1 ++ B)) + 1) (m := k + 1) (by omega) (A ++ (M1 ++ B))
            rw [htop] at this
            exact this
      have h3 := runs_one (lvB (k + 1)) M1 M2 B h1 h2 A
      have h4 : (news St (lvsH k (runs (k + 1) (A ++ (M2 ++ B))))).length ≤ (lvsH k (runs (k + 1) (A ++ (M2 ++ B)))).length := List.length_filter_le _ _
      have h5 : (lvsH k (runs (k + 1) (A ++ (M2 ++ B)))).length = (runs (k + 1) (A ++ (M2 ++ B))).length := by simp [lvsH]
      unfold runs at hone h5 h4 ⊢
      omega
  have hall : ∀ n, (news St (lvsB (A ++ (M2 ++ B)) n)).length ≤ 2 * n := by
    intro n
    induction n with
    | zero => exact Nat.le_refl _
    | succ n ih =>
      rw [lvsB, news_app, List.length_append]
      have := hlev n
      omega
  have e : ndl (A ++ (M2 ++ B)) = lvsB (A ++ (M2 ++ B)) (hgt (A ++ (M2 ++ B)) + 1) := by
    rw [ndl_lvsB, lvsB, top_run hne2]
    rfl
  have hh : hgt (A ++ (M2 ++ B)) ≤ 5 := by have := hgtT_le (A ++ (M2 ++ B)) 5 0; unfold hgt; omega
  rw [e]
  have := hall (hgt (A ++ (M2 ++ B)) + 1)
  omega
theorem few_chg {St : List NV} {rs : List RV} (hSt : ∀ v ∈ ndl rs, v ∈ St) (w : Nat) (k : Int32) (j : Nat) (x z : Int32) : (news St (ndl (chg rs w k j x z))).length ≤ 12 := by
  unfold chg
  split
  · next hc =>
    obtain ⟨hp, -⟩ := hc
    have e1 : rs = rs.take (plc k rs) ++ ([rs[plc k rs]] ++ rs.drop (plc k rs + 1)) := by
      rw [List.singleton_append, List.getElem_cons_drop, List.take_append_drop]
    rw [List.set_eq_take_append_cons_drop, if_pos hp]
    have h := news_few (St := St) (rs.take (plc k rs)) [rs[plc k rs]] [setC (rs[plc k rs]) j x z] (rs.drop (plc k rs + 1)) (Nat.le_refl _) (Nat.le_refl _) (by rw [← e1]; exact hSt)
    rw [List.singleton_append] at h
    exact h
  · have e1 : rs = rs.take (plc k rs) ++ ([] ++ rs.drop (plc k rs)) := by rw [List.nil_append, List.take_append_drop]
    have h := news_few (St := St) (rs.take (plc k rs)) [] [setC (blankR k w) j x z] (rs.drop (plc k rs)) (Nat.zero_le _) (Nat.le_refl _) (by rw [← e1]; exact hSt)
    rw [List.singleton_append] at h
    exact h
theorem few_erase {St : List NV} {rs : List RV} (hSt : ∀ v ∈ ndl rs, v ∈ St) (k : Nat) (hk : k < rs.length) : (news St (ndl (rs.eraseIdx k))).length ≤ 12 := by
  have e1 : rs = rs.take k ++ ([rs[k]] ++ rs.drop (k + 1)) := by
    rw [List.singleton_append, List.getElem_cons_drop, List.take_append_drop]
  rw [List.eraseIdx_eq_take_drop_succ]
  have h := news_few (St := St) (rs.take k) [rs[k]] [] (rs.drop (k + 1)) (Nat.le_refl _) (Nat.zero_le _) (by rw [← e1]; exact hSt)
  rw [List.nil_append] at h
  exact h
/-! what holds of the state at every call -/
def sOK (s : AS) : Prop := (∀ i, i < 6 → ∀ v ∈ ndl (s.1 i).2, v ∈ s.2.1) ∧ s.2.1.Nodup
theorem sOK.plant {s : AS} (h : sOK s) {i : Nat} (w : Nat) {rs : List RV} (hs : srt rs) : sOK (aPlant s i w rs).2 := by
  unfold aPlant
  split
  · refine ⟨fun a ha v hv => ?_, ?_⟩
    · show v ∈ s.2.1 ++ news s.2.1 (ndl rs)
      have hv : v ∈ ndl (va_up s.1 i (w, rs) a).2 := hv
      by_cases z : a = i
      · subst z
        rw [va_up_self] at hv
        by_cases hm : v ∈ s.2.1
        · exact List.mem_append_left _ hm
        · exact List.mem_append_right _ (List.mem_filter.mpr ⟨hv, by simpa using hm⟩)
      · rw [va_up_ne _ _ z] at hv
        exact List.mem_append_left _ (h.1 a ha v hv)
    · show (s.2.1 ++ news s.2.1 (ndl rs)).Nodup
      rw [List.nodup_append]
      refine ⟨h.2, List.Pairwise.filter _ (ndl_nodup hs), fun a ha b hb e => ?_⟩
      subst e
      have := (List.mem_filter.mp hb).2
      exact absurd ha (by simpa using this)
  · exact h
