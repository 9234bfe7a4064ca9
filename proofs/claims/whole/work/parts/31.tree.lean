/-! the nodes of a tree, by their values -/
def nds : Nat → List RV → List NV
  | 0, rs => [(0, rs)]
  | h + 1, rs => (h + 1, rs) :: (runs (h + 1) rs).flatMap (nds h)
theorem NI.kids {t : Nat → ClassId} {g : GH} {w : GD} {a h : Nat} {v : NV} (hN : NI t g w) (hv : w.1 a = some v) (hh : v.1 = h + 1) : (w.2.1 a).map w.1 = (runs (h + 1) v.2).map (fun q => some (h, q)) := by
  obtain ⟨-, -, ⟨ra, ba, nr, fr, fb, -, -, -, -, -, -, -, -, -, h8⟩, -⟩ := hN a v hv
  obtain ⟨e1, e2⟩ := h8 h hh
  apply List.ext_getElem
  · simp [e1]
  · intro i h1 h2
    rw [List.getElem_map, List.getElem_map]
    exact e2 i (by simpa using h1) (by simpa using h2)
theorem flat_vals {N : NM} {h : Nat} {f : Nat → List Nat} {e : List RV → List NV} (hf : ∀ b q, N b = some (h, q) → (f b).map N = (e q).map some) : ∀ (L : List Nat) (Q : List (List RV)), L.map N = Q.map (fun q => some (h, q)) → (L.flatMap f).map N = (Q.flatMap e).map some
  | [], [], _ => rfl
  | [], v :: V, h => by cases h
  | a :: L, [], h => by cases h
  | a :: L, q :: Q, hh => by
    rw [List.map_cons, List.map_cons] at hh
    obtain ⟨h1, h2⟩ := List.cons.inj hh
    have ih := flat_vals hf L Q h2
    rw [List.flatMap_cons, List.flatMap_cons, List.map_append, List.map_append, ih, hf a q h1]
theorem dsc_vals {t : Nat → ClassId} {g : GH} {w : GD} (hN : NI t g w) : ∀ (h a : Nat) (rs : List RV), w.1 a = some (h, rs) → (dsc w.2.1 h a).map w.1 = (nds h rs).map some
  | 0, a, rs, hv => by simp [dsc, nds, hv]
  | h + 1, a, rs, hv => by
    have hk := hN.kids hv rfl
    rw [dsc, nds, List.map_cons, List.map_cons, hv]
    congr 1
    exact flat_vals (dsc_vals hN h) _ _ hk
theorem runs_ref {k m : Nat} (h : k ≤ m) (rs : List RV) : (runs m rs).flatMap (runs k) = runs k rs := by
  unfold runs
  have h12 : ∀ r, lvB m r = true → lvB k r = true := fun r hr => by simp [lvB] at *; omega
  have e1 := runsP_runs (lvB k) (lvB m) h12 rs
  rw [← e1, List.flatMap_map]
  have hX : ∀ X : List (List (List RV)), (∀ G ∈ X, runsP (lvB k) G.flatten = G) → X.flatMap (fun G => runsP (lvB k) G.flatten) = X.flatten := by
    intro X
    induction X with
    | nil => intro _; rfl
    | cons G X ih =>
      intro hG
      rw [List.flatMap_cons, List.flatten_cons, hG G List.mem_cons_self, ih (fun G' hG' => hG G' (List.mem_cons_of_mem _ hG'))]
  rw [hX _ (runsP_in (lvB k) (lvB m) h12 rs), runsP_flat]
theorem fm_app {α β : Type} (f g : α → List β) : ∀ L : List α, (L.flatMap (fun x => f x ++ g x)).Perm (L.flatMap f ++ L.flatMap g)
  | [] => List.Perm.refl _
  | x :: L => by
    rw [List.flatMap_cons, List.flatMap_cons, List.flatMap_cons, List.append_assoc, List.append_assoc]
    refine List.Perm.append_left _ ?_
    refine ((fm_app f g L).append_left (g x)).trans ?_
    rw [← List.append_assoc, ← List.append_assoc]
    exact List.Perm.append_right _ List.perm_append_comm
theorem fm_perm {α β : Type} {f g : α → List β} (h : ∀ x, (f x).Perm (g x)) : ∀ L : List α, (L.flatMap f).Perm (L.flatMap g)
  | [] => List.Perm.refl _
  | x :: L => by
    rw [List.flatMap_cons, List.flatMap_cons]
    exact (h x).append (fm_perm h L)
/-- the nodes below a height, height by height -/
def lvsB (rs : List RV) : Nat → List NV
  | 0 => []
  | h + 1 => lvsB rs h ++ lvsH h (runs (h + 1) rs)
theorem fm_lvsH (k : Nat) (f : List RV → List (List RV)) (L : List (List RV)) : L.flatMap (fun q => lvsH k (f q)) = lvsH k (L.flatMap f) := by
  unfold lvsH
  rw [List.map_flatMap]
theorem fm_lvsB (h : Nat) (rs : List RV) : ∀ k, k ≤ h → ((runs (h + 1) rs).flatMap (fun q => lvsB q k)).Perm (lvsB rs k)
  | 0, _ => by
    have : ∀ L : List (List RV), L.flatMap (fun q => lvsB q 0) = [] := by
      intro L
      induction L with
      | nil => rfl
      | cons a L ih => rw [List.flatMap_cons, ih]; rfl
    rw [this]
    exact List.Perm.refl _
  | k + 1, hk => by
    have ih := fm_lvsB h rs k (by omega)
    refine (fm_app (fun q => lvsB q k) (fun q => lvsH k (runs (k + 1) q)) _).trans ?_
    rw [fm_lvsH, runs_ref (by omega)]
    exact ih.append_right _
theorem nds_perm : ∀ (h : Nat) (rs : List RV), (nds h rs).Perm (lvsB rs h ++ [(h, rs)])
  | 0, rs => List.Perm.refl _
  | h + 1, rs => by
    rw [nds]
    have h1 := fm_perm (nds_perm h) (runs (h + 1) rs)
    have h2 := h1.trans (fm_app (fun q => lvsB q h) (fun q => [(h, q)]) _)
    have e : (runs (h + 1) rs).flatMap (fun q => [(h, q)]) = lvsH h (runs (h + 1) rs) := by
      unfold lvsH
      generalize runs (h + 1) rs = L
      induction L with
      | nil => rfl
      | cons a L ih => rw [List.flatMap_cons, ih]; rfl
    rw [e] at h2
    have h3 := h2.trans ((fm_lvsB h rs h (Nat.le_refl _)).append_right _)
    exact (h3.cons _).trans (List.perm_append_singleton _ _).symm
theorem qlv_runs {rs : List RV} (h : rs ≠ []) (k : Nat) : qlv rs k = runs (k + 1) rs := by
  unfold qlv
  rw [if_neg h]
theorem ndsT_lvsB {rs : List RV} (hne : rs ≠ []) : ∀ (n h : Nat), lvsB rs h ++ lvsH h (runs (h + 1) rs) ++ ndsT rs n h = lvsB rs (hgtT rs n h) ++ lvsH (hgtT rs n h) (runs (hgtT rs n h + 1) rs)
  | 0, h => by rw [ndsT, hgtT, List.append_nil]
  | n + 1, h => by
    rw [ndsT, hgtT]
    split
    · rw [List.append_nil]
    · have ih := ndsT_lvsB hne n (h + 1)
      rw [← ih, lvsB, qlv_runs hne, List.append_assoc, List.append_assoc, List.append_assoc]
theorem ndl_lvsB (rs : List RV) : ndl rs = lvsB rs (hgt rs) ++ [(hgt rs, rs)] := by
  by_cases hne : rs = []
  · subst hne
    rfl
  · have h1 := ndsT_lvsB hne 5 0
    have h2 : (qlv rs (hgt rs)).length = 1 := hgtT_one rs 5 0 rfl
    have h3 := qlv_one h2
    obtain ⟨q, hq⟩ := List.length_eq_one_iff.mp h2
    have h4 : q = rs := by
      have := qlv_flat rs (hgt rs)
      rw [hq] at this
      simpa using this
    subst h4
    unfold ndl
    rw [qlv_runs hne]
    have h5 : lvsB q 0 ++ lvsH 0 (runs (0 + 1) q) ++ ndsT q 5 0 = lvsH 0 (runs (0 + 1) q) ++ ndsT q 5 0 := by rw [lvsB, List.nil_append]
    rw [← h5, h1]
    rw [qlv_runs hne] at hq
    show lvsB q (hgt q) ++ lvsH (hgt q) (runs (hgt q + 1) q) = _
    rw [hq]
    rfl
theorem nds_ndl (rs : List RV) : (nds (hgt rs) rs).Perm (ndl rs) := by
  rw [ndl_lvsB]
  exact nds_perm _ _
theorem nodup_of_flatten {α : Type} : ∀ L : List (List α), L.flatten.Nodup → (∀ q ∈ L, q ≠ []) → L.Nodup
  | [], _, _ => List.nodup_nil
  | q :: L, h, hne => by
    rw [List.flatten_cons, List.nodup_append] at h
    obtain ⟨h1, h2, h3⟩ := h
    rw [List.nodup_cons]
    refine ⟨fun hq => ?_, nodup_of_flatten L h2 (fun x hx => hne x (List.mem_cons_of_mem _ hx))⟩
    cases hc : q with
    | nil => exact hne q List.mem_cons_self hc
    | cons x xs => 
      have hx : x ∈ q := by rw [hc]; exact List.mem_cons_self
      exact h3 x hx x (List.mem_flatten.mpr ⟨q, hq, hx⟩) rfl
theorem lt_irr32 (x : Int32) : ¬ x < x := by
  intro h
  have := Int32.lt_iff_toInt_lt.mp h
  omega
theorem srt_nodup {rs : List RV} (h : srt rs) : rs.Nodup := List.Pairwise.imp (fun {a b} hab e => by subst e; exact lt_irr32 _ hab) h
theorem lvsH_nodup {h : Nat} {L : List (List RV)} (hL : L.Nodup) : (lvsH h L).Nodup := by
  unfold lvsH
  unfold List.Nodup at hL ⊢
  rw [List.pairwise_map]
  exact hL.imp (fun {a b} hab e => hab (congrArg Prod.snd e))
theorem lvsB_lt (rs : List RV) : ∀ (h : Nat) (v : NV), v ∈ lvsB rs h → v.1 < h
  | 0, v, hv => by cases hv
  | h + 1, v, hv => by
    rw [lvsB, List.mem_append] at hv
    rcases hv with z | z
    · have := lvsB_lt rs h v z; omega
    · obtain ⟨q, -, e⟩ := List.mem_map.mp z
      rw [← e]
      exact Nat.lt_succ_self _
theorem lvsB_nodup {rs : List RV} (hs : srt rs) : ∀ h, (lvsB rs h).Nodup
  | 0 => List.nodup_nil
  | h + 1 => by
    rw [lvsB, List.nodup_append]
    refine ⟨lvsB_nodup hs h, lvsH_nodup (nodup_of_flatten _ ?_ (fun q hq => runsP_ne _ _ q hq)), ?_⟩
    · unfold runs; rw [runsP_flat]; exact srt_nodup hs
    · intro a ha b hb e
      subst e
      have h1 := lvsB_lt rs h a ha
      obtain ⟨q, -, e⟩ := List.mem_map.mp hb
      rw [← e] at h1
      exact Nat.lt_irrefl _ h1
theorem nds_nodup {rs : List RV} (hs : srt rs) (h : Nat) : (nds h rs).Nodup := by
  refine (nds_perm h rs).nodup_iff.mpr ?_
  rw [List.nodup_append]
  refine ⟨lvsB_nodup hs h, by simp, ?_⟩
  intro a ha b hb e
  subst e
  have h1 := lvsB_lt rs h a ha
  rw [List.mem_singleton.mp hb] at h1
  exact Nat.lt_irrefl _ h1
theorem ndl_nodup {rs : List RV} (hs : srt rs) : (ndl rs).Nodup := (nds_ndl rs).nodup_iff.mp (nds_nodup hs _)
theorem dsc_nodup {t : Nat → ClassId} {g : GH} {w : GD} (hN : NI t g w) {h a : Nat} {rs : List RV} (hv : w.1 a = some (h, rs)) : (dsc w.2.1 h a).Nodup := by
  have h1 : (nds h rs).Nodup := nds_nodup (hN a _ hv).1.2.2.2.2 h
  have h2 : ((nds h rs).map some).Nodup := by
    unfold List.Nodup at h1 ⊢
    rw [List.pairwise_map]
    exact h1.imp (fun {a b} hab e => hab (Option.some.inj e))
  rw [← dsc_vals hN h a rs hv] at h2
  unfold List.Nodup at h2 ⊢
  rw [List.pairwise_map] at h2
  exact h2.imp (fun {a b} hab e => hab (congrArg w.1 e))
theorem dsc_in {K : Nat → List Nat} {P : Nat → Prop} (hc : ∀ a, P a → ∀ b ∈ K a, P b) : ∀ (h a : Nat), P a → ∀ x ∈ dsc K h a, P x
  | 0, a, ha, x, hx => by rw [List.mem_singleton.mp hx]; exact ha
  | h + 1, a, ha, x, hx => by
    rcases List.mem_cons.mp hx with z | z
    · rw [z]; exact ha
    · obtain ⟨b, hb, hxb⟩ := List.mem_flatMap.mp z
      exact dsc_in hc h b (hc a ha b hb) x hxb
theorem dsc_len {t : Nat → ClassId} {g : GH} {w : GD} (hN : NI t g w) {h a : Nat} {rs : List RV} (hv : w.1 a = some (h, rs)) : (dsc w.2.1 h a).length = (nds h rs).length := by
  have := congrArg List.length (dsc_vals hN h a rs hv)
  simpa using this
theorem dsc_mem {t : Nat → ClassId} {g : GH} {w : GD} (hN : NI t g w) {h a : Nat} {rs : List RV} (hv : w.1 a = some (h, rs)) (v : NV) : v ∈ nds h rs ↔ ∃ x ∈ dsc w.2.1 h a, w.1 x = some v := by
  have h1 : v ∈ nds h rs ↔ some v ∈ (nds h rs).map some := by simp
  rw [h1, ← dsc_vals hN h a rs hv, List.mem_map]
/-! leaves, and what a comparison may pass over -/
def lfs (K : Nat → List Nat) : Nat → Nat → List Nat
  | 0, a => [a]
  | h + 1, a => (K a).flatMap (lfs K h)
def rho (N : NM) (x : Nat) : List RV := match N x with
  | some v => v.2
  | none => []
theorem lfs_dsc {K : Nat → List Nat} : ∀ (h a x : Nat), x ∈ lfs K h a → x ∈ dsc K h a
  | 0, a, x, hx => hx
  | h + 1, a, x, hx => by
    obtain ⟨b, hb, hxb⟩ := List.mem_flatMap.mp hx
    exact List.mem_cons_of_mem _ (List.mem_flatMap.mpr ⟨b, hb, lfs_dsc h b x hxb⟩)
theorem flat_rho {N : NM} {h : Nat} {f : Nat → List Nat} (hf : ∀ b q, N b = some (h, q) → (f b).flatMap (rho N) = q) : ∀ (L : List Nat) (Q : List (List RV)), L.map N = Q.map (fun q => some (h, q)) → (L.flatMap f).flatMap (rho N) = Q.flatten
  | [], [], _ => rfl
  | [], v :: V, h => by cases h
  | a :: L, [], h => by cases h
  | a :: L, q :: Q, hh => by
    rw [List.map_cons, List.map_cons] at hh
    obtain ⟨h1, h2⟩ := List.cons.inj hh
    have ih := flat_rho hf L Q h2
    rw [List.flatMap_cons, List.flatMap_append, ih, hf a q h1, List.flatten_cons]
theorem lfs_rows {t : Nat → ClassId} {g : GH} {w : GD} (hN : NI t g w) : ∀ (h a : Nat) (rs : List RV), w.1 a = some (h, rs) → (lfs w.2.1 h a).flatMap (rho w.1) = rs
  | 0, a, rs, hv => by simp [lfs, rho, hv]
  | h + 1, a, rs, hv => by
    have hk := hN.kids hv rfl
    rw [lfs, flat_rho (lfs_rows hN h) _ _ hk]
    exact runsP_flat _ _
theorem dsc_leaf {t : Nat → ClassId} {g : GH} {w : GD} (hN : NI t g w) : ∀ (h a : Nat) (rs q : List RV) (x : Nat), w.1 a = some (h, rs) → x ∈ dsc w.2.1 h a → w.1 x = some (0, q) → x ∈ lfs w.2.1 h a
  | 0, a, rs, q, x, hv, hx, hq => hx
  | h + 1, a, rs, q, x, hv, hx, hq => by
    rcases List.mem_cons.mp hx with z | z
    · subst z
      rw [hv] at hq
      cases hq
    · obtain ⟨b, hb, hxb⟩ := List.mem_flatMap.mp z
      have hk := hN.kids hv rfl
      have h1 : w.1 b ∈ (w.2.1 a).map w.1 := List.mem_map.mpr ⟨b, hb, rfl⟩
      rw [hk] at h1
      obtain ⟨qb, -, e⟩ := List.mem_map.mp h1
      exact List.mem_flatMap.mpr ⟨b, hb, dsc_leaf hN h b qb q x e.symm hxb hq⟩
theorem lfs_leaf {t : Nat → ClassId} {g : GH} {w : GD} (hN : NI t g w) : ∀ (h a : Nat) (rs : List RV) (x : Nat), w.1 a = some (h, rs) → x ∈ lfs w.2.1 h a → ∃ q, w.1 x = some (0, q)
  | 0, a, rs, x, hv, hx => by rw [List.mem_singleton.mp hx]; exact ⟨_, hv⟩
  | h + 1, a, rs, x, hv, hx => by
    obtain ⟨b, hb, hxb⟩ := List.mem_flatMap.mp hx
    have hk := hN.kids hv rfl
    have h1 : w.1 b ∈ (w.2.1 a).map w.1 := List.mem_map.mpr ⟨b, hb, rfl⟩
    rw [hk] at h1
    obtain ⟨qb, -, e⟩ := List.mem_map.mp h1
    exact lfs_leaf hN h b qb x e.symm hxb
theorem gth_lfs {N : NM} {K : Nat → List Nat} {mu : Nat → MU} {s : Int32} : ∀ (h a : Nat), (∀ x ∈ dsc K h a, (mu x).2.2.1 = s → ∀ b ∈ K x, (mu b).2.2.1 = s) → gth N K mu s h a = ((lfs K h a).filter (fun x => decide (¬ (mu x).2.2.1 = s))).flatMap (rho N)
  | 0, a, hc => by
    unfold gth lfs rho
    by_cases hs : (mu a).2.2.1 = s
    · simp [hs]
    · simp [hs]
      cases N a <;> rfl
  | h + 1, a, hc => by
    unfold gth
    by_cases hs : (mu a).2.2.1 = s
    · rw [if_pos hs]
      have hall := dsc_stamped (P := fun x => (mu x).2.2.1 = s) (h + 1) a hc hs
      have : (lfs K (h + 1) a).filter (fun x => decide (¬ (mu x).2.2.1 = s)) = [] := by
        rw [List.filter_eq_nil_iff]
        intro x hx
        simp [hall x (lfs_dsc _ _ _ hx)]
      rw [this]
      rfl
    · rw [if_neg hs]
      have hk : ∀ b ∈ K a, gth N K mu s h b = ((lfs K h b).filter (fun x => decide (¬ (mu x).2.2.1 = s))).flatMap (rho N) := fun b hb => gth_lfs h b (fun x hx => hc x (List.mem_cons_of_mem _ (List.mem_flatMap.mpr ⟨b, hb, hx⟩)))
      show _ = (((K a).flatMap (lfs K h)).filter _).flatMap _
      revert hk
      generalize K a = L
      intro hk
      induction L with
      | nil => rfl
      | cons b L ih =>
        rw [List.flatMap_cons, List.flatMap_cons, List.filter_append, List.flatMap_append, hk b List.mem_cons_self, ih (fun c hc' => hk c (List.mem_cons_of_mem _ hc'))]
theorem fm_filter {α β : Type} (f : α → List β) (p : α → Bool) [DecidableEq α] [DecidableEq β] : ∀ L : List α, (L.flatMap f).Nodup → (L.filter p).flatMap f = (L.flatMap f).filter (fun r => decide (¬ ∃ x ∈ L, p x = false ∧ r ∈ f x))
  | [], _ => rfl
  | x :: L, hn => by
    rw [List.flatMap_cons, List.nodup_append] at hn
    obtain ⟨h1, h2, h3⟩ := hn
    have ih := fm_filter f p L h2
    have hin : ∀ y ∈ L, ∀ r ∈ f y, r ∈ L.flatMap f := fun y hy r hr => List.mem_flatMap.mpr ⟨y, hy, hr⟩
    rw [List.flatMap_cons, List.filter_append]
    have eR : (L.flatMap f).filter (fun r => decide (¬ ∃ y ∈ x :: L, p y = false ∧ r ∈ f y)) = (L.flatMap f).filter (fun r => decide (¬ ∃ y ∈ L, p y = false ∧ r ∈ f y)) := by
      apply List.filter_congr
      intro r hr
      rw [decide_eq_decide]
      apply not_congr
      constructor
      · rintro ⟨y, hy, hp, hry⟩
        rcases List.mem_cons.mp hy with z | z
        · subst z; exact absurd rfl (h3 r hry r hr)
        · exact ⟨y, z, hp, hry⟩
      · rintro ⟨y, hy, hp, hry⟩
        exact ⟨y, List.mem_cons_of_mem _ hy, hp, hry⟩
    rw [eR, ← ih]
    by_cases hp : p x = true
    · rw [List.filter_cons_of_pos hp, List.flatMap_cons]
      congr 1
      symm
      rw [List.filter_eq_self]
      intro r hr
      simp only [decide_eq_true_eq]
      rintro ⟨y, hy, hpy, hry⟩
      rcases List.mem_cons.mp hy with z | z
      · subst z; rw [hp] at hpy; cases hpy
      · exact h3 r hr r (hin y z r hry) rfl
    · have hp' : p x = false := by simpa using hp
      rw [List.filter_cons_of_neg hp]
      have : (f x).filter (fun r => decide (¬ ∃ y ∈ x :: L, p y = false ∧ r ∈ f y)) = [] := by
        rw [List.filter_eq_nil_iff]
        intro r hr
        simp only [decide_eq_true_eq, Classical.not_not]
        exact ⟨x, List.mem_cons_self, hp', hr⟩
      rw [this, List.nil_append]
