/-! laying a table: the state on the way -/
def lU : List Nat := [9, 10, 11, 12, 13, 14, 15, 16, 17, 18, 19]
theorem lU_kp {u : Nat → Nat} (hne : ∀ i j, i < 32 → j < 32 → i ≠ j → u i ≠ u j) {g g' : GH} (kp : Kp (lU.map u) g g') {k : Nat} (hk : k < 9 ∨ (20 ≤ k ∧ k < 32)) {e : va_E} (h : gAt g (u k) e) : gAt g' (u k) e := by
  refine kp.2 _ _ (fun z => ?_) h
  obtain ⟨x, hx, e⟩ := List.mem_map.mp z
  have hb : 9 ≤ x ∧ x ≤ 19 := by
    have : ∀ x ∈ lU, 9 ≤ x ∧ x ≤ 19 := by decide
    exact this x hx
  exact hne x k (by omega) (by omega) (by omega) e
theorem lU_sub {u : Nat → Nat} {S : List Nat} (h : ∀ x ∈ S, x ∈ lU) : ∀ a ∈ S.map u, a ∈ lU.map u := fun a ha => by
  obtain ⟨x, hx, e⟩ := List.mem_map.mp ha
  exact List.mem_map.mpr ⟨x, h x hx, e⟩
theorem RT.lU {t : Nat → ClassId} {g g' : GH} {u : Nat → Nat} {tb : TB} (hne : ∀ i j, i < 32 → j < 32 → i ≠ j → u i ≠ u j) (h : RT t g u tb) (kp : Kp (lU.map u) g g') : RT t g' u tb := h.keep (fun k hk e he => lU_kp hne kp (by omega) he)
def vst (V0 dn : List NV) : List NV := V0 ++ news V0 dn
theorem szL_one (v : NV) : szL [v] = nsz v.1 v.2 := by simp [szL]
theorem vst_nil (V : List NV) : vst V [] = V := by simp [vst, news]
theorem vst_in {V0 dn : List NV} {x : NV} : x ∈ vst V0 dn ↔ x ∈ V0 ∨ x ∈ dn := by
  unfold vst news
  simp only [List.mem_append, List.mem_filter, decide_eq_true_eq]
  constructor
  · rintro (h | h)
    · exact Or.inl h
    · exact Or.inr h.1
  · rintro (h | h)
    · exact Or.inl h
    · by_cases z : x ∈ V0
      · exact Or.inl z
      · exact Or.inr ⟨h, z⟩
theorem vst_old {V0 dn : List NV} {x : NV} (h : x ∈ V0) : vst V0 (dn ++ [x]) = vst V0 dn := by
  unfold vst
  rw [news_app, news_in h, List.append_nil]
theorem vst_new {V0 dn : List NV} {x : NV} (h : x ∉ V0) : vst V0 (dn ++ [x]) = vst V0 dn ++ [x] := by
  unfold vst
  rw [news_app, news_out h, List.append_assoc]
def LY (t : Nat → ClassId) (g : GH) (u : Nat → Nat) (oc om df : Int32) (V : List NV) (j m h k : Nat) (fv fl : Nat → Int32) (fm : Nat → Int64) : Prop :=
  (∃ si, gAt g (u 19) (eM u oc om df (nI V.length) (nI (szL V)) (nI j) (nI m) (nI h) (nI k) si)) ∧ gAt g (u 16) (eI t 301 fv) ∧ gAt g (u 17) (eI t 301 fl) ∧ gAt g (u 18) (eL t 2100 fm) ∧ RS t g u (encL V) ∧ VOK V
/-- a node that has no room -/
def nofit (V : List NV) (x : NV) : Prop := x ∉ V ∧ (60000 < szL V + nsz x.1 x.2 ∨ V.length = 60000)
def nofitA (V : List NV) (N : List NV) : Prop := 60000 < szL V + szL (news V N) ∨ 60000 < V.length + (news V N).length
theorem nofit_all {V0 dn rest : List NV} {x : NV} (h : nofit (vst V0 dn) x) : nofitA V0 (dn ++ x :: rest) := by
  obtain ⟨h1, h2⟩ := h
  have hx : x ∉ V0 := fun z => h1 (vst_in.mpr (Or.inl z))
  have e : news V0 (dn ++ x :: rest) = news V0 dn ++ ([x] ++ news V0 rest) := by
    rw [show x :: rest = [x] ++ rest from rfl, news_app, news_app, news_out hx]
  unfold nofitA
  rw [e, szL_app, szL_app, szL_one, List.length_append, List.length_append, List.length_singleton]
  unfold vst at h2
  rw [szL_app, List.length_append] at h2
  omega
/-- what keep does, of a node's value -/
theorem keepV {t : Nat → ClassId} {g g' : GH} {u : Nat → Nat} {oc om df rw0 : Int32} {V0 dn : List NV} {x : NV} {j hh k : Nat} {fm : Nat → Int64} {fv fl : Nat → Int32} {v : Option Value}
    (hne : ∀ i j, i < 32 → j < 32 → i ≠ j → u i ≠ u j) (hm : gAt g (u 18) (eL t 2100 fm)) (hV : VOK (vst V0 dn)) (hR : RS t g u (encL (vst V0 dn))) (hc : nvC x) (hk : kidsIn (vst V0 dn) x) (hnd : x ∉ dn)
    (h : (v = some (.int 0) ∧ enc (vst V0 dn) x ∉ encL (vst V0 dn) ∧ (60000 < siz (encL (vst V0 dn)) + (cont (vst V0 dn) x).length ∨ (encL (vst V0 dn)).length = 60000) ∧ g' = g) ∨ ∃ (n : Nat) (Ls' : List ME) (si' : Int32), v = some (.int 1) ∧ ((Ls' = encL (vst V0 dn) ∧ ∃ hn : n < (encL (vst V0 dn)).length, (encL (vst V0 dn))[n] = enc (vst V0 dn) x) ∨ (enc (vst V0 dn) x ∉ encL (vst V0 dn) ∧ n = (encL (vst V0 dn)).length ∧ Ls' = encL (vst V0 dn) ++ [enc (vst V0 dn) x])) ∧ RS t g' u Ls' ∧ gAt g' (u 19) (eM u oc om df (nI Ls'.length) (nI (siz Ls')) (nI (j + 1)) 0 (nI hh) (nI (k + 1)) si') ∧ gAt g' (u 16) (eI t 301 (upd fv j (nI n))) ∧ gAt g' (u 17) (eI t 301 (upd fl j rw0)) ∧ Kp [u 9, u 10, u 11, u 12, u 13, u 14, u 15, u 16, u 17, u 19] g g') :
    (v = some (.int 0) ∧ nofit (vst V0 dn) x ∧ g' = g) ∨ (v = some (.int 1) ∧ LY t g' u oc om df (vst V0 (dn ++ [x])) (j + 1) 0 hh (k + 1) (upd fv j (nI ((vst V0 (dn ++ [x])).idxOf x))) (upd fl j rw0) fm ∧ Kp (lU.map u) g g') := by
  have hl : (vst V0 dn).length ≤ 60000 := by have := hR.2.1; rw [encL_len] at this; exact this
  rcases h with ⟨h1, h2, h3, h4⟩ | ⟨n, Ls', si', h1, h2, h3, h4, h5, h6, h7⟩
  · refine Or.inl ⟨h1, ⟨fun z => h2 ((enc_mem hV (by omega) hc hk).mpr z), ?_⟩, h4⟩
    rw [siz_encL, cont_len, encL_len] at h3
    exact h3
  · refine Or.inr ⟨h1, ?_, h7.mono (lU_sub (u := u) (S := [9, 10, 11, 12, 13, 14, 15, 16, 17, 19]) (by decide))⟩
    have hm' : gAt g' (u 18) (eL t 2100 fm) := h7.2 _ _ (fun z => by
      simp only [List.mem_cons, List.not_mem_nil, or_false] at z
      rcases z with z | z | z | z | z | z | z | z | z | z
      all_goals exact absurd z (hne _ _ (by omega) (by omega) (by omega))) hm
    rcases h2 with ⟨e, hn, he⟩ | ⟨he, en, e⟩
    · subst e
      obtain ⟨e1, hin⟩ := enc_at hV (by omega) hc hk hn he
      have hx : x ∈ V0 := by
        rcases vst_in.mp hin with z | z
        · exact z
        · exact absurd z hnd
      rw [vst_old hx]
      rw [encL_len, siz_encL] at h4
      rw [← e1]
      exact ⟨⟨_, h4⟩, h5, h6, hm', h3, hV⟩
    · have hx : x ∉ vst V0 dn := fun z => he ((enc_mem hV (by omega) hc hk).mpr z)
      have hx0 : x ∉ V0 := fun z => hx (vst_in.mpr (Or.inl z))
      obtain ⟨hV2, eL2⟩ := hV.app hx hc hk
      rw [vst_new hx0]
      rw [e, ← eL2] at h3 h4
      rw [encL_len, siz_encL] at h4
      have en2 : n = (vst V0 dn ++ [x]).idxOf x := by
        rw [en, encL_len, List.idxOf_append, if_neg hx]
        simp
      rw [← en2]
      exact ⟨⟨_, h4⟩, h5, h6, hm', h3, hV2⟩
