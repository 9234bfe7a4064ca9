/-! planting: nodes are looked up or made one after another; V: the values so far, S: those stored -/
def vals (N : NM) (L : List Nat) : List NV := L.filterMap N
def news (S V : List NV) : List NV := V.filter (fun v => decide (v ∉ S))
theorem news_app (S V V' : List NV) : news S (V ++ V') = news S V ++ news S V' := by simp [news]
theorem news_in {S : List NV} {v : NV} (h : v ∈ S) : news S [v] = [] := by simp [news, h]
theorem news_out {S : List NV} {v : NV} (h : v ∉ S) : news S [v] = [v] := by simp [news, h]
/-- since g0, w0: the world w at g, in which the values V have been asked for -/
def PW (t : Nat → ClassId) (g0 : GH) (w0 : GD) (g : GH) (w : GD) (sA bA aL : Nat) (nn ss : Int32) (V : List NV) : Prop :=
  SW t g w sA bA nn ss ∧ w.2.2.2.2.1 = w0.2.2.2.2.1 ∧ (∀ x u, w0.1 x = some u → w.1 x = some u ∧ w.2.1 x = w0.2.1 x ∧ w.2.2.1 x = w0.2.2.1 x) ∧ (∀ x, w0.2.2.2.1 x → w.2.2.2.1 x) ∧ (∀ x, w.2.2.2.1 x → w0.2.2.2.1 x ∨ x ∉ g0.1) ∧ (∀ x u, w.1 x = some u → w0.1 x = some u ∨ (x ∉ g0.1 ∧ (w.2.2.1 x).2.2.1 = 0)) ∧ w.2.2.2.2.2.map w.1 = ((news (vals w0.1 (stL w0.2.2.2.2.1)) V).reverse).map some ∧ Kp [sA, aL] g0 g
theorem PW.stored {t : Nat → ClassId} {g0 g : GH} {w0 w : GD} {sA bA aL : Nat} {nn ss : Int32} {V : List NV} (h : PW t g0 w0 g w sA bA aL nn ss V) (h0 : ∀ a, inS w0.2.2.2.2.1 a → ∃ u, w0.1 a = some u) {v : NV} : v ∈ vals w0.1 (stL w0.2.2.2.2.1) ↔ ∃ a, inS w.2.2.2.2.1 a ∧ w.1 a = some v := by
  obtain ⟨-, hc, hx, -⟩ := h
  unfold vals
  rw [List.mem_filterMap, hc]
  constructor
  · rintro ⟨a, h1, h2⟩
    exact ⟨a, stL_in.mp h1, (hx a v h2).1⟩
  · rintro ⟨a, h1, h2⟩
    obtain ⟨u, hu⟩ := h0 a h1
    have := (hx a u hu).1
    rw [h2] at this
    cases this
    exact ⟨a, stL_in.mpr h1, hu⟩
theorem PW.pend {t : Nat → ClassId} {g0 g : GH} {w0 w : GD} {sA bA aL : Nat} {nn ss : Int32} {V : List NV} (h : PW t g0 w0 g w sA bA aL nn ss V) {a : Nat} {v : NV} (ha : a ∈ w.2.2.2.2.2) (hv : w.1 a = some v) : v ∈ V := by
  have h1 : some v ∈ w.2.2.2.2.2.map w.1 := List.mem_map.mpr ⟨a, ha, hv⟩
  rw [h.2.2.2.2.2.2.1] at h1
  obtain ⟨u, hu, e⟩ := List.mem_map.mp h1
  cases e
  exact (List.mem_filter.mp (List.mem_reverse.mp hu)).1
theorem PW.len {t : Nat → ClassId} {g0 g : GH} {w0 w : GD} {sA bA aL : Nat} {nn ss : Int32} {V : List NV} (h : PW t g0 w0 g w sA bA aL nn ss V) : w.2.2.2.2.2.length = (news (vals w0.1 (stL w0.2.2.2.2.1)) V).length := by
  have := congrArg List.length h.2.2.2.2.2.2.1
  simpa using this
theorem PW.old {t : Nat → ClassId} {g0 g : GH} {w0 w : GD} {sA bA aL : Nat} {nn ss : Int32} {V : List NV} {v : NV} (h : PW t g0 w0 g w sA bA aL nn ss V) (hv : v ∈ vals w0.1 (stL w0.2.2.2.2.1)) : PW t g0 w0 g w sA bA aL nn ss (V ++ [v]) := by
  obtain ⟨a1, a2, a3, a4, a5, a6, a7, a8⟩ := h
  exact ⟨a1, a2, a3, a4, a5, a6, by rw [a7, news_app, news_in hv, List.append_nil], a8⟩
theorem PW.new {t : Nat → ClassId} {g0 g g' : GH} {w0 w : GD} {sA bA aL q ra ba : Nat} {nn ss : Int32} {V : List NV} {v : NV} {ks : List Nat} (h : PW t g0 w0 g w sA bA aL nn ss V) (hv : v ∉ vals w0.1 (stL w0.2.2.2.2.1)) (hq : q ∉ g.1) (hra : ra ∉ g.1) (hba : ba ∉ g.1) (hS : SW t g' (wAdd w q v ks ra ba) sA bA nn ss) (hk : Kp [sA] g g') : PW t g0 w0 g' (wAdd w q v ks ra ba) sA bA aL nn ss (V ++ [v]) := by
  have hdom := fun x u hu => SW.dom h.1 (a := x) (v := u) hu
  have hind : ∀ x, x ∈ w.2.2.2.2.2 → x ∈ g.1 := fun x hx => (SW.in h.1 (Or.inr hx)).elim (fun u hu => hdom x u hu)
  obtain ⟨a1, a2, a3, a4, a5, a6, a7, a8⟩ := h
  have hn : ∀ x, x ∈ g.1 → x ≠ q := fun x hx z => hq (z ▸ hx)
  refine ⟨hS, a2, fun x u hu => ?_, fun x hx => Or.inl (a4 x hx), fun x hx => ?_, fun x u hu => ?_, ?_, a8.tr (hk.mono (fun x hx => by rw [List.mem_singleton.mp hx]; exact List.mem_cons_self))⟩
  · obtain ⟨b1, b2, b3⟩ := a3 x u hu
    have hne := hn x (hdom x u b1)
    refine ⟨?_, ?_, ?_⟩
    · show va_up w.1 q (some v) x = some u
      rw [va_up_ne _ _ hne]; exact b1
    · show va_up w.2.1 q ks x = w0.2.1 x
      rw [va_up_ne _ _ hne]; exact b2
    · show va_up w.2.2.1 q _ x = w0.2.2.1 x
      rw [va_up_ne _ _ hne]; exact b3
  · rcases hx with hx | hx | hx
    · exact a5 x hx
    · exact Or.inr (hx ▸ fun z => hra (a8.1 _ z))
    · exact Or.inr (hx ▸ fun z => hba (a8.1 _ z))
  · have hu2 : va_up w.1 q (some v) x = some u := hu
    by_cases hx : x = q
    · subst hx
      refine Or.inr ⟨fun z => hq (a8.1 _ z), ?_⟩
      show (va_up w.2.2.1 x _ x).2.2.1 = 0
      rw [va_up_self]
    · rw [va_up_ne _ _ hx] at hu2
      rcases a6 x u hu2 with z | z
      · exact Or.inl z
      · refine Or.inr ⟨z.1, ?_⟩
        show (va_up w.2.2.1 q _ x).2.2.1 = 0
        rw [va_up_ne _ _ hx]; exact z.2
  · show (q :: w.2.2.2.2.2).map (va_up w.1 q (some v)) = _
    rw [news_app, news_out hv, List.reverse_append, List.reverse_singleton, List.singleton_append, List.map_cons, List.map_cons, va_up_self, ← a7]
    congr 1
    apply List.map_congr_left
    intro x hx
    exact va_up_ne _ _ (hn x (hind x hx))
/-- the first places of the line hold these nodes -/
def lineOK (g : GH) (t : Nat → ClassId) (w : GD) (aL : Nat) (f : Nat → Option Nat) (h : Nat) (qs : List (List RV)) : Prop := gAt g aL (eNs t 300 f) ∧ ∀ i (hi : i < qs.length), ∃ b, f i = some b ∧ w.1 b = some (h, qs[i]) ∧ (inS w.2.2.2.2.1 b ∨ b ∈ w.2.2.2.2.2)
/-- the leaves' values -/
def lvs0 (rs : List (List RV)) : List NV := rs.map (fun q => (0, q))
theorem lvs0_app (a b : List (List RV)) : lvs0 (a ++ b) = lvs0 a ++ lvs0 b := by simp [lvs0]
theorem Kp.line {sA aL : Nat} {g g' : GH} {e : va_E} (h : gAt g aL e) (hk : Kp [sA] g g') (hn : aL ≠ sA) : gAt g' aL e := hk.2 aL e (one_ne hn) h
