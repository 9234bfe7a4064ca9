/-! a comparison passes over what both have -/
theorem lt_asym32 {x y : Int32} (h : x < y) : ¬ y < x := by
  intro h'
  have h1 := Int32.lt_iff_toInt_lt.mp h
  have h2 := Int32.lt_iff_toInt_lt.mp h'
  omega
theorem lt_tr32 {x y z : Int32} (h : x < y) (h' : y < z) : x < z := by
  have h1 := Int32.lt_iff_toInt_lt.mp h
  have h2 := Int32.lt_iff_toInt_lt.mp h'
  exact Int32.lt_iff_toInt_lt.mpr (by omega)
theorem eq_of_nlt32 {x y : Int32} (h : ¬ x < y) (h' : ¬ y < x) : x = y := by
  have h1 : ¬ x.toInt < y.toInt := fun z => h (Int32.lt_iff_toInt_lt.mpr z)
  have h2 : ¬ y.toInt < x.toInt := fun z => h' (Int32.lt_iff_toInt_lt.mpr z)
  exact Int32.toInt_inj.mp (by omega)
theorem mrg_nil (n : Nat) : mrg n [] [] = [] := by cases n <;> rfl
theorem mrg_flt (p : RV → Bool) : ∀ (n m : Nat) (ra rb : List RV), srt ra → srt rb → (∀ r ∈ ra, p r = false → r ∈ rb) → (∀ r ∈ rb, p r = false → r ∈ ra) → ra.length + rb.length ≤ n → (ra.filter p).length + (rb.filter p).length ≤ m → mrg m (ra.filter p) (rb.filter p) = mrg n ra rb
  | n, m, [], [], _, _, _, _, _, _ => by rw [List.filter_nil, mrg_nil, mrg_nil]
  | 0, _, _ :: _, _, _, _, _, _, h, _ => by simp at h
  | 0, _, [], _ :: _, _, _, _, _, h, _ => by simp at h
  | n + 1, m, r :: rs, [], sa, sb, ha, hb, hn, hm => by
    have hp : p r = true := by
      cases hc : p r with
      | true => rfl
      | false => exact absurd (ha r List.mem_cons_self hc) (by simp)
    rw [List.filter_cons_of_pos hp] at hm ⊢
    cases m with
    | zero => simp at hm
    | succ m =>
      have ih := mrg_flt p n m rs [] (List.Pairwise.tail sa) sb (fun x hx => ha x (List.mem_cons_of_mem _ hx)) (fun x hx => by cases hx) (by simp at hn ⊢; omega) (by simp at hm ⊢; omega)
      rw [List.filter_nil] at ih ⊢
      rw [mrg, mrg, ih]
  | n + 1, m, [], s :: ss, sa, sb, ha, hb, hn, hm => by
    have hp : p s = true := by
      cases hc : p s with
      | true => rfl
      | false => exact absurd (hb s List.mem_cons_self hc) (by simp)
    rw [List.filter_cons_of_pos hp] at hm ⊢
    cases m with
    | zero => simp at hm
    | succ m =>
      have ih := mrg_flt p n m [] ss sa (List.Pairwise.tail sb) (fun x hx => by cases hx) (fun x hx => hb x (List.mem_cons_of_mem _ hx)) (by simp at hn ⊢; omega) (by simp at hm ⊢; omega)
      rw [List.filter_nil] at ih ⊢
      rw [mrg, mrg, ih]
  | n + 1, m, r :: rs, s :: ss, sa, sb, ha, hb, hn, hm => by
    have sa' := List.pairwise_cons.mp sa
    have sb' := List.pairwise_cons.mp sb
    by_cases h1 : r.1 < s.1
    · have hnb : ∀ x ∈ s :: ss, x.1 ≠ r.1 := by
        intro x hx e
        rcases List.mem_cons.mp hx with z | z
        · rw [← z, e] at h1; exact lt_irr32 _ h1
        · have := lt_tr32 h1 (sb'.1 x z)
          rw [e] at this; exact lt_irr32 _ this
      have hp : p r = true := by
        cases hc : p r with
        | true => rfl
        | false => exact absurd rfl (hnb r (ha r List.mem_cons_self hc))
      have ih := fun m' => mrg_flt p n m' rs (s :: ss) sa'.2 sb (fun x hx => ha x (List.mem_cons_of_mem _ hx)) (fun x hx hpx => by
        rcases List.mem_cons.mp (hb x hx hpx) with z | z
        · exact absurd (by rw [z]) (hnb x hx)
        · exact z) (by simp at hn ⊢; omega)
      rw [List.filter_cons_of_pos hp] at hm ⊢
      cases m with
      | zero => simp at hm
      | succ m =>
        have ih := ih m (by simp only [List.length_cons] at hm; omega)
        rw [mrg, if_pos h1, ← ih]
        cases hc : (s :: ss).filter p with
        | nil => rw [mrg]
        | cons y ys =>
          have hy : y ∈ s :: ss := (List.mem_filter.mp (by rw [hc]; exact List.mem_cons_self : y ∈ (s :: ss).filter p)).1
          have hlt : r.1 < y.1 := by
            rcases List.mem_cons.mp hy with z | z
            · rw [z]; exact h1
            · exact lt_tr32 h1 (sb'.1 y z)
          rw [mrg, if_pos hlt]
    · by_cases h2 : s.1 < r.1
      · have hna : ∀ x ∈ r :: rs, x.1 ≠ s.1 := by
          intro x hx e
          rcases List.mem_cons.mp hx with z | z
          · rw [← z, e] at h2; exact lt_irr32 _ h2
          · have := lt_tr32 h2 (sa'.1 x z)
            rw [e] at this; exact lt_irr32 _ this
        have hp : p s = true := by
          cases hc : p s with
          | true => rfl
          | false => exact absurd rfl (hna s (hb s List.mem_cons_self hc))
        have ih := fun m' => mrg_flt p n m' (r :: rs) ss sa sb'.2 (fun x hx hpx => by
          rcases List.mem_cons.mp (ha x hx hpx) with z | z
          · exact absurd (by rw [z]) (hna x hx)
          · exact z) (fun x hx => hb x (List.mem_cons_of_mem _ hx)) (by simp at hn ⊢; omega)
        rw [List.filter_cons_of_pos (l := ss) hp] at hm ⊢
        cases m with
        | zero => simp at hm
        | succ m =>
          have ih := ih m (by simp only [List.length_cons] at hm; omega)
          rw [mrg, if_neg h1, if_pos h2, ← ih]
          cases hc : (r :: rs).filter p with
          | nil => rw [mrg]
          | cons y ys =>
            have hy : y ∈ r :: rs := (List.mem_filter.mp (by rw [hc]; exact List.mem_cons_self : y ∈ (r :: rs).filter p)).1
            have hlt : s.1 < y.1 := by
              rcases List.mem_cons.mp hy with z | z
              · rw [z]; exact h2
              · exact lt_tr32 h2 (sa'.1 y z)
            rw [mrg, if_neg (lt_asym32 hlt), if_pos hlt]
      · have he : r.1 = s.1 := eq_of_nlt32 h1 h2
        have hrs : r ∈ s :: ss → r = s := fun hx => by
          rcases List.mem_cons.mp hx with z | z
          · exact z
          · have := sb'.1 r z; rw [he] at this; exact absurd this (lt_irr32 _)
        have hsr : s ∈ r :: rs → s = r := fun hx => by
          rcases List.mem_cons.mp hx with z | z
          · exact z
          · have := sa'.1 s z; rw [he] at this; exact absurd this (lt_irr32 _)
        have ih := fun m' => mrg_flt p n m' rs ss sa'.2 sb'.2 (fun x hx hpx => by
          rcases List.mem_cons.mp (ha x (List.mem_cons_of_mem _ hx) hpx) with z | z
          · have := sa'.1 x hx; rw [z, he] at this; exact absurd this (lt_irr32 _)
          · exact z) (fun x hx hpx => by
          rcases List.mem_cons.mp (hb x (List.mem_cons_of_mem _ hx) hpx) with z | z
          · have := sb'.1 x hx; rw [z, he] at this; exact absurd this (lt_irr32 _)
          · exact z) (by simp at hn ⊢; omega)
        rw [mrg, if_neg h1, if_neg h2]
        cases hp : p r with
        | true =>
          have hps : p s = true := by
            cases hc : p s with
            | true => rfl
            | false => rw [hsr (hb s List.mem_cons_self hc)] at hc; rw [hc] at hp; cases hp
          rw [List.filter_cons_of_pos hp, List.filter_cons_of_pos hps] at hm ⊢
          cases m with
          | zero => simp at hm
          | succ m =>
            have ih := ih m (by simp only [List.length_cons] at hm; omega)
            rw [mrg, if_neg h1, if_neg h2, ih]
        | false =>
          have e := hrs (ha r List.mem_cons_self hp)
          subst e
          rw [List.filter_cons_of_neg (by rw [hp]; simp), List.filter_cons_of_neg (by rw [hp]; simp)] at hm ⊢
          rw [unl_self, if_pos rfl]
          exact ih m hm
theorem gth_flt {t : Nat → ClassId} {g : GH} {w : GD} (hN : NI t g w) {ha a : Nat} {ra : List RV} (hva : w.1 a = some (ha, ra)) {mu : Nat → MU} {s : Int32} {P : Nat → Prop} [DecidablePred P] (hP : ∀ x ∈ dsc w.2.1 ha a, ((mu x).2.2.1 = s ↔ P x)) (hc : ∀ x ∈ dsc w.2.1 ha a, (mu x).2.2.1 = s → ∀ b ∈ w.2.1 x, (mu b).2.2.1 = s) : gth w.1 w.2.1 mu s ha a = ra.filter (fun r => decide (¬ ∃ x ∈ lfs w.2.1 ha a, P x ∧ r ∈ rho w.1 x)) := by
  have hr := lfs_rows hN ha a ra hva
  have hnd : ((lfs w.2.1 ha a).flatMap (rho w.1)).Nodup := by rw [hr]; exact srt_nodup (hN a _ hva).1.2.2.2.2
  rw [gth_lfs ha a hc, fm_filter _ _ _ hnd, hr]
  apply List.filter_congr
  intro r _
  rw [decide_eq_decide]
  apply not_congr
  constructor
  · rintro ⟨x, hx, hp, hrx⟩
    refine ⟨x, hx, (hP x (lfs_dsc _ _ _ hx)).mp ?_, hrx⟩
    simpa using hp
  · rintro ⟨x, hx, hp, hrx⟩
    refine ⟨x, hx, ?_, hrx⟩
    simpa using (hP x (lfs_dsc _ _ _ hx)).mpr hp
/-- two trees, each stamped while the other is gathered -/
theorem cmp_flt {t : Nat → ClassId} {g : GH} {w : GD} (hN : NI t g w) {ha a hb b : Nat} {ra rb : List RV} (hva : w.1 a = some (ha, ra)) (hvb : w.1 b = some (hb, rb)) {mu1 mu2 : Nat → MU} {s1 s2 : Int32} (h1 : ∀ x, (∃ u, w.1 x = some u) → ((mu1 x).2.2.1 = s1 ↔ x ∈ dsc w.2.1 hb b)) (h2 : ∀ x, (∃ u, w.1 x = some u) → ((mu2 x).2.2.1 = s2 ↔ x ∈ dsc w.2.1 ha a)) (hka : ∀ x ∈ dsc w.2.1 ha a, ∀ c ∈ w.2.1 x, c ∈ dsc w.2.1 ha a) (hkb : ∀ x ∈ dsc w.2.1 hb b, ∀ c ∈ w.2.1 x, c ∈ dsc w.2.1 hb b) : mrg ((gth w.1 w.2.1 mu1 s1 ha a).length + (gth w.1 w.2.1 mu2 s2 hb b).length) (gth w.1 w.2.1 mu1 s1 ha a) (gth w.1 w.2.1 mu2 s2 hb b) = mrg (ra.length + rb.length) ra rb := by
  have hval : ∀ (h a : Nat) (rs : List RV), w.1 a = some (h, rs) → ∀ x ∈ dsc w.2.1 h a, ∃ u, w.1 x = some u := by
    intro h a rs hv x hx
    have h1 : w.1 x ∈ (dsc w.2.1 h a).map w.1 := List.mem_map.mpr ⟨x, hx, rfl⟩
    rw [dsc_vals hN h a rs hv] at h1
    obtain ⟨u, -, e⟩ := List.mem_map.mp h1
    exact ⟨u, e.symm⟩
  have ga := gth_flt hN hva (mu := mu1) (s := s1) (P := fun x => x ∈ dsc w.2.1 hb b) (fun x hx => h1 x (hval _ _ _ hva x hx)) (fun x hx hs c hc => (h1 c (hval _ _ _ hva c (hka x hx c hc))).mpr (hkb x ((h1 x (hval _ _ _ hva x hx)).mp hs) c hc))
  have gb := gth_flt hN hvb (mu := mu2) (s := s2) (P := fun x => x ∈ dsc w.2.1 ha a) (fun x hx => h2 x (hval _ _ _ hvb x hx)) (fun x hx hs c hc => (h2 c (hval _ _ _ hvb c (hkb x hx c hc))).mpr (hka x ((h2 x (hval _ _ _ hvb x hx)).mp hs) c hc))
  have hra := lfs_rows hN ha a ra hva
  have hrb := lfs_rows hN hb b rb hvb
  have hiff : ∀ r : RV, (∃ x ∈ lfs w.2.1 hb b, x ∈ dsc w.2.1 ha a ∧ r ∈ rho w.1 x) ↔ ∃ x ∈ lfs w.2.1 ha a, x ∈ dsc w.2.1 hb b ∧ r ∈ rho w.1 x := by
    intro r
    constructor
    · rintro ⟨x, hx, hd, hr⟩
      obtain ⟨q, hq⟩ := lfs_leaf hN hb b rb x hvb hx
      exact ⟨x, dsc_leaf hN ha a ra q x hva hd hq, lfs_dsc _ _ _ hx, hr⟩
    · rintro ⟨x, hx, hd, hr⟩
      obtain ⟨q, hq⟩ := lfs_leaf hN ha a ra x hva hx
      exact ⟨x, dsc_leaf hN hb b rb q x hvb hd hq, lfs_dsc _ _ _ hx, hr⟩
  have gb2 : gth w.1 w.2.1 mu2 s2 hb b = rb.filter (fun r => decide (¬ ∃ x ∈ lfs w.2.1 ha a, x ∈ dsc w.2.1 hb b ∧ r ∈ rho w.1 x)) := by
    rw [gb]
    apply List.filter_congr
    intro r _
    rw [decide_eq_decide]
    exact not_congr (hiff r)
  rw [ga, gb2]
  refine mrg_flt _ _ _ ra rb (hN a _ hva).1.2.2.2.2 (hN b _ hvb).1.2.2.2.2 (fun r hr hp => ?_) (fun r hr hp => ?_) (Nat.le_refl _) (Nat.le_refl _)
  · have hp : ∃ x ∈ lfs w.2.1 ha a, x ∈ dsc w.2.1 hb b ∧ r ∈ rho w.1 x := by simpa using hp
    obtain ⟨x, hx, -, hrx⟩ := (hiff r).mpr hp
    rw [← hrb]
    exact List.mem_flatMap.mpr ⟨x, hx, hrx⟩
  · have hp : ∃ x ∈ lfs w.2.1 ha a, x ∈ dsc w.2.1 hb b ∧ r ∈ rho w.1 x := by simpa using hp
    obtain ⟨x, hx, -, hrx⟩ := hp
    rw [← hra]
    exact List.mem_flatMap.mpr ⟨x, hx, hrx⟩
theorem gth_all {t : Nat → ClassId} {g : GH} {w : GD} (hN : NI t g w) {h a : Nat} {rs : List RV} (hv : w.1 a = some (h, rs)) {mu : Nat → MU} {s : Int32} (hs : ∀ x u, w.1 x = some u → ¬ (mu x).2.2.1 = s) : gth w.1 w.2.1 mu s h a = rs := by
  have hval : ∀ x ∈ dsc w.2.1 h a, ∃ u, w.1 x = some u := by
    intro x hx
    have h1 : w.1 x ∈ (dsc w.2.1 h a).map w.1 := List.mem_map.mpr ⟨x, hx, rfl⟩
    rw [dsc_vals hN h a rs hv] at h1
    obtain ⟨u, -, e⟩ := List.mem_map.mp h1
    exact ⟨u, e.symm⟩
  rw [gth_lfs h a (fun x hx he => (hval x hx).elim (fun u hu => absurd he (hs x u hu)))]
  rw [List.filter_eq_self.mpr, lfs_rows hN h a rs hv]
  intro x hx
  obtain ⟨u, hu⟩ := hval x (lfs_dsc _ _ _ hx)
  simpa using hs x u hu
theorem dsc_kids {t : Nat → ClassId} {g : GH} {w : GD} (hN : NI t g w) : ∀ (h a : Nat) (rs : List RV), w.1 a = some (h, rs) → ∀ x ∈ dsc w.2.1 h a, ∀ c ∈ w.2.1 x, c ∈ dsc w.2.1 h a
  | 0, a, rs, hv, x, hx, c, hc => by
    rw [List.mem_singleton.mp hx] at hc
    obtain ⟨-, -, ⟨ra, ba, nr, fr, fb, -, -, -, -, -, -, h5, -⟩, -⟩ := hN a _ hv
    rw [(h5 rfl).2.1] at hc
    cases hc
  | h + 1, a, rs, hv, x, hx, c, hc => by
    rcases List.mem_cons.mp hx with z | z
    · subst z
      exact List.mem_cons_of_mem _ (List.mem_flatMap.mpr ⟨c, hc, dsc_self _ _ _⟩)
    · obtain ⟨b, hb, hxb⟩ := List.mem_flatMap.mp z
      have hk := hN.kids hv rfl
      have h1 : w.1 b ∈ (w.2.1 a).map w.1 := List.mem_map.mpr ⟨b, hb, rfl⟩
      rw [hk] at h1
      obtain ⟨qb, -, e⟩ := List.mem_map.mp h1
      exact List.mem_cons_of_mem _ (List.mem_flatMap.mpr ⟨b, hb, dsc_kids hN h b qb e.symm x hxb c hc⟩)
