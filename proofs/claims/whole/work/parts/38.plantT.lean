/-- the draft is another, the stamp is a later one -/
theorem TW.draft {t : Nat → ClassId} {g g' : GH} {p : Nat → Nat} {w : GD} {ls : Nat} {s : AS} {ls' : Nat} {n : Int32} {f : Nat → Option Nat} (h : TW t g p w ls s) (kq : Kp [p 13, p 8, p 9] g g') (hTn : gAt g' (p 13) (eTT (p 0) (p 1) (p 2) (p 4) (p 8) (p 10) (p 12) (nI ls'))) (hl : ls ≤ ls') (h8 : gAt g' (p 8) (eRL (p 9) n)) (h9 : gAt g' (p 9) (eRs t 300 f)) : TW t g' p w ls' s := by
  obtain ⟨hT, ⟨fW, hW, hWv⟩, ⟨fR, hR, hRv⟩, hS, ⟨hpd, hval, hsz, hsn⟩, ⟨fk, fs, fu, hD, hk, hs, hu, hdf, hdl⟩, ⟨nF, fF, hF, hFb⟩, ⟨nE, fE, hE, hEb⟩, ⟨fL, hL⟩, hne, hI, hst, htb⟩ := id h
  have hS2 : SW t g' w (p 2) (p 3) (nI s.2.1.length) (nI (szL s.2.1)) := hS.kp kq.1 (fun y e hy he => kq.2 y e (by
    rcases hy with z | z | z | z
    · exact h.own (Or.inl z) [13, 8, 9] (by decide)
    · exact h.own (Or.inr z) [13, 8, 9] (by decide)
    · rw [z]; exact pn hne 2 [13, 8, 9] rfl
    · rw [z]; exact pn hne 3 [13, 8, 9] rfl) he)
  exact ⟨hTn, ⟨fW, kq.2 (p 0) _ (pn hne 0 [13, 8, 9] rfl) hW, hWv⟩, ⟨fR, kq.2 (p 1) _ (pn hne 1 [13, 8, 9] rfl) hR, hRv⟩, hS2, ⟨hpd, hval, hsz, hsn⟩, ⟨fk, fs, fu, kq.2 (p 4) _ (pn hne 4 [13, 8, 9] rfl) hD, kq.2 (p 5) _ (pn hne 5 [13, 8, 9] rfl) hk, kq.2 (p 6) _ (pn hne 6 [13, 8, 9] rfl) hs, kq.2 (p 7) _ (pn hne 7 [13, 8, 9] rfl) hu, hdf, hdl⟩, ⟨n, f, h8, h9⟩, ⟨nE, fE, kq.2 (p 10) _ (pn hne 10 [13, 8, 9] rfl) hE, kq.2 (p 11) _ (pn hne 11 [13, 8, 9] rfl) hEb⟩, ⟨fL, kq.2 (p 12) _ (pn hne 12 [13, 8, 9] rfl) hL⟩, hne, hI, fun x u hu => (hst x u hu).elim (fun m q => ⟨m, by omega, q.2⟩), htb⟩
/-- new cells that nobody writes -/
def gI (I : Nat → Prop) (g g' : GH) : Nat → Prop := fun x => I x ∨ (x ∉ g.1 ∧ x ∈ g'.1)
theorem TW.grow {t : Nat → ClassId} {g g' : GH} {p : Nat → Nat} {w : GD} {ls : Nat} {s : AS} (h : TW t g p w ls s) (kq : Kp [] g g') : TW t g' p (w.1, w.2.1, w.2.2.1, gI w.2.2.2.1 g g', w.2.2.2.2.1, w.2.2.2.2.2) ls s := by
  obtain ⟨hT, ⟨fW, hW, hWv⟩, ⟨fR, hR, hRv⟩, hS, ⟨hpd, hval, hsz, hsn⟩, ⟨fk, fs, fu, hD, hk, hs, hu, hdf, hdl⟩, ⟨nF, fF, hF, hFb⟩, ⟨nE, fE, hE, hEb⟩, ⟨fL, hL⟩, hne, hI, hst, htb⟩ := id h
  have kk : ∀ x e, gAt g x e → gAt g' x e := fun x e he => kq.2 x e (by simp) he
  obtain ⟨a1, a2, ⟨fB, a3, a3'⟩, a4, a5, a6, a7, a8, a9, a10⟩ := id hS
  have hIo : ∀ x, x ∈ g.1 → ¬ w.2.2.2.1 x → ¬ gI w.2.2.2.1 g g' x := fun x hx hn z => z.elim hn (fun q => q.1 hx)
  have hN2 : NI t g' (w.1, w.2.1, w.2.2.1, gI w.2.2.2.1 g g', w.2.2.2.2.1, w.2.2.2.2.2) := by
    intro a v hv
    obtain ⟨b1, b2, b3, b4⟩ := a1 a v hv
    exact ⟨b1, hIo a (SW.dom hS hv) b2, b3.keep (fun _ _ q => q) (fun _ q => Or.inl q) (fun x e _ he => kk x e he) (fun e he => kk a e he), b4⟩
  have hS2 : SW t g' (w.1, w.2.1, w.2.2.1, gI w.2.2.2.1 g g', w.2.2.2.2.1, w.2.2.2.2.2) (p 2) (p 3) (nI s.2.1.length) (nI (szL s.2.1)) := ⟨hN2, kk _ _ a2, ⟨fB, kk _ _ a3, a3'⟩, a4, a5, a6, a7, hIo _ (h.mem 2 (by decide)) a8, hIo _ (h.mem 3 (by decide)) a9, fun x q => q.elim (fun z => kq.1 x (a10 x z)) (fun z => z.2)⟩
  exact ⟨kk _ _ hT, ⟨fW, kk _ _ hW, hWv⟩, ⟨fR, kk _ _ hR, hRv⟩, hS2, ⟨hpd, hval, hsz, hsn⟩, ⟨fk, fs, fu, kk _ _ hD, kk _ _ hk, kk _ _ hs, kk _ _ hu, hdf, hdl⟩, ⟨nF, fF, kk _ _ hF, kk _ _ hFb⟩, ⟨nE, fE, kk _ _ hE, kk _ _ hEb⟩, ⟨fL, kk _ _ hL⟩, hne, fun i hi => hIo _ (h.mem i hi) (hI i hi), hst, htb⟩
theorem rowI.grow {t : Nat → ClassId} {g g' : GH} {I : Nat → Prop} {q : Nat} {r : RV} (h : rowI t g' (fun x => x ∉ g.1) q r) : rowI t g' (gI I g g') q r := by
  obtain ⟨c, f, h1, h2, h3, h4, h5⟩ := h
  exact ⟨c, f, Or.inr ⟨h1, h3.1⟩, Or.inr ⟨h2, h4.1⟩, h3, h4, h5⟩
theorem news_perm {S S' : List NV} (h : S.Perm S') (V : List NV) : news S V = news S' V := by
  unfold news
  apply List.filter_congr
  intro v _
  rw [decide_eq_decide]
  exact not_congr h.mem_iff
theorem TW.plant {t : Nat → ClassId} {g g' : GH} {p : Nat → Nat} {w : GD} {ls : Nat} {s : AS} {i : Nat} {rs : List RV} {fR : Nat → Option Nat} {v : Option Value} (h : TW t g p w ls s) (i6 : i < 6) (htk : tOK ((s.1 i).1, rs)) (hfR : gAt g (p 1) (eNs t 6 fR)) (hRv : ∀ i, i < 6 → ∃ r, fR i = some r ∧ w.1 r = some (hgt (s.1 i).2, (s.1 i).2) ∧ inS w.2.2.2.2.1 r) (hn : s.2.1.length + (news s.2.1 (ndl rs)).length < 2 ^ 30) (hP : (∃ w', WX g w w' ∧ w'.2.2.2.2.2 = [] ∧ ((∀ b ∈ g.1, b ∈ g'.1) ∧ ∀ (x : Nat) (e : va_E), x ∉ [p 2, p 3, p 12, p 1] → w.1 x = none → gAt g x e → gAt g' x e) ∧ ((60000 < szL s.2.1 + szL (news (vals w.1 (stL w.2.2.2.2.1)) (ndl rs)) ∧ v = some (.int (-3)) ∧ SW t g' w' (p 2) (p 3) (nI s.2.1.length) (nI (szL s.2.1)) ∧ w'.2.2.2.2.1 = w.2.2.2.2.1 ∧ gAt g' (p 1) (eNs t 6 fR)) ∨ (szL s.2.1 + szL (news (vals w.1 (stL w.2.2.2.2.1)) (ndl rs)) ≤ 60000 ∧ v = some (.int (nI (news (vals w.1 (stL w.2.2.2.2.1)) (ndl rs)).length)) ∧ SW t g' w' (p 2) (p 3) (nI (s.2.1.length + (news (vals w.1 (stL w.2.2.2.2.1)) (ndl rs)).length)) (nI (szL s.2.1 + szL (news (vals w.1 (stL w.2.2.2.2.1)) (ndl rs)))) ∧ (vals w'.1 (stL w'.2.2.2.2.1)).Perm ((vals w.1 (stL w.2.2.2.2.1)) ++ news (vals w.1 (stL w.2.2.2.2.1)) (ndl rs)) ∧ (∃ pd, (stL w'.2.2.2.2.1).Perm (stL w.2.2.2.2.1 ++ pd) ∧ pd.length = (news (vals w.1 (stL w.2.2.2.2.1)) (ndl rs)).length) ∧ ∃ r, gAt g' (p 1) (eNs t 6 (va_up fR i (some r))) ∧ w'.1 r = some (hgt rs, rs) ∧ inS w'.2.2.2.2.1 r)) ∧ ∃ f, gAt g' (p 12) (eNs t 300 f))) : v = some (.int (aPlant s i (s.1 i).1 rs).1) ∧ ∃ w', TW t g' p w' ls (aPlant s i (s.1 i).1 rs).2 := by
  obtain ⟨hT, ⟨fW, hW, hWv⟩, -, hS, ⟨hpd, hval, hsz, hsn⟩, ⟨fk, fs, fu, hD, hk, hs, hu, hdf, hdl⟩, ⟨nF, fF, hF, hFb⟩, ⟨nE, fE, hE, hEb⟩, ⟨fL, hL⟩, hne, hI, hst, htb⟩ := id h
  rw [news_perm hval] at hP
  obtain ⟨w', ⟨x1, x2, x3, x4⟩, hpd', ⟨kd, kk⟩, hc, fL', hL'⟩ := hP
  have K : ∀ i, i < 14 → p i ∉ [p 2, p 3, p 12, p 1] → ∀ e, gAt g (p i) e → gAt g' (p i) e := fun i hi hn e he => kk (p i) e hn (h.nn i hi) he
  have hI' : ∀ i, i < 14 → ¬ w'.2.2.2.1 (p i) := fun i hi z => (x3 _ z).elim (hI i hi) (fun q => q (h.mem i hi))
  have hst' : ∀ x u, w'.1 x = some u → ∃ m, m ≤ ls ∧ (w'.2.2.1 x).2.2.1 = nI m := fun x u hu => by
    rcases x4 x u hu with z | z
    · obtain ⟨m, hm, e⟩ := hst x u z
      exact ⟨m, hm, (x1 x u z).2.2.2.2.trans e⟩
    · exact ⟨0, Nat.zero_le _, z.2⟩
  have hin : ∀ x, inS w.2.2.2.2.1 x → ∃ u, w.1 x = some u := fun x hx => SW.in hS (Or.inl hx)
  rcases hc with ⟨hbig, hv, hS', hch, hR'⟩ | ⟨hfit, hv, hS', hvp, ⟨pd, hpm, -⟩, r, hR', hrv, hrS⟩
  · have er : aPlant s i (s.1 i).1 rs = (-3, s) := if_neg (by omega)
    rw [er]
    refine ⟨hv, w', K 13 (by decide) (pn hne 13 [2, 3, 12, 1] rfl) _ hT, ⟨fW, K 0 (by decide) (pn hne 0 [2, 3, 12, 1] rfl) _ hW, hWv⟩, ⟨fR, hR', fun i hi => ?_⟩, hS', ⟨hpd', ?_, hsz, hsn⟩, ⟨fk, fs, fu, K 4 (by decide) (pn hne 4 [2, 3, 12, 1] rfl) _ hD, K 5 (by decide) (pn hne 5 [2, 3, 12, 1] rfl) _ hk, K 6 (by decide) (pn hne 6 [2, 3, 12, 1] rfl) _ hs, K 7 (by decide) (pn hne 7 [2, 3, 12, 1] rfl) _ hu, hdf, hdl⟩, ⟨nF, fF, K 8 (by decide) (pn hne 8 [2, 3, 12, 1] rfl) _ hF, K 9 (by decide) (pn hne 9 [2, 3, 12, 1] rfl) _ hFb⟩, ⟨nE, fE, K 10 (by decide) (pn hne 10 [2, 3, 12, 1] rfl) _ hE, K 11 (by decide) (pn hne 11 [2, 3, 12, 1] rfl) _ hEb⟩, ⟨fL', hL'⟩, hne, hI', hst', htb⟩
    · obtain ⟨r, e1, e2, e3⟩ := hRv i hi
      exact ⟨r, e1, (x1 r _ e2).1, by rw [hch]; exact e3⟩
    · rw [hch, vals_congr (N' := w.1) _ (fun a ha => by
        obtain ⟨u, hu⟩ := hin a (stL_in.mp ha)
        rw [hu]
        exact (x1 a u hu).1)]
      exact hval
  · have er : aPlant s i (s.1 i).1 rs = (nI (news s.2.1 (ndl rs)).length, (va_up s.1 i ((s.1 i).1, rs), s.2.1 ++ news s.2.1 (ndl rs), s.2.2)) := if_pos (by omega)
    rw [er]
    refine ⟨hv, w', K 13 (by decide) (pn hne 13 [2, 3, 12, 1] rfl) _ hT, ⟨fW, K 0 (by decide) (pn hne 0 [2, 3, 12, 1] rfl) _ hW, fun a ha => ?_⟩, ⟨_, hR', fun a ha => ?_⟩, ?_, ⟨hpd', ?_, ?_, ?_⟩, ⟨fk, fs, fu, K 4 (by decide) (pn hne 4 [2, 3, 12, 1] rfl) _ hD, K 5 (by decide) (pn hne 5 [2, 3, 12, 1] rfl) _ hk, K 6 (by decide) (pn hne 6 [2, 3, 12, 1] rfl) _ hs, K 7 (by decide) (pn hne 7 [2, 3, 12, 1] rfl) _ hu, hdf, hdl⟩, ⟨nF, fF, K 8 (by decide) (pn hne 8 [2, 3, 12, 1] rfl) _ hF, K 9 (by decide) (pn hne 9 [2, 3, 12, 1] rfl) _ hFb⟩, ⟨nE, fE, K 10 (by decide) (pn hne 10 [2, 3, 12, 1] rfl) _ hE, K 11 (by decide) (pn hne 11 [2, 3, 12, 1] rfl) _ hEb⟩, ⟨fL', hL'⟩, hne, hI', hst', fun a ha => ?_⟩
    · show _ = nI (va_up s.1 i ((s.1 i).1, rs) a).1
      by_cases z : a = i
      · subst z; rw [va_up_self]; exact hWv a ha
      · rw [va_up_ne _ _ z]; exact hWv a ha
    · show ∃ r, va_up _ _ _ _ = _ ∧ w'.1 r = some (hgt (va_up s.1 i ((s.1 i).1, rs) a).2, (va_up s.1 i ((s.1 i).1, rs) a).2) ∧ _
      by_cases z : a = i
      · subst z; rw [va_up_self, va_up_self]; exact ⟨r, rfl, hrv, hrS⟩
      · rw [va_up_ne _ _ z, va_up_ne _ _ z]
        obtain ⟨r, e1, e2, e3⟩ := hRv a ha
        refine ⟨r, e1, (x1 r _ e2).1, ?_⟩
        rw [← stL_in, hpm.mem_iff]
        exact List.mem_append_left _ (stL_in.mpr e3)
    · show SW t g' w' (p 2) (p 3) (nI (s.2.1 ++ news s.2.1 (ndl rs)).length) (nI (szL (s.2.1 ++ news s.2.1 (ndl rs))))
      rw [List.length_append, szL_app]
      exact hS'
    · exact hvp.trans (hval.append_right _)
    · show szL (s.2.1 ++ news s.2.1 (ndl rs)) ≤ 60000
      rw [szL_app]; omega
    · show (s.2.1 ++ news s.2.1 (ndl rs)).length < 2 ^ 30
      rw [List.length_append]; exact hn
    · show tOK (va_up s.1 i ((s.1 i).1, rs) a)
      by_cases z : a = i
      · subst z; rw [va_up_self]; exact htk
      · rw [va_up_ne _ _ z]; exact htb a ha
/-! sizes of a table's nodes -/
theorem szL_le (b : Nat) : ∀ V : List NV, (∀ v ∈ V, nsz v.1 v.2 ≤ b) → szL V ≤ V.length * b
  | [], _ => Nat.zero_le _
  | v :: V, h => by
    have ih := szL_le b V (fun x hx => h x (List.mem_cons_of_mem _ hx))
    have h1 := h v List.mem_cons_self
    have e : szL (v :: V) = nsz v.1 v.2 + szL V := by simp [szL]
    rw [e, List.length_cons, Nat.add_mul]
    omega
theorem nszF_le : ∀ (rs : List RV) (n : Nat), (∀ r ∈ rs, r.2.1.length ≤ 6) → rs.foldl (fun n r => n + (1 + r.2.1.length)) n ≤ n + 7 * rs.length
  | [], n, _ => Nat.le_refl _
  | r :: rs, n, h => by
    have ih := nszF_le rs (n + (1 + r.2.1.length)) (fun x hx => h x (List.mem_cons_of_mem _ hx))
    have h1 := h r List.mem_cons_self
    rw [List.foldl_cons, List.length_cons]
    omega
theorem lvsB_mem (rs : List RV) : ∀ (h : Nat) (v : NV), v ∈ lvsB rs h → ∃ k, v.2 ∈ runs k rs
  | 0, v, hv => by cases hv
  | h + 1, v, hv => by
    rw [lvsB, List.mem_append] at hv
    rcases hv with z | z
    · exact lvsB_mem rs h v z
    · obtain ⟨q, hq, e⟩ := List.mem_map.mp z
      rw [← e]
      exact ⟨h + 1, hq⟩
theorem ndl_sub {rs : List RV} {v : NV} (hv : v ∈ ndl rs) : v.2.length ≤ rs.length ∧ ∀ r ∈ v.2, r ∈ rs := by
  rw [ndl_lvsB, List.mem_append] at hv
  rcases hv with z | z
  · obtain ⟨k, hk⟩ := lvsB_mem rs _ v z
    have hf : (runs k rs).flatten = rs := runsP_flat _ _
    have hs : v.2.Sublist (runs k rs).flatten := List.sublist_flatten_of_mem hk
    rw [hf] at hs
    exact ⟨hs.length_le, fun r hr => hs.subset hr⟩
  · rw [List.mem_singleton.mp z]
    exact ⟨Nat.le_refl _, fun r hr => hr⟩
theorem szL_news (St : List NV) {rs : List RV} (h6 : ∀ r ∈ rs, r.2.1.length ≤ 6) (h3 : rs.length ≤ 300) : szL (news St (ndl rs)) ≤ 3780000 := by
  have h1 : szL (news St (ndl rs)) ≤ szL (ndl rs) := szL_filter _ _
  have h2 := szL_le 2100 (ndl rs) (fun v hv => by
    obtain ⟨a1, a2⟩ := ndl_sub hv
    have hb : ∀ (h : Nat) (q : List RV), q.length ≤ 300 → (∀ r ∈ q, r.2.1.length ≤ 6) → nsz h q ≤ 2100 := by
      intro h q hq hq6
      cases h with
      | zero => have := nszF_le q 0 hq6; show q.foldl (fun n r => n + (1 + r.2.1.length)) 0 ≤ 2100; omega
      | succ h => have := runs_len_le (h + 1) q; show (runs (h + 1) q).length ≤ 2100; omega
    exact hb v.1 v.2 (by omega) (fun r hr => h6 r (a2 r hr)))
  have h3 := ndl_len rs h3
  omega
