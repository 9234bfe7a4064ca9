/-- a table's nodes of height h, by their rows -/
def qlv (rs : List RV) (h : Nat) : List (List RV) := if rs = [] then [[]] else runs (h + 1) rs
def ndsT (rs : List RV) : Nat → Nat → List NV
  | 0, _ => []
  | n + 1, h => if (qlv rs h).length ≤ 1 then [] else lvsH (h + 1) (qlv rs (h + 1)) ++ ndsT rs n (h + 1)
def hgtT (rs : List RV) : Nat → Nat → Nat
  | 0, h => h
  | n + 1, h => if (qlv rs h).length ≤ 1 then h else hgtT rs n (h + 1)
/-- all nodes of a table with these rows, and the height of its greatest -/
def ndl (rs : List RV) : List NV := lvsH 0 (qlv rs 0) ++ ndsT rs 5 0
def hgt (rs : List RV) : Nat := hgtT rs 5 0
def szL (V : List NV) : Nat := (V.map (fun v => nsz v.1 v.2)).sum
theorem szS_vals {N : NM} : ∀ (L : List Nat) (V : List NV), L.map N = V.map some → szS N L = szL V
  | [], [], _ => rfl
  | [], v :: V, h => by cases h
  | a :: L, [], h => by cases h
  | a :: L, v :: V, h => by
    rw [List.map_cons, List.map_cons] at h
    obtain ⟨h1, h2⟩ := List.cons.inj h
    have ih := szS_vals L V h2
    rw [szS_cons, ih]
    have : szV N a = nsz v.1 v.2 := by unfold szV; rw [h1]
    rw [this]
    simp [szL]
theorem vals_of {N : NM} : ∀ (L : List Nat) (V : List NV), L.map N = V.map some → vals N L = V
  | [], [], _ => rfl
  | [], v :: V, h => by cases h
  | a :: L, [], h => by cases h
  | a :: L, v :: V, h => by
    rw [List.map_cons, List.map_cons] at h
    obtain ⟨h1, h2⟩ := List.cons.inj h
    have ih := vals_of L V h2
    unfold vals at ih ⊢
    rw [List.filterMap_cons, h1, ih]
theorem vals_congr {N N' : NM} : ∀ (L : List Nat), (∀ a ∈ L, N a = N' a) → vals N L = vals N' L
  | [], _ => rfl
  | a :: L, h => by
    have ih := vals_congr L (fun b hb => h b (List.mem_cons_of_mem _ hb))
    unfold vals at ih ⊢
    rw [List.filterMap_cons, List.filterMap_cons, h a List.mem_cons_self, ih]
theorem szL_rev (V : List NV) : szL V.reverse = szL V := by
  unfold szL
  rw [List.map_reverse, List.sum_reverse]
theorem runs_top (rs : List RV) (h : rs ≠ []) : (runs 6 rs).length = 1 := by
  obtain ⟨r, hr⟩ : ∃ r, rs = rs.dropLast ++ [r] := ⟨rs.getLast h, (List.dropLast_concat_getLast h).symm⟩
  rw [hr]
  unfold runs
  rw [runsP_end]
  · rfl
  · intro x _
    have := lvl_le x.1
    simp only [lvB, decide_eq_false_iff_not]
    omega
theorem qlv_pos (rs : List RV) (h : Nat) : 0 < (qlv rs h).length := by
  unfold qlv
  split
  · simp
  · next hne =>
    rcases Nat.eq_zero_or_pos (runs (h + 1) rs).length with z | z
    · exact absurd (runsP_nil _ (List.length_eq_zero_iff.mp z)) hne
    · exact z
theorem qlv_flat (rs : List RV) (h : Nat) : (qlv rs h).flatten = rs := by
  unfold qlv
  split
  · next hz => rw [hz]; rfl
  · exact runsP_flat _ _
theorem qlv_one {rs : List RV} {h : Nat} (hl : (qlv rs h).length = 1) : (qlv rs h)[0]'(by omega) = rs := by
  obtain ⟨q, hq⟩ := List.length_eq_one_iff.mp hl
  have := qlv_flat rs h
  rw [hq] at this
  simp at this
  simp only [hq, List.getElem_cons_zero]
  exact this
theorem hgtT_one (rs : List RV) : ∀ (n h : Nat), h + n = 5 → (qlv rs (hgtT rs n h)).length = 1
  | 0, h, hn => by
    have e : h = 5 := by omega
    subst e
    show (qlv rs 5).length = 1
    unfold qlv
    split
    · rfl
    · next hne => exact runs_top rs hne
  | n + 1, h, hn => by
    unfold hgtT
    split
    · next hle => have := qlv_pos rs h; omega
    · exact hgtT_one rs n (h + 1) (by omega)
theorem hgtT_le (rs : List RV) : ∀ (n h : Nat), hgtT rs n h ≤ h + n
  | 0, h => Nat.le_refl _
  | n + 1, h => by
    unfold hgtT
    split
    · omega
    · have := hgtT_le rs n (h + 1); omega
theorem ndsT_len (rs : List RV) (b : Nat) (hb : ∀ h, (qlv rs h).length ≤ b) : ∀ (n h : Nat), (ndsT rs n h).length ≤ n * b
  | 0, h => Nat.le_of_ble_eq_true rfl
  | n + 1, h => by
    unfold ndsT
    split
    · exact Nat.zero_le _
    · have := ndsT_len rs b hb n (h + 1)
      have h1 := hb (h + 1)
      have e : (lvsH (h + 1) (qlv rs (h + 1))).length = (qlv rs (h + 1)).length := by simp [lvsH]
      rw [List.length_append, e, Nat.add_mul]
      omega
theorem ndl_len (rs : List RV) (h3 : rs.length ≤ 300) : (ndl rs).length ≤ 1800 := by
  have hq : ∀ h, (qlv rs h).length ≤ 300 := by
    intro h
    unfold qlv
    split
    · simp
    · exact Nat.le_trans (runs_len_le _ _) h3
  have h1 := ndsT_len rs 300 hq 5 0
  have h2 := hq 0
  have e : (lvsH 0 (qlv rs 0)).length = (qlv rs 0).length := by simp [lvsH]
  unfold ndl
  rw [List.length_append, e]
  omega
theorem lineOK.keep {g g' : GH} {t : Nat → ClassId} {w : GD} {aL : Nat} {f : Nat → Option Nat} {h : Nat} {qs : List (List RV)} (hL : lineOK g t w aL f h qs) (hk : gAt g aL (eNs t 300 f) → gAt g' aL (eNs t 300 f)) : lineOK g' t w aL f h qs := ⟨hk hL.1, hL.2⟩
set_option maxRecDepth 100000 in
set_option maxHeartbeats 1000000 in
theorem plant_loop {X : CX} {D : va_G} {t : Nat → ClassId} {A : Nat → Prop} {rm : Room} {g : GH} {T aW aR sA bA dA qF qE aL i : Nat} {ls nn ss : Int32} {w0 : GD} {rs : List RV} (O : Ok X bT_plantDraft 4 "TwinTrees" (zz D t A) rm) (hT : gAt g T (eTT aW aR sA dA qF qE aL ls)) (hS0 : SW t g w0 sA bA nn ss) (hLA : LA t g w0 sA bA aL) (hw6 : ∀ r ∈ rs, r.2.1.length ≤ 6) (hl3 : rs.length ≤ 300) (hsr : srt rs) (hrm : 5 ≤ rm.frames ∧ 160 ≤ rm.locals ∧ 3 * (news (vals w0.1 (stL w0.2.2.2.2.1)) (ndl rs)).length ≤ rm.cells ∧ 312 * (news (vals w0.1 (stL w0.2.2.2.2.1)) (ndl rs)).length ≤ rm.slots) (HK : ∀ (g1 : GH) (w : GD) (f : Nat → Option Nat), PW t g w0 g1 w sA bA aL nn ss (ndl rs) → lineOK g1 t w aL f (hgt rs) (qlv rs (hgt rs)) → J X 4 (zz D t A) g1 (3 * (news (vals w0.1 (stL w0.2.2.2.2.1)) (ndl rs)).length) (312 * (news (vals w0.1 (stL w0.2.2.2.2.1)) (ndl rs)).length) 30 [(0, .ref T), (1, .int (nI i))] []) : ∀ (n h : Nat) (V : List NV) (g1 : GH) (w : GD) (f : Nat → Option Nat), h + n = 5 → ndl rs = V ++ ndsT rs n h → hgt rs = hgtT rs n h → (∀ v ∈ V, v.1 ≤ h) → PW t g w0 g1 w sA bA aL nn ss V → lineOK g1 t w aL f h (qlv rs h) → J X 4 (zz D t A) g1 (3 * (news (vals w0.1 (stL w0.2.2.2.2.1)) V).length) (312 * (news (vals w0.1 (stL w0.2.2.2.2.1)) V).length) 7 [(0, .ref T), (1, .int (nI i)), (2, .int (nI (qlv rs h).length)), (3, .int (nI (h + 1)))] [] := by
  obtain ⟨⟨fL0, hl0⟩, hIL, hbL, hsL, hnL⟩ := id hLA
  have hTL : T ≠ aL := hT.ne hl0 (by simp)
  have hq3 : ∀ h, (qlv rs h).length ≤ 300 := by
    intro h
    unfold qlv
    split
    · simp
    · exact Nat.le_trans (runs_len_le _ _) hl3
  intro n
  induction n with
  | zero =>
    intro h V g1 w f hhn hnd hht hVh hP hL
    have hh : h = 5 := by omega
    subst hh
    have e1 : ndl rs = V := by rw [hnd]; exact List.append_nil _
    have e2 : hgt rs = 5 := hht
    rw [e1, e2] at HK
    refine j_iload_n O 3 dT_plantDraft_7 rfl rfl ?_
    refine j_iconst O (v := 5) dT_plantDraft_8 (by decide) ?_
    refine j_icmp_gt O 30 dT_plantDraft_9 (by decide) (fun c => ?_) (fun c => absurd (by decide) c)
    refine J.pk [0, 1] rfl ?_
    exact HK g1 w f hP hL
  | succ n ih =>
    intro h V g1 w f hhn hnd hht hVh hP hL
    have hkp := hP.2.2.2.2.2.2.2
    have hT1 := hkp.2 T _ (two_ne (hT.ne hS0.2.1 (by simp)) hTL) hT
    have hq3h := hq3 h
    refine j_iload_n O 3 dT_plantDraft_7 rfl rfl ?_
    refine j_iconst O (v := 5) dT_plantDraft_8 (by decide) ?_
    refine j_icmp_gt O 30 dT_plantDraft_9 (by decide) (fun c => absurd c (by show ¬ nI 5 < nI (h + 1); exact nI_nlt (by omega) (by omega))) (fun c => ?_)
    refine j_iload_n O 2 dT_plantDraft_12 rfl rfl ?_
    refine j_iconst O (v := 1) dT_plantDraft_13 (by decide) ?_
    refine j_icmp_le O 30 dT_plantDraft_14 (by decide) (fun c1 => ?_) (fun c1 => ?_)
    · have hle : (qlv rs h).length ≤ 1 := by
        rcases Nat.lt_or_ge 1 (qlv rs h).length with z | z
        · exact absurd c1 (nI_ge (a := 1) z (by omega))
        · exact z
      rw [ndsT, if_pos hle, List.append_nil] at hnd
      rw [hgtT, if_pos hle] at hht
      rw [hnd, hht] at HK
      refine J.pk [0, 1] rfl ?_
      exact HK g1 w f hP hL
    · have hgt1 : ¬ (qlv rs h).length ≤ 1 := fun z => c1 (nI_le (b := 1) z (by omega))
      rw [ndsT, if_neg hgt1] at hnd
      rw [hgtT, if_neg hgt1] at hht
      have hne : rs ≠ [] := fun z => hgt1 (by unfold qlv; rw [if_pos z]; simp)
      have eq0 : ∀ j, qlv rs j = runs (j + 1) rs := fun j => by unfold qlv; rw [if_neg hne]
      have hcnt : (news (vals w0.1 (stL w0.2.2.2.2.1)) (ndl rs)).length = (news (vals w0.1 (stL w0.2.2.2.2.1)) V).length + (news (vals w0.1 (stL w0.2.2.2.2.1)) (lvsH (h + 1) (runs (h + 2) rs))).length + (news (vals w0.1 (stL w0.2.2.2.2.1)) (ndsT rs n (h + 1))).length := by rw [hnd, news_app, news_app, List.length_append, List.length_append, eq0 (h + 1)]; show _ + (_ + _) = _ + _ + _; exact (Nat.add_assoc _ _ _).symm
      refine j_aload_n O 0 dT_plantDraft_17 rfl rfl ?_
      refine j_iload_n O 3 dT_plantDraft_18 rfl rfl ?_
      refine j_iload_n O 2 dT_plantDraft_19 rfl rfl ?_
      refine j_callV O [.int (nI (h + 1)), .int (nI (qlv rs h).length)] (c_groupNodes X.2.1 D t A g1 T aW aR sA bA dA qF qE aL h ls nn ss g w0 w rs (qlv rs h) V f hT hS0 hLA (eq0 h) hw6 hl3 hsr (by omega) hVh hP hL) hT1 rfl w230 w231 w4 w23 w232 2 rfl rfl rfl (by decide +kernel) ⟨(by show 4 + 1 ≤ _; omega), (by show 8 + (6 + 11) + 130 ≤ _; omega)⟩ rfl (Nat.le_of_ble_eq_true rfl) dT_plantDraft_20 ⟨(by show 3 * _ + 3 * _ ≤ _; omega), (by show 312 * _ + 312 * _ ≤ _; omega)⟩ (fun vw1 gw2 hpw3 => ?_)
      obtain ⟨rfl, w2, f2, hP2, hL2⟩ := hpw3
      refine j_istore_n O 2 [(2, .int (nI (runs (h + 2) rs).length)), (0, .ref T), (1, .int (nI i)), (3, .int (nI (h + 1)))] dT_plantDraft_23 rfl (by decide) rfl ?_
      refine j_iinc O (nI (h + 1 + 1)) [(3, .int (nI (h + 1 + 1))), (2, .int (nI (runs (h + 2) rs).length)), (0, .ref T), (1, .int (nI i))] dT_plantDraft_24 rfl (nI_1 _) (by decide) rfl ?_
      refine j_goto O 7 dT_plantDraft_27 (by decide) ?_
      refine J.pk [2, 3, 1, 0] rfl ?_
      have e3 := eq0 (h + 1)
      rw [← e3] at hP2 hL2 ⊢
      have hih := ih (h + 1) (V ++ lvsH (h + 1) (qlv rs (h + 1))) gw2 w2 f2 (by omega) (by rw [hnd, List.append_assoc]) hht (fun v hv => by
        rcases List.mem_append.mp hv with z | z
        · have := hVh v z; omega
        · obtain ⟨q, -, e⟩ := List.mem_map.mp z
          rw [← e]
          exact Nat.le_refl _) hP2 hL2
      refine J.widen ?_ ?_ hih
      · rw [news_app, List.length_append, e3]; omega
      · rw [news_app, List.length_append, e3]; omega
/-- a later world: what was there is there -/
def WX (g0 : GH) (w0 w : GD) : Prop := (∀ x u, w0.1 x = some u → w.1 x = some u ∧ w.2.1 x = w0.2.1 x ∧ muN (w0.2.2.1 x) (w.2.2.1 x)) ∧ (∀ x, w0.2.2.2.1 x → w.2.2.2.1 x) ∧ (∀ x, w.2.2.2.1 x → w0.2.2.2.1 x ∨ x ∉ g0.1) ∧ (∀ x u, w.1 x = some u → w0.1 x = some u ∨ (x ∉ g0.1 ∧ (w.2.2.1 x).2.2.1 = 0))
set_option maxRecDepth 100000 in
set_option maxHeartbeats 1000000 in
theorem c_plantDraft (l : Launch) (D : va_G) (t : Nat → ClassId) (A : Nat → Prop) (g : GH) (T aW aR sA bA dA qF bF qE aL i n0 s0 : Nat) (ls : Int32) (w0 : GD) (rs : List RV) (fR : Nat → Option Nat) (hT : gAt g T (eTT aW aR sA dA qF qE aL ls)) (hS0 : SW t g w0 sA bA (nI n0) (nI s0)) (hLA : LA t g w0 sA bA aL) (hw6 : ∀ r ∈ rs, r.2.1.length ≤ 6) (hl3 : rs.length ≤ 300) (hsr : srt rs) (hrl : rlI t g w0.2.2.2.1 qF bF rs) (hbI : bF ≠ aL) (hpd : w0.2.2.2.2.2 = []) (hR : gAt g aR (eNs t 6 fR)) (hIR : ¬ w0.2.2.2.1 aR) (hRL : aR ≠ aL) (hRb : aR ≠ bA) (hi6 : i < 6) (hb30 : s0 + szL (news (vals w0.1 (stL w0.2.2.2.2.1)) (ndl rs)) < 2 ^ 30) : Ct l yT_plantDraft sT_plantDraft { frames := 5, cells := 3 * (news (vals w0.1 (stL w0.2.2.2.2.1)) (ndl rs)).length, slots := 312 * (news (vals w0.1 (stL w0.2.2.2.2.1)) (ndl rs)).length, locals := 160 } (zz D t A) [.ref T, .int (nI i)] g (3 * (news (vals w0.1 (stL w0.2.2.2.2.1)) (ndl rs)).length) (312 * (news (vals w0.1 (stL w0.2.2.2.2.1)) (ndl rs)).length) (fun v g' => ∃ w', WX g w0 w' ∧ w'.2.2.2.2.2 = [] ∧ ((∀ b ∈ g.1, b ∈ g'.1) ∧ ∀ (x : Nat) (e : va_E), x ∉ [sA, bA, aL, aR] → w0.1 x = none → gAt g x e → gAt g' x e) ∧ ((60000 < s0 + szL (news (vals w0.1 (stL w0.2.2.2.2.1)) (ndl rs)) ∧ v = some (.int (-3)) ∧ SW t g' w' sA bA (nI n0) (nI s0) ∧ w'.2.2.2.2.1 = w0.2.2.2.2.1 ∧ gAt g' aR (eNs t 6 fR)) ∨ (s0 + szL (news (vals w0.1 (stL w0.2.2.2.2.1)) (ndl rs)) ≤ 60000 ∧ v = some (.int (nI (news (vals w0.1 (stL w0.2.2.2.2.1)) (ndl rs)).length)) ∧ SW t g' w' sA bA (nI (n0 + (news (vals w0.1 (stL w0.2.2.2.2.1)) (ndl rs)).length)) (nI (s0 + szL (news (vals w0.1 (stL w0.2.2.2.2.1)) (ndl rs)))) ∧ (vals w'.1 (stL w'.2.2.2.2.1)).Perm ((vals w0.1 (stL w0.2.2.2.2.1)) ++ news (vals w0.1 (stL w0.2.2.2.2.1)) (ndl rs)) ∧ (∃ pd, (stL w'.2.2.2.2.1).Perm (stL w0.2.2.2.2.1 ++ pd) ∧ pd.length = (news (vals w0.1 (stL w0.2.2.2.2.1)) (ndl rs)).length) ∧ ∃ r, gAt g' aR (eNs t 6 (va_up fR i (some r))) ∧ w'.1 r = some (hgt rs, rs) ∧ inS w'.2.2.2.2.1 r)) ∧ ∃ f, gAt g' aL (eNs t 300 f)) := by
  refine Ct.of (cc := bT_plantDraft) (maxL := 4) (ret := (some .int)) (by decide) (Nat.le_of_ble_eq_true rfl) (fun X hlX O M hNn => ?_)
  show J X 4 (zz D t A) g 0 0 0 [(0, .ref T), (1, .int (nI i))] []
  obtain ⟨⟨fL0, hl0⟩, hIL, hbL, hsL, hnL⟩ := id hLA
  obtain ⟨hqF, fF, hbF, hrI⟩ := hrl
  have hTL : T ≠ aL := hT.ne hl0 (by simp)
  have hin0 : ∀ a, inS w0.2.2.2.2.1 a → ∃ u, w0.1 a = some u := fun a ha => SW.in hS0 (Or.inl ha)
  have eq0 : lruns rs = qlv rs 0 := rfl
  have hc0 : (news (vals w0.1 (stL w0.2.2.2.2.1)) (lvs0 (lruns rs))).length ≤ (news (vals w0.1 (stL w0.2.2.2.2.1)) (ndl rs)).length := by
    show (news (vals w0.1 (stL w0.2.2.2.2.1)) (lvsH 0 (qlv rs 0))).length ≤ _
    unfold ndl
    exact news_mono
  refine j_aload_n O 0 dT_plantDraft_0 rfl rfl ?_
  refine j_callV O [] (c_groupRows X.2.1 D t A g T aW aR sA bA dA qF bF qE aL ls (nI n0) (nI s0) w0 rs fF hT hqF hbF hbI hrI hS0 hw6 hl3 hsr hLA hpd) hT rfl w227 w228 w3 w23 w229 0 rfl rfl rfl (by decide +kernel) ⟨(Nat.le_of_ble_eq_true rfl), (Nat.le_of_ble_eq_true rfl)⟩ rfl (Nat.le_of_ble_eq_true rfl) dT_plantDraft_1 ⟨(by show 0 + 3 * _ ≤ 3 * _; omega), (by show 0 + 312 * _ ≤ 312 * _; omega)⟩ (fun vw4 gw5 hpw6 => ?_)
  obtain ⟨rfl, w1, f1, hP1, hL1⟩ := hpw6
  refine j_istore_n O 2 [(2, .int (nI (lruns rs).length)), (0, .ref T), (1, .int (nI i))] dT_plantDraft_4 rfl (by decide) rfl ?_
  refine j_iconst O (v := 1) dT_plantDraft_5 (by decide) ?_
  refine j_istore_n O 3 [(3, .int 1), (2, .int (nI (lruns rs).length)), (0, .ref T), (1, .int (nI i))] dT_plantDraft_6 rfl (by decide) rfl ?_
  refine J.pk [2, 3, 1, 0] rfl ?_
  refine J.widen (k' := 3 * (news (vals w0.1 (stL w0.2.2.2.2.1)) (lvsH 0 (qlv rs 0))).length) (n' := 312 * (news (vals w0.1 (stL w0.2.2.2.2.1)) (lvsH 0 (qlv rs 0))).length) (by show 0 + 3 * _ ≤ 3 * _; rw [Nat.zero_add]; exact Nat.le_refl _) (by show 0 + 312 * _ ≤ 312 * _; rw [Nat.zero_add]; exact Nat.le_refl _) ?_
  refine plant_loop (i := i) O hT hS0 hLA hw6 hl3 hsr ⟨Nat.le_refl _, Nat.le_refl _, Nat.le_refl _, Nat.le_refl _⟩ (fun g2 w2 f2 hP2 hL2 => ?_) 5 0 (lvsH 0 (qlv rs 0)) gw5 w1 f1 rfl rfl rfl (fun v hv => by
    obtain ⟨q, -, e⟩ := List.mem_map.mp hv
    rw [← e]
    exact Nat.le_refl _) hP1 hL1
  have hkp := hP2.2.2.2.2.2.2.2
  have hT2 := hkp.2 T _ (two_ne (hT.ne hS0.2.1 (by simp)) hTL) hT
  have hR2 := hkp.2 aR _ (two_ne (hR.ne hS0.2.1 (by simp)) hRL) hR
  have hs2 := hP2.1.2.1
  have hsz2 : szS w2.1 w2.2.2.2.2.2 = szL (news (vals w0.1 (stL w0.2.2.2.2.1)) (ndl rs)) := by rw [szS_vals _ _ hP2.2.2.2.2.2.2.1, szL_rev]
  have hlen2 := hP2.len
  have h1 := hgtT_one rs 5 0 rfl
  have h1' : (qlv rs (hgt rs)).length = 1 := h1
  obtain ⟨r, hfr, hrv, hrin⟩ := hL2.2 0 (by omega)
  rw [qlv_one h1'] at hrv
  have hwx : WX g w0 w2 := ⟨fun x u hu => ⟨(hP2.2.2.1 x u hu).1, (hP2.2.2.1 x u hu).2.1, by rw [(hP2.2.2.1 x u hu).2.2]; exact ⟨rfl, rfl, rfl⟩⟩, hP2.2.2.2.1, hP2.2.2.2.2.1, hP2.2.2.2.2.2.1⟩
  refine j_aload_n O 0 dT_plantDraft_30 rfl rfl ?_
  refine j_get O uwT hT2 rfl 2 (by decide) w194 rfl rfl dT_plantDraft_31 ?_
  refine j_callV O [] (c_keepPending X.2.1 D t A g2 sA bA n0 s0 w2 hP2.1 (by rw [hsz2]; exact hb30)) hs2 rfl w184 w185 w186 w24 w187 0 rfl rfl rfl (by decide +kernel) ⟨(Nat.le_of_ble_eq_true rfl), (Nat.le_of_ble_eq_true rfl)⟩ rfl (Nat.le_of_ble_eq_true rfl) dT_plantDraft_34 ⟨Nat.le_refl _, Nat.le_refl _⟩ (fun vw7 gw8 hpw9 => ?_)
  have hkeep := hpw9
  rw [hsz2, hlen2] at hkeep
  have hno2 : ∀ x, x ∈ g.1 → w0.1 x = none → w2.1 x = none := fun x hx h0 => by
    cases hc : w2.1 x with
    | none => rfl
    | some u =>
      rcases hP2.2.2.2.2.2.1 x u hc with z | z
      · rw [h0] at z; cases z
      · exact absurd hx z.1
  have hcom : ∀ (w3 : GD), KN [sA, bA] w2.1 g2 gw8 → (∀ b ∈ g.1, b ∈ gw8.1) ∧ ∀ (x : Nat) (e : va_E), x ∉ [sA, bA, aL] → w0.1 x = none → gAt g x e → gAt gw8 x e := fun w3 hk => ⟨fun b hb => hk.1 b (hkp.1 b hb), fun x e n1 n2 he => hk.2 x e (fun z => n1 (by simp only [List.mem_cons, List.not_mem_nil, or_false] at z ⊢; rcases z with z | z; exact Or.inl z; exact Or.inr (Or.inl z))) (hno2 x he.1 n2) (hkp.2 x e (fun z => n1 (by simp only [List.mem_cons, List.not_mem_nil, or_false] at z ⊢; rcases z with z | z; exact Or.inl z; exact Or.inr (Or.inr z))) he)⟩
  have hTn : w0.1 T = none := hS0.1.no hT (fun _ _ _ _ _ => by simp)
  have hRn : w0.1 aR = none := hS0.1.no hR (fun _ _ _ _ _ => by simp)
  rcases hkeep with ⟨hbig, rfl, hS3, hk3⟩ | ⟨hfit, rfl, mu3, ch3, hS3, hm3, hp3, hk3⟩
  · obtain ⟨hd3, hc3⟩ := hcom w2 hk3
    have hL3 := hk3.2 aL _ (two_ne hsL.symm hbL.symm) (hno2 aL hl0.1 hnL) hL2.1
    have hR3 := hc3 aR _ (by simp only [List.mem_cons, List.not_mem_nil, or_false]; rintro (z | z | z); exact (hR.ne hS0.2.1 (by simp)) z; exact hRb z; exact hRL z) hRn hR
    refine j_istore_n O 3 [(3, .int (-3)), (0, .ref T), (1, .int (nI i))] dT_plantDraft_37 rfl (by decide) rfl ?_
    refine j_iload_n O 3 dT_plantDraft_38 rfl rfl ?_
    refine j_bipush O (v := -3) dT_plantDraft_39 (by decide) ?_
    refine j_icmp_eq O 56 dT_plantDraft_41 (by decide) (fun c => ?_) (fun c => absurd rfl c)
    refine j_iload_n O 3 dT_plantDraft_56 rfl rfl ?_
    exact j_iret O M (Nat.le_refl _) (Nat.le_refl _) ⟨(w2.1, w2.2.1, w2.2.2.1, w2.2.2.2.1, w2.2.2.2.2.1, []), hwx, rfl, ⟨hd3, fun x e n1 n2 he => hc3 x e (fun z => n1 (by simp only [List.mem_cons, List.not_mem_nil, or_false] at z ⊢; rcases z with z | z | z; exact Or.inl z; exact Or.inr (Or.inl z); exact Or.inr (Or.inr (Or.inl z)))) n2 he⟩, Or.inl ⟨hbig, rfl, hS3, hP2.2.1, hR3⟩, f2, hL3⟩ dT_plantDraft_57
  · obtain ⟨hd3, hc3⟩ := hcom w2 hk3
    have hL3 := hk3.2 aL _ (two_ne hsL.symm hbL.symm) (hno2 aL hl0.1 hnL) hL2.1
    have hR3 := hc3 aR _ (by simp only [List.mem_cons, List.not_mem_nil, or_false]; rintro (z | z | z); exact (hR.ne hS0.2.1 (by simp)) z; exact hRb z; exact hRL z) hRn hR
    have hT3 := hc3 T _ (by simp only [List.mem_cons, List.not_mem_nil, or_false]; rintro (z | z | z); exact (hT.ne hS0.2.1 (by simp)) z; exact (hT.ne hS0.2.2.1.choose_spec.1 (by simp)) z; exact hTL z) hTn hT
    obtain ⟨rra, rba, hrc⟩ := hS3.1.cell (show (w2.1, w2.2.1, mu3, w2.2.2.2.1, ch3, ([] : List Nat)).1 r = some _ from hrv)
    have hsmall : (news (vals w0.1 (stL w0.2.2.2.2.1)) (ndl rs)).length < 2 ^ 30 := by
      have := ndl_len rs hl3
      have h2 : (news (vals w0.1 (stL w0.2.2.2.2.1)) (ndl rs)).length ≤ (ndl rs).length := List.length_filter_le _ _
      omega
    have hne3 : ¬ nI (news (vals w0.1 (stL w0.2.2.2.2.1)) (ndl rs)).length = (-3) := by
      intro z
      have := congrArg Int32.toInt z
      rw [nI_toInt (by omega)] at this
      have e3 : (-3 : Int32).toInt = -3 := by decide
      omega
    have kp0 : Kp [aR] gw8 gw8 := Kp.rf
    refine j_istore_n O 3 [(3, .int (nI (news (vals w0.1 (stL w0.2.2.2.2.1)) (ndl rs)).length)), (0, .ref T), (1, .int (nI i))] dT_plantDraft_37 rfl (by decide) rfl ?_
    refine j_iload_n O 3 dT_plantDraft_38 rfl rfl ?_
    refine j_bipush O (v := -3) dT_plantDraft_39 (by decide) ?_
    refine j_icmp_eq O 56 dT_plantDraft_41 (by decide) (fun c => absurd c hne3) (fun c => ?_)
    refine j_aload_n O 0 dT_plantDraft_44 rfl rfl ?_
    refine j_get O uwT hT3 rfl 1 (by decide) w193 rfl rfl dT_plantDraft_45 ?_
    refine j_iload_n O 1 dT_plantDraft_48 rfl rfl ?_
    refine j_aload_n O 0 dT_plantDraft_49 rfl rfl ?_
    refine j_get O uwT hT3 rfl 6 (by decide) w198 rfl rfl dT_plantDraft_50 ?_
    refine j_iconst O (v := 0) dT_plantDraft_53 (by decide) ?_
    refine j_aald (i := 0) O hL3 2 rfl (by decide) (by decide) dT_plantDraft_54 ?_
    refine j_some r hfr ?_
    refine j_aast O hR3 2 rfl hrc rfl hi6 (by decide) dT_plantDraft_55 (fun gw10 ew11 => ?_)
    have hw12 := gUp_ne (e' := .inl (t 2, 6, .inr (.inr (.inr (.inr (va_up fR i (some r))))))) hT3 (hT3.ne hR3 (by simp))
    rw [← ew11] at hw12
    have hw13 := gUp_ne (e' := .inl (t 2, 6, .inr (.inr (.inr (.inr (va_up fR i (some r))))))) hL3 hRL.symm
    rw [← ew11] at hw13
    have hw14 := gUp_self (e' := .inl (t 2, 6, .inr (.inr (.inr (.inr (va_up fR i (some r))))))) hR3
    rw [← ew11] at hw14
    have kpw15 := kp0.up (a := aR) (e := .inl (t 2, 6, .inr (.inr (.inr (.inr (va_up fR i (some r))))))) (by simp)
    rw [← ew11] at kpw15
    refine j_iload_n O 3 dT_plantDraft_56 rfl rfl ?_
    have hS4 : SW t gw10 (w2.1, w2.2.1, mu3, w2.2.2.2.1, ch3, []) sA bA (nI (n0 + (news (vals w0.1 (stL w0.2.2.2.2.1)) (ndl rs)).length)) (nI (s0 + szL (news (vals w0.1 (stL w0.2.2.2.2.1)) (ndl rs)))) := hS3.kp kpw15.1 (fun y e hy he => kpw15.2 y e (one_ne (fun z => by
      subst z
      rcases hy with hy | ⟨u, hu⟩ | hy | hy
      · rcases hP2.2.2.2.2.1 y hy with z | z
        · exact hIR z
        · exact z hR.1
      · have hu : w2.1 y = some u := hu
        rw [hno2 y hR.1 hRn] at hu; cases hu
      · exact (hR.ne hS0.2.1 (by simp)) hy
      · exact hRb hy)) he)
    have hwx3 : WX g w0 (w2.1, w2.2.1, mu3, w2.2.2.2.1, ch3, []) := ⟨fun x u hu => ⟨(hwx.1 x u hu).1, (hwx.1 x u hu).2.1, (hm3 x).1.trans (hwx.1 x u hu).2.2.1, (hm3 x).2.1.trans (hwx.1 x u hu).2.2.2.1, (hm3 x).2.2.trans (hwx.1 x u hu).2.2.2.2⟩, hwx.2.1, hwx.2.2.1, fun x u hu => (hwx.2.2.2 x u hu).imp id (fun z => ⟨z.1, (hm3 x).2.2.trans z.2⟩)⟩
    have hvp : (vals w2.1 (stL ch3)).Perm ((vals w0.1 (stL w0.2.2.2.2.1)) ++ news (vals w0.1 (stL w0.2.2.2.2.1)) (ndl rs)) := by
      unfold vals
      refine (hp3.filterMap w2.1).trans ?_
      rw [List.filterMap_append, hP2.2.1]
      refine List.Perm.append ?_ ?_
      · rw [show (stL w0.2.2.2.2.1).filterMap w2.1 = (vals w0.1 (stL w0.2.2.2.2.1)) from vals_congr _ (fun a ha => by
          obtain ⟨u, hu⟩ := hin0 a (stL_in.mp ha)
          rw [hu]
          exact (hP2.2.2.1 a u hu).1)]
        exact List.Perm.refl _
      · rw [show w2.2.2.2.2.2.filterMap w2.1 = _ from vals_of _ _ hP2.2.2.2.2.2.2.1]
        exact List.reverse_perm _
    have hrS : inS ch3 r := by
      rw [← stL_in, hp3.mem_iff, List.mem_append, stL_in]
      exact hrin
    exact j_iret O M (Nat.le_refl _) (Nat.le_refl _) ⟨(w2.1, w2.2.1, mu3, w2.2.2.2.1, ch3, []), hwx3, rfl, ⟨fun b hb => kpw15.1 b (hd3 b hb), fun x e n1 n2 he => kpw15.2 x e (one_ne (fun z => n1 (by rw [z]; simp))) (hc3 x e (fun z => n1 (by simp only [List.mem_cons, List.not_mem_nil, or_false] at z ⊢; rcases z with z | z | z; exact Or.inl z; exact Or.inr (Or.inl z); exact Or.inr (Or.inr (Or.inl z)))) n2 he)⟩, Or.inr ⟨hfit, rfl, hS4, hvp, ⟨w2.2.2.2.2.2, by rw [← hP2.2.1]; exact hp3, hlen2⟩, r, hw14, hrv, hrS⟩, f2, hw13⟩ dT_plantDraft_57
