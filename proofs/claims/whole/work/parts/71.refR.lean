/-! the reference's world -/
def RW (t : Nat → ClassId) (g : GH) (u : Nat → Nat) (s : AS) (V : List NV) : Prop := RT t g u s.1 ∧ RD t g u s.2.2 ∧ SB t g u (nI s.2.2.length) V ∧ V.Perm s.2.1 ∧ (∀ i j, i < 32 → j < 32 → i ≠ j → u i ≠ u j)
/-- what is sure of the abstract state -/
def aOK (s : AS) : Prop := (∀ i, i < 6 → tOK (s.1 i)) ∧ (∀ i, i < 6 → ∀ r ∈ (s.1 i).2, rowC r) ∧ sOK s
theorem RD.keep {t : Nat → ClassId} {g g' : GH} {u : Nat → Nat} {ds : List (Int32 × Int32 × Int32)} (h : RD t g u ds) (hk : ∀ k e, (4 ≤ k ∧ k < 9) → gAt g (u k) e → gAt g' (u k) e) : RD t g' u ds := by
  obtain ⟨fk, fs, fu, a, b, c, d⟩ := h
  exact ⟨fk, fs, fu, hk _ _ (by omega) a, hk _ _ (by omega) b, hk _ _ (by omega) c, d⟩
theorem news_prm {V S : List NV} (h : V.Perm S) (N : List NV) : news V N = news S N := by
  unfold news
  apply List.filter_congr
  intro v _
  rw [decide_eq_decide]
  exact not_congr h.mem_iff
theorem szL_prm {V S : List NV} (h : V.Perm S) : szL V = szL S := by
  unfold szL
  exact (h.map _).sum_nat
theorem va_up_up {α : Type} (f : Nat → α) (i : Nat) (x y : α) : va_up (va_up f i x) i y = va_up f i y := by
  funext k
  by_cases z : k = i
  · subst z; rw [va_up_self, va_up_self]
  · rw [va_up_ne _ _ z, va_up_ne _ _ z, va_up_ne _ _ z]
theorem va_up_same {α : Type} (f : Nat → α) (i : Nat) : va_up f i (f i) = f := by
  funext k
  by_cases z : k = i
  · subst z; rw [va_up_self]
  · rw [va_up_ne _ _ z]
theorem plant_rw {t : Nat → ClassId} {g g' : GH} {u : Nat → Nat} {s : AS} {V0 : List NV} {i w : Nat} {rs : List RV} {v : Option Value} (hp : V0.Perm s.2.1) (hD : RD t g u s.2.2) (hne : ∀ i j, i < 32 → j < 32 → i ≠ j → u i ≠ u j) (hn : s.2.1.length + (news s.2.1 (ndl rs)).length ≤ 60000)
    (h : ((v = some (.int (nI (news V0 (ndl rs)).length)) ∧ szL V0 + szL (news V0 (ndl rs)) ≤ 60000 ∧ RT t g' u (va_up s.1 i (w, rs)) ∧ SB t g' u (nI s.2.2.length) (V0 ++ news V0 (ndl rs))) ∨ (v = some (.int (-3)) ∧ nofitA V0 (ndl rs) ∧ RT t g' u (va_up (va_up s.1 i (w, rs)) i ((s.1 i).1, (s.1 i).2)) ∧ SB t g' u (nI s.2.2.length) V0)) ∧ (∀ k e, (4 ≤ k ∧ k < 9) → gAt g (u k) e → gAt g' (u k) e)) :
    v = some (.int (aPlant s i w rs).1) ∧ ∃ V', RW t g' u (aPlant s i w rs).2 V' := by
  obtain ⟨h, hk⟩ := h
  have en := news_prm hp (ndl rs)
  have es := szL_prm hp
  rcases h with ⟨h1, h2, h3, h4⟩ | ⟨h1, h2, h3, h4⟩
  · have e : aPlant s i w rs = (nI (news s.2.1 (ndl rs)).length, (va_up s.1 i (w, rs), s.2.1 ++ news s.2.1 (ndl rs), s.2.2)) := by
      unfold aPlant
      rw [if_pos (by rw [← es, ← en]; exact h2)]
    rw [e]
    refine ⟨by rw [h1, en], V0 ++ news V0 (ndl rs), h3, hD.keep hk, h4, ?_, hne⟩
    rw [en]
    exact hp.append_right _
  · have e : aPlant s i w rs = (-3, s) := by
      unfold aPlant
      rw [if_neg]
      intro z
      rw [← es, ← en] at z
      rw [← hp.length_eq, ← en] at hn
      unfold nofitA at h2
      omega
    rw [e]
    rw [va_up_up] at h3
    have h5 : RT t g' u (va_up s.1 i (s.1 i)) := h3
    rw [va_up_same] at h5
    exact ⟨h1, V0, h5, hD.keep hk, h4, hp, hne⟩
set_option maxRecDepth 100000 in
set_option maxHeartbeats 1000000 in
theorem c_M_make (l : Launch) (D : va_G) (t : Nat → ClassId) (A : Nat → Prop) (g : GH) (u : Nat → Nat) (s : AS) (V : List NV) (x y : Int32) (hW : RW t g u s V) (hA : aOK s) (hn : s.2.1.length + 12 ≤ 60000) : Ct l yM_make sM_make { frames := 5, cells := 0, slots := 0, locals := 280 } (zz D t A) [.ref (u 19), .int x, .int y] g 0 0 (fun v g' => v = some (.int (aMake s x y).1) ∧ ∃ V', RW t g' u (aMake s x y).2 V') := by
  refine Ct.of (cc := bM_make) (maxL := 3) (ret := (some .int)) (by decide) (Nat.le_of_ble_eq_true rfl) (fun X hlX O M hNn => ?_)
  show J X 3 (zz D t A) g 0 0 0 [(0, .ref (u 19)), (1, .int x), (2, .int y)] []
  obtain ⟨hRT, hD, ⟨⟨oc, om, lm, mm, ta, co, si, hM⟩, ⟨fv, hv⟩, ⟨fl, hl⟩, ⟨fm, hm⟩, ⟨fo, ho⟩, ⟨fp, hp⟩, hR, hV⟩, hpm, hne⟩ := id hW
  obtain ⟨htb, hrc, hso⟩ := id hA
  refine j_iload_n O 1 dM_make_0 rfl rfl ?_
  refine j_iconst O (v := 0) dM_make_1 (by decide) ?_
  refine j_iconst O (v := 5) dM_make_2 (by decide) ?_
  refine j_callS O [.int x, .int 0, .int 5] (c_M_in X.2.1 D t A g x 0 5) w540 w541 w28 w542 3 rfl rfl rfl (by decide +kernel) ⟨(Nat.le_of_ble_eq_true rfl), (Nat.le_of_ble_eq_true rfl)⟩ rfl (Nat.le_of_ble_eq_true rfl) dM_make_3 ⟨(Nat.le_of_ble_eq_true rfl), (Nat.le_of_ble_eq_true rfl)⟩ (fun vw187 gw188 hpw189 => ?_)
  obtain ⟨rfl, hgw190⟩ := hpw189
  have hgw190 := hgw190.symm
  subst hgw190
  refine j_if_eq O 19 dM_make_6 (by decide) (fun c1 => ?_) (fun c1 => ?_)
  · have hx0 : ¬ (0 ≤ x ∧ x ≤ 5) := fun z => by rw [if_pos z] at c1; exact absurd c1 (by decide)
    have er : aMake s x y = (-1, s) := if_neg (fun z => hx0 ((in5 x).mpr z.1))
    rw [er] at M
    refine j_iconst O (v := -1) dM_make_19 (by decide) ?_
    exact j_iret O M (Nat.le_of_ble_eq_true rfl) (Nat.le_of_ble_eq_true rfl) ⟨rfl, V, hW⟩ dM_make_20
  · have hx0 : 0 ≤ x ∧ x ≤ 5 := by
      by_cases z : 0 ≤ x ∧ x ≤ 5
      · exact z
      · rw [if_neg z] at c1; exact absurd rfl c1
    have hx := (in5 _).mp hx0
    obtain ⟨i, i6, rfl⟩ := tb_of hx
    have ei : ix (nI i) = i := ix_nI (by omega)
    refine j_iload_n O 2 dM_make_9 rfl rfl ?_
    refine j_iconst O (v := 1) dM_make_10 (by decide) ?_
    refine j_bipush O (v := 6) dM_make_11 (by decide) ?_
    refine j_callS O [.int y, .int 1, .int 6] (c_M_in X.2.1 D t A g y 1 6) w540 w541 w28 w542 3 rfl rfl rfl (by decide +kernel) ⟨(Nat.le_of_ble_eq_true rfl), (Nat.le_of_ble_eq_true rfl)⟩ rfl (Nat.le_of_ble_eq_true rfl) dM_make_13 ⟨(Nat.le_of_ble_eq_true rfl), (Nat.le_of_ble_eq_true rfl)⟩ (fun vw191 gw192 hpw193 => ?_)
    obtain ⟨rfl, hgw194⟩ := hpw193
    have hgw194 := hgw194.symm
    subst hgw194
    refine j_if_ne O 21 dM_make_16 (by decide) (fun c2 => ?_) (fun c2 => ?_)
    · have hy0 : 1 ≤ y ∧ y ≤ 6 := by
        by_cases z : 1 ≤ y ∧ y ≤ 6
        · exact z
        · rw [if_neg z] at c2; exact absurd rfl c2
      have y1 := Int32.le_iff_toInt_le.mp hy0.1
      have y6 := Int32.le_iff_toInt_le.mp hy0.2
      have e1 : (1 : Int32).toInt = 1 := by decide
      have e6 : (6 : Int32).toInt = 6 := by decide
      obtain ⟨j, j31, rfl⟩ : ∃ j, j < 2 ^ 31 ∧ y = nI j := ⟨ix y, by have := Int32.toInt_lt y; unfold ix; omega, of_le0 (Int32.le_iff_toInt_le.mpr (by show (0 : Int) ≤ _; omega))⟩
      have ej : ix (nI j) = j := ix_nI j31
      rw [nI_toInt j31] at y1 y6
      have er : aMake s (nI i) (nI j) = aPlant s i j [] := by
        unfold aMake
        rw [if_pos ⟨hx, hy0⟩, ei, ej]
      rw [er] at M
      refine j_aload_n O 0 dM_make_21 rfl rfl ?_
      refine j_iload_n O 1 dM_make_22 rfl rfl ?_
      refine j_callV O [.int (nI i)] (c_M_remember X.2.1 D t A g u oc om (nI s.2.2.length) (nI V.length) (nI (szL V)) lm mm ta co si s.1 i fo fp hM hRT i6 (htb i i6) ho hp hne) hM rfl w543 w544 w15 w28 w545 1 rfl rfl rfl (by decide +kernel) ⟨(Nat.le_of_ble_eq_true rfl), (Nat.le_of_ble_eq_true rfl)⟩ rfl (Nat.le_of_ble_eq_true rfl) dM_make_23 ⟨(Nat.le_of_ble_eq_true rfl), (Nat.le_of_ble_eq_true rfl)⟩ (fun vw195 gw196 hpw197 => ?_)
      obtain ⟨rfl, hM1, ⟨fo1, fp1, ho1, hp1, hold⟩, kpr⟩ := hpw197
      have hk1 : ∀ k e, k < 32 → k ≠ 19 → k ≠ 4 → k ≠ 5 → gAt g (u k) e → gAt gw196 (u k) e := fun k e h0 h1 h2 h3 q => kpr.2 _ _ (three_ne (hne _ _ h0 (by omega) h1) (hne _ _ h0 (by omega) h2) (hne _ _ h0 (by omega) h3)) q
      have hRT1 : RT t gw196 u s.1 := hRT.keep (fun k hk e q => hk1 k e (by omega) (by omega) (by omega) (by omega) q)
      have hD1 : RD t gw196 u s.2.2 := by
        obtain ⟨d1, d2, d3, d4, d5, d6, d7⟩ := hD
        exact ⟨d1, d2, d3, hk1 _ _ (by omega) (by omega) (by omega) (by omega) d4, hk1 _ _ (by omega) (by omega) (by omega) (by omega) d5, hk1 _ _ (by omega) (by omega) (by omega) (by omega) d6, d7⟩
      have hR1 : RS t gw196 u (encL V) := hR.keep (fun k e k1 k2 q => hk1 k e (by omega) (by omega) (by omega) (by omega) q)
      have hv1 := hk1 16 _ (by omega) (by omega) (by omega) (by omega) hv
      have hl1 := hk1 17 _ (by omega) (by omega) (by omega) (by omega) hl
      have hm1 := hk1 18 _ (by omega) (by omega) (by omega) (by omega) hm
      obtain ⟨⟨fC, hC, hCv⟩, ⟨fN, hNn0, hNv⟩, ⟨fK, hK, hKv⟩, ⟨fL, hL, hLv⟩, hrow⟩ := id hRT1
      obtain ⟨fk, fc, hk, hc, htab⟩ := hrow i i6
      have hKi := hKv i i6
      have hLi := hLv i i6
      have hNi := hNv i i6
      have hCi := hCv i i6
      have kp0 : Kp [u 0, u 1, u (20 + i), u (26 + i)] gw196 gw196 := Kp.rf
      refine j_aload_n O 0 dM_make_26 rfl rfl ?_
      refine j_get O uwM hM1 rfl 0 (by decide) w447 rfl rfl dM_make_27 ?_
      refine j_iload_n O 1 dM_make_30 rfl rfl ?_
      refine j_iload_n O 2 dM_make_31 rfl rfl ?_
      refine j_iast O hC 0 rfl i6 (by decide) dM_make_32 (fun gw198 ew199 => ?_)
      have hw200 := gUp_ne (e' := .inl (t 0, 6, .inl (upd fC i (nI j)))) hM1 (hM1.ne hC (by simp))
      rw [← ew199] at hw200
      have hw201 := gUp_ne (e' := .inl (t 0, 6, .inl (upd fC i (nI j)))) hNn0 (Ne.symm (hne 0 1 (by omega) (by omega) (by omega)))
      rw [← ew199] at hw201
      have hw202 := gUp_ne (e' := .inl (t 0, 6, .inl (upd fC i (nI j)))) hK (hK.ne hC (by simp))
      rw [← ew199] at hw202
      have hw203 := gUp_ne (e' := .inl (t 0, 6, .inl (upd fC i (nI j)))) hL (hL.ne hC (by simp))
      rw [← ew199] at hw203
      have hw204 := gUp_ne (e' := .inl (t 0, 6, .inl (upd fC i (nI j)))) hk (hk.ne hC (by simp))
      rw [← ew199] at hw204
      have hw205 := gUp_ne (e' := .inl (t 0, 6, .inl (upd fC i (nI j)))) hc (hc.ne hC (by simp))
      rw [← ew199] at hw205
      have hw206 := gUp_self (e' := .inl (t 0, 6, .inl (upd fC i (nI j)))) hC
      rw [← ew199] at hw206
      have kpw207 := kp0.up (a := (u 0)) (e := .inl (t 0, 6, .inl (upd fC i (nI j)))) (by simp)
      rw [← ew199] at kpw207
      refine j_aload_n O 0 dM_make_33 rfl rfl ?_
      refine j_get O uwM hw200 rfl 1 (by decide) w448 rfl rfl dM_make_34 ?_
      refine j_iload_n O 1 dM_make_37 rfl rfl ?_
      refine j_iconst O (v := 0) dM_make_38 (by decide) ?_
      refine j_iast O hw201 0 rfl i6 (by decide) dM_make_39 (fun gw208 ew209 => ?_)
      have hw210 := gUp_ne (e' := .inl (t 0, 6, .inl (upd fN i 0))) hw200 (hw200.ne hw201 (by simp))
      rw [← ew209] at hw210
      have hw211 := gUp_ne (e' := .inl (t 0, 6, .inl (upd fN i 0))) hw206 (hne 0 1 (by omega) (by omega) (by omega))
      rw [← ew209] at hw211
      have hw212 := gUp_ne (e' := .inl (t 0, 6, .inl (upd fN i 0))) hw202 (hw202.ne hw201 (by simp))
      rw [← ew209] at hw212
      have hw213 := gUp_ne (e' := .inl (t 0, 6, .inl (upd fN i 0))) hw203 (hw203.ne hw201 (by simp))
      rw [← ew209] at hw213
      have hw214 := gUp_ne (e' := .inl (t 0, 6, .inl (upd fN i 0))) hw204 (hw204.ne hw201 (by simp))
      rw [← ew209] at hw214
      have hw215 := gUp_ne (e' := .inl (t 0, 6, .inl (upd fN i 0))) hw205 (hw205.ne hw201 (by simp))
      rw [← ew209] at hw215
      have hw216 := gUp_self (e' := .inl (t 0, 6, .inl (upd fN i 0))) hw201
      rw [← ew209] at hw216
      have kpw217 := kpw207.up (a := (u 1)) (e := .inl (t 0, 6, .inl (upd fN i 0))) (by simp)
      rw [← ew209] at kpw217
      have hRT2 : RT t gw208 u (va_up s.1 i (j, [])) := by
        refine ⟨⟨_, hw211, fun a ha => ?_⟩, ⟨_, hw216, fun a ha => ?_⟩, ⟨_, hw212, hKv⟩, ⟨_, hw213, hLv⟩, fun a ha => ?_⟩
        · by_cases z : a = i
          · subst z; rw [pk_us, va_up_self]
          · rw [pk_un (by omega), va_up_ne _ _ z]; exact hCv a ha
        · by_cases z : a = i
          · subst z; rw [pk_us, va_up_self]; rfl
          · rw [pk_un (by omega), va_up_ne _ _ z]; exact hNv a ha
        · by_cases z : a = i
          · subst z; rw [va_up_self]; exact ⟨_, _, hw214, hw215, fun r hr => absurd hr (Nat.not_lt_zero _)⟩
          · rw [va_up_ne _ _ z]
            obtain ⟨f1, f2, b1, b2, b3⟩ := hrow a ha
            exact ⟨f1, f2, kpw217.2 _ _ (un4 hne (by omega) i6 (by omega) (by omega) (by omega) (by omega)) b1, kpw217.2 _ _ (un4 hne (by omega) i6 (by omega) (by omega) (by omega) (by omega)) b2, b3⟩
      have htk2 : tOK (j, []) := ⟨by omega, by omega, fun r hr => (by cases hr), List.Pairwise.nil, by simp⟩
      have hrc2 : ∀ r ∈ ([] : List RV), rowC r := fun r hr => (by cases hr)
      have hn1 : (news s.2.1 (ndl [])).length ≤ 12 := Nat.le_trans (List.length_filter_le _ _) (by decide)
      refine j_aload_n O 0 dM_make_40 rfl rfl ?_
      refine j_iload_n O 1 dM_make_41 rfl rfl ?_
      have hkz : ∀ k e, k < 32 → k ≠ 0 → k ≠ 1 → k < 20 → gAt gw196 (u k) e → gAt gw208 (u k) e := fun k e h0 h1 h2 h3 q => kpw217.2 _ _ (un4 hne h0 i6 h1 h2 (by omega) (by omega)) q
      have hR2 : RS t gw208 u (encL V) := hR1.keep (fun k e k1 k2 q => hkz k e (by omega) (by omega) (by omega) (by omega) q)
      have hv2 := hkz 16 _ (by omega) (by omega) (by omega) (by omega) hv1
      have hl2 := hkz 17 _ (by omega) (by omega) (by omega) (by omega) hl1
      have hm2 := hkz 18 _ (by omega) (by omega) (by omega) (by omega) hm1
      have ho2 := hkz 4 _ (by omega) (by omega) (by omega) (by omega) ho1
      have hp2 := hkz 5 _ (by omega) (by omega) (by omega) (by omega) hp1
      have hD2 : RD t gw208 u s.2.2 := hD1.keep (fun k e hk q => hkz k e (by omega) (by omega) (by omega) (by omega) q)
      refine j_callV O [.int (nI i)] (c_M_write X.2.1 D t A gw208 u (nI s.2.2.length) lm mm ta co si i j (s.1 i).1 (va_up s.1 i (j, [])) ([]) (s.1 i).2 V fv fl fo1 fm fp1 hw210 hv2 hl2 hm2 ho2 hp2 hR2 hV hRT2 i6 (va_up_self _ _ _) htk2 (htb i i6) hold hrc2 hne) hw210 rfl w546 w547 w16 w28 w548 1 rfl rfl rfl (by decide +kernel) ⟨(Nat.le_of_ble_eq_true rfl), (Nat.le_of_ble_eq_true rfl)⟩ rfl (Nat.le_of_ble_eq_true rfl) dM_make_42 ⟨(Nat.le_of_ble_eq_true rfl), (Nat.le_of_ble_eq_true rfl)⟩ (fun vw218 gw219 hpw220 => ?_)
      have hpost := hpw220
      obtain ⟨ev, hRW⟩ := plant_rw hpm hD2 hne (by omega) hpost
      rw [ev]
      exact j_iret O M (Nat.le_of_ble_eq_true rfl) (Nat.le_of_ble_eq_true rfl) ⟨rfl, hRW⟩ dM_make_45
    · have hy0 : ¬ (1 ≤ y ∧ y ≤ 6) := fun z => by rw [if_pos z] at c2; exact absurd c2 (by decide)
      have er : aMake s (nI i) y = (-1, s) := if_neg (fun z => hy0 z.2)
      rw [er] at M
      refine j_iconst O (v := -1) dM_make_19 (by decide) ?_
      exact j_iret O M (Nat.le_of_ble_eq_true rfl) (Nat.le_of_ble_eq_true rfl) ⟨rfl, V, hW⟩ dM_make_20
