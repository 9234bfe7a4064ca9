theorem gth_ex {t : Nat → ClassId} {g : GH} {w : GD} (hN : NI t g w) {ha a : Nat} {ra : List RV} (hva : w.1 a = some (ha, ra)) {mu : Nat → MU} {s : Int32} {L : List Nat} (hP : ∀ x ∈ dsc w.2.1 ha a, ((mu x).2.2.1 = s ↔ x ∈ L)) (hL : ∀ x ∈ L, ∀ b ∈ w.2.1 x, b ∈ L) : ∃ P : RV → Bool, gth w.1 w.2.1 mu s ha a = ra.filter P :=
  ⟨_, gth_flt hN hva hP (fun x hx hs b hb => (hP b (dsc_kids hN ha a ra hva x hx b hb)).mpr (hL x ((hP x hx).mp hs) b hb))⟩
theorem rlI.keep {t : Nat → ClassId} {g g' : GH} {I : Nat → Prop} {q b : Nat} {ds : List RV} (h : rlI t g I q b ds) (h1 : ∀ e, gAt g q e → gAt g' q e) (h2 : ∀ e, gAt g b e → gAt g' b e) (h3 : ∀ x e, I x → gAt g x e → gAt g' x e) : rlI t g' I q b ds := by
  obtain ⟨a1, f, a2, a3⟩ := h
  exact ⟨h1 _ a1, f, h2 _ a2, a3.keep (fun _ z => z) h3⟩
theorem vals_app (N : NM) (L L' : List Nat) : vals N (L ++ L') = vals N L ++ vals N L' := by simp [vals]
theorem vals_mem {N : NM} {L : List Nat} {v : NV} : v ∈ vals N L ↔ ∃ a ∈ L, N a = some v := by simp [vals]
theorem vals_full {N : NM} : ∀ {L : List Nat}, (∀ a ∈ L, ∃ u, N a = some u) → (vals N L).length = L.length ∧ szS N L = szL (vals N L)
  | [], _ => ⟨rfl, rfl⟩
  | a :: L, h => by
    obtain ⟨u, hu⟩ := h a List.mem_cons_self
    obtain ⟨i1, i2⟩ := vals_full (fun b hb => h b (List.mem_cons_of_mem _ hb))
    have e : vals N (a :: L) = u :: vals N L := by simp [vals, hu]
    rw [e, szS_cons, i2]
    refine ⟨by simp [i1], ?_⟩
    have : szV N a = nsz u.1 u.2 := by unfold szV; rw [hu]
    rw [this]
    simp [szL]
theorem szL_perm {V V' : List NV} (h : V.Perm V') : szL V = szL V' := by
  unfold szL
  exact (h.map _).sum_nat
theorem szL_app (V V' : List NV) : szL (V ++ V') = szL V + szL V' := by simp [szL]
theorem szL_filter (p : NV → Bool) : ∀ V : List NV, szL (V.filter p) ≤ szL V
  | [] => Nat.le_refl _
  | v :: V => by
    have ih := szL_filter p V
    rw [List.filter_cons]
    split
    · simp [szL] at ih ⊢; exact ih
    · simp [szL] at ih ⊢; omega
theorem TW.stored {t : Nat → ClassId} {g : GH} {p : Nat → Nat} {w : GD} {ls : Nat} {s : AS} (h : TW t g p w ls s) : (stL w.2.2.2.2.1).length = s.2.1.length ∧ szS w.1 (stL w.2.2.2.2.1) = szL s.2.1 := by
  have hS := h.2.2.2.1
  have hv := h.2.2.2.2.1.2.1
  have := vals_full (N := w.1) (L := stL w.2.2.2.2.1) (fun a ha => SW.in hS (Or.inl (stL_in.mp ha)))
  exact ⟨this.1.symm.trans hv.length_eq, this.2.trans (szL_perm hv)⟩
set_option maxRecDepth 100000 in
set_option maxHeartbeats 1000000 in
theorem c_compare (l : Launch) (D : va_G) (t : Nat → ClassId) (A : Nat → Prop) (g : GH) (p : Nat → Nat) (w : GD) (ls : Nat) (s : AS) (x y : Int32) (h : TW t g p w ls s) (hls : ls < 2 ^ 30) : Ct l yT_compare sT_compare { frames := 9, cells := 0, slots := 0, locals := 300 } (zz D t A) [.ref (p 13), .int x, .int y] g 0 0 (fun v g' => v = some (.int (aCmp s x y).1) ∧ ∃ w' ls', ls' ≤ ls + 2 ∧ TW t g' p w' ls' (aCmp s x y).2) := by
  refine Ct.of (cc := bT_compare) (maxL := 3) (ret := (some .int)) (by decide) (Nat.le_of_ble_eq_true rfl) (fun X hlX O M hNn => ?_)
  show J X 3 (zz D t A) g 0 0 0 [(0, .ref (p 13)), (1, .int x), (2, .int y)] []
  obtain ⟨hT, ⟨fW, hW, hWv⟩, ⟨fR, hR, hRv⟩, hS, ⟨hpd, hval, hsz, hsn⟩, ⟨fk, fs, fu, hD, hk, hs, hu, hdf, hdl⟩, ⟨nF, fF, hF, hFb⟩, ⟨nE, fE, hE, hEb⟩, ⟨fL, hL⟩, hne, hI, hst, htb⟩ := id h
  refine j_iload_n O 1 dT_compare_0 rfl rfl ?_
  refine j_callS O [.int x] (c_isTable X.2.1 D t A g x) w221 w222 w23 w223 1 rfl rfl rfl (by decide +kernel) ⟨(Nat.le_of_ble_eq_true rfl), (Nat.le_of_ble_eq_true rfl)⟩ rfl (Nat.le_of_ble_eq_true rfl) dT_compare_1 ⟨(Nat.le_of_ble_eq_true rfl), (Nat.le_of_ble_eq_true rfl)⟩ (fun vw56 gw57 hpw58 => ?_)
  obtain ⟨rfl, hgw59⟩ := hpw58
  have hgw59 := hgw59.symm
  subst hgw59
  refine j_if_eq O 29 dT_compare_4 (by decide) (fun c1 => ?_) (fun c1 => ?_)
  · have hx : ¬ isT x := fun z => by rw [if_pos z] at c1; exact absurd c1 (by decide)
    have er : aCmp s x y = (-1, s) := if_neg (fun z => hx z.1)
    rw [er] at M
    refine j_iconst O (v := -1) dT_compare_29 (by decide) ?_
    exact j_iret O M (Nat.le_of_ble_eq_true rfl) (Nat.le_of_ble_eq_true rfl) ⟨rfl, w, ls, by omega, h⟩ dT_compare_30
  · have hx : isT x := by
      by_cases z : isT x
      · exact z
      · rw [if_neg z] at c1; exact absurd rfl c1
    obtain ⟨i, i6, rfl⟩ := tb_of hx
    have ei : ix (nI i) = i := ix_nI (by omega)
    refine j_iload_n O 2 dT_compare_7 rfl rfl ?_
    refine j_callS O [.int y] (c_isTable X.2.1 D t A g y) w221 w222 w23 w223 1 rfl rfl rfl (by decide +kernel) ⟨(Nat.le_of_ble_eq_true rfl), (Nat.le_of_ble_eq_true rfl)⟩ rfl (Nat.le_of_ble_eq_true rfl) dT_compare_8 ⟨(Nat.le_of_ble_eq_true rfl), (Nat.le_of_ble_eq_true rfl)⟩ (fun vw60 gw61 hpw62 => ?_)
    obtain ⟨rfl, hgw63⟩ := hpw62
    have hgw63 := hgw63.symm
    subst hgw63
    refine j_if_eq O 29 dT_compare_11 (by decide) (fun c2 => ?_) (fun c2 => ?_)
    · have hy : ¬ isT y := fun z => by rw [if_pos z] at c2; exact absurd c2 (by decide)
      have er : aCmp s (nI i) y = (-1, s) := if_neg (fun z => hy z.2.1)
      rw [er] at M
      refine j_iconst O (v := -1) dT_compare_29 (by decide) ?_
      exact j_iret O M (Nat.le_of_ble_eq_true rfl) (Nat.le_of_ble_eq_true rfl) ⟨rfl, w, ls, by omega, h⟩ dT_compare_30
    · have hy : isT y := by
        by_cases z : isT y
        · exact z
        · rw [if_neg z] at c2; exact absurd rfl c2
      obtain ⟨j, j6, rfl⟩ := tb_of hy
      have ej : ix (nI j) = j := ix_nI (by omega)
      obtain ⟨i1, i2, i3, i4, i5⟩ := htb i i6
      obtain ⟨j1, j2, j3, j4, j5⟩ := htb j j6
      refine j_aload_n O 0 dT_compare_14 rfl rfl ?_
      refine j_get O uwT hT rfl 0 (by decide) w192 rfl rfl dT_compare_15 ?_
      refine j_iload_n O 1 dT_compare_18 rfl rfl ?_
      refine j_iald O hW 0 rfl (by omega) (by omega) dT_compare_19 ?_
      refine j_aload_n O 0 dT_compare_20 rfl rfl ?_
      refine j_get O uwT hT rfl 0 (by decide) w192 rfl rfl dT_compare_21 ?_
      refine j_iload_n O 2 dT_compare_24 rfl rfl ?_
      refine j_iald O hW 0 rfl (by omega) (by omega) dT_compare_25 ?_
      refine j_icmp_eq O 31 dT_compare_26 (by decide) (fun c3 => ?_) (fun c3 => ?_)
      · have hwe : (s.1 i).1 = (s.1 j).1 := by
          rw [hWv i i6, hWv j j6] at c3
          exact nI_inj (by omega) (by omega) c3
        have er : aCmp s (nI i) (nI j) = (nI (mrg ((s.1 i).2.length + (s.1 j).2.length) (s.1 i).2 (s.1 j).2).length, (s.1, s.2.1, (mrg ((s.1 i).2.length + (s.1 j).2.length) (s.1 i).2 (s.1 j).2))) := by
          unfold aCmp
          rw [if_pos ⟨hx, hy, by rw [ei, ej]; exact hwe⟩, ei, ej]
        rw [er] at M
        obtain ⟨ri, hfi, hvi, hiS⟩ := hRv i i6
        obtain ⟨rj, hfj, hvj, hjS⟩ := hRv j j6
        have hdi := dsc_some hS.1 hvi
        have hdj := dsc_some hS.1 hvj
        have hki := dsc_kids hS.1 _ _ _ hvi
        have hkj := dsc_kids hS.1 _ _ _ hvj
        have hIn : ∀ x, w.2.2.2.1 x → w.1 x = none := fun x hx => by
          cases hc : w.1 x with
          | none => rfl
          | some u => exact absurd hx (hS.1 x u hc).2.1
        refine j_aload_n O 0 dT_compare_31 rfl rfl ?_
        refine j_iload_n O 1 dT_compare_32 rfl rfl ?_
        refine j_iload_n O 2 dT_compare_33 rfl rfl ?_
        refine j_aload_n O 0 dT_compare_34 rfl rfl ?_
        refine j_get O uwT hT rfl 4 (by decide) w196 rfl rfl dT_compare_35 ?_
        refine j_callV O [.int (nI i), .int (nI j), .ref (p 8)] (c_gatherUnshared X.2.1 D t A g (p 13) (p 0) (p 1) (p 2) (p 4) (p 8) (p 10) (p 12) ls i j ri rj (p 8) (p 9) w.1 w.2.1 w.2.2.1 w.2.2.2.1 w.2.2.2.2 _ _ fR fF nF hT hR i6 j6 hfi hfj hvi hvj hS.1 (h.fresh hls) hF hFb (hI 13 (by decide)) (hI 8 (by decide)) (hI 9 (by decide))) hT rfl w383 w384 w8 w23 w385 3 rfl rfl rfl (by decide +kernel) ⟨(Nat.le_of_ble_eq_true rfl), (Nat.le_of_ble_eq_true rfl)⟩ rfl (Nat.le_of_ble_eq_true rfl) dT_compare_38 ⟨(Nat.le_of_ble_eq_true rfl), (Nat.le_of_ble_eq_true rfl)⟩ (fun vw64 gw65 hpw66 => ?_)
        obtain ⟨rfl, hT1, hN1, hrl1, hk1⟩ := hpw66
        have hN1 : NI t gw65 (w.1, w.2.1, (stmp w.2.2.1 (nI (ls + 1)) (dsc w.2.1 (hgt (s.1 j).2) rj)), w.2.2.2.1, w.2.2.2.2) := hN1
        have hrl1 : rlI t gw65 w.2.2.2.1 (p 8) (p 9) (gth w.1 w.2.1 (stmp w.2.2.1 (nI (ls + 1)) (dsc w.2.1 (hgt (s.1 j).2) rj)) (nI (ls + 1)) (hgt (s.1 i).2) ri) := hrl1
        have hst1 : ∀ x u, w.1 x = some u → ∃ m, m ≤ ls + 1 ∧ ((stmp w.2.2.1 (nI (ls + 1)) (dsc w.2.1 (hgt (s.1 j).2) rj)) x).2.2.1 = nI m := fun x u hu => by
          by_cases hx : x ∈ dsc w.2.1 (hgt (s.1 j).2) rj
          · exact ⟨ls + 1, Nat.le_refl _, stmp_in hx⟩
          · rw [stmp_out hx]; obtain ⟨m, hm, e⟩ := hst x u hu; exact ⟨m, by omega, e⟩
        have hfr1 : ∀ x u, w.1 x = some u → ¬ ((stmp w.2.2.1 (nI (ls + 1)) (dsc w.2.1 (hgt (s.1 j).2) rj)) x).2.2.1 = (nI (ls + 1 + 1)) := fun x u hu => by
          obtain ⟨m, hm, e⟩ := hst1 x u hu
          rw [e]
          intro z
          have := nI_inj (by omega) (by omega) z
          omega
        have hR1 := (hk1.2 (p 1) _ (pn hne 1 [13, 8, 9] rfl) (h.nn 1 (by decide)) hR)
        have hE1 := (hk1.2 (p 10) _ (pn hne 10 [13, 8, 9] rfl) (h.nn 10 (by decide)) hE)
        have hEb1 := (hk1.2 (p 11) _ (pn hne 11 [13, 8, 9] rfl) (h.nn 11 (by decide)) hEb)
        refine j_aload_n O 0 dT_compare_41 rfl rfl ?_
        refine j_iload_n O 2 dT_compare_42 rfl rfl ?_
        refine j_iload_n O 1 dT_compare_43 rfl rfl ?_
        refine j_aload_n O 0 dT_compare_44 rfl rfl ?_
        refine j_get O uwT hT1 rfl 5 (by decide) w197 rfl rfl dT_compare_45 ?_
        refine j_callV O [.int (nI j), .int (nI i), .ref (p 10)] (c_gatherUnshared X.2.1 D t A gw65 (p 13) (p 0) (p 1) (p 2) (p 4) (p 8) (p 10) (p 12) (ls + 1) j i rj ri (p 10) (p 11) w.1 w.2.1 (stmp w.2.2.1 (nI (ls + 1)) (dsc w.2.1 (hgt (s.1 j).2) rj)) w.2.2.2.1 w.2.2.2.2 _ _ fR fE nE hT1 hR1 j6 i6 hfj hfi hvj hvi hN1 hfr1 hE1 hEb1 (hI 13 (by decide)) (hI 10 (by decide)) (hI 11 (by decide))) hT1 rfl w383 w384 w8 w23 w385 3 rfl rfl rfl (by decide +kernel) ⟨(Nat.le_of_ble_eq_true rfl), (Nat.le_of_ble_eq_true rfl)⟩ rfl (Nat.le_of_ble_eq_true rfl) dT_compare_48 ⟨(Nat.le_of_ble_eq_true rfl), (Nat.le_of_ble_eq_true rfl)⟩ (fun vw67 gw68 hpw69 => ?_)
        obtain ⟨rfl, hT2, hN2, hrl2, hk2⟩ := hpw69
        have hN2 : NI t gw68 (w.1, w.2.1, (stmp (stmp w.2.2.1 (nI (ls + 1)) (dsc w.2.1 (hgt (s.1 j).2) rj)) (nI (ls + 1 + 1)) (dsc w.2.1 (hgt (s.1 i).2) ri)), w.2.2.2.1, w.2.2.2.2) := hN2
        have hrl2 : rlI t gw68 w.2.2.2.1 (p 10) (p 11) (gth w.1 w.2.1 (stmp (stmp w.2.2.1 (nI (ls + 1)) (dsc w.2.1 (hgt (s.1 j).2) rj)) (nI (ls + 1 + 1)) (dsc w.2.1 (hgt (s.1 i).2) ri)) (nI (ls + 1 + 1)) (hgt (s.1 j).2) rj) := hrl2
        have hrl12 : rlI t gw68 w.2.2.2.1 (p 8) (p 9) (gth w.1 w.2.1 (stmp w.2.2.1 (nI (ls + 1)) (dsc w.2.1 (hgt (s.1 j).2) rj)) (nI (ls + 1)) (hgt (s.1 i).2) ri) := hrl1.keep (fun e he => hk2.2 (p 8) e (pn hne 8 [13, 10, 11] rfl) (h.nn 8 (by decide)) he) (fun e he => hk2.2 (p 9) e (pn hne 9 [13, 10, 11] rfl) (h.nn 9 (by decide)) he) (fun x e hx he => hk2.2 x e (h.own (Or.inl hx) [13, 10, 11] (by decide)) (hIn x hx) he)
        have hmem : ∀ x, (∃ u, w.1 x = some u) → (((stmp w.2.2.1 (nI (ls + 1)) (dsc w.2.1 (hgt (s.1 j).2) rj)) x).2.2.1 = (nI (ls + 1)) ↔ x ∈ dsc w.2.1 (hgt (s.1 j).2) rj) := fun x hx => hx.elim (fun u hu => stmp_iff (h.fresh hls x u hu))
        have hmem2 : ∀ x, (∃ u, w.1 x = some u) → (((stmp (stmp w.2.2.1 (nI (ls + 1)) (dsc w.2.1 (hgt (s.1 j).2) rj)) (nI (ls + 1 + 1)) (dsc w.2.1 (hgt (s.1 i).2) ri)) x).2.2.1 = (nI (ls + 1 + 1)) ↔ x ∈ dsc w.2.1 (hgt (s.1 i).2) ri) := fun x hx => hx.elim (fun u hu => stmp_iff (hfr1 x u hu))
        obtain ⟨PA, hPA⟩ := gth_ex hS.1 hvi (fun x hx => hmem x (hdi x hx)) hkj
        obtain ⟨PB, hPB⟩ := gth_ex hS.1 hvj (fun x hx => hmem2 x (hdj x hx)) hki
        have hcf := cmp_flt hS.1 hvi hvj hmem hmem2 hki hkj
        obtain ⟨hqa, fa, hba, hra⟩ := hrl12
        obtain ⟨hqb, fb, hbb, hrb⟩ := hrl2
        have hD2 := (hk2.2 (p 4) _ (pn hne 4 [13, 10, 11] rfl) (h.nn 4 (by decide)) (hk1.2 (p 4) _ (pn hne 4 [13, 8, 9] rfl) (h.nn 4 (by decide)) hD))
        have hk22 := (hk2.2 (p 5) _ (pn hne 5 [13, 10, 11] rfl) (h.nn 5 (by decide)) (hk1.2 (p 5) _ (pn hne 5 [13, 8, 9] rfl) (h.nn 5 (by decide)) hk))
        have hs22 := (hk2.2 (p 6) _ (pn hne 6 [13, 10, 11] rfl) (h.nn 6 (by decide)) (hk1.2 (p 6) _ (pn hne 6 [13, 8, 9] rfl) (h.nn 6 (by decide)) hs))
        have hu22 := (hk2.2 (p 7) _ (pn hne 7 [13, 10, 11] rfl) (h.nn 7 (by decide)) (hk1.2 (p 7) _ (pn hne 7 [13, 8, 9] rfl) (h.nn 7 (by decide)) hu))
        have la : (gth w.1 w.2.1 (stmp w.2.2.1 (nI (ls + 1)) (dsc w.2.1 (hgt (s.1 j).2) rj)) (nI (ls + 1)) (hgt (s.1 i).2) ri).length ≤ 300 := by rw [hPA]; exact Nat.le_trans (List.length_filter_le _ _) i5
        have lb : (gth w.1 w.2.1 (stmp (stmp w.2.2.1 (nI (ls + 1)) (dsc w.2.1 (hgt (s.1 j).2) rj)) (nI (ls + 1 + 1)) (dsc w.2.1 (hgt (s.1 i).2) ri)) (nI (ls + 1 + 1)) (hgt (s.1 j).2) rj).length ≤ 300 := by rw [hPB]; exact Nat.le_trans (List.length_filter_le _ _) j5
        have wa : ∀ r ∈ (gth w.1 w.2.1 (stmp w.2.2.1 (nI (ls + 1)) (dsc w.2.1 (hgt (s.1 j).2) rj)) (nI (ls + 1)) (hgt (s.1 i).2) ri), r.2.1.length ≤ 6 := fun r hr => by rw [hPA] at hr; have := i3 r (List.mem_filter.mp hr).1; omega
        have wb : ∀ r ∈ (gth w.1 w.2.1 (stmp (stmp w.2.2.1 (nI (ls + 1)) (dsc w.2.1 (hgt (s.1 j).2) rj)) (nI (ls + 1 + 1)) (dsc w.2.1 (hgt (s.1 i).2) ri)) (nI (ls + 1 + 1)) (hgt (s.1 j).2) rj), r.2.1.length ≤ 6 := fun r hr => by rw [hPB] at hr; have := j3 r (List.mem_filter.mp hr).1; omega
        refine j_aload_n O 0 dT_compare_51 rfl rfl ?_
        refine j_get O uwT hT2 rfl 3 (by decide) w195 rfl rfl dT_compare_52 ?_
        refine j_aload_n O 0 dT_compare_55 rfl rfl ?_
        refine j_get O uwT hT2 rfl 4 (by decide) w196 rfl rfl dT_compare_56 ?_
        refine j_aload_n O 0 dT_compare_59 rfl rfl ?_
        refine j_get O uwT hT2 rfl 5 (by decide) w197 rfl rfl dT_compare_60 ?_
        refine j_callV O [.ref (p 8), .ref (p 10)] (c_collect X.2.1 D t A gw68 (p 4) (p 5) (p 6) (p 7) (p 8) (p 10) (p 9) (p 11) fa fb (gth w.1 w.2.1 (stmp w.2.2.1 (nI (ls + 1)) (dsc w.2.1 (hgt (s.1 j).2) rj)) (nI (ls + 1)) (hgt (s.1 i).2) ri) (gth w.1 w.2.1 (stmp (stmp w.2.2.1 (nI (ls + 1)) (dsc w.2.1 (hgt (s.1 j).2) rj)) (nI (ls + 1 + 1)) (dsc w.2.1 (hgt (s.1 i).2) ri)) (nI (ls + 1 + 1)) (hgt (s.1 j).2) rj) w.2.2.2.1 (nI s.2.2.length) fk fs fu hqa hba hra hqb hbb hrb ⟨hI 4 (by decide), hI 5 (by decide), hI 6 (by decide), hI 7 (by decide)⟩ (hne 5 6 (by decide) (by decide) (by decide)) (hne 5 7 (by decide) (by decide) (by decide)) (hne 6 7 (by decide) (by decide) (by decide)) la lb wa wb hD2 hk22 hs22 hu22) hD2 rfl w386 w387 w388 w25 w389 2 rfl rfl rfl (by decide +kernel) ⟨(Nat.le_of_ble_eq_true rfl), (Nat.le_of_ble_eq_true rfl)⟩ rfl (Nat.le_of_ble_eq_true rfl) dT_compare_63 ⟨(Nat.le_of_ble_eq_true rfl), (Nat.le_of_ble_eq_true rfl)⟩ (fun vw70 gw71 hpw72 => ?_)
        obtain ⟨rfl, fk3, fs3, fu3, hD3, hk3, hs3, hu3, hdf3, kp3⟩ := hpw72
        rw [hcf] at hD3 hdf3
        have hT3 := (kp3.2 (p 13) _ (pn hne 13 [4, 5, 6, 7] rfl) hT2)
        have hN3 : NI t gw71 (w.1, w.2.1, (stmp (stmp w.2.2.1 (nI (ls + 1)) (dsc w.2.1 (hgt (s.1 j).2) rj)) (nI (ls + 1 + 1)) (dsc w.2.1 (hgt (s.1 i).2) ri)), w.2.2.2.1, w.2.2.2.2) := hN2.keep (fun x e hx he => kp3.2 x e (h.own hx [4, 5, 6, 7] (by decide)) he)
        have hS3 : SW t gw71 (w.1, w.2.1, (stmp (stmp w.2.2.1 (nI (ls + 1)) (dsc w.2.1 (hgt (s.1 j).2) rj)) (nI (ls + 1 + 1)) (dsc w.2.1 (hgt (s.1 i).2) ri)), w.2.2.2.1, w.2.2.2.2.1, w.2.2.2.2.2) (p 2) (p 3) (nI s.2.1.length) (nI (szL s.2.1)) := SW.mu (N := w.1) (K := w.2.1) (mu := w.2.2.1) (I := w.2.2.2.1) (ch := w.2.2.2.2.1) (pd := w.2.2.2.2.2) hS hN3 (fun x => by
          have e1 : ∀ (m : Nat → MU) (q : Int32) (L : List Nat), (stmp m q L x).2.2.2 = (m x).2.2.2 := fun m q L => by unfold stmp; split <;> rfl
          rw [e1, e1]) (fun b hb => kp3.1 b (hk2.1 b (hk1.1 b hb))) (fun e he => (kp3.2 (p 2) _ (pn hne 2 [4, 5, 6, 7] rfl) (hk2.2 (p 2) _ (pn hne 2 [13, 10, 11] rfl) (h.nn 2 (by decide)) (hk1.2 (p 2) _ (pn hne 2 [13, 8, 9] rfl) (h.nn 2 (by decide)) he)))) (fun e he => (kp3.2 (p 3) _ (pn hne 3 [4, 5, 6, 7] rfl) (hk2.2 (p 3) _ (pn hne 3 [13, 10, 11] rfl) (h.nn 3 (by decide)) (hk1.2 (p 3) _ (pn hne 3 [13, 8, 9] rfl) (h.nn 3 (by decide)) he))))
        have hst3 : ∀ x u, w.1 x = some u → ∃ m, m ≤ ls + 1 + 1 ∧ ((stmp (stmp w.2.2.1 (nI (ls + 1)) (dsc w.2.1 (hgt (s.1 j).2) rj)) (nI (ls + 1 + 1)) (dsc w.2.1 (hgt (s.1 i).2) ri)) x).2.2.1 = nI m := fun x u hu => by
          by_cases hx : x ∈ dsc w.2.1 (hgt (s.1 i).2) ri
          · exact ⟨ls + 1 + 1, Nat.le_refl _, stmp_in hx⟩
          · rw [stmp_out hx]; obtain ⟨m, hm, e⟩ := hst1 x u hu; exact ⟨m, by omega, e⟩
        have hml : (mrg ((s.1 i).2.length + (s.1 j).2.length) (s.1 i).2 (s.1 j).2).length ≤ 600 := by have := mrg_len ((s.1 i).2.length + (s.1 j).2.length) (s.1 i).2 (s.1 j).2; omega
        have hTW : TW t gw71 p (w.1, w.2.1, (stmp (stmp w.2.2.1 (nI (ls + 1)) (dsc w.2.1 (hgt (s.1 j).2) rj)) (nI (ls + 1 + 1)) (dsc w.2.1 (hgt (s.1 i).2) ri)), w.2.2.2.1, w.2.2.2.2.1, w.2.2.2.2.2) (ls + 1 + 1) (s.1, s.2.1, (mrg ((s.1 i).2.length + (s.1 j).2.length) (s.1 i).2 (s.1 j).2)) := ⟨hT3, ⟨fW, (kp3.2 (p 0) _ (pn hne 0 [4, 5, 6, 7] rfl) (hk2.2 (p 0) _ (pn hne 0 [13, 10, 11] rfl) (h.nn 0 (by decide)) (hk1.2 (p 0) _ (pn hne 0 [13, 8, 9] rfl) (h.nn 0 (by decide)) hW))), hWv⟩, ⟨fR, (kp3.2 (p 1) _ (pn hne 1 [4, 5, 6, 7] rfl) (hk2.2 (p 1) _ (pn hne 1 [13, 10, 11] rfl) (h.nn 1 (by decide)) hR1)), hRv⟩, hS3, ⟨hpd, hval, hsz, hsn⟩, ⟨fk3, fs3, fu3, hD3, hk3, hs3, hu3, hdf3, hml⟩, ⟨_, fa, (kp3.2 (p 8) _ (pn hne 8 [4, 5, 6, 7] rfl) hqa), (kp3.2 (p 9) _ (pn hne 9 [4, 5, 6, 7] rfl) hba)⟩, ⟨_, fb, (kp3.2 (p 10) _ (pn hne 10 [4, 5, 6, 7] rfl) hqb), (kp3.2 (p 11) _ (pn hne 11 [4, 5, 6, 7] rfl) hbb)⟩, ⟨fL, (kp3.2 (p 12) _ (pn hne 12 [4, 5, 6, 7] rfl) (hk2.2 (p 12) _ (pn hne 12 [13, 10, 11] rfl) (h.nn 12 (by decide)) (hk1.2 (p 12) _ (pn hne 12 [13, 8, 9] rfl) (h.nn 12 (by decide)) hL)))⟩, hne, hI, hst3, htb⟩
        refine j_aload_n O 0 dT_compare_66 rfl rfl ?_
        refine j_get O uwT hT3 rfl 3 (by decide) w195 rfl rfl dT_compare_67 ?_
        refine j_get O uwD hD3 rfl 3 (by decide) w76 rfl rfl dT_compare_70 ?_
        exact j_iret O M (Nat.le_of_ble_eq_true rfl) (Nat.le_of_ble_eq_true rfl) ⟨rfl, _, ls + 1 + 1, Nat.le_refl _, hTW⟩ dT_compare_73
      · 
        have er : aCmp s (nI i) (nI j) = (-1, s) := if_neg (fun z => c3 (by have := z.2.2; rw [ei, ej] at this; rw [hWv i i6, hWv j j6, this]))
        rw [er] at M
        refine j_iconst O (v := -1) dT_compare_29 (by decide) ?_
        exact j_iret O M (Nat.le_of_ble_eq_true rfl) (Nat.le_of_ble_eq_true rfl) ⟨rfl, w, ls, by omega, h⟩ dT_compare_30
