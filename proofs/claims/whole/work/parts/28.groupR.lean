theorem SW.kp {t : Nat → ClassId} {g g' : GH} {w : GD} {sA bA : Nat} {nn ss : Int32} (h : SW t g w sA bA nn ss) (hd : ∀ b ∈ g.1, b ∈ g'.1) (hk : ∀ (y : Nat) (e : va_E), (w.2.2.2.1 y ∨ (∃ v, w.1 y = some v) ∨ y = sA ∨ y = bA) → gAt g y e → gAt g' y e) : SW t g' w sA bA nn ss := by
  obtain ⟨h1, h2, ⟨fB, hb, hf⟩, h4, h5, h6, h7, h8, h9, hdm⟩ := h
  exact ⟨h1.keep (fun x e hx he => hk x e (hx.elim Or.inl (fun z => Or.inr (Or.inl z))) he), hk _ _ (Or.inr (Or.inr (Or.inl rfl))) h2, ⟨fB, hk _ _ (Or.inr (Or.inr (Or.inr rfl))) hb, hf⟩, h4, h5, h6, h7, h8, h9, fun x hx => hd x (hdm x hx)⟩
/-- what is apart from the line -/
def LA (t : Nat → ClassId) (g : GH) (w : GD) (sA bA aL : Nat) : Prop := (∃ f, gAt g aL (eNs t 300 f)) ∧ ¬ w.2.2.2.1 aL ∧ bA ≠ aL ∧ sA ≠ aL ∧ w.1 aL = none
theorem PW.store {t : Nat → ClassId} {g0 g g' : GH} {w0 w : GD} {sA bA aL : Nat} {nn ss : Int32} {V : List NV} (h : PW t g0 w0 g w sA bA aL nn ss V) (hL : LA t g0 w0 sA bA aL) (hk : Kp [aL] g g') : PW t g0 w0 g' w sA bA aL nn ss V := by
  obtain ⟨⟨fL, hl0⟩, hI0, hbL, hsL, hnL⟩ := hL
  obtain ⟨a1, a2, a3, a4, a5, a6, a7, a8⟩ := h
  have hl0' : aL ∈ g0.1 := hl0.1
  refine ⟨a1.kp hk.1 (fun y e hy he => hk.2 y e (one_ne (fun z => ?_)) he), a2, a3, a4, a5, a6, a7, a8.tr (hk.mono (fun x hx => by rw [List.mem_singleton.mp hx]; simp))⟩
  subst z
  rcases hy with hy | ⟨u, hu⟩ | hy | hy
  · rcases a5 y hy with z | z
    · exact hI0 z
    · exact z hl0'
  · rcases a6 y u hu with z | z
    · rw [hnL] at z; cases z
    · exact z.1 hl0'
  · exact hsL hy.symm
  · exact hbL hy.symm
theorem runs_slice {rs : List RV} {fr i : Nat} {j : Nat} (hi : i < rs.length) (hf : fr ≤ i) (hj : j < ((rs.drop fr).take (i + 1 - fr)).length) : ((rs.drop fr).take (i + 1 - fr))[j] = rs[fr + j]'(by rw [List.length_take, List.length_drop] at hj; omega) := by
  rw [List.getElem_take, List.getElem_drop]
theorem news_mono {S V V' : List NV} : (news S V).length ≤ (news S (V ++ V')).length := by rw [news_app, List.length_append]; omega
set_option maxRecDepth 100000 in
set_option maxHeartbeats 1000000 in
theorem groupRows_loop {X : CX} {D : va_G} {t : Nat → ClassId} {A : Nat → Prop} {rm : Room} {g : GH} {T aW aR sA bA dA qF bF qE aL : Nat} {ls nn ss : Int32} {w0 : GD} {rs : List RV} {fF : Nat → Option Nat} (O : Ok X bT_groupRows 4 "TwinTrees" (zz D t A) rm) (M : Om X (zz D t A) (some .int) (3 * (news (vals w0.1 (stL w0.2.2.2.2.1)) (lvs0 (runs 1 rs))).length) (312 * (news (vals w0.1 (stL w0.2.2.2.2.1)) (lvs0 (runs 1 rs))).length) (fun v g' => v = some (.int (nI (runs 1 rs).length)) ∧ ∃ w f, PW t g w0 g' w sA bA aL nn ss (lvs0 (runs 1 rs)) ∧ lineOK g' t w aL f 0 (runs 1 rs))) (hT : gAt g T (eTT aW aR sA dA qF qE aL ls)) (hqF : gAt g qF (eRL bF (nI rs.length))) (hbF : gAt g bF (eRs t 300 fF)) (hbI : bF ≠ aL) (hrI : rowsI t g w0.2.2.2.1 fF 0 rs) (hS0 : SW t g w0 sA bA nn ss) (hw6 : ∀ r ∈ rs, r.2.1.length ≤ 6) (hl3 : rs.length ≤ 300) (hsr : srt rs) (hLA : LA t g w0 sA bA aL) (hrm : 4 ≤ rm.frames ∧ 130 ≤ rm.locals ∧ 3 * (news (vals w0.1 (stL w0.2.2.2.2.1)) (lvs0 (runs 1 rs))).length ≤ rm.cells ∧ 312 * (news (vals w0.1 (stL w0.2.2.2.2.1)) (lvs0 (runs 1 rs))).length ≤ rm.slots) : ∀ (k i fr : Nat) (done : List (List RV)) (g1 : GH) (w : GD) (f : Nat → Option Nat), i + k = rs.length → fr ≤ i → runs 1 rs = done ++ runs 1 (rs.drop fr) → done.length ≤ fr → (∀ j (hj : j < rs.length), fr ≤ j → j < i → lvB 1 rs[j] = false) → (i = rs.length → fr = i) → PW t g w0 g1 w sA bA aL nn ss (lvs0 done) → lineOK g1 t w aL f 0 done → J X 4 (zz D t A) g1 (3 * (news (vals w0.1 (stL w0.2.2.2.2.1)) (lvs0 done)).length) (312 * (news (vals w0.1 (stL w0.2.2.2.2.1)) (lvs0 done)).length) 40 [(0, .ref T), (1, .int (nI done.length)), (2, .int (nI fr)), (3, .int (nI i))] [] := by
  obtain ⟨⟨fL0, hl0⟩, hIL, hbL, hsL, hnL⟩ := id hLA
  have hTL : T ≠ aL := hT.ne hl0 (by simp)
  have hqL : qF ≠ aL := hqF.ne hl0 (by simp)
  have hin0 : ∀ a, inS w0.2.2.2.2.1 a → ∃ u, w0.1 a = some u := fun a ha => SW.in hS0 (Or.inl ha)
  intro k
  induction k with
  | zero =>
    intro i fr done g1 w f hi hfr hrun hdl hlow hend hP hL
    have hi : i = rs.length := by omega
    have hfe := hend hi
    have hr0 : runs 1 (rs.drop fr) = [] := by rw [hfe, hi, List.drop_length]; rfl
    rw [hr0, List.append_nil] at hrun
    subst hi
    have hkp := hP.2.2.2.2.2.2.2
    have hT1 := hkp.2 T _ (two_ne (hT.ne hS0.2.1 (by simp)) hTL) hT
    have hq1 := hkp.2 qF _ (two_ne (hqF.ne hS0.2.1 (by simp)) hqL) hqF
    refine j_iload_n O 3 dT_groupRows_40 rfl rfl ?_
    refine j_aload_n O 0 dT_groupRows_41 rfl rfl ?_
    refine j_get O uwT hT1 rfl 4 (by decide) w196 rfl rfl dT_groupRows_42 ?_
    refine j_get O uwQ hq1 rfl 1 (by decide) w97 rfl rfl dT_groupRows_45 ?_
    refine j_icmp_ge O 117 dT_groupRows_48 (by decide) (fun c => ?_) (fun c => absurd (nI_le (Nat.le_refl _) (by omega)) c)
    refine j_iload_n O 1 dT_groupRows_117 rfl rfl ?_
    exact j_iret O M (by rw [hrun]; exact Nat.le_refl _) (by rw [hrun]; exact Nat.le_refl _) ⟨by rw [hrun], w, f, by rw [hrun]; exact hP, by rw [hrun]; exact hL⟩ dT_groupRows_118
  | succ k ih =>
    intro i fr done g1 w f hi hfr hrun hdl hlow hend hP hL
    have hi1 : i < rs.length := by omega
    have hkp := hP.2.2.2.2.2.2.2
    have hT1 := hkp.2 T _ (two_ne (hT.ne hS0.2.1 (by simp)) hTL) hT
    have hq1 := hkp.2 qF _ (two_ne (hqF.ne hS0.2.1 (by simp)) hqL) hqF
    have hb1 := hkp.2 bF _ (two_ne (hbF.ne hS0.2.1 (by simp)) hbI) hbF
    have hs1 := hP.1.2.1
    have hIk : ∀ (y : Nat) (e : va_E), w0.2.2.2.1 y → gAt g y e → gAt g1 y e := fun y e hy he => hkp.2 y e (two_ne (fun z => hS0.2.2.2.2.2.2.2.1 (z ▸ hy)) (fun z => hIL (z ▸ hy))) he
    have hrI1 := hrI.keep hP.2.2.2.1 hIk
    obtain ⟨x, hfx, hx⟩ := hrI1 i hi1
    rw [Nat.zero_add] at hfx
    obtain ⟨xc, xf, hxc, -, -⟩ := hx.at
    have HB : (lvB 1 rs[i] = true ∨ i + 1 = rs.length) → J X 4 (zz D t A) g1 (3 * (news (vals w0.1 (stL w0.2.2.2.2.1)) (lvs0 done)).length) (312 * (news (vals w0.1 (stL w0.2.2.2.2.1)) (lvs0 done)).length) 80 [(0, .ref T), (1, .int (nI done.length)), (2, .int (nI fr)), (3, .int (nI i))] [] := by
      intro hbnd
      have hstep := runsP_step (lvB 1) rs fr i hfr hi1 hlow hbnd
      generalize hrd : (rs.drop fr).take (i + 1 - fr) = run at hstep
      have hrl : run.length = i + 1 - fr := by rw [← hrd, List.length_take, List.length_drop]; omega
      have hrg : ∀ j (hj : j < run.length), run[j] = rs[fr + j]'(by omega) := by
        intro j hj
        subst hrd
        exact runs_slice hi1 hfr hj
      have hrun2 : runs 1 rs = (done ++ [run]) ++ runs 1 (rs.drop (i + 1)) := by
        rw [hrun, List.append_assoc]
        congr 1
      have hmem : ∀ r ∈ run, r ∈ rs := by
        intro r hr
        obtain ⟨j, hj, rfl⟩ := List.getElem_of_mem hr
        rw [hrg j hj]
        exact List.getElem_mem _
      have hrunI : rowsI t g1 w.2.2.2.1 fF fr run := by
        intro j hj
        obtain ⟨y, h1, h2⟩ := hrI1 (fr + j) (by omega)
        rw [Nat.zero_add] at h1
        exact ⟨y, h1, by rw [hrg j hj]; exact h2⟩
      have hsrun : srt run := by
        rw [← hrd]
        exact (List.Pairwise.sublist (List.take_sublist _ _) (List.Pairwise.sublist (List.drop_sublist _ _) hsr))
      have eto : nI (i + 1) = nI (fr + run.length) := by rw [hrl, show fr + (i + 1 - fr) = i + 1 by omega]
      have hcat : lvs0 done ++ [(0, run)] = lvs0 (done ++ [run]) := by rw [lvs0_app]; rfl
      have hmono : (news (vals w0.1 (stL w0.2.2.2.2.1)) (lvs0 (done ++ [run]))).length ≤ (news (vals w0.1 (stL w0.2.2.2.2.1)) (lvs0 (runs 1 rs))).length := by rw [hrun2, lvs0_app (done ++ [run])]; exact news_mono
      have hmon2 : (news (vals w0.1 (stL w0.2.2.2.2.1)) (lvs0 done)).length ≤ (news (vals w0.1 (stL w0.2.2.2.2.1)) (lvs0 (done ++ [run]))).length := by rw [← hcat]; exact news_mono
      have hnotin : (0, run) ∉ lvs0 done := by
        intro z
        obtain ⟨q, hq, e⟩ := List.mem_map.mp z
        have e2 : q = run := congrArg Prod.snd e
        subst e2
        have hfl : (runs 1 rs).flatten = rs := runsP_flat _ _
        rw [hrun2, List.flatten_append, List.flatten_append] at hfl
        have hne : q ≠ [] := fun z => by rw [z] at hrl; simp at hrl; omega
        obtain ⟨r, hr⟩ := List.exists_mem_of_ne_nil q hne
        have hs2 := hsr
        unfold srt at hs2
        rw [← hfl, List.pairwise_append] at hs2
        have hs3 := (List.pairwise_append.mp hs2.1).2.2 r (List.mem_flatten.mpr ⟨q, hq, hr⟩) r (by simp; exact hr)
        exact Int32.lt_irrefl hs3
      refine j_aload_n O 0 dT_groupRows_80 rfl rfl ?_
      refine j_get O uwT hT1 rfl 6 (by decide) w198 rfl rfl dT_groupRows_81 ?_
      refine j_iload_n O 1 dT_groupRows_84 rfl rfl ?_
      refine j_aload_n O 0 dT_groupRows_85 rfl rfl ?_
      refine j_get O uwT hT1 rfl 2 (by decide) w194 rfl rfl dT_groupRows_86 ?_
      refine j_aload_n O 0 dT_groupRows_89 rfl rfl ?_
      refine j_get O uwT hT1 rfl 4 (by decide) w196 rfl rfl dT_groupRows_90 ?_
      refine j_get O uwQ hq1 rfl 0 (by decide) w94 rfl rfl dT_groupRows_93 ?_
      refine j_iload_n O 2 dT_groupRows_96 rfl rfl ?_
      refine j_iload_n O 3 dT_groupRows_97 rfl rfl ?_
      refine j_iconst O (v := 1) dT_groupRows_98 (by decide) ?_
      refine j_iadd O dT_groupRows_99 ?_
      refine j_eqi (nI (i + 1)) (nI_1 _) ?_
      refine j_eqi (nI (fr + run.length)) eto ?_
      by_cases hold : (0, run) ∈ (vals w0.1 (stL w0.2.2.2.2.1))
      · obtain ⟨a0, ha0, hv0⟩ := (hP.stored hin0).mp hold
        refine j_callV O [.ref bF, .int (nI fr), .int (nI (fr + run.length))] (c_leafOf_old X.2.1 D t A g1 sA bA bF fr 300 nn ss fF run w a0 hP.1 hb1 hrunI.in (fun r hr => hw6 r (hmem r hr)) (by omega) (by omega) ha0 hv0) hs1 rfl w104 w105 w106 w24 w107 3 rfl rfl rfl (by decide +kernel) ⟨(by show 3 + 1 ≤ _; omega), (by show 8 + (6 + 11) + 90 ≤ _; omega)⟩ rfl (Nat.le_of_ble_eq_true rfl) dT_groupRows_100 ⟨(by show 3 * _ + 0 ≤ _; omega), (by show 312 * _ + 0 ≤ _; omega)⟩ (fun vw1 gw2 hpw3 => ?_)
        obtain ⟨rfl, hgw4⟩ := hpw3
        have hgw4 := hgw4.symm
        subst hgw4
        obtain ⟨xra, xba, hac0⟩ := hP.1.1.cell hv0
        have hP2 := hP.old hold
        have hLold := hL.2
        have hnin : inS w.2.2.2.2.1 a0 ∨ a0 ∈ w.2.2.2.2.2 := Or.inl ha0
        have hnv := hv0
        have kp0 : Kp [aL] g1 g1 := Kp.rf
        refine j_aast O hL.1 2 rfl hac0 rfl (by omega) (by omega) dT_groupRows_103 (fun gw5 ew6 => ?_)
        have hw7 := gUp_self (e' := .inl (t 2, 300, .inr (.inr (.inr (.inr (va_up f done.length (some a0))))))) hL.1
        rw [← ew6] at hw7
        have kpw8 := kp0.up (a := aL) (e := .inl (t 2, 300, .inr (.inr (.inr (.inr (va_up f done.length (some a0))))))) (by simp)
        rw [← ew6] at kpw8
        refine j_iinc O (nI (done.length + 1)) [(1, .int (nI (done.length + 1))), (0, .ref T), (2, .int (nI fr)), (3, .int (nI i))] dT_groupRows_104 rfl (nI_1 _) (by decide) rfl ?_
        refine j_iload_n O 3 dT_groupRows_107 rfl rfl ?_
        refine j_iconst O (v := 1) dT_groupRows_108 (by decide) ?_
        refine j_iadd O dT_groupRows_109 ?_
        refine j_eqi (nI (i + 1)) (nI_1 _) ?_
        refine j_istore_n O 2 [(2, .int (nI (i + 1))), (1, .int (nI (done.length + 1))), (0, .ref T), (3, .int (nI i))] dT_groupRows_110 rfl (by decide) rfl ?_
        refine j_iinc O (nI (i + 1)) [(3, .int (nI (i + 1))), (2, .int (nI (i + 1))), (1, .int (nI (done.length + 1))), (0, .ref T)] dT_groupRows_111 rfl (nI_1 _) (by decide) rfl ?_
        refine j_goto O 40 dT_groupRows_114 (by decide) ?_
        refine J.pk [3, 2, 1, 0] rfl ?_
        have hP3 := hP2.store hLA kpw8
        have hL3 : lineOK gw5 t w aL (va_up f done.length (some a0)) 0 (done ++ [run]) := by
          refine ⟨hw7, fun j hj => ?_⟩
          rw [List.length_append] at hj
          rcases Nat.lt_or_ge j done.length with z | z
          · obtain ⟨b, h1, h2, h3⟩ := hLold j z
            exact ⟨b, by rw [va_up_ne _ _ (by omega)]; exact h1, by rw [List.getElem_append_left z]; exact h2, h3⟩
          · have e : j = done.length := by simp at hj; omega
            subst e
            refine ⟨a0, va_up_self _ _ _, ?_, hnin⟩
            rw [List.getElem_append_right (Nat.le_refl _)]
            simp only [Nat.sub_self, List.getElem_cons_zero]
            exact hnv
        have elen : nI (done.length + 1) = nI (done ++ [run]).length := by rw [List.length_append]; rfl
        rw [elen]
        rw [hcat] at hP3
        have hih := ih (i + 1) (i + 1) (done ++ [run]) gw5 w _ (by omega) (Nat.le_refl _) hrun2 (by rw [List.length_append]; simp; omega) (fun j hj h1 h2 => by omega) (fun _ => rfl) hP3 hL3
        refine J.widen ?_ ?_ hih
        · omega
        · omega
      · have hnew : ∀ a, (inS w.2.2.2.2.1 a ∨ a ∈ w.2.2.2.2.2) → w.1 a ≠ some (0, run) := by
          rintro a (ha | ha) hv
          · exact hold ((hP.stored hin0).mpr ⟨a, ha, hv⟩)
          · exact hnotin (hP.pend ha hv)
        have hcnt : (news (vals w0.1 (stL w0.2.2.2.2.1)) (lvs0 (done ++ [run]))).length = (news (vals w0.1 (stL w0.2.2.2.2.1)) (lvs0 done)).length + 1 := by rw [← hcat, news_app, news_out hold, List.length_append]; rfl
        have hrl3 : run.length ≤ 300 := by omega
        refine j_callV O [.ref bF, .int (nI fr), .int (nI (fr + run.length))] (c_leafOf_new X.2.1 D t A g1 sA bA bF fr 300 nn ss fF run w hP.1 hb1 hrunI (fun r hr => hw6 r (hmem r hr)) hrl3 hsrun (by omega) (by omega) hnew) hs1 rfl w104 w105 w106 w24 w107 3 rfl rfl rfl (by decide +kernel) ⟨(by show 3 + 1 ≤ _; omega), (by show 8 + (6 + 11) + 90 ≤ _; omega)⟩ rfl (Nat.le_of_ble_eq_true rfl) dT_groupRows_100 ⟨(by show 3 * _ + 3 ≤ _; omega), (by show 312 * _ + (run.length + 12) ≤ _; omega)⟩ (fun vw9 gw10 hpw11 => ?_)
        obtain ⟨q, ra, ba, rfl, hq, hra, hba, hS2, kp2⟩ := hpw11
        have hP2 := hP.new hold hq hra hba hS2 kp2
        have hnv : (wAdd w q (0, run) [] ra ba).1 q = some (0, run) := va_up_self _ _ _
        obtain ⟨xra, xba, hac0⟩ := hS2.1.cell hnv
        have hL2 := kp2.2 aL _ (one_ne hsL.symm) hL.1
        have hnin : inS (wAdd w q (0, run) [] ra ba).2.2.2.2.1 q ∨ q ∈ (wAdd w q (0, run) [] ra ba).2.2.2.2.2 := Or.inr List.mem_cons_self
        have hLold : ∀ j (hj : j < done.length), ∃ b, f j = some b ∧ (wAdd w q (0, run) [] ra ba).1 b = some (0, done[j]) ∧ (inS (wAdd w q (0, run) [] ra ba).2.2.2.2.1 b ∨ b ∈ (wAdd w q (0, run) [] ra ba).2.2.2.2.2) := by
          intro j hj
          obtain ⟨b, h1, h2, h3⟩ := hL.2 j hj
          refine ⟨b, h1, ?_, h3.imp id (fun z => List.mem_cons_of_mem _ z)⟩
          show va_up w.1 q _ b = _
          rw [va_up_ne _ _ (fun z : b = q => hq (z ▸ SW.dom hP.1 h2))]
          exact h2
        have kp0 : Kp [aL] gw10 gw10 := Kp.rf
        refine j_aast O hL2 2 rfl hac0 rfl (by omega) (by omega) dT_groupRows_103 (fun gw12 ew13 => ?_)
        have hw14 := gUp_self (e' := .inl (t 2, 300, .inr (.inr (.inr (.inr (va_up f done.length (some q))))))) hL2
        rw [← ew13] at hw14
        have kpw15 := kp0.up (a := aL) (e := .inl (t 2, 300, .inr (.inr (.inr (.inr (va_up f done.length (some q))))))) (by simp)
        rw [← ew13] at kpw15
        refine j_iinc O (nI (done.length + 1)) [(1, .int (nI (done.length + 1))), (0, .ref T), (2, .int (nI fr)), (3, .int (nI i))] dT_groupRows_104 rfl (nI_1 _) (by decide) rfl ?_
        refine j_iload_n O 3 dT_groupRows_107 rfl rfl ?_
        refine j_iconst O (v := 1) dT_groupRows_108 (by decide) ?_
        refine j_iadd O dT_groupRows_109 ?_
        refine j_eqi (nI (i + 1)) (nI_1 _) ?_
        refine j_istore_n O 2 [(2, .int (nI (i + 1))), (1, .int (nI (done.length + 1))), (0, .ref T), (3, .int (nI i))] dT_groupRows_110 rfl (by decide) rfl ?_
        refine j_iinc O (nI (i + 1)) [(3, .int (nI (i + 1))), (2, .int (nI (i + 1))), (1, .int (nI (done.length + 1))), (0, .ref T)] dT_groupRows_111 rfl (nI_1 _) (by decide) rfl ?_
        refine j_goto O 40 dT_groupRows_114 (by decide) ?_
        refine J.pk [3, 2, 1, 0] rfl ?_
        have hP3 := hP2.store hLA kpw15
        have hL3 : lineOK gw12 t (wAdd w q (0, run) [] ra ba) aL (va_up f done.length (some q)) 0 (done ++ [run]) := by
          refine ⟨hw14, fun j hj => ?_⟩
          rw [List.length_append] at hj
          rcases Nat.lt_or_ge j done.length with z | z
          · obtain ⟨b, h1, h2, h3⟩ := hLold j z
            exact ⟨b, by rw [va_up_ne _ _ (by omega)]; exact h1, by rw [List.getElem_append_left z]; exact h2, h3⟩
          · have e : j = done.length := by simp at hj; omega
            subst e
            refine ⟨q, va_up_self _ _ _, ?_, hnin⟩
            rw [List.getElem_append_right (Nat.le_refl _)]
            simp only [Nat.sub_self, List.getElem_cons_zero]
            exact hnv
        have elen : nI (done.length + 1) = nI (done ++ [run]).length := by rw [List.length_append]; rfl
        rw [elen]
        rw [hcat] at hP3
        have hih := ih (i + 1) (i + 1) (done ++ [run]) gw12 (wAdd w q (0, run) [] ra ba) _ (by omega) (Nat.le_refl _) hrun2 (by rw [List.length_append]; simp; omega) (fun j hj h1 h2 => by omega) (fun _ => rfl) hP3 hL3
        refine J.widen ?_ ?_ hih
        · rw [hcnt]; omega
        · rw [hcnt]; omega
    refine j_iload_n O 3 dT_groupRows_40 rfl rfl ?_
    refine j_aload_n O 0 dT_groupRows_41 rfl rfl ?_
    refine j_get O uwT hT1 rfl 4 (by decide) w196 rfl rfl dT_groupRows_42 ?_
    refine j_get O uwQ hq1 rfl 1 (by decide) w97 rfl rfl dT_groupRows_45 ?_
    refine j_icmp_ge O 117 dT_groupRows_48 (by decide) (fun c => absurd c (nI_ge hi1 (by omega))) (fun c => ?_)
    refine j_aload_n O 0 dT_groupRows_51 rfl rfl ?_
    refine j_get O uwT hT1 rfl 4 (by decide) w196 rfl rfl dT_groupRows_52 ?_
    refine j_get O uwQ hq1 rfl 0 (by decide) w94 rfl rfl dT_groupRows_55 ?_
    refine j_iload_n O 3 dT_groupRows_58 rfl rfl ?_
    refine j_aald O hb1 1 rfl (by omega) (by omega) dT_groupRows_59 ?_
    refine j_some x hfx ?_
    refine j_get O uwR hxc rfl 3 (by decide) w295 rfl rfl dT_groupRows_60 ?_
    refine j_iconst O (v := 1) dT_groupRows_63 (by decide) ?_
    refine j_icmp_ge O 80 dT_groupRows_64 (by decide) (fun c1 => ?_) (fun c1 => ?_)
    · refine J.pk [0, 1, 2, 3] rfl ?_
      have hl5 := lvl_le rs[i].1
      refine HB (Or.inl ?_)
      simp only [lvB, decide_eq_true_eq]
      rcases Nat.lt_or_ge (lvl rs[i].1) 1 with z | z
      · exact absurd c1 (nI_ge (b := 1) z (by omega))
      · exact z
    · have hl5 := lvl_le rs[i].1
      have hlo : lvB 1 rs[i] = false := by
        simp only [lvB, decide_eq_false_iff_not]
        intro z
        exact c1 (nI_le (a := 1) z (by omega))
      refine j_iload_n O 3 dT_groupRows_67 rfl rfl ?_
      refine j_iconst O (v := 1) dT_groupRows_68 (by decide) ?_
      refine j_iadd O dT_groupRows_69 ?_
      refine j_eqi (nI (i + 1)) (nI_1 _) ?_
      refine j_aload_n O 0 dT_groupRows_70 rfl rfl ?_
      refine j_get O uwT hT1 rfl 4 (by decide) w196 rfl rfl dT_groupRows_71 ?_
      refine j_get O uwQ hq1 rfl 1 (by decide) w97 rfl rfl dT_groupRows_74 ?_
      refine j_icmp_ne O 111 dT_groupRows_77 (by decide) (fun c2 => ?_) (fun c2 => ?_)
      · refine j_iinc O (nI (i + 1)) [(3, .int (nI (i + 1))), (0, .ref T), (1, .int (nI done.length)), (2, .int (nI fr))] dT_groupRows_111 rfl (nI_1 _) (by decide) rfl ?_
        refine j_goto O 40 dT_groupRows_114 (by decide) ?_
        refine J.pk [1, 2, 3, 0] rfl ?_
        have hne : i + 1 ≠ rs.length := fun z => c2 (by rw [z])
        refine ih (i + 1) fr done g1 w f (by omega) (by omega) hrun hdl (fun j hj h1 h2 => ?_) (fun z => absurd z hne) hP hL
        rcases Nat.lt_or_ge j i with z | z
        · exact hlow j hj h1 z
        · have : j = i := by omega
          subst this
          exact hlo
      · refine J.pk [0, 1, 2, 3] rfl ?_
        exact HB (Or.inr ((nI_eq (by omega) (by omega)).mp c2))
/-- the runs that a table's leaves are: one, empty, if there are no rows -/
def lruns (rs : List RV) : List (List RV) := if rs = [] then [[]] else runs 1 rs
set_option maxRecDepth 100000 in
set_option maxHeartbeats 1000000 in
theorem c_groupRows (l : Launch) (D : va_G) (t : Nat → ClassId) (A : Nat → Prop) (g : GH) (T aW aR sA bA dA qF bF qE aL : Nat) (ls nn ss : Int32) (w0 : GD) (rs : List RV) (fF : Nat → Option Nat) (hT : gAt g T (eTT aW aR sA dA qF qE aL ls)) (hqF : gAt g qF (eRL bF (nI rs.length))) (hbF : gAt g bF (eRs t 300 fF)) (hbI : bF ≠ aL) (hrI : rowsI t g w0.2.2.2.1 fF 0 rs) (hS0 : SW t g w0 sA bA nn ss) (hw6 : ∀ r ∈ rs, r.2.1.length ≤ 6) (hl3 : rs.length ≤ 300) (hsr : srt rs) (hLA : LA t g w0 sA bA aL) (hpd : w0.2.2.2.2.2 = []) : Ct l yT_groupRows sT_groupRows { frames := 4, cells := 3 * (news (vals w0.1 (stL w0.2.2.2.2.1)) (lvs0 (lruns rs))).length, slots := 312 * (news (vals w0.1 (stL w0.2.2.2.2.1)) (lvs0 (lruns rs))).length, locals := 130 } (zz D t A) [.ref T] g (3 * (news (vals w0.1 (stL w0.2.2.2.2.1)) (lvs0 (lruns rs))).length) (312 * (news (vals w0.1 (stL w0.2.2.2.2.1)) (lvs0 (lruns rs))).length) (fun v g' => v = some (.int (nI (lruns rs).length)) ∧ ∃ w f, PW t g w0 g' w sA bA aL nn ss (lvs0 (lruns rs)) ∧ lineOK g' t w aL f 0 (lruns rs)) := by
  refine Ct.of (cc := bT_groupRows) (maxL := 4) (ret := (some .int)) (by decide) (Nat.le_of_ble_eq_true rfl) (fun X hlX O M hNn => ?_)
  show J X 4 (zz D t A) g 0 0 0 [(0, .ref T)] []
  have hin0 : ∀ a, inS w0.2.2.2.2.1 a → ∃ u, w0.1 a = some u := fun a ha => SW.in hS0 (Or.inl ha)
  obtain ⟨⟨fL0, hl0⟩, hIL, hbL, hsL, hnL⟩ := id hLA
  have hP0 : PW t g w0 g w0 sA bA aL nn ss [] := ⟨hS0, rfl, fun x u hu => ⟨hu, rfl, rfl⟩, fun x hx => hx, fun x hx => Or.inl hx, fun x u hu => Or.inl hu, by rw [hpd]; rfl, Kp.rf⟩
  have hs1 := hS0.2.1
  by_cases hem : rs = []
  · have hlr : lruns rs = [[]] := by unfold lruns; rw [if_pos hem]
    rw [hlr] at O M
    subst hem
    refine j_aload_n O 0 dT_groupRows_0 rfl rfl ?_
    refine j_get O uwT hT rfl 4 (by decide) w196 rfl rfl dT_groupRows_1 ?_
    refine j_get O uwQ hqF rfl 1 (by decide) w97 rfl rfl dT_groupRows_4 ?_
    refine j_if_ne O 34 dT_groupRows_7 (by decide) (fun c => absurd rfl c) (fun c => ?_)
    refine j_aload_n O 0 dT_groupRows_10 rfl rfl ?_
    refine j_get O uwT hT rfl 6 (by decide) w198 rfl rfl dT_groupRows_11 ?_
    refine j_iconst O (v := 0) dT_groupRows_14 (by decide) ?_
    refine j_aload_n O 0 dT_groupRows_15 rfl rfl ?_
    refine j_get O uwT hT rfl 2 (by decide) w194 rfl rfl dT_groupRows_16 ?_
    refine j_aload_n O 0 dT_groupRows_19 rfl rfl ?_
    refine j_get O uwT hT rfl 4 (by decide) w196 rfl rfl dT_groupRows_20 ?_
    refine j_get O uwQ hqF rfl 0 (by decide) w94 rfl rfl dT_groupRows_23 ?_
    refine j_iconst O (v := 0) dT_groupRows_26 (by decide) ?_
    refine j_iconst O (v := 0) dT_groupRows_27 (by decide) ?_
    by_cases hold : (0, []) ∈ (vals w0.1 (stL w0.2.2.2.2.1))
    · obtain ⟨a0, ha0, hv0⟩ := (hP0.stored hin0).mp hold
      refine j_callV O [.ref bF, .int (nI 0), .int (nI (0 + ([] : List RV).length))] (c_leafOf_old X.2.1 D t A g sA bA bF 0 300 nn ss fF [] w0 a0 hS0 hbF (fun i hi => absurd hi (Nat.not_lt_zero _)) (fun r hr => absurd hr List.not_mem_nil) (by simp) (by omega) ha0 hv0) hs1 rfl w104 w105 w106 w24 w107 3 rfl rfl rfl (by decide +kernel) ⟨(Nat.le_of_ble_eq_true rfl), (Nat.le_of_ble_eq_true rfl)⟩ rfl (Nat.le_of_ble_eq_true rfl) dT_groupRows_28 ⟨Nat.zero_le _, Nat.zero_le _⟩ (fun vw16 gw17 hpw18 => ?_)
      obtain ⟨rfl, hgw19⟩ := hpw18
      have hgw19 := hgw19.symm
      subst hgw19
      obtain ⟨xra, xba, hac0⟩ := hS0.1.cell hv0
      have hP2 := hP0.old hold
      have hnin : inS w0.2.2.2.2.1 a0 ∨ a0 ∈ w0.2.2.2.2.2 := Or.inl ha0
      have hnv := hv0
      have kp0 : Kp [aL] g g := Kp.rf
      refine j_aast (i := 0) O hl0 2 rfl hac0 rfl (by decide) (by decide) dT_groupRows_31 (fun gw20 ew21 => ?_)
      have hw22 := gUp_self (e' := .inl (t 2, 300, .inr (.inr (.inr (.inr (va_up fL0 0 (some a0))))))) hl0
      rw [← ew21] at hw22
      have kpw23 := kp0.up (a := aL) (e := .inl (t 2, 300, .inr (.inr (.inr (.inr (va_up fL0 0 (some a0))))))) (by simp)
      rw [← ew21] at kpw23
      refine j_iconst O (v := 1) dT_groupRows_32 (by decide) ?_
      have hP3 := hP2.store hLA kpw23
      have hL3 : lineOK gw20 t w0 aL (va_up fL0 0 (some a0)) 0 [[]] := by
        refine ⟨hw22, fun j hj => ?_⟩
        have e : j = 0 := by simp at hj; omega
        subst e
        exact ⟨a0, va_up_self _ _ _, hnv, hnin⟩
      exact j_iret O M (Nat.zero_le _) (Nat.zero_le _) ⟨rfl, w0, _, hP3, hL3⟩ dT_groupRows_33
    · have hnew : ∀ a, (inS w0.2.2.2.2.1 a ∨ a ∈ w0.2.2.2.2.2) → w0.1 a ≠ some (0, []) := by
        rintro a (ha | ha) hv
        · exact hold ((hP0.stored hin0).mpr ⟨a, ha, hv⟩)
        · rw [hpd] at ha; cases ha
      have hcnt : (news (vals w0.1 (stL w0.2.2.2.2.1)) (lvs0 [[]])).length = 1 := by
        show (news (vals w0.1 (stL w0.2.2.2.2.1)) [(0, [])]).length = 1
        rw [news_out hold]; rfl
      refine j_callV O [.ref bF, .int (nI 0), .int (nI (0 + ([] : List RV).length))] (c_leafOf_new X.2.1 D t A g sA bA bF 0 300 nn ss fF [] w0 hS0 hbF (fun i hi => absurd hi (Nat.not_lt_zero _)) (fun r hr => absurd hr List.not_mem_nil) (Nat.zero_le _) List.Pairwise.nil (by simp) (by omega) hnew) hs1 rfl w104 w105 w106 w24 w107 3 rfl rfl rfl (by decide +kernel) ⟨(Nat.le_of_ble_eq_true rfl), (Nat.le_of_ble_eq_true rfl)⟩ rfl (Nat.le_of_ble_eq_true rfl) dT_groupRows_28 ⟨(by show 0 + 3 ≤ 3 * _; rw [hcnt]; omega), (by show 0 + (0 + 12) ≤ 312 * _; rw [hcnt]; omega)⟩ (fun vw24 gw25 hpw26 => ?_)
      obtain ⟨q, ra, ba, rfl, hq, hra, hba, hS2, kp2⟩ := hpw26
      have hP2 := hP0.new hold hq hra hba hS2 kp2
      have hnv : (wAdd w0 q (0, []) [] ra ba).1 q = some (0, []) := va_up_self _ _ _
      obtain ⟨xra, xba, hac0⟩ := hS2.1.cell hnv
      have hL2 := kp2.2 aL _ (one_ne hsL.symm) hl0
      have hnin : inS (wAdd w0 q (0, []) [] ra ba).2.2.2.2.1 q ∨ q ∈ (wAdd w0 q (0, []) [] ra ba).2.2.2.2.2 := Or.inr List.mem_cons_self
      have kp0 : Kp [aL] gw25 gw25 := Kp.rf
      refine j_aast (i := 0) O hL2 2 rfl hac0 rfl (by decide) (by decide) dT_groupRows_31 (fun gw27 ew28 => ?_)
      have hw29 := gUp_self (e' := .inl (t 2, 300, .inr (.inr (.inr (.inr (va_up fL0 0 (some q))))))) hL2
      rw [← ew28] at hw29
      have kpw30 := kp0.up (a := aL) (e := .inl (t 2, 300, .inr (.inr (.inr (.inr (va_up fL0 0 (some q))))))) (by simp)
      rw [← ew28] at kpw30
      refine j_iconst O (v := 1) dT_groupRows_32 (by decide) ?_
      have hP3 := hP2.store hLA kpw30
      have hL3 : lineOK gw27 t (wAdd w0 q (0, []) [] ra ba) aL (va_up fL0 0 (some q)) 0 [[]] := by
        refine ⟨hw29, fun j hj => ?_⟩
        have e : j = 0 := by simp at hj; omega
        subst e
        exact ⟨q, va_up_self _ _ _, hnv, hnin⟩
      exact j_iret O M (by show 0 + 3 ≤ 3 * _; rw [hcnt]; omega) (by show 0 + (0 + 12) ≤ 312 * _; rw [hcnt]; omega) ⟨rfl, (wAdd w0 q (0, []) [] ra ba), _, hP3, hL3⟩ dT_groupRows_33
  · have hlr : lruns rs = runs 1 rs := by unfold lruns; rw [if_neg hem]
    rw [hlr] at O M
    have hpos : 0 < rs.length := List.length_pos_iff.mpr hem
    refine j_aload_n O 0 dT_groupRows_0 rfl rfl ?_
    refine j_get O uwT hT rfl 4 (by decide) w196 rfl rfl dT_groupRows_1 ?_
    refine j_get O uwQ hqF rfl 1 (by decide) w97 rfl rfl dT_groupRows_4 ?_
    refine j_if_ne O 34 dT_groupRows_7 (by decide) (fun c => ?_) (fun c => absurd c (nI_ne0 hpos (by omega)))
    refine j_iconst O (v := 0) dT_groupRows_34 (by decide) ?_
    refine j_istore_n O 1 [(1, .int 0), (0, .ref T)] dT_groupRows_35 rfl (by decide) rfl ?_
    refine j_iconst O (v := 0) dT_groupRows_36 (by decide) ?_
    refine j_istore_n O 2 [(2, .int 0), (1, .int 0), (0, .ref T)] dT_groupRows_37 rfl (by decide) rfl ?_
    refine j_iconst O (v := 0) dT_groupRows_38 (by decide) ?_
    refine j_istore_n O 3 [(3, .int 0), (2, .int 0), (1, .int 0), (0, .ref T)] dT_groupRows_39 rfl (by decide) rfl ?_
    refine J.pk [3, 2, 1, 0] rfl ?_
    have K0 := groupRows_loop O M hT hqF hbF hbI hrI hS0 hw6 hl3 hsr hLA ⟨Nat.le_refl _, Nat.le_refl _, Nat.le_refl _, Nat.le_refl _⟩ rs.length 0 0 [] g w0 fL0 (Nat.zero_add _) (Nat.le_refl _) rfl (Nat.le_refl _) (fun j hj h1 h2 => by omega) (fun z => by omega) hP0 ⟨hl0, fun i hi => absurd hi (Nat.not_lt_zero _)⟩
    exact K0
