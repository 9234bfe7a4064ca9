theorem sub_flat {α : Type} {l l' : List (List α)} (h : l.Sublist l') : l.flatten.Sublist l'.flatten := by
  induction h with
  | slnil => exact List.Sublist.slnil
  | cons a _ ih => rw [List.flatten_cons]; exact ih.trans (List.sublist_append_right _ _)
  | cons_cons a _ ih => rw [List.flatten_cons, List.flatten_cons]; exact List.Sublist.append (List.Sublist.refl _) ih
def lvsH (h : Nat) (qs : List (List RV)) : List NV := qs.map (fun q => (h, q))
theorem lvsH_app (h : Nat) (a b : List (List RV)) : lvsH h (a ++ b) = lvsH h a ++ lvsH h b := by simp [lvsH]
theorem lastP_lastL {t : Nat} {q : List RV} (hq : q ≠ []) : lastP (lvB t) q = decide (t ≤ lastL q) := by
  unfold lastP lastL
  cases hc : q.getLast? with
  | none => rw [List.getLast?_eq_none_iff] at hc; exact absurd hc hq
  | some r => rfl
theorem slice_at {α : Type} {qs : List α} {fr i : Nat} {j : Nat} (hi : i < qs.length) (hf : fr ≤ i) (hj : j < ((qs.drop fr).take (i + 1 - fr)).length) : ((qs.drop fr).take (i + 1 - fr))[j] = qs[fr + j]'(by rw [List.length_take, List.length_drop] at hj; omega) := by
  rw [List.getElem_take, List.getElem_drop]
theorem PW.assoc {t : Nat → ClassId} {g0 g : GH} {w0 w : GD} {sA bA aL : Nat} {nn ss : Int32} {V A B : List NV} (h : PW t g0 w0 g w sA bA aL nn ss ((V ++ A) ++ B)) : PW t g0 w0 g w sA bA aL nn ss (V ++ (A ++ B)) := by rw [← List.append_assoc]; exact h
set_option maxRecDepth 100000 in
set_option maxHeartbeats 1000000 in
theorem groupNodes_loop {X : CX} {D : va_G} {t : Nat → ClassId} {A : Nat → Prop} {rm : Room} {g0 : GH} {T aW aR sA bA dA qF qE aL h : Nat} {ls nn ss : Int32} {w0 : GD} {rs : List RV} {qs : List (List RV)} {V : List NV} (O : Ok X bT_groupNodes 6 "TwinTrees" (zz D t A) rm) (M : Om X (zz D t A) (some .int) (3 * (news (vals w0.1 (stL w0.2.2.2.2.1)) (lvsH (h + 1) (runs (h + 2) rs))).length) (312 * (news (vals w0.1 (stL w0.2.2.2.2.1)) (lvsH (h + 1) (runs (h + 2) rs))).length) (fun v g' => v = some (.int (nI (runs (h + 2) rs).length)) ∧ ∃ w f, PW t g0 w0 g' w sA bA aL nn ss (V ++ (lvsH (h + 1) (runs (h + 2) rs))) ∧ lineOK g' t w aL f (h + 1) (runs (h + 2) rs))) (hT : gAt g0 T (eTT aW aR sA dA qF qE aL ls)) (hS0 : SW t g0 w0 sA bA nn ss) (hLA : LA t g0 w0 sA bA aL) (hqs : qs = runs (h + 1) rs) (hw6 : ∀ r ∈ rs, r.2.1.length ≤ 6) (hl3 : rs.length ≤ 300) (hsr : srt rs) (hh5 : h + 1 ≤ 5) (hVh : ∀ v ∈ V, v.1 ≤ h) (hrm : 4 ≤ rm.frames ∧ 130 ≤ rm.locals ∧ 3 * (news (vals w0.1 (stL w0.2.2.2.2.1)) (lvsH (h + 1) (runs (h + 2) rs))).length ≤ rm.cells ∧ 312 * (news (vals w0.1 (stL w0.2.2.2.2.1)) (lvsH (h + 1) (runs (h + 2) rs))).length ≤ rm.slots) : ∀ (k i fr : Nat) (dn : List (List (List RV))) (done : List (List RV)) (g1 : GH) (w : GD) (f : Nat → Option Nat), i + k = qs.length → fr ≤ i → runsP (lastP (lvB (h + 2))) qs = dn ++ runsP (lastP (lvB (h + 2))) (qs.drop fr) → done = dn.map List.flatten → done.length ≤ fr → (∀ j (hj : j < qs.length), fr ≤ j → j < i → lastP (lvB (h + 2)) qs[j] = false) → (i = qs.length → fr = i) → PW t g0 w0 g1 w sA bA aL nn ss (V ++ (lvsH (h + 1) done)) → gAt g1 aL (eNs t 300 f) → (∀ j (hj : j < done.length), ∃ b, f j = some b ∧ w.1 b = some (h + 1, done[j]) ∧ (inS w.2.2.2.2.1 b ∨ b ∈ w.2.2.2.2.2)) → (∀ j (hj : j < qs.length), fr ≤ j → ∃ b, f j = some b ∧ w.1 b = some (h, qs[j]) ∧ (inS w.2.2.2.2.1 b ∨ b ∈ w.2.2.2.2.2)) → J X 6 (zz D t A) g1 (3 * (news (vals w0.1 (stL w0.2.2.2.2.1)) (lvsH (h + 1) done)).length) (312 * (news (vals w0.1 (stL w0.2.2.2.2.1)) (lvsH (h + 1) done)).length) 8 [(0, .ref T), (1, .int (nI (h + 1))), (2, .int (nI qs.length)), (3, .int (nI done.length)), (4, .int (nI fr)), (5, .int (nI i))] [] := by
  obtain ⟨⟨fL0, hl0⟩, hIL, hbL, hsL, hnL⟩ := id hLA
  have hTL : T ≠ aL := hT.ne hl0 (by simp)
  have hin0 : ∀ a, inS w0.2.2.2.2.1 a → ∃ u, w0.1 a = some u := fun a ha => SW.in hS0 (Or.inl ha)
  have hqne : ∀ q ∈ qs, q ≠ [] := fun q hq => by rw [hqs] at hq; exact runsP_ne _ _ q hq
  have hqfl : qs.flatten = rs := by rw [hqs]; exact runsP_flat _ _
  have hnext : (runsP (lastP (lvB (h + 2))) qs).map List.flatten = (runs (h + 2) rs) := by rw [hqs]; exact runsP_runs (lvB (h + 1)) (lvB (h + 2)) (fun r hr => lvB_mono r hr) rs
  have hgin : ∀ G, G ∈ runsP (lastP (lvB (h + 2))) qs → runs (h + 1) G.flatten = G := fun G hG => by rw [hqs] at hG; exact runsP_in (lvB (h + 1)) (lvB (h + 2)) (fun r hr => lvB_mono r hr) rs G hG
  have hql : qs.length ≤ 300 := by rw [hqs]; exact Nat.le_trans (runs_len_le _ _) hl3
  intro k
  induction k with
  | zero =>
    intro i fr dn done g1 w f hi hfr hrun hdn hdl hlow hend hP hL hA hB
    have hi : i = qs.length := by omega
    have hfe := hend hi
    have hr0 : runsP (lastP (lvB (h + 2))) (qs.drop fr) = [] := by rw [hfe, hi, List.drop_length]; rfl
    rw [hr0, List.append_nil] at hrun
    have hdone : (runs (h + 2) rs) = done := by rw [← hnext, hrun, hdn]
    subst hi
    refine j_iload O dT_groupNodes_8 rfl ?_
    refine j_iload_n O 2 dT_groupNodes_10 rfl rfl ?_
    refine j_icmp_ge O 77 dT_groupNodes_11 (by decide) (fun c => ?_) (fun c => absurd (nI_le (Nat.le_refl _) (by omega)) c)
    refine j_iload_n O 3 dT_groupNodes_77 rfl rfl ?_
    exact j_iret O M (by rw [hdone]; exact Nat.le_refl _) (by rw [hdone]; exact Nat.le_refl _) ⟨by rw [hdone], w, f, by rw [hdone]; exact hP, by rw [hdone]; exact ⟨hL, hA⟩⟩ dT_groupNodes_78
  | succ k ih =>
    intro i fr dn done g1 w f hi hfr hrun hdn hdl hlow hend hP hL hA hB
    have hi1 : i < qs.length := by omega
    have hkp := hP.2.2.2.2.2.2.2
    have hT1 := hkp.2 T _ (two_ne (hT.ne hS0.2.1 (by simp)) hTL) hT
    have hs1 := hP.1.2.1
    obtain ⟨x, hfx, hxv, -⟩ := hB i hi1 hfr
    obtain ⟨xra, xba, hxc⟩ := hP.1.1.cell hxv
    have HB : (lastP (lvB (h + 2)) qs[i] = true ∨ i + 1 = qs.length) → J X 6 (zz D t A) g1 (3 * (news (vals w0.1 (stL w0.2.2.2.2.1)) (lvsH (h + 1) done)).length) (312 * (news (vals w0.1 (stL w0.2.2.2.2.1)) (lvsH (h + 1) done)).length) 38 [(0, .ref T), (1, .int (nI (h + 1))), (2, .int (nI qs.length)), (3, .int (nI done.length)), (4, .int (nI fr)), (5, .int (nI i))] [] := by
      intro hbnd
      have hstep := runsP_step (lastP (lvB (h + 2))) qs fr i hfr hi1 hlow hbnd
      generalize hrd : (qs.drop fr).take (i + 1 - fr) = grp at hstep
      have hgl : grp.length = i + 1 - fr := by rw [← hrd, List.length_take, List.length_drop]; omega
      have hgg : ∀ j (hj : j < grp.length), grp[j] = qs[fr + j]'(by omega) := by
        intro j hj
        subst hrd
        exact slice_at hi1 hfr hj
      have hrun2 : runsP (lastP (lvB (h + 2))) qs = (dn ++ [grp]) ++ runsP (lastP (lvB (h + 2))) (qs.drop (i + 1)) := by
        rw [hrun, List.append_assoc]
        congr 1
      have hdone2 : done ++ [grp.flatten] = (dn ++ [grp]).map List.flatten := by rw [hdn, List.map_append]; rfl
      have hnx2 : (runs (h + 2) rs) = (done ++ [grp.flatten]) ++ (runsP (lastP (lvB (h + 2))) (qs.drop (i + 1))).map List.flatten := by rw [← hnext, hrun2, List.map_append, hdone2]
      have hsubl : List.Sublist grp qs := by rw [← hrd]; exact (List.take_sublist _ _).trans (List.drop_sublist _ _)
      have hfsub : List.Sublist grp.flatten rs := by rw [← hqfl]; exact sub_flat hsubl
      have hgne : grp ≠ [] := fun z => by rw [z] at hgl; simp at hgl; omega
      have hfne : grp.flatten ≠ [] := by
        obtain ⟨q, hq⟩ := List.exists_mem_of_ne_nil grp hgne
        intro z
        rw [List.flatten_eq_nil_iff] at z
        exact hqne q (hsubl.subset hq) (z q hq)
      have hvo : vOK (h + 1, grp.flatten) := ⟨hh5, Nat.le_trans hfsub.length_le hl3, fun r hr => hw6 r (hfsub.subset hr), fun _ => hfne, List.Pairwise.sublist hfsub hsr⟩
      have hcat : (V ++ (lvsH (h + 1) done)) ++ [(h + 1, grp.flatten)] = V ++ (lvsH (h + 1) (done ++ [grp.flatten])) := by rw [lvsH_app, ← List.append_assoc]; rfl
      have hcatH : (lvsH (h + 1) done) ++ [(h + 1, grp.flatten)] = (lvsH (h + 1) (done ++ [grp.flatten])) := by rw [lvsH_app]; rfl
      have hmono : (news (vals w0.1 (stL w0.2.2.2.2.1)) (lvsH (h + 1) (done ++ [grp.flatten]))).length ≤ (news (vals w0.1 (stL w0.2.2.2.2.1)) (lvsH (h + 1) (runs (h + 2) rs))).length := by rw [hnx2, lvsH_app (h + 1) (done ++ [grp.flatten])]; exact news_mono
      have hmon2 : (news (vals w0.1 (stL w0.2.2.2.2.1)) (lvsH (h + 1) done)).length ≤ (news (vals w0.1 (stL w0.2.2.2.2.1)) (lvsH (h + 1) (done ++ [grp.flatten]))).length := by rw [← hcatH]; exact news_mono
      have hnotin : (h + 1, grp.flatten) ∉ V ++ (lvsH (h + 1) done) := by
        intro z
        rcases List.mem_append.mp z with z | z
        · have := hVh _ z
          dsimp only at this
          omega
        · obtain ⟨q, hq, e⟩ := List.mem_map.mp z
          have e2 : q = grp.flatten := congrArg Prod.snd e
          have hfl : (runs (h + 2) rs).flatten = rs := runsP_flat _ _
          rw [hnx2, List.flatten_append, List.flatten_append] at hfl
          obtain ⟨r, hr⟩ := List.exists_mem_of_ne_nil _ hfne
          have hs2 := hsr
          unfold srt at hs2
          rw [← hfl, List.pairwise_append] at hs2
          have hs3 := (List.pairwise_append.mp hs2.1).2.2 r (List.mem_flatten.mpr ⟨q, hq, e2 ▸ hr⟩) r (by rw [List.flatten_singleton]; exact hr)
          exact Int32.lt_irrefl hs3
      have hbl : belowOK w h grp ((List.range grp.length).map (fun j => (f (fr + j)).getD 0)) f fr := by
        have hk : ∀ j (hj : j < grp.length), ∃ b, f (fr + j) = some b ∧ w.1 b = some (h, grp[j]) ∧ (inS w.2.2.2.2.1 b ∨ b ∈ w.2.2.2.2.2) := by
          intro j hj
          obtain ⟨b, h1, h2, h3⟩ := hB (fr + j) (by omega) (by omega)
          exact ⟨b, h1, by rw [hgg j hj]; exact h2, h3⟩
        refine ⟨by simp, fun j hj => ?_, fun j hj hj2 => ?_, fun b hb => ?_, ?_, ⟨grp.length - 1, by omega⟩⟩
        · simp at hj
          obtain ⟨b, h1, -⟩ := hk j hj
          simp [h1]
        · obtain ⟨b, h1, h2, -⟩ := hk j hj2
          simp only [List.getElem_map, List.getElem_range, h1, Option.getD_some]
          exact h2
        · obtain ⟨j, hj, rfl⟩ := List.mem_map.mp hb
          obtain ⟨b, h1, -, h3⟩ := hk j (List.mem_range.mp hj)
          rw [h1]
          exact h3
        · exact hgin grp (by rw [hrun2]; simp)
      generalize hks : (List.range grp.length).map (fun j => (f (fr + j)).getD 0) = ks at hbl
      have eto : nI (i + 1) = nI (fr + grp.length) := by rw [hgl, show fr + (i + 1 - fr) = i + 1 by omega]
      refine j_aload_n O 0 dT_groupNodes_38 rfl rfl ?_
      refine j_get O uwT hT1 rfl 6 (by decide) w198 rfl rfl dT_groupNodes_39 ?_
      refine j_iload_n O 3 dT_groupNodes_42 rfl rfl ?_
      refine j_aload_n O 0 dT_groupNodes_43 rfl rfl ?_
      refine j_get O uwT hT1 rfl 2 (by decide) w194 rfl rfl dT_groupNodes_44 ?_
      refine j_iload_n O 1 dT_groupNodes_47 rfl rfl ?_
      refine j_aload_n O 0 dT_groupNodes_48 rfl rfl ?_
      refine j_get O uwT hT1 rfl 6 (by decide) w198 rfl rfl dT_groupNodes_49 ?_
      refine j_iload O dT_groupNodes_52 rfl ?_
      refine j_iload O dT_groupNodes_54 rfl ?_
      refine j_iconst O (v := 1) dT_groupNodes_56 (by decide) ?_
      refine j_iadd O dT_groupNodes_57 ?_
      refine j_eqi (nI (i + 1)) (nI_1 _) ?_
      refine j_eqi (nI (fr + grp.length)) eto ?_
      by_cases hold : (h + 1, grp.flatten) ∈ (vals w0.1 (stL w0.2.2.2.2.1))
      · obtain ⟨a0, ha0, hv0⟩ := (hP.stored hin0).mp hold
        refine j_callV O [.int (nI (h + 1)), .ref aL, .int (nI fr), .int (nI (fr + grp.length))] (c_branchOf_old X.2.1 D t A g1 sA bA aL fr 300 h nn ss f grp ks w a0 hP.1 hL (by omega) (by omega) hbl ha0 hv0) hs1 rfl w233 w234 w235 w24 w236 4 rfl rfl rfl (by decide +kernel) ⟨(by show 3 + 1 ≤ _; omega), (by show 8 + (7 + 11) + 90 ≤ _; omega)⟩ rfl (Nat.le_of_ble_eq_true rfl) dT_groupNodes_58 ⟨(by show 3 * _ + 0 ≤ _; omega), (by show 312 * _ + 0 ≤ _; omega)⟩ (fun vw1 gw2 hpw3 => ?_)
        obtain ⟨rfl, hgw4⟩ := hpw3
        have hgw4 := hgw4.symm
        subst hgw4
        obtain ⟨yra, yba, hac0⟩ := hP.1.1.cell hv0
        have hP2 := hP.old hold
        have hnin : inS w.2.2.2.2.1 a0 ∨ a0 ∈ w.2.2.2.2.2 := Or.inl ha0
        have hnv := hv0
        have hLold : ∀ (h1 : Nat) (j : Nat) (q : List RV), (∃ b, f j = some b ∧ w.1 b = some (h1, q) ∧ (inS w.2.2.2.2.1 b ∨ b ∈ w.2.2.2.2.2)) → ∃ b, f j = some b ∧ w.1 b = some (h1, q) ∧ (inS w.2.2.2.2.1 b ∨ b ∈ w.2.2.2.2.2) := fun _ _ _ z => z
        have kp0 : Kp [aL] g1 g1 := Kp.rf
        refine j_aast O hL 2 rfl hac0 rfl (by omega) (by omega) dT_groupNodes_61 (fun gw5 ew6 => ?_)
        have hw7 := gUp_self (e' := .inl (t 2, 300, .inr (.inr (.inr (.inr (va_up f done.length (some a0))))))) hL
        rw [← ew6] at hw7
        have kpw8 := kp0.up (a := aL) (e := .inl (t 2, 300, .inr (.inr (.inr (.inr (va_up f done.length (some a0))))))) (by simp)
        rw [← ew6] at kpw8
        refine j_iinc O (nI (done.length + 1)) [(3, .int (nI (done.length + 1))), (0, .ref T), (1, .int (nI (h + 1))), (2, .int (nI qs.length)), (4, .int (nI fr)), (5, .int (nI i))] dT_groupNodes_62 rfl (nI_1 _) (by decide) rfl ?_
        refine j_iload O dT_groupNodes_65 rfl ?_
        refine j_iconst O (v := 1) dT_groupNodes_67 (by decide) ?_
        refine j_iadd O dT_groupNodes_68 ?_
        refine j_eqi (nI (i + 1)) (nI_1 _) ?_
        refine j_istore O [(4, .int (nI (i + 1))), (3, .int (nI (done.length + 1))), (0, .ref T), (1, .int (nI (h + 1))), (2, .int (nI qs.length)), (5, .int (nI i))] dT_groupNodes_69 (by decide) rfl ?_
        refine j_iinc O (nI (i + 1)) [(5, .int (nI (i + 1))), (4, .int (nI (i + 1))), (3, .int (nI (done.length + 1))), (0, .ref T), (1, .int (nI (h + 1))), (2, .int (nI qs.length))] dT_groupNodes_71 rfl (nI_1 _) (by decide) rfl ?_
        refine j_goto O 8 dT_groupNodes_74 (by decide) ?_
        refine J.pk [3, 4, 5, 2, 1, 0] rfl ?_
        have hP3 := hP2.store hLA kpw8
        have elen : nI (done.length + 1) = nI (done ++ [grp.flatten]).length := by rw [List.length_append]; rfl
        rw [elen]
        rw [hcat] at hP3
        have hih := ih (i + 1) (i + 1) (dn ++ [grp]) (done ++ [grp.flatten]) gw5 w _ (by omega) (Nat.le_refl _) hrun2 hdone2 (by rw [List.length_append]; simp; omega) (fun j hj h1 h2 => by omega) (fun _ => rfl) hP3 hw7 (fun j hj => by
          rw [List.length_append] at hj
          rcases Nat.lt_or_ge j done.length with z | z
          · obtain ⟨b, h1, h2, h3⟩ := hLold (h + 1) j _ (hA j z)
            exact ⟨b, by rw [va_up_ne _ _ (by omega)]; exact h1, by rw [List.getElem_append_left z]; exact h2, h3⟩
          · have e : j = done.length := by simp at hj; omega
            subst e
            refine ⟨a0, va_up_self _ _ _, ?_, hnin⟩
            rw [List.getElem_append_right (Nat.le_refl _)]
            simp only [Nat.sub_self, List.getElem_cons_zero]
            exact hnv) (fun j hj h1 => by
          obtain ⟨b, h2, h3, h4⟩ := hLold h j _ (hB j hj (by omega))
          exact ⟨b, by rw [va_up_ne _ _ (by omega)]; exact h2, h3, h4⟩)
        refine J.widen ?_ ?_ hih
        · omega
        · omega
      · have hnew : ∀ a, (inS w.2.2.2.2.1 a ∨ a ∈ w.2.2.2.2.2) → w.1 a ≠ some (h + 1, grp.flatten) := by
          rintro a (ha | ha) hv
          · exact hold ((hP.stored hin0).mpr ⟨a, ha, hv⟩)
          · exact hnotin (hP.pend ha hv)
        have hcnt : (news (vals w0.1 (stL w0.2.2.2.2.1)) (lvsH (h + 1) (done ++ [grp.flatten]))).length = (news (vals w0.1 (stL w0.2.2.2.2.1)) (lvsH (h + 1) done)).length + 1 := by rw [← hcatH, news_app, news_out hold, List.length_append]; rfl
        have hgl3 : grp.length ≤ 300 := by omega
        refine j_callV O [.int (nI (h + 1)), .ref aL, .int (nI fr), .int (nI (fr + grp.length))] (c_branchOf_new X.2.1 D t A g1 sA bA aL fr 300 h nn ss f grp ks w hP.1 hL (by omega) (by omega) hbl hvo hnew) hs1 rfl w233 w234 w235 w24 w236 4 rfl rfl rfl (by decide +kernel) ⟨(by show 3 + 1 ≤ _; omega), (by show 8 + (7 + 11) + 90 ≤ _; omega)⟩ rfl (Nat.le_of_ble_eq_true rfl) dT_groupNodes_58 ⟨(by show 3 * _ + 3 ≤ _; omega), (by show 312 * _ + (grp.length + 12) ≤ _; omega)⟩ (fun vw9 gw10 hpw11 => ?_)
        obtain ⟨q, ra, ba, rfl, hq, hra, hba, hS2, kp2⟩ := hpw11
        have hP2 := hP.new hold hq hra hba hS2 kp2
        have hnv : (wAdd w q (h + 1, grp.flatten) ks ra ba).1 q = some (h + 1, grp.flatten) := va_up_self _ _ _
        obtain ⟨yra, yba, hac0⟩ := hS2.1.cell hnv
        have hL2 := kp2.2 aL _ (one_ne hsL.symm) hL
        have hnin : inS (wAdd w q (h + 1, grp.flatten) ks ra ba).2.2.2.2.1 q ∨ q ∈ (wAdd w q (h + 1, grp.flatten) ks ra ba).2.2.2.2.2 := Or.inr List.mem_cons_self
        have hLold : ∀ (h1 : Nat) (j : Nat) (r : List RV), (∃ b, f j = some b ∧ w.1 b = some (h1, r) ∧ (inS w.2.2.2.2.1 b ∨ b ∈ w.2.2.2.2.2)) → ∃ b, f j = some b ∧ (wAdd w q (h + 1, grp.flatten) ks ra ba).1 b = some (h1, r) ∧ (inS (wAdd w q (h + 1, grp.flatten) ks ra ba).2.2.2.2.1 b ∨ b ∈ (wAdd w q (h + 1, grp.flatten) ks ra ba).2.2.2.2.2) := by
          rintro h1 j r ⟨b, e1, e2, e3⟩
          refine ⟨b, e1, ?_, e3.imp id (fun z => List.mem_cons_of_mem _ z)⟩
          show va_up w.1 q _ b = _
          rw [va_up_ne _ _ (fun z : b = q => hq (z ▸ SW.dom hP.1 e2))]
          exact e2
        have kp0 : Kp [aL] gw10 gw10 := Kp.rf
        refine j_aast O hL2 2 rfl hac0 rfl (by omega) (by omega) dT_groupNodes_61 (fun gw12 ew13 => ?_)
        have hw14 := gUp_self (e' := .inl (t 2, 300, .inr (.inr (.inr (.inr (va_up f done.length (some q))))))) hL2
        rw [← ew13] at hw14
        have kpw15 := kp0.up (a := aL) (e := .inl (t 2, 300, .inr (.inr (.inr (.inr (va_up f done.length (some q))))))) (by simp)
        rw [← ew13] at kpw15
        refine j_iinc O (nI (done.length + 1)) [(3, .int (nI (done.length + 1))), (0, .ref T), (1, .int (nI (h + 1))), (2, .int (nI qs.length)), (4, .int (nI fr)), (5, .int (nI i))] dT_groupNodes_62 rfl (nI_1 _) (by decide) rfl ?_
        refine j_iload O dT_groupNodes_65 rfl ?_
        refine j_iconst O (v := 1) dT_groupNodes_67 (by decide) ?_
        refine j_iadd O dT_groupNodes_68 ?_
        refine j_eqi (nI (i + 1)) (nI_1 _) ?_
        refine j_istore O [(4, .int (nI (i + 1))), (3, .int (nI (done.length + 1))), (0, .ref T), (1, .int (nI (h + 1))), (2, .int (nI qs.length)), (5, .int (nI i))] dT_groupNodes_69 (by decide) rfl ?_
        refine j_iinc O (nI (i + 1)) [(5, .int (nI (i + 1))), (4, .int (nI (i + 1))), (3, .int (nI (done.length + 1))), (0, .ref T), (1, .int (nI (h + 1))), (2, .int (nI qs.length))] dT_groupNodes_71 rfl (nI_1 _) (by decide) rfl ?_
        refine j_goto O 8 dT_groupNodes_74 (by decide) ?_
        refine J.pk [3, 4, 5, 2, 1, 0] rfl ?_
        have hP3 := hP2.store hLA kpw15
        have elen : nI (done.length + 1) = nI (done ++ [grp.flatten]).length := by rw [List.length_append]; rfl
        rw [elen]
        rw [hcat] at hP3
        have hih := ih (i + 1) (i + 1) (dn ++ [grp]) (done ++ [grp.flatten]) gw12 (wAdd w q (h + 1, grp.flatten) ks ra ba) _ (by omega) (Nat.le_refl _) hrun2 hdone2 (by rw [List.length_append]; simp; omega) (fun j hj h1 h2 => by omega) (fun _ => rfl) hP3 hw14 (fun j hj => by
          rw [List.length_append] at hj
          rcases Nat.lt_or_ge j done.length with z | z
          · obtain ⟨b, h1, h2, h3⟩ := hLold (h + 1) j _ (hA j z)
            exact ⟨b, by rw [va_up_ne _ _ (by omega)]; exact h1, by rw [List.getElem_append_left z]; exact h2, h3⟩
          · have e : j = done.length := by simp at hj; omega
            subst e
            refine ⟨q, va_up_self _ _ _, ?_, hnin⟩
            rw [List.getElem_append_right (Nat.le_refl _)]
            simp only [Nat.sub_self, List.getElem_cons_zero]
            exact hnv) (fun j hj h1 => by
          obtain ⟨b, h2, h3, h4⟩ := hLold h j _ (hB j hj (by omega))
          exact ⟨b, by rw [va_up_ne _ _ (by omega)]; exact h2, h3, h4⟩)
        refine J.widen ?_ ?_ hih
        · rw [hcnt]; omega
        · rw [hcnt]; omega
    have hne1 : qs[i] ≠ [] := hqne _ (List.getElem_mem _)
    have hl5 : lastL qs[i] ≤ 5 := by
      unfold lastL
      split
      · exact lvl_le _
      · exact Nat.zero_le _
    refine j_iload O dT_groupNodes_8 rfl ?_
    refine j_iload_n O 2 dT_groupNodes_10 rfl rfl ?_
    refine j_icmp_ge O 77 dT_groupNodes_11 (by decide) (fun c => absurd c (nI_ge hi1 (by omega))) (fun c => ?_)
    refine j_aload_n O 0 dT_groupNodes_14 rfl rfl ?_
    refine j_get O uwT hT1 rfl 6 (by decide) w198 rfl rfl dT_groupNodes_15 ?_
    refine j_iload O dT_groupNodes_18 rfl ?_
    refine j_aald O hL 2 rfl (by omega) (by omega) dT_groupNodes_20 ?_
    refine j_some x hfx ?_
    refine j_get O uwN hxc rfl 6 (by decide) w144 rfl rfl dT_groupNodes_21 ?_
    refine j_iload_n O 1 dT_groupNodes_24 rfl rfl ?_
    refine j_iconst O (v := 1) dT_groupNodes_25 (by decide) ?_
    refine j_iadd O dT_groupNodes_26 ?_
    refine j_eqi (nI (h + 1 + 1)) (nI_1 _) ?_
    refine j_icmp_ge O 38 dT_groupNodes_27 (by decide) (fun c1 => ?_) (fun c1 => ?_)
    · refine J.pk [0, 1, 2, 3, 4, 5] rfl ?_
      refine HB (Or.inl ?_)
      rw [lastP_lastL hne1, decide_eq_true_eq]
      rcases Nat.lt_or_ge (lastL qs[i]) (h + 2) with z | z
      · exact absurd c1 (nI_ge z (by omega))
      · exact z
    · have hlo : lastP (lvB (h + 2)) qs[i] = false := by
        rw [lastP_lastL hne1, decide_eq_false_iff_not]
        intro z
        exact c1 (nI_le (b := lastL qs[i]) z (by omega))
      refine j_iload O dT_groupNodes_30 rfl ?_
      refine j_iconst O (v := 1) dT_groupNodes_32 (by decide) ?_
      refine j_iadd O dT_groupNodes_33 ?_
      refine j_eqi (nI (i + 1)) (nI_1 _) ?_
      refine j_iload_n O 2 dT_groupNodes_34 rfl rfl ?_
      refine j_icmp_ne O 71 dT_groupNodes_35 (by decide) (fun c2 => ?_) (fun c2 => ?_)
      · refine j_iinc O (nI (i + 1)) [(5, .int (nI (i + 1))), (0, .ref T), (1, .int (nI (h + 1))), (2, .int (nI qs.length)), (3, .int (nI done.length)), (4, .int (nI fr))] dT_groupNodes_71 rfl (nI_1 _) (by decide) rfl ?_
        refine j_goto O 8 dT_groupNodes_74 (by decide) ?_
        refine J.pk [1, 2, 3, 4, 5, 0] rfl ?_
        have hne : i + 1 ≠ qs.length := fun z => c2 (by rw [z])
        refine ih (i + 1) fr dn done g1 w f (by omega) (by omega) hrun hdn hdl (fun j hj h1 h2 => ?_) (fun z => absurd z hne) hP hL hA hB
        rcases Nat.lt_or_ge j i with z | z
        · exact hlow j hj h1 z
        · have : j = i := by omega
          subst this
          exact hlo
      · refine J.pk [0, 1, 2, 3, 4, 5] rfl ?_
        exact HB (Or.inr ((nI_eq (by omega) (by omega)).mp c2))
set_option maxRecDepth 100000 in
set_option maxHeartbeats 1000000 in
theorem c_groupNodes (l : Launch) (D : va_G) (t : Nat → ClassId) (A : Nat → Prop) (g : GH) (T aW aR sA bA dA qF qE aL h : Nat) (ls nn ss : Int32) (g0 : GH) (w0 w1 : GD) (rs : List RV) (qs : List (List RV)) (V : List NV) (f : Nat → Option Nat) (hT : gAt g0 T (eTT aW aR sA dA qF qE aL ls)) (hS0 : SW t g0 w0 sA bA nn ss) (hLA : LA t g0 w0 sA bA aL) (hqs : qs = runs (h + 1) rs) (hw6 : ∀ r ∈ rs, r.2.1.length ≤ 6) (hl3 : rs.length ≤ 300) (hsr : srt rs) (hh5 : h + 1 ≤ 5) (hVh : ∀ v ∈ V, v.1 ≤ h) (hP : PW t g0 w0 g w1 sA bA aL nn ss V) (hL : lineOK g t w1 aL f h qs) : Ct l yT_groupNodes sT_groupNodes { frames := 4, cells := 3 * (news (vals w0.1 (stL w0.2.2.2.2.1)) (lvsH (h + 1) (runs (h + 2) rs))).length, slots := 312 * (news (vals w0.1 (stL w0.2.2.2.2.1)) (lvsH (h + 1) (runs (h + 2) rs))).length, locals := 130 } (zz D t A) [.ref T, .int (nI (h + 1)), .int (nI qs.length)] g (3 * (news (vals w0.1 (stL w0.2.2.2.2.1)) (lvsH (h + 1) (runs (h + 2) rs))).length) (312 * (news (vals w0.1 (stL w0.2.2.2.2.1)) (lvsH (h + 1) (runs (h + 2) rs))).length) (fun v g' => v = some (.int (nI (runs (h + 2) rs).length)) ∧ ∃ w f, PW t g0 w0 g' w sA bA aL nn ss (V ++ (lvsH (h + 1) (runs (h + 2) rs))) ∧ lineOK g' t w aL f (h + 1) (runs (h + 2) rs)) := by
  refine Ct.of (cc := bT_groupNodes) (maxL := 6) (ret := (some .int)) (by decide) (Nat.le_of_ble_eq_true rfl) (fun X hlX O M hNn => ?_)
  show J X 6 (zz D t A) g 0 0 0 [(0, .ref T), (1, .int (nI (h + 1))), (2, .int (nI qs.length))] []
  refine j_iconst O (v := 0) dT_groupNodes_0 (by decide) ?_
  refine j_istore_n O 3 [(3, .int 0), (0, .ref T), (1, .int (nI (h + 1))), (2, .int (nI qs.length))] dT_groupNodes_1 rfl (by decide) rfl ?_
  refine j_iconst O (v := 0) dT_groupNodes_2 (by decide) ?_
  refine j_istore O [(4, .int 0), (3, .int 0), (0, .ref T), (1, .int (nI (h + 1))), (2, .int (nI qs.length))] dT_groupNodes_3 (by decide) rfl ?_
  refine j_iconst O (v := 0) dT_groupNodes_5 (by decide) ?_
  refine j_istore O [(5, .int 0), (4, .int 0), (3, .int 0), (0, .ref T), (1, .int (nI (h + 1))), (2, .int (nI qs.length))] dT_groupNodes_6 (by decide) rfl ?_
  refine J.pk [3, 4, 5, 2, 1, 0] rfl ?_
  have K0 := groupNodes_loop O M hT hS0 hLA hqs hw6 hl3 hsr hh5 hVh ⟨Nat.le_refl _, Nat.le_refl _, Nat.le_refl _, Nat.le_refl _⟩ qs.length 0 0 [] [] g w1 f (Nat.zero_add _) (Nat.le_refl _) rfl rfl (Nat.le_refl _) (fun j hj h1 h2 => by omega) (fun z => by omega) (by show PW t g0 w0 g w1 sA bA aL nn ss (V ++ []); rw [List.append_nil]; exact hP) hL.1 (fun j hj => absurd hj (Nat.not_lt_zero _)) (fun j hj _ => hL.2 j hj)
  exact K0
