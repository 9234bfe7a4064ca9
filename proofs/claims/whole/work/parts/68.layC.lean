set_option maxRecDepth 100000 in
set_option maxHeartbeats 1000000 in
theorem lay_nodes {X : CX} {D : va_G} {t : Nat → ClassId} {A : Nat → Prop} {rm : Room} {g : GH} {u : Nat → Nat} {oc om df : Int32} {i w : Nat} {tb : TB} {rs : List RV} {V0 : List NV} {h : Nat} {qs : List (List RV)} {pre : List NV} (O : Ok X bM_lay 7 "TwinTreesModel" (zz D t A) rm) (M : Om X (zz D t A) (some .boolean) 0 0 (fun v g' => (v = some (.int 0) ∧ nofitA V0 (ndl rs) ∧ ∃ dn j m h k fv fl fm, LY t g' u oc om df (vst V0 dn) j m h k fv fl fm ∧ Kp (lU.map u) g g') ∨ (v = some (.int 1) ∧ ∃ m fv fl fm, LY t g' u oc om df (vst V0 (ndl rs)) 1 m (hgt rs) (ndl rs).length fv fl fm ∧ fv 0 = nI ((vst V0 (ndl rs)).idxOf (hgt rs, rs)) ∧ Kp (lU.map u) g g'))) (hRT : RT t g u tb) (i6 : i < 6) (htb : tb i = (w, rs)) (htk : tOK (w, rs)) (hrc : ∀ r ∈ rs, rowC r) (hne : ∀ i j, i < 32 → j < 32 → i ≠ j → u i ≠ u j) (hrm : 3 ≤ rm.frames ∧ 200 ≤ rm.locals) (hnz : rs ≠ []) (hqs : qs = runs (h + 1) rs) (hh5 : h + 1 ≤ 5) (hpre : ∀ q ∈ qs, (h, q) ∈ pre) (hall : ∃ rest, ndl rs = pre ++ (lvsH (h + 1) (runs (h + 2) rs) ++ rest)) (HK : ∀ (g1 : GH) (m : Nat) (fv fl : Nat → Int32) (fm : Nat → Int64), LY t g1 u oc om df (vst V0 (pre ++ lvsH (h + 1) (runs (h + 2) rs))) (runs (h + 2) rs).length m (h + 1) (pre.length + (runs (h + 2) rs).length) fv fl fm → levOK fv fl (vst V0 (pre ++ lvsH (h + 1) (runs (h + 2) rs))) rs (h + 1) (runs (h + 2) rs) → Kp (lU.map u) g g1 → J X 7 (zz D t A) g1 0 0 196 [(0, .ref (u 19)), (1, .int (nI i))] []) : ∀ (d a fr : Nat) (dn : List (List (List RV))) (done : List (List RV)) (g1 : GH) (fv fl : Nat → Int32) (fm : Nat → Int64), a + d = qs.length → fr ≤ a → runsP (lastP (lvB (h + 2))) qs = dn ++ runsP (lastP (lvB (h + 2))) (qs.drop fr) → done = dn.map List.flatten → done.length ≤ fr → (∀ j (hj : j < qs.length), fr ≤ j → j < a → lastP (lvB (h + 2)) qs[j] = false) → (a = qs.length → fr = a) → LY t g1 u oc om df (vst V0 (pre ++ lvsH (h + 1) done)) done.length (a - fr) (h + 1) (pre.length + done.length) fv fl fm → (∀ k, k < a - fr → ∃ hk : fr + k < qs.length, fm k = (nI ((vst V0 pre).idxOf (h, qs[fr + k]))).toInt64) → levOK fv fl (vst V0 (pre ++ lvsH (h + 1) done)) rs (h + 1) done → (∀ j (hj : j < qs.length), fr ≤ j → fv j = nI ((vst V0 pre).idxOf (h, qs[j])) ∧ ∃ p, ∃ hp : p < rs.length, fl j = nI p ∧ qs[j].getLast? = some rs[p]) → Kp (lU.map u) g g1 → J X 7 (zz D t A) g1 0 0 233 [(0, .ref (u 19)), (1, .int (nI i)), (5, .int (nI qs.length)), (6, .int (nI a))] [] := by
  obtain ⟨t1, t2, t3, t4, t5⟩ := id htk
  dsimp only at t1 t2 t3 t4 t5
  have hqne : ∀ q ∈ qs, q ≠ [] := fun q hq => by rw [hqs] at hq; exact runsP_ne _ _ q hq
  have hnext : (runsP (lastP (lvB (h + 2))) qs).map List.flatten = (runs (h + 2) rs) := by rw [hqs]; exact runsP_runs (lvB (h + 1)) (lvB (h + 2)) (fun r hr => lvB_mono r hr) rs
  have hgin : ∀ G, G ∈ runsP (lastP (lvB (h + 2))) qs → runs (h + 1) G.flatten = G := fun G hG => by rw [hqs] at hG; exact runsP_in (lvB (h + 1)) (lvB (h + 2)) (fun r hr => lvB_mono r hr) rs G hG
  have hql : qs.length ≤ 300 := by rw [hqs]; exact Nat.le_trans (runs_len_le _ _) t5
  have hqfl : qs.flatten = rs := by rw [hqs]; exact runsP_flat _ _
  obtain ⟨rest, hrest⟩ := hall
  have hnod := ndl_nodup t4
  intro d
  induction d with
  | zero =>
    intro a fr dn done g1 fv fl fm hd hfr hrun hdn hdl hlow hend hLY hfm hlev hB kp
    have ea : a = qs.length := by omega
    have hfe := hend ea
    subst ea
    have hr0 : runsP (lastP (lvB (h + 2))) (qs.drop fr) = [] := by rw [hfe, List.drop_length]; rfl
    rw [hr0, List.append_nil] at hrun
    have hdone : (runs (h + 2) rs) = done := by rw [← hnext, hrun, hdn]
    rw [← hdone] at hLY hlev
    refine j_iload O dM_lay_233 rfl ?_
    refine j_iload O dM_lay_235 rfl ?_
    refine j_icmp_ge O 329 dM_lay_237 (by decide) (fun c0 => ?_) (fun c0 => absurd (nI_le (Nat.le_refl _) (by omega)) c0)
    refine j_goto O 196 dM_lay_329 (by decide) ?_
    refine J.pk [0, 1] rfl ?_
    exact HK g1 _ fv fl fm hLY hlev kp
  | succ d ih =>
    intro a fr dn done g1 fv fl fm hd hfr hrun hdn hdl hlow hend hLY hfm hlev hB kp
    have ha : a < qs.length := by omega
    obtain ⟨⟨si, hM1⟩, hv1, hl1, hm1, hR1, hV1⟩ := id hLY
    obtain ⟨hfa, p, hp, hla, hlast⟩ := hB a ha hfr
    have kp0 : Kp [u 18, u 19] g1 g1 := Kp.rf
    refine j_iload O dM_lay_233 rfl ?_
    refine j_iload O dM_lay_235 rfl ?_
    refine j_icmp_ge O 329 dM_lay_237 (by decide) (fun c0 => absurd c0 (nI_ge ha (by omega))) (fun c0 => ?_)
    refine j_aload_n O 0 dM_lay_240 rfl rfl ?_
    refine j_get O uwM hM1 rfl 24 (by decide) w471 rfl rfl dM_lay_241 ?_
    refine j_aload_n O 0 dM_lay_244 rfl rfl ?_
    refine j_dup O dM_lay_245 rfl ?_
    refine j_get O uwM hM1 rfl 25 (by decide) w472 rfl rfl dM_lay_246 ?_
    refine j_dup_x1 O dM_lay_249 rfl rfl ?_
    refine j_iconst O (v := 1) dM_lay_250 (by decide) ?_
    refine j_iadd O dM_lay_251 ?_
    refine j_eqi (nI (a - fr + 1)) (nI_1 _) ?_
    refine j_put O uwM hM1 rfl 25 (by decide) w472 rfl tM ftM fnM rfl (.int) (by decide +kernel) rfl rfl (Nat.le_of_ble_eq_true rfl) [.ref (u 0), .ref (u 1), .ref (u 2), .ref (u 3), .int oc, .int om, .ref (u 4), .ref (u 5), .ref (u 6), .ref (u 7), .ref (u 8), .int df, .ref (u 9), .ref (u 10), .ref (u 11), .ref (u 12), .ref (u 13), .ref (u 14), .ref (u 15), .int (nI (vst V0 (pre ++ lvsH (h + 1) done)).length), .int (nI (szL (vst V0 (pre ++ lvsH (h + 1) done)))), .ref (u 16), .ref (u 17), .int (nI done.length), .ref (u 18), .int (nI (a - fr + 1)), .int (nI (h + 1)), .int (nI (pre.length + done.length)), .int si] rfl dM_lay_252 (fun gw43 ew44 => ?_)
    have hw45 := gUp_ne (e' := .inr (6, [.ref (u 0), .ref (u 1), .ref (u 2), .ref (u 3), .int oc, .int om, .ref (u 4), .ref (u 5), .ref (u 6), .ref (u 7), .ref (u 8), .int df, .ref (u 9), .ref (u 10), .ref (u 11), .ref (u 12), .ref (u 13), .ref (u 14), .ref (u 15), .int (nI (vst V0 (pre ++ lvsH (h + 1) done)).length), .int (nI (szL (vst V0 (pre ++ lvsH (h + 1) done)))), .ref (u 16), .ref (u 17), .int (nI done.length), .ref (u 18), .int (nI (a - fr + 1)), .int (nI (h + 1)), .int (nI (pre.length + done.length)), .int si])) hv1 (hv1.ne hM1 (by simp))
    rw [← ew44] at hw45
    have hw46 := gUp_ne (e' := .inr (6, [.ref (u 0), .ref (u 1), .ref (u 2), .ref (u 3), .int oc, .int om, .ref (u 4), .ref (u 5), .ref (u 6), .ref (u 7), .ref (u 8), .int df, .ref (u 9), .ref (u 10), .ref (u 11), .ref (u 12), .ref (u 13), .ref (u 14), .ref (u 15), .int (nI (vst V0 (pre ++ lvsH (h + 1) done)).length), .int (nI (szL (vst V0 (pre ++ lvsH (h + 1) done)))), .ref (u 16), .ref (u 17), .int (nI done.length), .ref (u 18), .int (nI (a - fr + 1)), .int (nI (h + 1)), .int (nI (pre.length + done.length)), .int si])) hl1 (hl1.ne hM1 (by simp))
    rw [← ew44] at hw46
    have hw47 := gUp_ne (e' := .inr (6, [.ref (u 0), .ref (u 1), .ref (u 2), .ref (u 3), .int oc, .int om, .ref (u 4), .ref (u 5), .ref (u 6), .ref (u 7), .ref (u 8), .int df, .ref (u 9), .ref (u 10), .ref (u 11), .ref (u 12), .ref (u 13), .ref (u 14), .ref (u 15), .int (nI (vst V0 (pre ++ lvsH (h + 1) done)).length), .int (nI (szL (vst V0 (pre ++ lvsH (h + 1) done)))), .ref (u 16), .ref (u 17), .int (nI done.length), .ref (u 18), .int (nI (a - fr + 1)), .int (nI (h + 1)), .int (nI (pre.length + done.length)), .int si])) hm1 (hm1.ne hM1 (by simp))
    rw [← ew44] at hw47
    have hw48 := gUp_self (e' := .inr (6, [.ref (u 0), .ref (u 1), .ref (u 2), .ref (u 3), .int oc, .int om, .ref (u 4), .ref (u 5), .ref (u 6), .ref (u 7), .ref (u 8), .int df, .ref (u 9), .ref (u 10), .ref (u 11), .ref (u 12), .ref (u 13), .ref (u 14), .ref (u 15), .int (nI (vst V0 (pre ++ lvsH (h + 1) done)).length), .int (nI (szL (vst V0 (pre ++ lvsH (h + 1) done)))), .ref (u 16), .ref (u 17), .int (nI done.length), .ref (u 18), .int (nI (a - fr + 1)), .int (nI (h + 1)), .int (nI (pre.length + done.length)), .int si])) hM1
    rw [← ew44] at hw48
    have kpw49 := kp0.up (a := (u 19)) (e := .inr (6, [.ref (u 0), .ref (u 1), .ref (u 2), .ref (u 3), .int oc, .int om, .ref (u 4), .ref (u 5), .ref (u 6), .ref (u 7), .ref (u 8), .int df, .ref (u 9), .ref (u 10), .ref (u 11), .ref (u 12), .ref (u 13), .ref (u 14), .ref (u 15), .int (nI (vst V0 (pre ++ lvsH (h + 1) done)).length), .int (nI (szL (vst V0 (pre ++ lvsH (h + 1) done)))), .ref (u 16), .ref (u 17), .int (nI done.length), .ref (u 18), .int (nI (a - fr + 1)), .int (nI (h + 1)), .int (nI (pre.length + done.length)), .int si])) (by simp)
    rw [← ew44] at kpw49
    refine j_aload_n O 0 dM_lay_255 rfl rfl ?_
    refine j_get O uwM hw48 rfl 21 (by decide) w468 rfl rfl dM_lay_256 ?_
    refine j_iload O dM_lay_259 rfl ?_
    refine j_iald O hw45 0 rfl (by omega) (by omega) dM_lay_261 ?_
    refine j_eqi (nI ((vst V0 pre).idxOf (h, qs[a]))) hfa ?_
    refine j_i2l O dM_lay_262 ?_
    refine j_last O hw47 3 rfl (by omega) (by decide) dM_lay_263 (fun gw50 ew51 => ?_)
    have hw52 := gUp_ne (e' := .inl (t 3, 2100, .inr (.inl (vp_updL fm (a - fr) ((nI ((vst V0 pre).idxOf (h, qs[a]))).toInt64))))) hw48 (hw48.ne hw47 (by simp))
    rw [← ew51] at hw52
    have hw53 := gUp_ne (e' := .inl (t 3, 2100, .inr (.inl (vp_updL fm (a - fr) ((nI ((vst V0 pre).idxOf (h, qs[a]))).toInt64))))) hw45 (hw45.ne hw47 (by simp))
    rw [← ew51] at hw53
    have hw54 := gUp_ne (e' := .inl (t 3, 2100, .inr (.inl (vp_updL fm (a - fr) ((nI ((vst V0 pre).idxOf (h, qs[a]))).toInt64))))) hw46 (hw46.ne hw47 (by simp))
    rw [← ew51] at hw54
    have hw55 := gUp_self (e' := .inl (t 3, 2100, .inr (.inl (vp_updL fm (a - fr) ((nI ((vst V0 pre).idxOf (h, qs[a]))).toInt64))))) hw47
    rw [← ew51] at hw55
    have kpw56 := kpw49.up (a := (u 18)) (e := .inl (t 3, 2100, .inr (.inl (vp_updL fm (a - fr) ((nI ((vst V0 pre).idxOf (h, qs[a]))).toInt64))))) (by simp)
    rw [← ew51] at kpw56
    have eaf : a - fr + 1 = a + 1 - fr := by omega
    have hM2 := hw52
    rw [eaf] at hM2
    have hv2 := hw53
    have hl2 := hw54
    have hm2 := hw55
    have kp2 := kpw56
    have kp2' := kp.tr (Kp.mono kp2 (lU_sub (u := u) (S := [18, 19]) (by decide)))
    have hkk : ∀ k e, k ≠ 18 → k ≠ 19 → k < 32 → gAt g1 (u k) e → gAt gw50 (u k) e := fun k e n1 n2 k32 q => kp2.2 _ _ (two_ne (hne _ _ (by omega) (by omega) n1) (hne _ _ (by omega) (by omega) n2)) q
    have hRT2 := hRT.lU hne kp2'
    have hR2 : RS t gw50 u (encL (vst V0 (pre ++ lvsH (h + 1) done))) := hR1.keep (fun k e k1 k2 q => hkk k e (by omega) (by omega) (by omega) q)
    have hfm2 : ∀ k, k < a + 1 - fr → ∃ hk : fr + k < qs.length, (vp_updL fm (a - fr) ((nI ((vst V0 pre).idxOf (h, qs[a]))).toInt64)) k = (nI ((vst V0 pre).idxOf (h, qs[fr + k]))).toInt64 := by
      intro k hk
      refine ⟨by omega, ?_⟩
      show vp_updL fm (a - fr) _ k = _
      unfold vp_updL
      by_cases z : k = a - fr
      · rw [if_pos z]
        have e : fr + k = a := by omega
        simp only [e]
      · rw [if_neg z]
        exact (hfm k (by omega)).2
    have HB : (lastP (lvB (h + 2)) qs[a] = true ∨ a + 1 = qs.length) → J X 7 (zz D t A) gw50 0 0 302 [(0, .ref (u 19)), (1, .int (nI i)), (5, .int (nI qs.length)), (6, .int (nI a))] [] := by
      intro hbnd
      have hst2 := runsP_step (lastP (lvB (h + 2))) qs fr a hfr ha hlow hbnd
      have eG : ((qs.drop fr).take (a + 1 - fr)) = (qs.drop fr).take (a - fr) ++ [qs[a]] := take_next hfr ha
      have hglen : ((qs.drop fr).take (a + 1 - fr)).length = a + 1 - fr := by rw [List.length_take, List.length_drop]; omega
      have hglast : ((qs.drop fr).take (a + 1 - fr)).flatten.getLast? = some rs[p] := by rw [eG, List.flatten_append, List.flatten_singleton, List.getLast?_append, hlast]; rfl
      generalize hgd : ((qs.drop fr).take (a + 1 - fr)) = grp at *
      have hgg : ∀ j (hj : j < grp.length), grp[j] = qs[fr + j]'(by omega) := fun j hj => by subst hgd; exact slice_at ha hfr hj
      have hrun2 : runsP (lastP (lvB (h + 2))) qs = (dn ++ [grp]) ++ runsP (lastP (lvB (h + 2))) (qs.drop (a + 1)) := by
        rw [hrun, hst2, List.append_assoc]
        rfl
      have hGm : grp ∈ runsP (lastP (lvB (h + 2))) qs := by rw [hrun2]; simp
      have hgr := hgin grp hGm
      have hsub : ∀ q ∈ grp, q ∈ qs := fun q hq => by rw [← hgd] at hq; exact List.mem_of_mem_drop (List.mem_of_mem_take hq)
      have hrin : ∀ r ∈ grp.flatten, r ∈ rs := fun r hr => by
        obtain ⟨q, hq, hrq⟩ := List.mem_flatten.mp hr
        rw [← hqfl]
        exact List.mem_flatten.mpr ⟨q, hsub q hq, hrq⟩
      have hflen : grp.flatten.length ≤ 300 := by
        have hs : grp.flatten.Sublist qs.flatten := by
          rw [← hgd]
          exact sub_flat ((List.take_sublist _ _).trans (List.drop_sublist _ _))
        have := hs.length_le
        rw [hqfl] at this
        omega
      have ew : wdt (h + 1, grp.flatten) = 0 := if_neg (by simp)
      have hc : nvC (h + 1, grp.flatten) := ⟨hh5, hflen, w, t1, t2, fun q hq => ⟨t3 q (hrin q hq), hrc q (hrin q hq)⟩⟩
      have hinV : ∀ q ∈ qs, (h, q) ∈ vst V0 pre := fun q hq => vst_in.mpr (Or.inr (hpre q hq))
      have hkd : kidsIn (vst V0 (pre ++ lvsH (h + 1) done)) (h + 1, grp.flatten) := fun k e q hq => by
        have ek : k = h := by have : h + 1 = k + 1 := e; omega
        subst ek
        have hq2 : q ∈ grp := by rw [← hgr]; exact hq
        exact vst_in.mpr (Or.inr (List.mem_append_left _ (hpre q (hsub q hq2))))
      have hfin2 : (runs (h + 2) rs) = done ++ grp.flatten :: (runsP (lastP (lvB (h + 2))) (qs.drop (a + 1))).map List.flatten := by rw [← hnext, hrun2, List.map_append, List.map_append, hdn]; simp
      have hall2 : ndl rs = (pre ++ lvsH (h + 1) done) ++ (h + 1, grp.flatten) :: (lvsH (h + 1) ((runsP (lastP (lvB (h + 2))) (qs.drop (a + 1))).map List.flatten) ++ rest) := by
        rw [hrest, hfin2, lvsH_app]
        simp [lvsH]
      have hnd : ((h + 1, grp.flatten) : NV) ∉ pre ++ lvsH (h + 1) done := by
        intro z
        rw [hall2, List.nodup_append] at hnod
        exact hnod.2.2 _ z _ (by simp) rfl
      have ecn : cont (vst V0 (pre ++ lvsH (h + 1) done)) (h + 1, grp.flatten) = grp.map (fun q => (nI ((vst V0 (pre ++ lvsH (h + 1) done)).idxOf (h, q))).toInt64) := by
        show (runs (h + 1) grp.flatten).map _ = _
        rw [hgr]
      have ecl : (cont (vst V0 (pre ++ lvsH (h + 1) done)) (h + 1, grp.flatten)).length = a + 1 - fr := by rw [ecn, List.length_map, hglen]
      have hfm3 : ∀ k (hk : k < (cont (vst V0 (pre ++ lvsH (h + 1) done)) (h + 1, grp.flatten)).length), (vp_updL fm (a - fr) ((nI ((vst V0 pre).idxOf (h, qs[a]))).toInt64)) k = (cont (vst V0 (pre ++ lvsH (h + 1) done)) (h + 1, grp.flatten))[k] := by
        intro k hk
        rw [ecl] at hk
        obtain ⟨hk2, hk3⟩ := hfm2 k hk
        rw [hk3]
        simp only [ecn, List.getElem_map]
        rw [hgg k (by omega), vst_idx (hinV _ (List.getElem_mem hk2))]
      have hM2' : gAt gw50 (u 19) (eM u oc om df (nI (encL (vst V0 (pre ++ lvsH (h + 1) done))).length) (nI (siz (encL (vst V0 (pre ++ lvsH (h + 1) done))))) (nI done.length) (nI (cont (vst V0 (pre ++ lvsH (h + 1) done)) (h + 1, grp.flatten)).length) (nI (h + 1)) (nI (pre.length + done.length)) si) := by
        rw [encL_len, siz_encL, ecl]; exact hM2
      have hdl3 : done.length < 301 := by omega
      refine j_aload_n O 0 dM_lay_302 rfl rfl ?_
      refine j_aload_n O 0 dM_lay_303 rfl rfl ?_
      refine j_get O uwM hM2 rfl 26 (by decide) w473 rfl rfl dM_lay_304 ?_
      refine j_iconst O (v := 0) dM_lay_307 (by decide) ?_
      refine j_eqi (nI (wdt (h + 1, grp.flatten))) (by rw [ew]; rfl) ?_
      refine j_aload_n O 0 dM_lay_308 rfl rfl ?_
      refine j_get O uwM hM2 rfl 22 (by decide) w469 rfl rfl dM_lay_309 ?_
      refine j_iload O dM_lay_312 rfl ?_
      refine j_iald O hl2 0 rfl (by omega) (by omega) dM_lay_314 ?_
      refine j_eqi (nI p) hla ?_
      refine j_callV O [.int (nI (h + 1)), .int (nI (wdt (h + 1, grp.flatten))), .int (nI p)] (c_M_keep X.2.1 D t A gw50 u oc om df (nI (h + 1)) si (nI p) (encL (vst V0 (pre ++ lvsH (h + 1) done))) (h + 1) (wdt (h + 1, grp.flatten)) done.length (pre.length + done.length) (cont (vst V0 (pre ++ lvsH (h + 1) done)) (h + 1, grp.flatten)) (vp_updL fm (a - fr) ((nI ((vst V0 pre).idxOf (h, qs[a]))).toInt64)) fv fl hM2' hm2 hfm3 (enc_ok (V := (vst V0 (pre ++ lvsH (h + 1) done))) hc) hR2 hne hv2 hl2 hdl3) hM2 rfl w430 w431 w11 w28 w432 3 rfl rfl rfl (by decide +kernel) ⟨hrm.1, by show 8 + (5 + 11) + 140 ≤ _; omega⟩ rfl (Nat.le_of_ble_eq_true rfl) dM_lay_315 ⟨Nat.zero_le _, Nat.zero_le _⟩ (fun vw57 gw58 hpw59 => ?_)
      have hpost := hpw59
      have hpost2 := keepV hne hm2 hV1 hR2 hc hkd hnd hpost
      rcases hpost2 with ⟨rfl, hnf, hg⟩ | ⟨rfl, hLY3, kp3⟩
      · have hg := hg.symm
        subst hg
        refine j_if_ne O 323 dM_lay_318 (by decide) (fun c1 => absurd rfl c1) (fun c1 => ?_)
        refine j_iconst O (v := 0) dM_lay_321 (by decide) ?_
        exact j_zret O (by decide) M (Nat.le_of_ble_eq_true rfl) (Nat.le_of_ble_eq_true rfl) (Or.inl ⟨rfl, by rw [hall2]; exact nofit_all hnf, _, _, _, _, _, _, _, _, ⟨⟨_, hM2⟩, hv2, hl2, hm2, hR2, hV1⟩, kp2'⟩) dM_lay_322
      · refine j_if_ne O 323 dM_lay_318 (by decide) (fun c1 => ?_) (fun c1 => absurd c1 (by decide))
        refine j_iinc O (nI (a + 1)) [(6, .int (nI (a + 1))), (0, .ref (u 19)), (1, .int (nI i)), (5, .int (nI qs.length))] dM_lay_323 rfl (nI_1 _) (by decide) rfl ?_
        refine j_goto O 233 dM_lay_326 (by decide) ?_
        refine J.pk [1, 2, 3, 0] rfl ?_
        have edn : (pre ++ lvsH (h + 1) done) ++ [((h + 1, grp.flatten) : NV)] = pre ++ lvsH (h + 1) (done ++ [grp.flatten]) := by rw [lvsH_app, List.append_assoc]; rfl
        rw [edn] at hLY3
        have hlev3 : levOK fv fl (vst V0 (pre ++ lvsH (h + 1) (done ++ [grp.flatten]))) rs (h + 1) done := hlev.grow (fun q hq => by
          rw [← edn]
          exact vst_idx (vst_in.mpr (Or.inr (List.mem_append_right _ (List.mem_map.mpr ⟨q, hq, rfl⟩)))))
        have hlev4 := hlev3.snoc (q := grp.flatten) hp hglast
        exact ih (a + 1) (a + 1) (dn ++ [grp]) (done ++ [grp.flatten]) _ _ _ _ (by omega) (Nat.le_refl _) hrun2 (by rw [hdn]; simp) (by rw [List.length_append, List.length_singleton]; omega) (fun j hj h1 h2 => by omega) (fun _ => rfl) (by rw [Nat.sub_self, List.length_append, List.length_singleton]; exact hLY3) (fun k hk => by omega) hlev4 (fun j hj hge => by
          rw [pk_un (by omega), pk_un (by omega)]
          exact hB j hj (by omega)) (kp2'.tr kp3)
    obtain ⟨⟨fC, hC, hCv⟩, ⟨fN, hNn0, hNv⟩, ⟨fK, hK, hKv⟩, ⟨fL, hL, hLv⟩, hrow⟩ := id hRT2
    obtain ⟨fk, fc, hk, hc0, htab⟩ := hrow i i6
    rw [htb] at htab
    have hKi := hKv i i6
    obtain ⟨hkr, -⟩ := htab p hp
    dsimp only at hkr
    have elast : lastP (lvB (h + 2)) qs[a] = lvB (h + 2) rs[p] := by unfold lastP; rw [hlast]
    have hlv5 := lvl_le rs[p].1
    refine j_iload O dM_lay_264 rfl ?_
    refine j_iload O dM_lay_266 rfl ?_
    refine j_iconst O (v := 1) dM_lay_268 (by decide) ?_
    refine j_isub O dM_lay_269 ?_
    refine j_eqi (nI (qs.length - 1)) (pk_sub (b := 1) (by omega)) ?_
    refine j_icmp_ge O 302 dM_lay_270 (by decide) (fun c1 => ?_) (fun c1 => ?_)
    · exact HB (Or.inr (by
        rcases Nat.lt_or_ge a (qs.length - 1) with z | z
        · exact absurd c1 (nI_ge z (by omega))
        · omega))
    · refine j_aload_n O 0 dM_lay_273 rfl rfl ?_
      refine j_get O uwM hw52 rfl 2 (by decide) w449 rfl rfl dM_lay_274 ?_
      refine j_iload_n O 1 dM_lay_277 rfl rfl ?_
      refine j_aaldA O hK 4 rfl (by omega) (by omega) dM_lay_278 ?_
      refine j_some (u (20 + i)) hKi ?_
      refine j_aload_n O 0 dM_lay_279 rfl rfl ?_
      refine j_get O uwM hw52 rfl 22 (by decide) w469 rfl rfl dM_lay_280 ?_
      refine j_iload O dM_lay_283 rfl ?_
      refine j_iald O hw54 0 rfl (by omega) (by omega) dM_lay_285 ?_
      refine j_eqi (nI p) hla ?_
      refine j_iald O hk 0 rfl (by omega) (by omega) dM_lay_286 ?_
      refine j_eqi (rs[p].1) hkr ?_
      refine j_callS O [.int (rs[p].1)] (c_M_levelOf X.2.1 D t A gw50 rs[p].1) w422 w423 w28 w424 1 rfl rfl rfl (by decide +kernel) ⟨by show 1 + 1 ≤ _; omega, by show 8 + (3 + 11) + 20 ≤ _; omega⟩ rfl (Nat.le_of_ble_eq_true rfl) dM_lay_287 ⟨Nat.zero_le _, Nat.zero_le _⟩ (fun vw60 gw61 hpw62 => ?_)
      obtain ⟨rfl, hgw63⟩ := hpw62
      have hgw63 := hgw63.symm
      subst hgw63
      refine j_aload_n O 0 dM_lay_290 rfl rfl ?_
      refine j_get O uwM hw52 rfl 26 (by decide) w473 rfl rfl dM_lay_291 ?_
      refine j_iconst O (v := 1) dM_lay_294 (by decide) ?_
      refine j_iadd O dM_lay_295 ?_
      refine j_eqi (nI (h + 1 + 1)) (nI_1 _) ?_
      refine j_icmp_ge O 302 dM_lay_296 (by decide) (fun c2 => ?_) (fun c2 => ?_)
      · exact HB (Or.inl (by
          rw [elast]
          unfold lvB
          simp only [decide_eq_true_eq]
          rcases Nat.lt_or_ge (lvl rs[p].1) (h + 2) with z | z
          · exact absurd c2 (nI_ge (b := h + 1 + 1) z (by omega))
          · exact z))
      · refine j_goto O 323 dM_lay_299 (by decide) ?_
        refine j_iinc O (nI (a + 1)) [(6, .int (nI (a + 1))), (0, .ref (u 19)), (1, .int (nI i)), (5, .int (nI qs.length))] dM_lay_323 rfl (nI_1 _) (by decide) rfl ?_
        refine j_goto O 233 dM_lay_326 (by decide) ?_
        refine J.pk [1, 2, 3, 0] rfl ?_
        have hlo : lastP (lvB (h + 2)) qs[a] = false := by
          rw [elast]
          unfold lvB
          simp only [decide_eq_false_iff_not]
          intro z
          exact c2 (nI_le (a := h + 1 + 1) z (by omega))
        have hnl : a + 1 ≠ qs.length := by
          intro z
          exact c1 (nI_le (by omega) (by omega))
        exact ih (a + 1) fr dn done gw50 fv fl _ (by omega) (by omega) hrun hdn hdl (fun j hj h1 h2 => by
          rcases Nat.lt_or_ge j a with z | z
          · exact hlow j hj h1 z
          · have e : j = a := by omega
            subst e
            exact hlo) (fun z => absurd z hnl) ⟨⟨_, hM2⟩, hv2, hl2, hm2, hR2, hV1⟩ hfm2 hlev hB kp2'
