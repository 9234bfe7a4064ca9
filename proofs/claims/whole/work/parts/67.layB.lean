/-- what level and last hold of a line of nodes -/
def levOK (fv fl : Nat → Int32) (V : List NV) (rs : List RV) (h : Nat) (qs : List (List RV)) : Prop := ∀ j (hj : j < qs.length), fv j = nI (V.idxOf (h, qs[j])) ∧ ∃ p, ∃ hp : p < rs.length, fl j = nI p ∧ qs[j].getLast? = some rs[p]
theorem made_app {L : List Int64} {f f1 : Nat → Int64} {r : List Int64} (h : ∀ k (hk : k < L.length), f k = L[k]) (h1 : ∀ k, k < L.length → f1 k = f k) (h2 : ∀ k (hk : k < r.length), f1 (L.length + k) = r[k]) : ∀ k (hk : k < (L ++ r).length), f1 k = (L ++ r)[k] := by
  intro k hk
  rcases Nat.lt_or_ge k L.length with q | q
  · rw [List.getElem_append_left q, h1 k q, h k q]
  · rw [List.getElem_append_right q]
    have hk2 : k - L.length < r.length := by rw [List.length_append] at hk; omega
    rw [← h2 (k - L.length) hk2, show L.length + (k - L.length) = k by omega]
theorem take_next {α : Type} {rs : List α} {fr r : Nat} (h1 : fr ≤ r) (h2 : r < rs.length) : (rs.drop fr).take (r + 1 - fr) = (rs.drop fr).take (r - fr) ++ [rs[r]] := by
  rw [show r + 1 - fr = (r - fr) + 1 by omega, List.take_succ, List.getElem?_drop, show fr + (r - fr) = r by omega, List.getElem?_eq_getElem h2]
  rfl
theorem wdt_of {w : Nat} {q : List RV} (hne : q ≠ []) (hw : ∀ r ∈ q, r.2.1.length = w) : wdt (0, q) = w := by
  rcases q with _ | ⟨r, q⟩
  · exact absurd rfl hne
  · exact hw r (by simp)
theorem runs_nodup {rs : List RV} (hs : srt rs) (k : Nat) : (runs k rs).Nodup := nodup_of_flatten _ (by rw [runs, runsP_flat]; exact srt_nodup hs) (fun q hq => runsP_ne _ _ q hq)
theorem levOK.grow {fv fl : Nat → Int32} {V V' : List NV} {rs : List RV} {h : Nat} {qs : List (List RV)} (hL : levOK fv fl V rs h qs) (hV : ∀ q ∈ qs, V'.idxOf (h, q) = V.idxOf (h, q)) : levOK fv fl V' rs h qs := fun j hj => by
  obtain ⟨h1, h2⟩ := hL j hj
  exact ⟨by rw [hV _ (List.getElem_mem hj)]; exact h1, h2⟩
theorem vst_idx {V0 dn dn' : List NV} {x : NV} (h : x ∈ vst V0 dn) : (vst V0 (dn ++ dn')).idxOf x = (vst V0 dn).idxOf x := by
  unfold vst at *
  rw [news_app, ← List.append_assoc]
  exact idxOf_app h
theorem levOK.snoc {fv fl : Nat → Int32} {V : List NV} {rs : List RV} {h p : Nat} {qs : List (List RV)} {q : List RV} (hL : levOK fv fl V rs h qs) (hp : p < rs.length) (hq : q.getLast? = some rs[p]) : levOK (upd fv qs.length (nI (V.idxOf (h, q)))) (upd fl qs.length (nI p)) V rs h (qs ++ [q]) := fun j hj => by
  rcases Nat.lt_or_ge j qs.length with z | z
  · rw [pk_un (by omega), pk_un (by omega)]
    obtain ⟨h1, p1, h2, h3, h4⟩ := hL j z
    refine ⟨?_, p1, h2, h3, ?_⟩
    · rw [List.getElem_append_left z]; exact h1
    · rw [List.getElem_append_left z]; exact h4
  · have e : j = qs.length := by rw [List.length_append, List.length_singleton] at hj; omega
    subst e
    rw [pk_us, pk_us]
    refine ⟨?_, p, hp, rfl, ?_⟩
    · simp
    · simpa using hq
set_option maxRecDepth 100000 in
set_option maxHeartbeats 1000000 in
theorem lay_rows {X : CX} {D : va_G} {t : Nat → ClassId} {A : Nat → Prop} {rm : Room} {g : GH} {u : Nat → Nat} {oc om df : Int32} {i w : Nat} {tb : TB} {rs : List RV} {V0 : List NV} (O : Ok X bM_lay 7 "TwinTreesModel" (zz D t A) rm) (M : Om X (zz D t A) (some .boolean) 0 0 (fun v g' => (v = some (.int 0) ∧ nofitA V0 (ndl rs) ∧ ∃ dn j m h k fv fl fm, LY t g' u oc om df (vst V0 dn) j m h k fv fl fm ∧ Kp (lU.map u) g g') ∨ (v = some (.int 1) ∧ ∃ m fv fl fm, LY t g' u oc om df (vst V0 (ndl rs)) 1 m (hgt rs) (ndl rs).length fv fl fm ∧ fv 0 = nI ((vst V0 (ndl rs)).idxOf (hgt rs, rs)) ∧ Kp (lU.map u) g g'))) (hRT : RT t g u tb) (i6 : i < 6) (htb : tb i = (w, rs)) (htk : tOK (w, rs)) (hrc : ∀ r ∈ rs, rowC r) (hne : ∀ i j, i < 32 → j < 32 → i ≠ j → u i ≠ u j) (hrm : 3 ≤ rm.frames ∧ 200 ≤ rm.locals) (hnz : rs ≠ []) (HK : ∀ (g1 : GH) (m : Nat) (fv fl : Nat → Int32) (fm : Nat → Int64), LY t g1 u oc om df (vst V0 (lvsH 0 (qlv rs 0))) (qlv rs 0).length m 0 (qlv rs 0).length fv fl fm → (1 < (qlv rs 0).length → levOK fv fl (vst V0 (lvsH 0 (qlv rs 0))) rs 0 (qlv rs 0)) → fv 0 = nI ((vst V0 (lvsH 0 (qlv rs 0))).idxOf (0, (qlv rs 0)[0]'(qlv_pos rs 0))) → Kp (lU.map u) g g1 → J X 7 (zz D t A) g1 0 0 196 [(0, .ref (u 19)), (1, .int (nI i))] []) : ∀ (d r fr : Nat) (done : List (List RV)) (g1 : GH) (fv fl : Nat → Int32) (fm : Nat → Int64), r + d = rs.length → fr ≤ r → runs 1 rs = done ++ runs 1 (rs.drop fr) → done.length ≤ fr → (∀ j (hj : j < rs.length), fr ≤ j → j < r → lvB 1 rs[j] = false) → (r = rs.length → fr = r) → LY t g1 u oc om df (vst V0 (lvsH 0 done)) done.length (((rs.drop fr).take (r - fr)).flatMap rowE).length 0 done.length fv fl fm → (∀ k (hk : k < (((rs.drop fr).take (r - fr)).flatMap rowE).length), fm k = (((rs.drop fr).take (r - fr)).flatMap rowE)[k]) → levOK fv fl (vst V0 (lvsH 0 done)) rs 0 done → Kp (lU.map u) g g1 → J X 7 (zz D t A) g1 0 0 45 [(0, .ref (u 19)), (1, .int (nI i)), (2, .int 0), (3, .int (nI rs.length)), (4, .int (nI w)), (5, .int (nI r))] [] := by
  obtain ⟨t1, t2, t3, t4, t5⟩ := id htk
  dsimp only at t1 t2 t3 t4 t5
  have hrp : 0 < rs.length := List.length_pos_iff.mpr hnz
  have eq0 : qlv rs 0 = runs 1 rs := qlv_runs hnz 0
  intro d
  induction d with
  | zero =>
    intro r fr done g1 fv fl fm hd hfr hrun hdl hlow hend hLY hfm hlev kp
    have er : r = rs.length := by omega
    have hfe := hend er
    subst er
    have hr0 : runs 1 (rs.drop fr) = [] := by rw [hfe, List.drop_length]; rfl
    rw [hr0, List.append_nil] at hrun
    subst hrun
    refine j_iload O dM_lay_45 rfl ?_
    refine j_iload_n O 3 dM_lay_47 rfl rfl ?_
    refine j_icmp_lt O 62 dM_lay_48 (by decide) (fun c0 => absurd c0 (nI_nlt (Nat.le_refl _) (by omega))) (fun c0 => ?_)
    refine j_iload O dM_lay_51 rfl ?_
    refine j_iload_n O 2 dM_lay_53 rfl rfl ?_
    refine j_icmp_ne O 196 dM_lay_54 (by decide) (fun c1 => ?_) (fun c1 => absurd (nI_inj (b := 0) (by omega) (by omega) c1) (by omega))
    refine J.pk [0, 1] rfl ?_
    rw [← eq0] at hLY hlev
    exact HK g1 _ fv fl fm hLY (fun _ => hlev) (hlev 0 (qlv_pos rs 0)).1 kp
  | succ d ih =>
    intro r fr done g1 fv fl fm hd hfr hrun hdl hlow hend hLY hfm hlev kp
    have hr : r < rs.length := by omega
    obtain ⟨⟨si, hM1⟩, hv1, hl1, hm1, hR1, hV1⟩ := id hLY
    have hRT1 := hRT.lU hne kp
    have hgl : (((rs.drop fr).take (r - fr)).flatMap rowE).length = (r - fr) * (1 + w) := by
      have : ∀ L : List RV, (∀ q ∈ L, q.2.1.length = w) → (L.flatMap rowE).length = L.length * (1 + w) := by
        intro L
        induction L with
        | nil => intro _; simp
        | cons q L ihL =>
          intro hL
          rw [List.flatMap_cons, List.length_append, rowE_len, hL q (by simp), ihL (fun x hx => hL x (by simp [hx])), List.length_cons, Nat.add_mul]
          omega
      rw [this _ (fun q hq => t3 q (List.mem_of_mem_drop (List.mem_of_mem_take hq))), List.length_take, List.length_drop]
      congr 1
      omega
    have hm6 : (((rs.drop fr).take (r - fr)).flatMap rowE).length + 1 + w ≤ 2100 := by
      rw [hgl]
      have h3 : (r - fr + 1) * (1 + w) ≤ 300 * 7 := Nat.mul_le_mul (by omega) (by omega)
      rw [Nat.add_mul] at h3
      omega
    refine lay_row O hM1 hm1 hRT1 i6 htb hr t5 t2 t3 hm6 hne (fun g2 fm2 hM2 hm2 hf1 hf2 kp2 => ?_)
    have hfm2 := made_app hfm hf1 hf2
    have eG : (rs.drop fr).take (r + 1 - fr) = ((rs.drop fr).take (r - fr)) ++ [rs[r]] := take_next hfr hr
    have eF : ((rs.drop fr).take (r + 1 - fr)).flatMap rowE = ((rs.drop fr).take (r - fr)).flatMap rowE ++ rowE rs[r] := by rw [eG, List.flatMap_append]; simp
    have eFl : (((rs.drop fr).take (r + 1 - fr)).flatMap rowE).length = (((rs.drop fr).take (r - fr)).flatMap rowE).length + 1 + w := by rw [eF, List.length_append, rowE_len, t3 _ (List.getElem_mem hr)]; omega
    rw [← eFl] at hM2
    have kp2' := kp.tr (Kp.mono kp2 (lU_sub (u := u) (S := [18, 19]) (by decide)))
    have hkk : ∀ k e, k ≠ 18 → k ≠ 19 → k < 32 → gAt g1 (u k) e → gAt g2 (u k) e := fun k e n1 n2 k32 q => kp2.2 _ _ (two_ne (hne _ _ (by omega) (by omega) n1) (hne _ _ (by omega) (by omega) n2)) q
    have hRT2 := hRT.lU hne kp2'
    have hR2 : RS t g2 u (encL (vst V0 (lvsH 0 done))) := hR1.keep (fun k e k1 k2 q => hkk k e (by omega) (by omega) (by omega) q)
    have hv2 := hkk 16 _ (by omega) (by omega) (by omega) hv1
    have hl2 := hkk 17 _ (by omega) (by omega) (by omega) hl1
    have hfm3 : ∀ k (hk : k < (((rs.drop fr).take (r + 1 - fr)).flatMap rowE).length), fm2 k = (((rs.drop fr).take (r + 1 - fr)).flatMap rowE)[k] := by
      rw [eF]; exact hfm2
    have HB : (lvB 1 rs[r] = true ∨ r + 1 = rs.length) → J X 7 (zz D t A) g2 0 0 167 [(0, .ref (u 19)), (1, .int (nI i)), (2, .int 0), (3, .int (nI rs.length)), (4, .int (nI w)), (5, .int (nI r))] [] := by
      intro hbnd
      have hstep := runsP_step (lvB 1) rs fr r hfr hr hlow hbnd
      have hst2 : runs 1 (rs.drop fr) = (rs.drop fr).take (r + 1 - fr) :: runs 1 (rs.drop (r + 1)) := hstep
      have hgne : (rs.drop fr).take (r + 1 - fr) ≠ [] := by rw [eG]; simp
      have hglast : ((rs.drop fr).take (r + 1 - fr)).getLast? = some rs[r] := by rw [eG]; simp
      have hgl3 : ((rs.drop fr).take (r + 1 - fr)).length ≤ 300 := by rw [List.length_take, List.length_drop]; omega
      generalize hgd : (rs.drop fr).take (r + 1 - fr) = grp at *
      have hgin : ∀ q ∈ grp, q ∈ rs := fun q hq => by rw [← hgd] at hq; exact List.mem_of_mem_drop (List.mem_of_mem_take hq)
      have hrun2 : runs 1 rs = (done ++ [grp]) ++ runs 1 (rs.drop (r + 1)) := by
        rw [hrun, hst2, List.append_assoc]
        rfl
      have ew : wdt (0, grp) = w := wdt_of hgne (fun q hq => t3 q (hgin q hq))
      have hc : nvC (0, grp) := ⟨by omega, hgl3, w, t1, t2, fun q hq => ⟨t3 q (hgin q hq), hrc q (hgin q hq)⟩⟩
      have hkd : kidsIn (vst V0 (lvsH 0 done)) (0, grp) := fun h e => by cases e
      have hnd : ((0, grp) : NV) ∉ lvsH 0 done := by
        intro z
        obtain ⟨q, hq, e⟩ := List.mem_map.mp z
        have e2 : q = grp := (Prod.mk.inj e).2
        subst e2
        have hnn := runs_nodup t4 1
        rw [hrun2, List.append_assoc, List.nodup_append] at hnn
        exact hnn.2.2 q hq q (by simp) rfl
      have ediff : ndl rs = lvsH 0 done ++ (0, grp) :: (lvsH 0 (runs 1 (rs.drop (r + 1))) ++ ndsT rs 5 0) := by
        unfold ndl
        rw [eq0, hrun2, lvsH_app, lvsH_app]
        simp [lvsH]
      have hM2' : gAt g2 (u 19) (eM u oc om df (nI (encL (vst V0 (lvsH 0 done))).length) (nI (siz (encL (vst V0 (lvsH 0 done))))) (nI done.length) (nI (cont (vst V0 (lvsH 0 done)) (0, grp)).length) (nI 0) (nI done.length) si) := by
        rw [encL_len, siz_encL]; exact hM2
      have hdl3 : done.length < 301 := by omega
      refine j_aload_n O 0 dM_lay_167 rfl rfl ?_
      refine j_iconst O (v := 0) dM_lay_168 (by decide) ?_
      refine j_iload_n O 2 dM_lay_169 rfl rfl ?_
      refine j_iload_n O 3 dM_lay_170 rfl rfl ?_
      refine j_icmp_ge O 179 dM_lay_171 (by decide) (fun c0 => absurd c0 (nI_ge (a := 0) (b := rs.length) (by omega) (by omega))) (fun c0 => ?_)
      refine j_iload O dM_lay_174 rfl ?_
      refine j_eqi (nI (wdt (0, grp))) (by rw [ew]) ?_
      refine j_goto O 180 dM_lay_176 (by decide) ?_
      refine j_iload O dM_lay_180 rfl ?_
      refine j_callV O [.int (nI 0), .int (nI (wdt (0, grp))), .int (nI r)] (c_M_keep X.2.1 D t A g2 u oc om df (nI 0) si (nI r) (encL (vst V0 (lvsH 0 done))) 0 (wdt (0, grp)) done.length done.length (cont (vst V0 (lvsH 0 done)) (0, grp)) fm2 fv fl hM2' hm2 hfm3 (enc_ok (V := vst V0 (lvsH 0 done)) hc) hR2 hne hv2 hl2 hdl3) hM2' rfl w430 w431 w11 w28 w432 3 rfl rfl rfl (by decide +kernel) ⟨hrm.1, by show 8 + (5 + 11) + 140 ≤ _; omega⟩ rfl (Nat.le_of_ble_eq_true rfl) dM_lay_182 ⟨Nat.zero_le _, Nat.zero_le _⟩ (fun vw36 gw37 hpw38 => ?_)
      have hpost := hpw38
      have hpost2 := keepV hne hm2 hV1 hR2 hc hkd hnd hpost
      rcases hpost2 with ⟨rfl, hnf, hg⟩ | ⟨rfl, hLY3, kp3⟩
      · have hg := hg.symm
        subst hg
        refine j_if_ne O 190 dM_lay_185 (by decide) (fun c1 => absurd rfl c1) (fun c1 => ?_)
        refine j_iconst O (v := 0) dM_lay_188 (by decide) ?_
        exact j_zret O (by decide) M (Nat.le_of_ble_eq_true rfl) (Nat.le_of_ble_eq_true rfl) (Or.inl ⟨rfl, by rw [ediff]; exact nofit_all hnf, _, _, _, _, _, _, _, _, ⟨⟨_, hM2⟩, hv2, hl2, hm2, hR2, hV1⟩, kp2'⟩) dM_lay_189
      · refine j_if_ne O 190 dM_lay_185 (by decide) (fun c1 => ?_) (fun c1 => absurd c1 (by decide))
        refine j_iinc O (nI (r + 1)) [(5, .int (nI (r + 1))), (0, .ref (u 19)), (1, .int (nI i)), (2, .int 0), (3, .int (nI rs.length)), (4, .int (nI w))] dM_lay_190 rfl (nI_1 _) (by decide) rfl ?_
        refine j_goto O 45 dM_lay_193 (by decide) ?_
        refine J.pk [1, 2, 3, 4, 5, 0] rfl ?_
        have edn : lvsH 0 done ++ [((0, grp) : NV)] = lvsH 0 (done ++ [grp]) := by rw [lvsH_app]; rfl
        rw [edn] at hLY3
        have hlev3 : levOK fv fl (vst V0 (lvsH 0 (done ++ [grp]))) rs 0 done := hlev.grow (fun q hq => by
          rw [lvsH_app]
          exact vst_idx (vst_in.mpr (Or.inr (List.mem_map.mpr ⟨q, hq, rfl⟩))))
        have hlev4 := hlev3.snoc (q := grp) hr hglast
        have ez : (rs.drop (r + 1)).take (r + 1 - (r + 1)) = [] := by simp
        exact ih (r + 1) (r + 1) (done ++ [grp]) _ _ _ _ (by omega) (Nat.le_refl _) hrun2 (by rw [List.length_append, List.length_singleton]; omega) (fun j hj h1 h2 => by omega) (fun _ => rfl) (by rw [ez, List.length_append, List.length_singleton]; exact hLY3) (by rw [ez]; intro k hk; exact absurd hk (Nat.not_lt_zero _)) hlev4 (kp2'.tr kp3)
    obtain ⟨⟨fC, hC, hCv⟩, ⟨fN, hNn0, hNv⟩, ⟨fK, hK, hKv⟩, ⟨fL, hL, hLv⟩, hrow⟩ := id hRT2
    obtain ⟨fk, fc, hk, hc0, htab⟩ := hrow i i6
    rw [htb] at htab
    have hKi := hKv i i6
    obtain ⟨hkr, -⟩ := htab r hr
    dsimp only at hkr
    refine j_iload O dM_lay_140 rfl ?_
    refine j_iload_n O 3 dM_lay_142 rfl rfl ?_
    refine j_iconst O (v := 1) dM_lay_143 (by decide) ?_
    refine j_isub O dM_lay_144 ?_
    refine j_eqi (nI (rs.length - 1)) (pk_sub (b := 1) (by omega)) ?_
    refine j_icmp_ge O 167 dM_lay_145 (by decide) (fun c1 => ?_) (fun c1 => ?_)
    · exact HB (Or.inr (by
        rcases Nat.lt_or_ge r (rs.length - 1) with z | z
        · exact absurd c1 (nI_ge z (by omega))
        · omega))
    · refine j_aload_n O 0 dM_lay_148 rfl rfl ?_
      refine j_get O uwM hM2 rfl 2 (by decide) w449 rfl rfl dM_lay_149 ?_
      refine j_iload_n O 1 dM_lay_152 rfl rfl ?_
      refine j_aaldA O hK 4 rfl (by omega) (by omega) dM_lay_153 ?_
      refine j_some (u (20 + i)) hKi ?_
      refine j_iload O dM_lay_154 rfl ?_
      refine j_iald O hk 0 rfl (by omega) (by omega) dM_lay_156 ?_
      refine j_eqi (rs[r].1) hkr ?_
      refine j_callS O [.int (rs[r].1)] (c_M_levelOf X.2.1 D t A g2 rs[r].1) w422 w423 w28 w424 1 rfl rfl rfl (by decide +kernel) ⟨by show 1 + 1 ≤ _; omega, by show 8 + (3 + 11) + 20 ≤ _; omega⟩ rfl (Nat.le_of_ble_eq_true rfl) dM_lay_157 ⟨Nat.zero_le _, Nat.zero_le _⟩ (fun vw39 gw40 hpw41 => ?_)
      obtain ⟨rfl, hgw42⟩ := hpw41
      have hgw42 := hgw42.symm
      subst hgw42
      refine j_iconst O (v := 1) dM_lay_160 (by decide) ?_
      refine j_icmp_ge O 167 dM_lay_161 (by decide) (fun c2 => ?_) (fun c2 => ?_)
      · have hlv5 := lvl_le rs[r].1
        exact HB (Or.inl (by
          unfold lvB
          simp only [decide_eq_true_eq]
          rcases Nat.lt_or_ge (lvl rs[r].1) 1 with z | z
          · exact absurd c2 (nI_ge (b := 1) z (by omega))
          · exact z))
      · refine j_goto O 190 dM_lay_164 (by decide) ?_
        refine j_iinc O (nI (r + 1)) [(5, .int (nI (r + 1))), (0, .ref (u 19)), (1, .int (nI i)), (2, .int 0), (3, .int (nI rs.length)), (4, .int (nI w))] dM_lay_190 rfl (nI_1 _) (by decide) rfl ?_
        refine j_goto O 45 dM_lay_193 (by decide) ?_
        refine J.pk [1, 2, 3, 4, 5, 0] rfl ?_
        have hlv5 := lvl_le rs[r].1
        have hlo : lvB 1 rs[r] = false := by
          unfold lvB
          simp only [decide_eq_false_iff_not]
          intro z
          exact c2 (nI_le (a := 1) z (by omega))
        have hnl : r + 1 ≠ rs.length := by
          intro z
          exact c1 (nI_le (by omega) (by omega))
        exact ih (r + 1) fr done g2 fv fl fm2 (by omega) (by omega) hrun hdl (fun j hj h1 h2 => by
          rcases Nat.lt_or_ge j r with z | z
          · exact hlow j hj h1 z
          · have e : j = r := by omega
            subst e
            exact hlo) (fun z => absurd z hnl) ⟨⟨_, hM2⟩, hv2, hl2, hm2, hR2, hV1⟩ hfm3 hlev kp2'
