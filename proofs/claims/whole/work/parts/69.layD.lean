set_option maxRecDepth 100000 in
set_option maxHeartbeats 1000000 in
theorem lay_up {X : CX} {D : va_G} {t : Nat → ClassId} {A : Nat → Prop} {rm : Room} {g : GH} {u : Nat → Nat} {oc om df : Int32} {i w : Nat} {tb : TB} {rs : List RV} {V0 : List NV} (O : Ok X bM_lay 7 "TwinTreesModel" (zz D t A) rm) (M : Om X (zz D t A) (some .boolean) 0 0 (fun v g' => (v = some (.int 0) ∧ nofitA V0 (ndl rs) ∧ ∃ dn j m h k fv fl fm, LY t g' u oc om df (vst V0 dn) j m h k fv fl fm ∧ Kp (lU.map u) g g') ∨ (v = some (.int 1) ∧ ∃ m fv fl fm, LY t g' u oc om df (vst V0 (ndl rs)) 1 m (hgt rs) (ndl rs).length fv fl fm ∧ fv 0 = nI ((vst V0 (ndl rs)).idxOf (hgt rs, rs)) ∧ Kp (lU.map u) g g'))) (hRT : RT t g u tb) (i6 : i < 6) (htb : tb i = (w, rs)) (htk : tOK (w, rs)) (hrc : ∀ r ∈ rs, rowC r) (hne : ∀ i j, i < 32 → j < 32 → i ≠ j → u i ≠ u j) (hrm : 3 ≤ rm.frames ∧ 200 ≤ rm.locals) : ∀ (n h : Nat) (pre : List NV) (g1 : GH) (m : Nat) (fv fl : Nat → Int32) (fm : Nat → Int64), h + n = 5 → ndl rs = pre ++ ndsT rs n h → hgt rs = hgtT rs n h → (∀ q ∈ qlv rs h, (h, q) ∈ pre) → LY t g1 u oc om df (vst V0 pre) (qlv rs h).length m h pre.length fv fl fm → (1 < (qlv rs h).length → levOK fv fl (vst V0 pre) rs h (qlv rs h)) → fv 0 = nI ((vst V0 pre).idxOf (h, (qlv rs h)[0]'(qlv_pos rs h))) → Kp (lU.map u) g g1 → J X 7 (zz D t A) g1 0 0 196 [(0, .ref (u 19)), (1, .int (nI i))] [] := by
  obtain ⟨t1, t2, t3, t4, t5⟩ := id htk
  dsimp only at t1 t2 t3 t4 t5
  have hq3 : ∀ h, (qlv rs h).length ≤ 301 := fun h => by
    unfold qlv
    split
    · simp
    · have := runs_len_le (h + 1) rs; omega
  have HE : ∀ (n h : Nat) (pre : List NV) (g1 : GH) (m : Nat) (fv fl : Nat → Int32) (fm : Nat → Int64), ndl rs = pre ++ ndsT rs n h → hgt rs = hgtT rs n h → (qlv rs h).length = 1 → LY t g1 u oc om df (vst V0 pre) (qlv rs h).length m h pre.length fv fl fm → fv 0 = nI ((vst V0 pre).idxOf (h, (qlv rs h)[0]'(qlv_pos rs h))) → Kp (lU.map u) g g1 → J X 7 (zz D t A) g1 0 0 196 [(0, .ref (u 19)), (1, .int (nI i))] [] := by
    intro n h pre g1 m fv fl fm hnd hht h1 hLY hf0 kp
    have e1 : ndsT rs n h = [] := by
      cases n with
      | zero => rfl
      | succ n => rw [ndsT, if_pos (by omega)]
    have e2 : hgtT rs n h = h := by
      cases n with
      | zero => rfl
      | succ n => rw [hgtT, if_pos (by omega)]
    rw [e1, List.append_nil] at hnd
    rw [e2] at hht
    rw [qlv_one h1] at hf0
    obtain ⟨⟨si, hM1⟩, hv1, hl1, hm1, hR1, hV1⟩ := id hLY
    rw [h1] at hLY hM1
    rw [← hnd] at hLY hf0
    refine j_aload_n O 0 dM_lay_196 rfl rfl ?_
    refine j_get O uwM hM1 rfl 23 (by decide) w470 rfl rfl dM_lay_197 ?_
    refine j_iconst O (v := 1) dM_lay_200 (by decide) ?_
    refine j_icmp_le O 332 dM_lay_201 (by decide) (fun c0 => ?_) (fun c0 => absurd (by decide) c0)
    refine j_iconst O (v := 1) dM_lay_332 (by decide) ?_
    exact j_zret O (by decide) M (Nat.le_of_ble_eq_true rfl) (Nat.le_of_ble_eq_true rfl) (Or.inr ⟨rfl, m, fv, fl, fm, by rw [hht]; exact hLY, by rw [hht]; exact hf0, kp⟩) dM_lay_333
  intro n
  induction n with
  | zero =>
    intro h pre g1 m fv fl fm hn hnd hht hpre hLY hlev hf0 kp
    have h1 := hgtT_one rs 0 h hn
    exact HE 0 h pre g1 m fv fl fm hnd hht h1 hLY hf0 kp
  | succ n ih =>
    intro h pre g1 m fv fl fm hn hnd hht hpre hLY hlev hf0 kp
    have hqp := qlv_pos rs h
    by_cases h1 : (qlv rs h).length = 1
    · exact HE (n + 1) h pre g1 m fv fl fm hnd hht h1 hLY hf0 kp
    · have h2 : 1 < (qlv rs h).length := by omega
      have hnz : rs ≠ [] := by
        intro z
        apply h1
        unfold qlv
        rw [if_pos z]
        rfl
      have hlv := hlev h2
      have eq0 : qlv rs h = runs (h + 1) rs := qlv_runs hnz h
      have eq1 : qlv rs (h + 1) = runs (h + 2) rs := qlv_runs hnz (h + 1)
      rw [ndsT, if_neg (by omega), eq1] at hnd
      rw [hgtT, if_neg (by omega)] at hht
      have hq31 := hq3 h
      obtain ⟨⟨si, hM1⟩, hv1, hl1, hm1, hR1, hV1⟩ := id hLY
      have kp0 : Kp [u 19] g1 g1 := Kp.rf
      refine j_aload_n O 0 dM_lay_196 rfl rfl ?_
      refine j_get O uwM hM1 rfl 23 (by decide) w470 rfl rfl dM_lay_197 ?_
      refine j_iconst O (v := 1) dM_lay_200 (by decide) ?_
      refine j_icmp_le O 332 dM_lay_201 (by decide) (fun c0 => absurd c0 (nI_ge (a := 1) h2 (by omega))) (fun c0 => ?_)
      refine j_aload_n O 0 dM_lay_204 rfl rfl ?_
      refine j_get O uwM hM1 rfl 23 (by decide) w470 rfl rfl dM_lay_205 ?_
      refine j_istore O [(5, .int (nI (qlv rs h).length)), (0, .ref (u 19)), (1, .int (nI i))] dM_lay_208 (by decide) rfl ?_
      refine j_aload_n O 0 dM_lay_210 rfl rfl ?_
      refine j_iconst O (v := 0) dM_lay_211 (by decide) ?_
      refine j_put O uwM hM1 rfl 23 (by decide) w470 rfl tM ftM fnM rfl (.int) (by decide +kernel) rfl rfl (Nat.le_of_ble_eq_true rfl) [.ref (u 0), .ref (u 1), .ref (u 2), .ref (u 3), .int oc, .int om, .ref (u 4), .ref (u 5), .ref (u 6), .ref (u 7), .ref (u 8), .int df, .ref (u 9), .ref (u 10), .ref (u 11), .ref (u 12), .ref (u 13), .ref (u 14), .ref (u 15), .int (nI (vst V0 pre).length), .int (nI (szL (vst V0 pre))), .ref (u 16), .ref (u 17), .int 0, .ref (u 18), .int (nI m), .int (nI h), .int (nI pre.length), .int si] rfl dM_lay_212 (fun gw64 ew65 => ?_)
      have hw66 := gUp_ne (e' := .inr (6, [.ref (u 0), .ref (u 1), .ref (u 2), .ref (u 3), .int oc, .int om, .ref (u 4), .ref (u 5), .ref (u 6), .ref (u 7), .ref (u 8), .int df, .ref (u 9), .ref (u 10), .ref (u 11), .ref (u 12), .ref (u 13), .ref (u 14), .ref (u 15), .int (nI (vst V0 pre).length), .int (nI (szL (vst V0 pre))), .ref (u 16), .ref (u 17), .int 0, .ref (u 18), .int (nI m), .int (nI h), .int (nI pre.length), .int si])) hv1 (hv1.ne hM1 (by simp))
      rw [← ew65] at hw66
      have hw67 := gUp_ne (e' := .inr (6, [.ref (u 0), .ref (u 1), .ref (u 2), .ref (u 3), .int oc, .int om, .ref (u 4), .ref (u 5), .ref (u 6), .ref (u 7), .ref (u 8), .int df, .ref (u 9), .ref (u 10), .ref (u 11), .ref (u 12), .ref (u 13), .ref (u 14), .ref (u 15), .int (nI (vst V0 pre).length), .int (nI (szL (vst V0 pre))), .ref (u 16), .ref (u 17), .int 0, .ref (u 18), .int (nI m), .int (nI h), .int (nI pre.length), .int si])) hl1 (hl1.ne hM1 (by simp))
      rw [← ew65] at hw67
      have hw68 := gUp_ne (e' := .inr (6, [.ref (u 0), .ref (u 1), .ref (u 2), .ref (u 3), .int oc, .int om, .ref (u 4), .ref (u 5), .ref (u 6), .ref (u 7), .ref (u 8), .int df, .ref (u 9), .ref (u 10), .ref (u 11), .ref (u 12), .ref (u 13), .ref (u 14), .ref (u 15), .int (nI (vst V0 pre).length), .int (nI (szL (vst V0 pre))), .ref (u 16), .ref (u 17), .int 0, .ref (u 18), .int (nI m), .int (nI h), .int (nI pre.length), .int si])) hm1 (hm1.ne hM1 (by simp))
      rw [← ew65] at hw68
      have hw69 := gUp_self (e' := .inr (6, [.ref (u 0), .ref (u 1), .ref (u 2), .ref (u 3), .int oc, .int om, .ref (u 4), .ref (u 5), .ref (u 6), .ref (u 7), .ref (u 8), .int df, .ref (u 9), .ref (u 10), .ref (u 11), .ref (u 12), .ref (u 13), .ref (u 14), .ref (u 15), .int (nI (vst V0 pre).length), .int (nI (szL (vst V0 pre))), .ref (u 16), .ref (u 17), .int 0, .ref (u 18), .int (nI m), .int (nI h), .int (nI pre.length), .int si])) hM1
      rw [← ew65] at hw69
      have kpw70 := kp0.up (a := (u 19)) (e := .inr (6, [.ref (u 0), .ref (u 1), .ref (u 2), .ref (u 3), .int oc, .int om, .ref (u 4), .ref (u 5), .ref (u 6), .ref (u 7), .ref (u 8), .int df, .ref (u 9), .ref (u 10), .ref (u 11), .ref (u 12), .ref (u 13), .ref (u 14), .ref (u 15), .int (nI (vst V0 pre).length), .int (nI (szL (vst V0 pre))), .ref (u 16), .ref (u 17), .int 0, .ref (u 18), .int (nI m), .int (nI h), .int (nI pre.length), .int si])) (by simp)
      rw [← ew65] at kpw70
      refine j_aload_n O 0 dM_lay_215 rfl rfl ?_
      refine j_dup O dM_lay_216 rfl ?_
      refine j_get O uwM hw69 rfl 26 (by decide) w473 rfl rfl dM_lay_217 ?_
      refine j_iconst O (v := 1) dM_lay_220 (by decide) ?_
      refine j_iadd O dM_lay_221 ?_
      refine j_eqi (nI (h + 1)) (nI_1 _) ?_
      refine j_put O uwM hw69 rfl 26 (by decide) w473 rfl tM ftM fnM rfl (.int) (by decide +kernel) rfl rfl (Nat.le_of_ble_eq_true rfl) [.ref (u 0), .ref (u 1), .ref (u 2), .ref (u 3), .int oc, .int om, .ref (u 4), .ref (u 5), .ref (u 6), .ref (u 7), .ref (u 8), .int df, .ref (u 9), .ref (u 10), .ref (u 11), .ref (u 12), .ref (u 13), .ref (u 14), .ref (u 15), .int (nI (vst V0 pre).length), .int (nI (szL (vst V0 pre))), .ref (u 16), .ref (u 17), .int 0, .ref (u 18), .int (nI m), .int (nI (h + 1)), .int (nI pre.length), .int si] rfl dM_lay_222 (fun gw71 ew72 => ?_)
      have hw73 := gUp_ne (e' := .inr (6, [.ref (u 0), .ref (u 1), .ref (u 2), .ref (u 3), .int oc, .int om, .ref (u 4), .ref (u 5), .ref (u 6), .ref (u 7), .ref (u 8), .int df, .ref (u 9), .ref (u 10), .ref (u 11), .ref (u 12), .ref (u 13), .ref (u 14), .ref (u 15), .int (nI (vst V0 pre).length), .int (nI (szL (vst V0 pre))), .ref (u 16), .ref (u 17), .int 0, .ref (u 18), .int (nI m), .int (nI (h + 1)), .int (nI pre.length), .int si])) hw66 (hw66.ne hw69 (by simp))
      rw [← ew72] at hw73
      have hw74 := gUp_ne (e' := .inr (6, [.ref (u 0), .ref (u 1), .ref (u 2), .ref (u 3), .int oc, .int om, .ref (u 4), .ref (u 5), .ref (u 6), .ref (u 7), .ref (u 8), .int df, .ref (u 9), .ref (u 10), .ref (u 11), .ref (u 12), .ref (u 13), .ref (u 14), .ref (u 15), .int (nI (vst V0 pre).length), .int (nI (szL (vst V0 pre))), .ref (u 16), .ref (u 17), .int 0, .ref (u 18), .int (nI m), .int (nI (h + 1)), .int (nI pre.length), .int si])) hw67 (hw67.ne hw69 (by simp))
      rw [← ew72] at hw74
      have hw75 := gUp_ne (e' := .inr (6, [.ref (u 0), .ref (u 1), .ref (u 2), .ref (u 3), .int oc, .int om, .ref (u 4), .ref (u 5), .ref (u 6), .ref (u 7), .ref (u 8), .int df, .ref (u 9), .ref (u 10), .ref (u 11), .ref (u 12), .ref (u 13), .ref (u 14), .ref (u 15), .int (nI (vst V0 pre).length), .int (nI (szL (vst V0 pre))), .ref (u 16), .ref (u 17), .int 0, .ref (u 18), .int (nI m), .int (nI (h + 1)), .int (nI pre.length), .int si])) hw68 (hw68.ne hw69 (by simp))
      rw [← ew72] at hw75
      have hw76 := gUp_self (e' := .inr (6, [.ref (u 0), .ref (u 1), .ref (u 2), .ref (u 3), .int oc, .int om, .ref (u 4), .ref (u 5), .ref (u 6), .ref (u 7), .ref (u 8), .int df, .ref (u 9), .ref (u 10), .ref (u 11), .ref (u 12), .ref (u 13), .ref (u 14), .ref (u 15), .int (nI (vst V0 pre).length), .int (nI (szL (vst V0 pre))), .ref (u 16), .ref (u 17), .int 0, .ref (u 18), .int (nI m), .int (nI (h + 1)), .int (nI pre.length), .int si])) hw69
      rw [← ew72] at hw76
      have kpw77 := kpw70.up (a := (u 19)) (e := .inr (6, [.ref (u 0), .ref (u 1), .ref (u 2), .ref (u 3), .int oc, .int om, .ref (u 4), .ref (u 5), .ref (u 6), .ref (u 7), .ref (u 8), .int df, .ref (u 9), .ref (u 10), .ref (u 11), .ref (u 12), .ref (u 13), .ref (u 14), .ref (u 15), .int (nI (vst V0 pre).length), .int (nI (szL (vst V0 pre))), .ref (u 16), .ref (u 17), .int 0, .ref (u 18), .int (nI m), .int (nI (h + 1)), .int (nI pre.length), .int si])) (by simp)
      rw [← ew72] at kpw77
      refine j_aload_n O 0 dM_lay_225 rfl rfl ?_
      refine j_iconst O (v := 0) dM_lay_226 (by decide) ?_
      refine j_put O uwM hw76 rfl 25 (by decide) w472 rfl tM ftM fnM rfl (.int) (by decide +kernel) rfl rfl (Nat.le_of_ble_eq_true rfl) [.ref (u 0), .ref (u 1), .ref (u 2), .ref (u 3), .int oc, .int om, .ref (u 4), .ref (u 5), .ref (u 6), .ref (u 7), .ref (u 8), .int df, .ref (u 9), .ref (u 10), .ref (u 11), .ref (u 12), .ref (u 13), .ref (u 14), .ref (u 15), .int (nI (vst V0 pre).length), .int (nI (szL (vst V0 pre))), .ref (u 16), .ref (u 17), .int 0, .ref (u 18), .int 0, .int (nI (h + 1)), .int (nI pre.length), .int si] rfl dM_lay_227 (fun gw78 ew79 => ?_)
      have hw80 := gUp_ne (e' := .inr (6, [.ref (u 0), .ref (u 1), .ref (u 2), .ref (u 3), .int oc, .int om, .ref (u 4), .ref (u 5), .ref (u 6), .ref (u 7), .ref (u 8), .int df, .ref (u 9), .ref (u 10), .ref (u 11), .ref (u 12), .ref (u 13), .ref (u 14), .ref (u 15), .int (nI (vst V0 pre).length), .int (nI (szL (vst V0 pre))), .ref (u 16), .ref (u 17), .int 0, .ref (u 18), .int 0, .int (nI (h + 1)), .int (nI pre.length), .int si])) hw73 (hw73.ne hw76 (by simp))
      rw [← ew79] at hw80
      have hw81 := gUp_ne (e' := .inr (6, [.ref (u 0), .ref (u 1), .ref (u 2), .ref (u 3), .int oc, .int om, .ref (u 4), .ref (u 5), .ref (u 6), .ref (u 7), .ref (u 8), .int df, .ref (u 9), .ref (u 10), .ref (u 11), .ref (u 12), .ref (u 13), .ref (u 14), .ref (u 15), .int (nI (vst V0 pre).length), .int (nI (szL (vst V0 pre))), .ref (u 16), .ref (u 17), .int 0, .ref (u 18), .int 0, .int (nI (h + 1)), .int (nI pre.length), .int si])) hw74 (hw74.ne hw76 (by simp))
      rw [← ew79] at hw81
      have hw82 := gUp_ne (e' := .inr (6, [.ref (u 0), .ref (u 1), .ref (u 2), .ref (u 3), .int oc, .int om, .ref (u 4), .ref (u 5), .ref (u 6), .ref (u 7), .ref (u 8), .int df, .ref (u 9), .ref (u 10), .ref (u 11), .ref (u 12), .ref (u 13), .ref (u 14), .ref (u 15), .int (nI (vst V0 pre).length), .int (nI (szL (vst V0 pre))), .ref (u 16), .ref (u 17), .int 0, .ref (u 18), .int 0, .int (nI (h + 1)), .int (nI pre.length), .int si])) hw75 (hw75.ne hw76 (by simp))
      rw [← ew79] at hw82
      have hw83 := gUp_self (e' := .inr (6, [.ref (u 0), .ref (u 1), .ref (u 2), .ref (u 3), .int oc, .int om, .ref (u 4), .ref (u 5), .ref (u 6), .ref (u 7), .ref (u 8), .int df, .ref (u 9), .ref (u 10), .ref (u 11), .ref (u 12), .ref (u 13), .ref (u 14), .ref (u 15), .int (nI (vst V0 pre).length), .int (nI (szL (vst V0 pre))), .ref (u 16), .ref (u 17), .int 0, .ref (u 18), .int 0, .int (nI (h + 1)), .int (nI pre.length), .int si])) hw76
      rw [← ew79] at hw83
      have kpw84 := kpw77.up (a := (u 19)) (e := .inr (6, [.ref (u 0), .ref (u 1), .ref (u 2), .ref (u 3), .int oc, .int om, .ref (u 4), .ref (u 5), .ref (u 6), .ref (u 7), .ref (u 8), .int df, .ref (u 9), .ref (u 10), .ref (u 11), .ref (u 12), .ref (u 13), .ref (u 14), .ref (u 15), .int (nI (vst V0 pre).length), .int (nI (szL (vst V0 pre))), .ref (u 16), .ref (u 17), .int 0, .ref (u 18), .int 0, .int (nI (h + 1)), .int (nI pre.length), .int si])) (by simp)
      rw [← ew79] at kpw84
      refine j_iconst O (v := 0) dM_lay_230 (by decide) ?_
      refine j_istore O [(6, .int 0), (5, .int (nI (qlv rs h).length)), (0, .ref (u 19)), (1, .int (nI i))] dM_lay_231 (by decide) rfl ?_
      refine J.pk [2, 3, 1, 0] rfl ?_
      have hkk : ∀ k e, k ≠ 19 → k < 32 → gAt g1 (u k) e → gAt gw78 (u k) e := fun k e n2 k32 q => kpw84.2 _ _ (one_ne (hne _ _ (by omega) (by omega) n2)) q
      have hR2 : RS t gw78 u (encL (vst V0 pre)) := hR1.keep (fun k e k1 k2 q => hkk k e (by omega) (by omega) q)
      have e0 : pre ++ lvsH (h + 1) [] = pre := by simp [lvsH]
      have hMx := hw83
      have hLYx : LY t gw78 u oc om df (vst V0 pre) 0 0 (h + 1) pre.length fv fl fm := ⟨⟨si, hMx⟩, hw80, hw81, hw82, hR2, hV1⟩
      refine lay_nodes (qs := qlv rs h) (pre := pre) (h := h) O M hRT i6 htb htk hrc hne hrm hnz eq0 (by omega) hpre ⟨_, hnd⟩ (fun g3 m3 fv3 fl3 fm3 hLY3 hlev3 kp3 => ?_) (qlv rs h).length 0 0 [] [] gw78 fv fl fm (by omega) (Nat.le_refl _) (by simp) rfl (Nat.le_refl _) (fun j hj q1 q2 => by omega) (fun _ => by omega) (by rw [e0]; exact hLYx) (fun k hk => by omega) (fun j hj => absurd hj (Nat.not_lt_zero _)) (fun j hj _ => hlv j hj) (kp.tr (kpw84.mono (lU_sub (u := u) (S := [19]) (by decide))))
      refine ih (h + 1) (pre ++ lvsH (h + 1) (runs (h + 2) rs)) g3 m3 fv3 fl3 fm3 (by omega) (by rw [hnd, List.append_assoc]) hht (fun q hq => by rw [eq1] at hq; exact List.mem_append_right _ (List.mem_map.mpr ⟨q, hq, rfl⟩)) ?_ (fun _ => by rw [eq1]; exact hlev3) ?_ kp3
      · rw [eq1, List.length_append, show (lvsH (h + 1) (runs (h + 2) rs)).length = (runs (h + 2) rs).length by simp [lvsH]]
        exact hLY3
      · have hqp1 := qlv_pos rs (h + 1)
        simp only [eq1] at hqp1 ⊢
        exact (hlev3 0 hqp1).1
set_option maxRecDepth 100000 in
set_option maxHeartbeats 1000000 in
theorem c_M_lay (l : Launch) (D : va_G) (t : Nat → ClassId) (A : Nat → Prop) (g : GH) (u : Nat → Nat) (oc om df lm mm ta co si : Int32) (i w : Nat) (tb : TB) (rs : List RV) (V0 : List NV) (fv fl : Nat → Int32) (fm : Nat → Int64) (hM : gAt g (u 19) (eM u oc om df (nI V0.length) (nI (szL V0)) lm mm ta co si)) (hv : gAt g (u 16) (eI t 301 fv)) (hl : gAt g (u 17) (eI t 301 fl)) (hm : gAt g (u 18) (eL t 2100 fm)) (hR : RS t g u (encL V0)) (hV : VOK V0) (hRT : RT t g u tb) (i6 : i < 6) (htb : tb i = (w, rs)) (htk : tOK (w, rs)) (hrc : ∀ r ∈ rs, rowC r) (hne : ∀ i j, i < 32 → j < 32 → i ≠ j → u i ≠ u j) : Ct l yM_lay sM_lay { frames := 3, cells := 0, slots := 0, locals := 200 } (zz D t A) [.ref (u 19), .int (nI i)] g 0 0 (fun v g' => (v = some (.int 0) ∧ nofitA V0 (ndl rs) ∧ ∃ dn j m h k fv fl fm, LY t g' u oc om df (vst V0 dn) j m h k fv fl fm ∧ Kp (lU.map u) g g') ∨ (v = some (.int 1) ∧ ∃ m fv fl fm, LY t g' u oc om df (vst V0 (ndl rs)) 1 m (hgt rs) (ndl rs).length fv fl fm ∧ fv 0 = nI ((vst V0 (ndl rs)).idxOf (hgt rs, rs)) ∧ Kp (lU.map u) g g')) := by
  refine Ct.of (cc := bM_lay) (maxL := 7) (ret := (some .boolean)) (by decide) (Nat.le_of_ble_eq_true rfl) (fun X hlX O M hNn => ?_)
  show J X 7 (zz D t A) g 0 0 0 [(0, .ref (u 19)), (1, .int (nI i))] []
  obtain ⟨t1, t2, t3, t4, t5⟩ := id htk
  dsimp only at t1 t2 t3 t4 t5
  obtain ⟨⟨fC, hC, hCv⟩, ⟨fN, hNn0, hNv⟩, ⟨fK, hK, hKv⟩, ⟨fL, hL, hLv⟩, hrow⟩ := id hRT
  have hNi := hNv i i6
  have hCi := hCv i i6
  rw [htb] at hNi hCi
  dsimp only at hNi hCi
  have kp0 : Kp [u 19] g g := Kp.rf
  refine j_iconst O (v := 0) dM_lay_0 (by decide) ?_
  refine j_istore_n O 2 [(2, .int 0), (0, .ref (u 19)), (1, .int (nI i))] dM_lay_1 rfl (by decide) rfl ?_
  refine j_aload_n O 0 dM_lay_2 rfl rfl ?_
  refine j_get O uwM hM rfl 1 (by decide) w448 rfl rfl dM_lay_3 ?_
  refine j_iload_n O 1 dM_lay_6 rfl rfl ?_
  refine j_iald O hNn0 0 rfl (by omega) (by omega) dM_lay_7 ?_
  refine j_eqi (nI rs.length) hNi ?_
  refine j_istore_n O 3 [(3, .int (nI rs.length)), (2, .int 0), (0, .ref (u 19)), (1, .int (nI i))] dM_lay_8 rfl (by decide) rfl ?_
  refine j_aload_n O 0 dM_lay_9 rfl rfl ?_
  refine j_get O uwM hM rfl 0 (by decide) w447 rfl rfl dM_lay_10 ?_
  refine j_iload_n O 1 dM_lay_13 rfl rfl ?_
  refine j_iald O hC 0 rfl (by omega) (by omega) dM_lay_14 ?_
  refine j_eqi (nI w) hCi ?_
  refine j_istore O [(4, .int (nI w)), (3, .int (nI rs.length)), (2, .int 0), (0, .ref (u 19)), (1, .int (nI i))] dM_lay_15 (by decide) rfl ?_
  refine j_aload_n O 0 dM_lay_17 rfl rfl ?_
  refine j_iconst O (v := 0) dM_lay_18 (by decide) ?_
  refine j_put O uwM hM rfl 23 (by decide) w470 rfl tM ftM fnM rfl (.int) (by decide +kernel) rfl rfl (Nat.le_of_ble_eq_true rfl) [.ref (u 0), .ref (u 1), .ref (u 2), .ref (u 3), .int oc, .int om, .ref (u 4), .ref (u 5), .ref (u 6), .ref (u 7), .ref (u 8), .int df, .ref (u 9), .ref (u 10), .ref (u 11), .ref (u 12), .ref (u 13), .ref (u 14), .ref (u 15), .int (nI V0.length), .int (nI (szL V0)), .ref (u 16), .ref (u 17), .int 0, .ref (u 18), .int mm, .int ta, .int co, .int si] rfl dM_lay_19 (fun gw85 ew86 => ?_)
  have hw87 := gUp_ne (e' := .inr (6, [.ref (u 0), .ref (u 1), .ref (u 2), .ref (u 3), .int oc, .int om, .ref (u 4), .ref (u 5), .ref (u 6), .ref (u 7), .ref (u 8), .int df, .ref (u 9), .ref (u 10), .ref (u 11), .ref (u 12), .ref (u 13), .ref (u 14), .ref (u 15), .int (nI V0.length), .int (nI (szL V0)), .ref (u 16), .ref (u 17), .int 0, .ref (u 18), .int mm, .int ta, .int co, .int si])) hv (hv.ne hM (by simp))
  rw [← ew86] at hw87
  have hw88 := gUp_ne (e' := .inr (6, [.ref (u 0), .ref (u 1), .ref (u 2), .ref (u 3), .int oc, .int om, .ref (u 4), .ref (u 5), .ref (u 6), .ref (u 7), .ref (u 8), .int df, .ref (u 9), .ref (u 10), .ref (u 11), .ref (u 12), .ref (u 13), .ref (u 14), .ref (u 15), .int (nI V0.length), .int (nI (szL V0)), .ref (u 16), .ref (u 17), .int 0, .ref (u 18), .int mm, .int ta, .int co, .int si])) hl (hl.ne hM (by simp))
  rw [← ew86] at hw88
  have hw89 := gUp_ne (e' := .inr (6, [.ref (u 0), .ref (u 1), .ref (u 2), .ref (u 3), .int oc, .int om, .ref (u 4), .ref (u 5), .ref (u 6), .ref (u 7), .ref (u 8), .int df, .ref (u 9), .ref (u 10), .ref (u 11), .ref (u 12), .ref (u 13), .ref (u 14), .ref (u 15), .int (nI V0.length), .int (nI (szL V0)), .ref (u 16), .ref (u 17), .int 0, .ref (u 18), .int mm, .int ta, .int co, .int si])) hm (hm.ne hM (by simp))
  rw [← ew86] at hw89
  have hw90 := gUp_ne (e' := .inr (6, [.ref (u 0), .ref (u 1), .ref (u 2), .ref (u 3), .int oc, .int om, .ref (u 4), .ref (u 5), .ref (u 6), .ref (u 7), .ref (u 8), .int df, .ref (u 9), .ref (u 10), .ref (u 11), .ref (u 12), .ref (u 13), .ref (u 14), .ref (u 15), .int (nI V0.length), .int (nI (szL V0)), .ref (u 16), .ref (u 17), .int 0, .ref (u 18), .int mm, .int ta, .int co, .int si])) hC (hC.ne hM (by simp))
  rw [← ew86] at hw90
  have hw91 := gUp_ne (e' := .inr (6, [.ref (u 0), .ref (u 1), .ref (u 2), .ref (u 3), .int oc, .int om, .ref (u 4), .ref (u 5), .ref (u 6), .ref (u 7), .ref (u 8), .int df, .ref (u 9), .ref (u 10), .ref (u 11), .ref (u 12), .ref (u 13), .ref (u 14), .ref (u 15), .int (nI V0.length), .int (nI (szL V0)), .ref (u 16), .ref (u 17), .int 0, .ref (u 18), .int mm, .int ta, .int co, .int si])) hNn0 (hNn0.ne hM (by simp))
  rw [← ew86] at hw91
  have hw92 := gUp_self (e' := .inr (6, [.ref (u 0), .ref (u 1), .ref (u 2), .ref (u 3), .int oc, .int om, .ref (u 4), .ref (u 5), .ref (u 6), .ref (u 7), .ref (u 8), .int df, .ref (u 9), .ref (u 10), .ref (u 11), .ref (u 12), .ref (u 13), .ref (u 14), .ref (u 15), .int (nI V0.length), .int (nI (szL V0)), .ref (u 16), .ref (u 17), .int 0, .ref (u 18), .int mm, .int ta, .int co, .int si])) hM
  rw [← ew86] at hw92
  have kpw93 := kp0.up (a := (u 19)) (e := .inr (6, [.ref (u 0), .ref (u 1), .ref (u 2), .ref (u 3), .int oc, .int om, .ref (u 4), .ref (u 5), .ref (u 6), .ref (u 7), .ref (u 8), .int df, .ref (u 9), .ref (u 10), .ref (u 11), .ref (u 12), .ref (u 13), .ref (u 14), .ref (u 15), .int (nI V0.length), .int (nI (szL V0)), .ref (u 16), .ref (u 17), .int 0, .ref (u 18), .int mm, .int ta, .int co, .int si])) (by simp)
  rw [← ew86] at kpw93
  refine j_aload_n O 0 dM_lay_22 rfl rfl ?_
  refine j_iconst O (v := 0) dM_lay_23 (by decide) ?_
  refine j_put O uwM hw92 rfl 26 (by decide) w473 rfl tM ftM fnM rfl (.int) (by decide +kernel) rfl rfl (Nat.le_of_ble_eq_true rfl) [.ref (u 0), .ref (u 1), .ref (u 2), .ref (u 3), .int oc, .int om, .ref (u 4), .ref (u 5), .ref (u 6), .ref (u 7), .ref (u 8), .int df, .ref (u 9), .ref (u 10), .ref (u 11), .ref (u 12), .ref (u 13), .ref (u 14), .ref (u 15), .int (nI V0.length), .int (nI (szL V0)), .ref (u 16), .ref (u 17), .int 0, .ref (u 18), .int mm, .int 0, .int co, .int si] rfl dM_lay_24 (fun gw94 ew95 => ?_)
  have hw96 := gUp_ne (e' := .inr (6, [.ref (u 0), .ref (u 1), .ref (u 2), .ref (u 3), .int oc, .int om, .ref (u 4), .ref (u 5), .ref (u 6), .ref (u 7), .ref (u 8), .int df, .ref (u 9), .ref (u 10), .ref (u 11), .ref (u 12), .ref (u 13), .ref (u 14), .ref (u 15), .int (nI V0.length), .int (nI (szL V0)), .ref (u 16), .ref (u 17), .int 0, .ref (u 18), .int mm, .int 0, .int co, .int si])) hw87 (hw87.ne hw92 (by simp))
  rw [← ew95] at hw96
  have hw97 := gUp_ne (e' := .inr (6, [.ref (u 0), .ref (u 1), .ref (u 2), .ref (u 3), .int oc, .int om, .ref (u 4), .ref (u 5), .ref (u 6), .ref (u 7), .ref (u 8), .int df, .ref (u 9), .ref (u 10), .ref (u 11), .ref (u 12), .ref (u 13), .ref (u 14), .ref (u 15), .int (nI V0.length), .int (nI (szL V0)), .ref (u 16), .ref (u 17), .int 0, .ref (u 18), .int mm, .int 0, .int co, .int si])) hw88 (hw88.ne hw92 (by simp))
  rw [← ew95] at hw97
  have hw98 := gUp_ne (e' := .inr (6, [.ref (u 0), .ref (u 1), .ref (u 2), .ref (u 3), .int oc, .int om, .ref (u 4), .ref (u 5), .ref (u 6), .ref (u 7), .ref (u 8), .int df, .ref (u 9), .ref (u 10), .ref (u 11), .ref (u 12), .ref (u 13), .ref (u 14), .ref (u 15), .int (nI V0.length), .int (nI (szL V0)), .ref (u 16), .ref (u 17), .int 0, .ref (u 18), .int mm, .int 0, .int co, .int si])) hw89 (hw89.ne hw92 (by simp))
  rw [← ew95] at hw98
  have hw99 := gUp_ne (e' := .inr (6, [.ref (u 0), .ref (u 1), .ref (u 2), .ref (u 3), .int oc, .int om, .ref (u 4), .ref (u 5), .ref (u 6), .ref (u 7), .ref (u 8), .int df, .ref (u 9), .ref (u 10), .ref (u 11), .ref (u 12), .ref (u 13), .ref (u 14), .ref (u 15), .int (nI V0.length), .int (nI (szL V0)), .ref (u 16), .ref (u 17), .int 0, .ref (u 18), .int mm, .int 0, .int co, .int si])) hw90 (hw90.ne hw92 (by simp))
  rw [← ew95] at hw99
  have hw100 := gUp_ne (e' := .inr (6, [.ref (u 0), .ref (u 1), .ref (u 2), .ref (u 3), .int oc, .int om, .ref (u 4), .ref (u 5), .ref (u 6), .ref (u 7), .ref (u 8), .int df, .ref (u 9), .ref (u 10), .ref (u 11), .ref (u 12), .ref (u 13), .ref (u 14), .ref (u 15), .int (nI V0.length), .int (nI (szL V0)), .ref (u 16), .ref (u 17), .int 0, .ref (u 18), .int mm, .int 0, .int co, .int si])) hw91 (hw91.ne hw92 (by simp))
  rw [← ew95] at hw100
  have hw101 := gUp_self (e' := .inr (6, [.ref (u 0), .ref (u 1), .ref (u 2), .ref (u 3), .int oc, .int om, .ref (u 4), .ref (u 5), .ref (u 6), .ref (u 7), .ref (u 8), .int df, .ref (u 9), .ref (u 10), .ref (u 11), .ref (u 12), .ref (u 13), .ref (u 14), .ref (u 15), .int (nI V0.length), .int (nI (szL V0)), .ref (u 16), .ref (u 17), .int 0, .ref (u 18), .int mm, .int 0, .int co, .int si])) hw92
  rw [← ew95] at hw101
  have kpw102 := kpw93.up (a := (u 19)) (e := .inr (6, [.ref (u 0), .ref (u 1), .ref (u 2), .ref (u 3), .int oc, .int om, .ref (u 4), .ref (u 5), .ref (u 6), .ref (u 7), .ref (u 8), .int df, .ref (u 9), .ref (u 10), .ref (u 11), .ref (u 12), .ref (u 13), .ref (u 14), .ref (u 15), .int (nI V0.length), .int (nI (szL V0)), .ref (u 16), .ref (u 17), .int 0, .ref (u 18), .int mm, .int 0, .int co, .int si])) (by simp)
  rw [← ew95] at kpw102
  refine j_aload_n O 0 dM_lay_27 rfl rfl ?_
  refine j_iconst O (v := 0) dM_lay_28 (by decide) ?_
  refine j_put O uwM hw101 rfl 27 (by decide) w474 rfl tM ftM fnM rfl (.int) (by decide +kernel) rfl rfl (Nat.le_of_ble_eq_true rfl) [.ref (u 0), .ref (u 1), .ref (u 2), .ref (u 3), .int oc, .int om, .ref (u 4), .ref (u 5), .ref (u 6), .ref (u 7), .ref (u 8), .int df, .ref (u 9), .ref (u 10), .ref (u 11), .ref (u 12), .ref (u 13), .ref (u 14), .ref (u 15), .int (nI V0.length), .int (nI (szL V0)), .ref (u 16), .ref (u 17), .int 0, .ref (u 18), .int mm, .int 0, .int 0, .int si] rfl dM_lay_29 (fun gw103 ew104 => ?_)
  have hw105 := gUp_ne (e' := .inr (6, [.ref (u 0), .ref (u 1), .ref (u 2), .ref (u 3), .int oc, .int om, .ref (u 4), .ref (u 5), .ref (u 6), .ref (u 7), .ref (u 8), .int df, .ref (u 9), .ref (u 10), .ref (u 11), .ref (u 12), .ref (u 13), .ref (u 14), .ref (u 15), .int (nI V0.length), .int (nI (szL V0)), .ref (u 16), .ref (u 17), .int 0, .ref (u 18), .int mm, .int 0, .int 0, .int si])) hw96 (hw96.ne hw101 (by simp))
  rw [← ew104] at hw105
  have hw106 := gUp_ne (e' := .inr (6, [.ref (u 0), .ref (u 1), .ref (u 2), .ref (u 3), .int oc, .int om, .ref (u 4), .ref (u 5), .ref (u 6), .ref (u 7), .ref (u 8), .int df, .ref (u 9), .ref (u 10), .ref (u 11), .ref (u 12), .ref (u 13), .ref (u 14), .ref (u 15), .int (nI V0.length), .int (nI (szL V0)), .ref (u 16), .ref (u 17), .int 0, .ref (u 18), .int mm, .int 0, .int 0, .int si])) hw97 (hw97.ne hw101 (by simp))
  rw [← ew104] at hw106
  have hw107 := gUp_ne (e' := .inr (6, [.ref (u 0), .ref (u 1), .ref (u 2), .ref (u 3), .int oc, .int om, .ref (u 4), .ref (u 5), .ref (u 6), .ref (u 7), .ref (u 8), .int df, .ref (u 9), .ref (u 10), .ref (u 11), .ref (u 12), .ref (u 13), .ref (u 14), .ref (u 15), .int (nI V0.length), .int (nI (szL V0)), .ref (u 16), .ref (u 17), .int 0, .ref (u 18), .int mm, .int 0, .int 0, .int si])) hw98 (hw98.ne hw101 (by simp))
  rw [← ew104] at hw107
  have hw108 := gUp_ne (e' := .inr (6, [.ref (u 0), .ref (u 1), .ref (u 2), .ref (u 3), .int oc, .int om, .ref (u 4), .ref (u 5), .ref (u 6), .ref (u 7), .ref (u 8), .int df, .ref (u 9), .ref (u 10), .ref (u 11), .ref (u 12), .ref (u 13), .ref (u 14), .ref (u 15), .int (nI V0.length), .int (nI (szL V0)), .ref (u 16), .ref (u 17), .int 0, .ref (u 18), .int mm, .int 0, .int 0, .int si])) hw99 (hw99.ne hw101 (by simp))
  rw [← ew104] at hw108
  have hw109 := gUp_ne (e' := .inr (6, [.ref (u 0), .ref (u 1), .ref (u 2), .ref (u 3), .int oc, .int om, .ref (u 4), .ref (u 5), .ref (u 6), .ref (u 7), .ref (u 8), .int df, .ref (u 9), .ref (u 10), .ref (u 11), .ref (u 12), .ref (u 13), .ref (u 14), .ref (u 15), .int (nI V0.length), .int (nI (szL V0)), .ref (u 16), .ref (u 17), .int 0, .ref (u 18), .int mm, .int 0, .int 0, .int si])) hw100 (hw100.ne hw101 (by simp))
  rw [← ew104] at hw109
  have hw110 := gUp_self (e' := .inr (6, [.ref (u 0), .ref (u 1), .ref (u 2), .ref (u 3), .int oc, .int om, .ref (u 4), .ref (u 5), .ref (u 6), .ref (u 7), .ref (u 8), .int df, .ref (u 9), .ref (u 10), .ref (u 11), .ref (u 12), .ref (u 13), .ref (u 14), .ref (u 15), .int (nI V0.length), .int (nI (szL V0)), .ref (u 16), .ref (u 17), .int 0, .ref (u 18), .int mm, .int 0, .int 0, .int si])) hw101
  rw [← ew104] at hw110
  have kpw111 := kpw102.up (a := (u 19)) (e := .inr (6, [.ref (u 0), .ref (u 1), .ref (u 2), .ref (u 3), .int oc, .int om, .ref (u 4), .ref (u 5), .ref (u 6), .ref (u 7), .ref (u 8), .int df, .ref (u 9), .ref (u 10), .ref (u 11), .ref (u 12), .ref (u 13), .ref (u 14), .ref (u 15), .int (nI V0.length), .int (nI (szL V0)), .ref (u 16), .ref (u 17), .int 0, .ref (u 18), .int mm, .int 0, .int 0, .int si])) (by simp)
  rw [← ew104] at kpw111
  refine j_aload_n O 0 dM_lay_32 rfl rfl ?_
  refine j_iconst O (v := 0) dM_lay_33 (by decide) ?_
  refine j_put O uwM hw110 rfl 28 (by decide) w475 rfl tM ftM fnM rfl (.int) (by decide +kernel) rfl rfl (Nat.le_of_ble_eq_true rfl) [.ref (u 0), .ref (u 1), .ref (u 2), .ref (u 3), .int oc, .int om, .ref (u 4), .ref (u 5), .ref (u 6), .ref (u 7), .ref (u 8), .int df, .ref (u 9), .ref (u 10), .ref (u 11), .ref (u 12), .ref (u 13), .ref (u 14), .ref (u 15), .int (nI V0.length), .int (nI (szL V0)), .ref (u 16), .ref (u 17), .int 0, .ref (u 18), .int mm, .int 0, .int 0, .int 0] rfl dM_lay_34 (fun gw112 ew113 => ?_)
  have hw114 := gUp_ne (e' := .inr (6, [.ref (u 0), .ref (u 1), .ref (u 2), .ref (u 3), .int oc, .int om, .ref (u 4), .ref (u 5), .ref (u 6), .ref (u 7), .ref (u 8), .int df, .ref (u 9), .ref (u 10), .ref (u 11), .ref (u 12), .ref (u 13), .ref (u 14), .ref (u 15), .int (nI V0.length), .int (nI (szL V0)), .ref (u 16), .ref (u 17), .int 0, .ref (u 18), .int mm, .int 0, .int 0, .int 0])) hw105 (hw105.ne hw110 (by simp))
  rw [← ew113] at hw114
  have hw115 := gUp_ne (e' := .inr (6, [.ref (u 0), .ref (u 1), .ref (u 2), .ref (u 3), .int oc, .int om, .ref (u 4), .ref (u 5), .ref (u 6), .ref (u 7), .ref (u 8), .int df, .ref (u 9), .ref (u 10), .ref (u 11), .ref (u 12), .ref (u 13), .ref (u 14), .ref (u 15), .int (nI V0.length), .int (nI (szL V0)), .ref (u 16), .ref (u 17), .int 0, .ref (u 18), .int mm, .int 0, .int 0, .int 0])) hw106 (hw106.ne hw110 (by simp))
  rw [← ew113] at hw115
  have hw116 := gUp_ne (e' := .inr (6, [.ref (u 0), .ref (u 1), .ref (u 2), .ref (u 3), .int oc, .int om, .ref (u 4), .ref (u 5), .ref (u 6), .ref (u 7), .ref (u 8), .int df, .ref (u 9), .ref (u 10), .ref (u 11), .ref (u 12), .ref (u 13), .ref (u 14), .ref (u 15), .int (nI V0.length), .int (nI (szL V0)), .ref (u 16), .ref (u 17), .int 0, .ref (u 18), .int mm, .int 0, .int 0, .int 0])) hw107 (hw107.ne hw110 (by simp))
  rw [← ew113] at hw116
  have hw117 := gUp_ne (e' := .inr (6, [.ref (u 0), .ref (u 1), .ref (u 2), .ref (u 3), .int oc, .int om, .ref (u 4), .ref (u 5), .ref (u 6), .ref (u 7), .ref (u 8), .int df, .ref (u 9), .ref (u 10), .ref (u 11), .ref (u 12), .ref (u 13), .ref (u 14), .ref (u 15), .int (nI V0.length), .int (nI (szL V0)), .ref (u 16), .ref (u 17), .int 0, .ref (u 18), .int mm, .int 0, .int 0, .int 0])) hw108 (hw108.ne hw110 (by simp))
  rw [← ew113] at hw117
  have hw118 := gUp_ne (e' := .inr (6, [.ref (u 0), .ref (u 1), .ref (u 2), .ref (u 3), .int oc, .int om, .ref (u 4), .ref (u 5), .ref (u 6), .ref (u 7), .ref (u 8), .int df, .ref (u 9), .ref (u 10), .ref (u 11), .ref (u 12), .ref (u 13), .ref (u 14), .ref (u 15), .int (nI V0.length), .int (nI (szL V0)), .ref (u 16), .ref (u 17), .int 0, .ref (u 18), .int mm, .int 0, .int 0, .int 0])) hw109 (hw109.ne hw110 (by simp))
  rw [← ew113] at hw118
  have hw119 := gUp_self (e' := .inr (6, [.ref (u 0), .ref (u 1), .ref (u 2), .ref (u 3), .int oc, .int om, .ref (u 4), .ref (u 5), .ref (u 6), .ref (u 7), .ref (u 8), .int df, .ref (u 9), .ref (u 10), .ref (u 11), .ref (u 12), .ref (u 13), .ref (u 14), .ref (u 15), .int (nI V0.length), .int (nI (szL V0)), .ref (u 16), .ref (u 17), .int 0, .ref (u 18), .int mm, .int 0, .int 0, .int 0])) hw110
  rw [← ew113] at hw119
  have kpw120 := kpw111.up (a := (u 19)) (e := .inr (6, [.ref (u 0), .ref (u 1), .ref (u 2), .ref (u 3), .int oc, .int om, .ref (u 4), .ref (u 5), .ref (u 6), .ref (u 7), .ref (u 8), .int df, .ref (u 9), .ref (u 10), .ref (u 11), .ref (u 12), .ref (u 13), .ref (u 14), .ref (u 15), .int (nI V0.length), .int (nI (szL V0)), .ref (u 16), .ref (u 17), .int 0, .ref (u 18), .int mm, .int 0, .int 0, .int 0])) (by simp)
  rw [← ew113] at kpw120
  refine j_aload_n O 0 dM_lay_37 rfl rfl ?_
  refine j_iconst O (v := 0) dM_lay_38 (by decide) ?_
  refine j_put O uwM hw119 rfl 25 (by decide) w472 rfl tM ftM fnM rfl (.int) (by decide +kernel) rfl rfl (Nat.le_of_ble_eq_true rfl) [.ref (u 0), .ref (u 1), .ref (u 2), .ref (u 3), .int oc, .int om, .ref (u 4), .ref (u 5), .ref (u 6), .ref (u 7), .ref (u 8), .int df, .ref (u 9), .ref (u 10), .ref (u 11), .ref (u 12), .ref (u 13), .ref (u 14), .ref (u 15), .int (nI V0.length), .int (nI (szL V0)), .ref (u 16), .ref (u 17), .int 0, .ref (u 18), .int 0, .int 0, .int 0, .int 0] rfl dM_lay_39 (fun gw121 ew122 => ?_)
  have hw123 := gUp_ne (e' := .inr (6, [.ref (u 0), .ref (u 1), .ref (u 2), .ref (u 3), .int oc, .int om, .ref (u 4), .ref (u 5), .ref (u 6), .ref (u 7), .ref (u 8), .int df, .ref (u 9), .ref (u 10), .ref (u 11), .ref (u 12), .ref (u 13), .ref (u 14), .ref (u 15), .int (nI V0.length), .int (nI (szL V0)), .ref (u 16), .ref (u 17), .int 0, .ref (u 18), .int 0, .int 0, .int 0, .int 0])) hw114 (hw114.ne hw119 (by simp))
  rw [← ew122] at hw123
  have hw124 := gUp_ne (e' := .inr (6, [.ref (u 0), .ref (u 1), .ref (u 2), .ref (u 3), .int oc, .int om, .ref (u 4), .ref (u 5), .ref (u 6), .ref (u 7), .ref (u 8), .int df, .ref (u 9), .ref (u 10), .ref (u 11), .ref (u 12), .ref (u 13), .ref (u 14), .ref (u 15), .int (nI V0.length), .int (nI (szL V0)), .ref (u 16), .ref (u 17), .int 0, .ref (u 18), .int 0, .int 0, .int 0, .int 0])) hw115 (hw115.ne hw119 (by simp))
  rw [← ew122] at hw124
  have hw125 := gUp_ne (e' := .inr (6, [.ref (u 0), .ref (u 1), .ref (u 2), .ref (u 3), .int oc, .int om, .ref (u 4), .ref (u 5), .ref (u 6), .ref (u 7), .ref (u 8), .int df, .ref (u 9), .ref (u 10), .ref (u 11), .ref (u 12), .ref (u 13), .ref (u 14), .ref (u 15), .int (nI V0.length), .int (nI (szL V0)), .ref (u 16), .ref (u 17), .int 0, .ref (u 18), .int 0, .int 0, .int 0, .int 0])) hw116 (hw116.ne hw119 (by simp))
  rw [← ew122] at hw125
  have hw126 := gUp_ne (e' := .inr (6, [.ref (u 0), .ref (u 1), .ref (u 2), .ref (u 3), .int oc, .int om, .ref (u 4), .ref (u 5), .ref (u 6), .ref (u 7), .ref (u 8), .int df, .ref (u 9), .ref (u 10), .ref (u 11), .ref (u 12), .ref (u 13), .ref (u 14), .ref (u 15), .int (nI V0.length), .int (nI (szL V0)), .ref (u 16), .ref (u 17), .int 0, .ref (u 18), .int 0, .int 0, .int 0, .int 0])) hw117 (hw117.ne hw119 (by simp))
  rw [← ew122] at hw126
  have hw127 := gUp_ne (e' := .inr (6, [.ref (u 0), .ref (u 1), .ref (u 2), .ref (u 3), .int oc, .int om, .ref (u 4), .ref (u 5), .ref (u 6), .ref (u 7), .ref (u 8), .int df, .ref (u 9), .ref (u 10), .ref (u 11), .ref (u 12), .ref (u 13), .ref (u 14), .ref (u 15), .int (nI V0.length), .int (nI (szL V0)), .ref (u 16), .ref (u 17), .int 0, .ref (u 18), .int 0, .int 0, .int 0, .int 0])) hw118 (hw118.ne hw119 (by simp))
  rw [← ew122] at hw127
  have hw128 := gUp_self (e' := .inr (6, [.ref (u 0), .ref (u 1), .ref (u 2), .ref (u 3), .int oc, .int om, .ref (u 4), .ref (u 5), .ref (u 6), .ref (u 7), .ref (u 8), .int df, .ref (u 9), .ref (u 10), .ref (u 11), .ref (u 12), .ref (u 13), .ref (u 14), .ref (u 15), .int (nI V0.length), .int (nI (szL V0)), .ref (u 16), .ref (u 17), .int 0, .ref (u 18), .int 0, .int 0, .int 0, .int 0])) hw119
  rw [← ew122] at hw128
  have kpw129 := kpw120.up (a := (u 19)) (e := .inr (6, [.ref (u 0), .ref (u 1), .ref (u 2), .ref (u 3), .int oc, .int om, .ref (u 4), .ref (u 5), .ref (u 6), .ref (u 7), .ref (u 8), .int df, .ref (u 9), .ref (u 10), .ref (u 11), .ref (u 12), .ref (u 13), .ref (u 14), .ref (u 15), .int (nI V0.length), .int (nI (szL V0)), .ref (u 16), .ref (u 17), .int 0, .ref (u 18), .int 0, .int 0, .int 0, .int 0])) (by simp)
  rw [← ew122] at kpw129
  refine j_iload_n O 2 dM_lay_42 rfl rfl ?_
  refine j_istore O [(5, .int 0), (4, .int (nI w)), (3, .int (nI rs.length)), (2, .int 0), (0, .ref (u 19)), (1, .int (nI i))] dM_lay_43 (by decide) rfl ?_
  refine J.pk [4, 5, 3, 2, 1, 0] rfl ?_
  have hkk : ∀ k e, k ≠ 19 → k < 32 → gAt g (u k) e → gAt gw121 (u k) e := fun k e n2 k32 q => kpw129.2 _ _ (one_ne (hne _ _ (by omega) (by omega) n2)) q
  have hR2 : RS t gw121 u (encL V0) := hR.keep (fun k e k1 k2 q => hkk k e (by omega) (by omega) q)
  have kpA : Kp (lU.map u) g gw121 := kpw129.mono (lU_sub (u := u) (S := [19]) (by decide))
  have hMx := hw128
  have hvx := hw123
  have hlx := hw124
  have hmx := hw125
  have hLYx : LY t gw121 u oc om df V0 0 0 0 0 fv fl fm := ⟨⟨0, hMx⟩, hvx, hlx, hmx, hR2, hV⟩
  have hrm : 3 ≤ 3 ∧ 200 ≤ 200 := ⟨Nat.le_refl _, Nat.le_refl _⟩
  by_cases hnz : rs = []
  · subst hnz
    have hc : nvC (0, []) := ⟨by omega, by simp, 1, by omega, by omega, fun r hr => by cases hr⟩
    have hkd : kidsIn (vst V0 []) (0, []) := fun h e => by cases e
    have eV : vst V0 [] = V0 := vst_nil V0
    have eq0 : qlv [] 0 = [[]] := by unfold qlv; rw [if_pos rfl]
    have eU : ndl [] = [((0, []) : NV)] := by
      unfold ndl
      rw [eq0]
      have : ndsT [] 5 0 = [] := by rw [ndsT, if_pos (by rw [eq0]; exact Nat.le_refl _)]
      rw [this]
      rfl
    refine j_iload O dM_lay_45 rfl ?_
    refine j_iload_n O 3 dM_lay_47 rfl rfl ?_
    refine j_icmp_lt O 62 dM_lay_48 (by decide) (fun c0 => absurd c0 (by decide)) (fun c0 => ?_)
    refine j_iload O dM_lay_51 rfl ?_
    refine j_iload_n O 2 dM_lay_53 rfl rfl ?_
    refine j_icmp_ne O 196 dM_lay_54 (by decide) (fun c1 => absurd rfl c1) (fun c1 => ?_)
    refine j_iload_n O 2 dM_lay_57 rfl rfl ?_
    refine j_iload_n O 3 dM_lay_58 rfl rfl ?_
    refine j_icmp_ne O 196 dM_lay_59 (by decide) (fun c2 => absurd rfl c2) (fun c2 => ?_)
    refine j_iload_n O 2 dM_lay_62 rfl rfl ?_
    refine j_iload_n O 3 dM_lay_63 rfl rfl ?_
    refine j_icmp_ge O 140 dM_lay_64 (by decide) (fun c3 => ?_) (fun c3 => absurd (by decide) c3)
    refine j_iload O dM_lay_140 rfl ?_
    refine j_iload_n O 3 dM_lay_142 rfl rfl ?_
    refine j_iconst O (v := 1) dM_lay_143 (by decide) ?_
    refine j_isub O dM_lay_144 ?_
    refine j_icmp_ge O 167 dM_lay_145 (by decide) (fun c4 => ?_) (fun c4 => absurd (by decide) c4)
    refine j_aload_n O 0 dM_lay_167 rfl rfl ?_
    refine j_iconst O (v := 0) dM_lay_168 (by decide) ?_
    refine j_iload_n O 2 dM_lay_169 rfl rfl ?_
    refine j_iload_n O 3 dM_lay_170 rfl rfl ?_
    refine j_icmp_ge O 179 dM_lay_171 (by decide) (fun c5 => ?_) (fun c5 => absurd (by decide) c5)
    refine j_iconst O (v := 0) dM_lay_179 (by decide) ?_
    refine j_iload O dM_lay_180 rfl ?_
    have hM2' : gAt gw121 (u 19) (eM u oc om df (nI (encL (vst V0 [])).length) (nI (siz (encL (vst V0 [])))) (nI 0) (nI (cont (vst V0 []) (0, [])).length) (nI 0) (nI 0) 0) := by
      rw [encL_len, siz_encL, eV]; exact hMx
    have hR3 : RS t gw121 u (encL (vst V0 [])) := by rw [eV]; exact hR2
    have hV3 : VOK (vst V0 []) := by rw [eV]; exact hV
    refine j_callV O [.int (nI 0), .int (nI (wdt (0, []))), .int (nI 0)] (c_M_keep X.2.1 D t A gw121 u oc om df (nI 0) 0 (nI 0) (encL (vst V0 [])) 0 (wdt (0, [])) 0 0 (cont (vst V0 []) (0, [])) fm fv fl hM2' hmx (fun k hk => absurd hk (Nat.not_lt_zero _)) (enc_ok (V := vst V0 []) hc) hR3 hne hvx hlx (by omega)) hMx rfl w430 w431 w11 w28 w432 3 rfl rfl rfl (by decide +kernel) ⟨(Nat.le_of_ble_eq_true rfl), (Nat.le_of_ble_eq_true rfl)⟩ rfl (Nat.le_of_ble_eq_true rfl) dM_lay_182 ⟨(Nat.le_of_ble_eq_true rfl), (Nat.le_of_ble_eq_true rfl)⟩ (fun vw130 gw131 hpw132 => ?_)
    have hpost := hpw132
    have hpost2 := keepV hne hmx hV3 hR3 hc hkd (by simp) hpost
    rw [eV] at hpost2
    rcases hpost2 with ⟨rfl, hnf, hg⟩ | ⟨rfl, hLY3, kp3⟩
    · have hg := hg.symm
      subst hg
      refine j_if_ne O 190 dM_lay_185 (by decide) (fun c6 => absurd rfl c6) (fun c6 => ?_)
      refine j_iconst O (v := 0) dM_lay_188 (by decide) ?_
      exact j_zret O (by decide) M (Nat.le_of_ble_eq_true rfl) (Nat.le_of_ble_eq_true rfl) (Or.inl ⟨rfl, by rw [eU]; exact nofit_all (dn := []) (rest := []) (by rw [eV]; exact hnf), [], _, _, _, _, _, _, _, by rw [eV]; exact hLYx, kpA⟩) dM_lay_189
    · refine j_if_ne O 190 dM_lay_185 (by decide) (fun c6 => ?_) (fun c6 => absurd c6 (by decide))
      refine j_iinc O (0 + 1) [(5, .int (0 + 1)), (0, .ref (u 19)), (1, .int (nI i)), (2, .int 0), (3, .int (nI ([] : List RV).length)), (4, .int (nI w))] dM_lay_190 rfl rfl (by decide) rfl ?_
      refine j_goto O 45 dM_lay_193 (by decide) ?_
      refine j_iload O dM_lay_45 rfl ?_
      refine j_iload_n O 3 dM_lay_47 rfl rfl ?_
      refine j_icmp_lt O 62 dM_lay_48 (by decide) (fun c7 => absurd c7 (by decide)) (fun c7 => ?_)
      refine j_iload O dM_lay_51 rfl ?_
      refine j_iload_n O 2 dM_lay_53 rfl rfl ?_
      refine j_icmp_ne O 196 dM_lay_54 (by decide) (fun c8 => ?_) (fun c8 => absurd c8 (by decide))
      refine J.pk [1, 2] rfl ?_
      refine lay_up O M hRT i6 htb htk hrc hne hrm 5 0 (lvsH 0 (qlv [] 0)) _ 0 (upd fv 0 (nI ((vst V0 ([] ++ [(0, [])])).idxOf (0, [])))) (upd fl 0 (nI 0)) fm rfl rfl rfl (fun q hq => List.mem_map.mpr ⟨q, hq, rfl⟩) ?_ (fun z => ?_) ?_ (kpA.tr kp3)
      · rw [eq0]
        exact hLY3
      · rw [eq0] at z
        exact absurd z (by simp)
      · simp only [eq0]
        rw [pk_us]
        rfl
  · refine lay_rows O M hRT i6 htb htk hrc hne hrm hnz (fun g3 m3 fv3 fl3 fm3 hLY3 hlev3 hf3 kp3 => ?_) rs.length 0 0 [] gw121 fv fl fm (by omega) (Nat.le_refl _) (by simp) (Nat.le_refl _) (fun j hj q1 q2 => by omega) (fun z => z.symm ▸ rfl) ?_ (fun k hk => absurd hk (by simp)) (fun j hj => absurd hj (Nat.not_lt_zero _)) kpA
    · exact lay_up O M hRT i6 htb htk hrc hne hrm 5 0 (lvsH 0 (qlv rs 0)) g3 m3 fv3 fl3 fm3 rfl rfl rfl (fun q hq => List.mem_map.mpr ⟨q, hq, rfl⟩) (by rw [show (lvsH 0 (qlv rs 0)).length = (qlv rs 0).length by simp [lvsH]]; exact hLY3) hlev3 hf3 kp3
    · have e0 : vst V0 (lvsH 0 []) = V0 := vst_nil V0
      rw [e0]
      exact hLYx
