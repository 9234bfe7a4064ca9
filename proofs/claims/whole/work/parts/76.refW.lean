theorem nodup_perm {α : Type} [DecidableEq α] : ∀ (L M : List α), L.Nodup → M.Nodup → (∀ x, x ∈ L ↔ x ∈ M) → L.Perm M
  | [], M, _, _, h => by
    cases M with
    | nil => exact List.Perm.refl _
    | cons a M => exact absurd ((h a).mpr (by simp)) (by simp)
  | a :: L, M, h1, h2, h => by
    have ha : a ∈ M := (h a).mp (by simp)
    have hp := List.perm_cons_erase ha
    refine List.Perm.trans (List.Perm.cons a ?_) hp.symm
    rw [List.nodup_cons] at h1
    refine nodup_perm L (M.erase a) h1.2 (h2.erase a) (fun x => ?_)
    rw [h2.mem_erase_iff]
    constructor
    · intro hx
      exact ⟨fun e => h1.1 (e ▸ hx), (h x).mp (by simp [hx])⟩
    · rintro ⟨n, hx⟩
      rcases List.mem_cons.mp ((h x).mpr hx) with q | q
      · exact absurd q n
      · exact q
theorem sub_le {L V : List NV} (h1 : L.Nodup) (h2 : V.Nodup) (h : ∀ x ∈ L, x ∈ V) : szL L ≤ szL V ∧ L.length ≤ V.length := by
  have hp : L.Perm (V.filter (fun v => decide (v ∈ L))) := nodup_perm _ _ h1 (h2.filter _) (fun x => by
    rw [List.mem_filter, decide_eq_true_eq]
    exact ⟨fun q => ⟨h x q, q⟩, fun q => q.2⟩)
  exact ⟨by rw [szL_perm hp]; exact szL_filter _ V, by rw [hp.length_eq]; exact List.length_filter_le _ _⟩
theorem vst_nodup {W N : List NV} (h1 : W.Nodup) (h2 : N.Nodup) : (vst W N).Nodup := by
  unfold vst news
  rw [List.nodup_append]
  refine ⟨h1, h2.filter _, fun a ha b hb e => ?_⟩
  subst e
  have := (List.mem_filter.mp hb).2
  simp at this
  exact this ha
def wk (tb : TB) : Nat → List NV
  | 0 => []
  | k + 1 => vst (wk tb k) (ndl (tb k).2)
theorem wk_mem (tb : TB) (x : NV) : ∀ k, x ∈ wk tb k ↔ ∃ i, i < k ∧ x ∈ ndl (tb i).2
  | 0 => by simp [wk]
  | k + 1 => by
    rw [wk, vst_in, wk_mem tb x k]
    constructor
    · rintro (⟨i, h1, h2⟩ | h)
      · exact ⟨i, by omega, h2⟩
      · exact ⟨k, by omega, h⟩
    · rintro ⟨i, h1, h2⟩
      by_cases e : i = k
      · subst e; exact Or.inr h2
      · exact Or.inl ⟨i, by omega, h2⟩
theorem fit_sub {V W N : List NV} (h1 : W.Nodup) (h2 : N.Nodup) (h3 : V.Nodup) (h : ∀ x ∈ vst W N, x ∈ V) (s1 : szL V ≤ 60000) (s2 : V.length ≤ 60000) : ¬ nofitA W N := by
  obtain ⟨a, b⟩ := sub_le (vst_nodup h1 h2) h3 h
  unfold vst at a b
  rw [szL_app] at a
  rw [List.length_append] at b
  unfold nofitA
  omega
theorem lives_iff (tb : TB) (v : NV) : lives tb v = true ↔ ∃ i, i < 6 ∧ v ∈ ndl (tb i).2 := by
  unfold lives
  rw [List.any_eq_true]
  constructor
  · rintro ⟨i, h1, h2⟩
    exact ⟨i, List.mem_range.mp h1, of_decide_eq_true h2⟩
  · rintro ⟨i, h1, h2⟩
    exact ⟨i, List.mem_range.mpr h1, decide_eq_true h2⟩
theorem filter_len {α : Type} (p : α → Bool) : ∀ L : List α, (L.filter p).length + (L.filter (fun v => ! p v)).length = L.length
  | [] => rfl
  | a :: L => by
    have ih := filter_len p L
    cases h : p a
    · simp [h]; omega
    · simp [h]; omega
set_option maxRecDepth 100000 in
set_option maxHeartbeats 1000000 in
theorem M_sweep_loop {X : CX} {D : va_G} {t : Nat → ClassId} {A : Nat → Prop} {rm : Room} {g : GH} {u : Nat → Nat} {s : AS} {V : List NV} (O : Ok X bM_sweep 3 "TwinTreesModel" (zz D t A) rm) (M : Om X (zz D t A) (some .int) 0 0 (fun v g' => v = some (.int (aSweep s).1) ∧ ∃ V', RW t g' u (aSweep s).2 V')) (hA : aOK s) (hne : ∀ i j, i < 32 → j < 32 → i ≠ j → u i ≠ u j) (hVn : V.Nodup) (hpm : V.Perm s.2.1) (hs6 : szL V ≤ 60000) (hl6 : V.length ≤ 60000) (hrm : 4 ≤ rm.frames ∧ 240 ≤ rm.locals) : ∀ (d k : Nat) (g1 : GH), k + d = 6 → SB t g1 u (nI s.2.2.length) (wk s.1 k) → RT t g1 u s.1 → RD t g1 u s.2.2 → J X 3 (zz D t A) g1 0 0 25 [(0, .ref (u 19)), (1, .int (nI V.length)), (2, .int (nI k))] [] := by
  obtain ⟨htb, hrc, hso⟩ := id hA
  have hsub : ∀ k, k ≤ 6 → ∀ x ∈ wk s.1 k, x ∈ V := fun k hk x hx => by
    obtain ⟨i, h1, h2⟩ := (wk_mem s.1 x k).mp hx
    exact hpm.mem_iff.mpr (hso.1 i (by omega) x h2)
  intro d
  induction d with
  | zero =>
    intro k g1 hk hSB hRT1 hD1
    have e : k = 6 := by omega
    subst e
    obtain ⟨⟨oc, om, lm, mm, ta, co, si, hM⟩, -, -, -, -, -, -, hV⟩ := id hSB
    have hp : (wk s.1 6).Perm (s.2.1.filter (lives s.1)) := nodup_perm _ _ hV.1 (hso.2.filter _) (fun x => by
      rw [wk_mem, List.mem_filter, lives_iff]
      exact ⟨fun ⟨i, h1, h2⟩ => ⟨hso.1 i h1 x h2, i, h1, h2⟩, fun q => q.2⟩)
    have hll := filter_len (lives s.1) s.2.1
    rw [← hp.length_eq, ← hpm.length_eq] at hll
    have er : (aSweep s).1 = nI (V.length - (wk s.1 6).length) := by
      show nI (s.2.1.filter (fun v => ! lives s.1 v)).length = _
      congr 1
      omega
    have hle := (sub_le hV.1 hVn (hsub 6 (Nat.le_refl _))).2
    rw [er] at M
    refine j_iload_n O 2 dM_sweep_25 rfl rfl ?_
    refine j_bipush O (v := 6) dM_sweep_26 (by decide) ?_
    refine j_icmp_ge O 43 dM_sweep_28 (by decide) (fun c0 => ?_) (fun c0 => absurd (by decide) c0)
    refine j_iload_n O 1 dM_sweep_43 rfl rfl ?_
    refine j_aload_n O 0 dM_sweep_44 rfl rfl ?_
    refine j_get O uwM hM rfl 19 (by decide) w466 rfl rfl dM_sweep_45 ?_
    refine j_isub O dM_sweep_48 ?_
    refine j_eqi (nI (V.length - ((wk s.1 6).length))) (pk_sub (by omega)) ?_
    exact j_iret O M (Nat.le_of_ble_eq_true rfl) (Nat.le_of_ble_eq_true rfl) ⟨rfl, wk s.1 6, hRT1, hD1, hSB, hp, hne⟩ dM_sweep_49
  | succ d ih =>
    intro k g1 hk hSB hRT1 hD1
    have k6 : k < 6 := by omega
    obtain ⟨⟨oc, om, lm, mm, ta, co, si, hM⟩, ⟨fv, hv⟩, ⟨fl, hl⟩, ⟨fm, hm⟩, ⟨fo, ho⟩, ⟨fp, hp⟩, hR, hV⟩ := id hSB
    have hfit : ¬ nofitA (wk s.1 k) (ndl (s.1 k).2) := fit_sub hV.1 (ndl_nodup (htb k k6).2.2.2.1) hVn (fun x hx => hsub (k + 1) (by omega) x hx) hs6 hl6
    refine j_iload_n O 2 dM_sweep_25 rfl rfl ?_
    refine j_bipush O (v := 6) dM_sweep_26 (by decide) ?_
    refine j_icmp_ge O 43 dM_sweep_28 (by decide) (fun c0 => absurd c0 (nI_ge (b := 6) k6 (by decide))) (fun c0 => ?_)
    refine j_aload_n O 0 dM_sweep_31 rfl rfl ?_
    refine j_iload_n O 2 dM_sweep_32 rfl rfl ?_
    refine j_callV O [.int (nI k)] (c_M_lay X.2.1 D t A g1 u oc om (nI s.2.2.length) lm mm ta co si k (s.1 k).1 s.1 (s.1 k).2 (wk s.1 k) fv fl fm hM hv hl hm hR hV hRT1 k6 rfl (htb k k6) (hrc k k6) hne) hM rfl w419 w420 w10 w28 w421 1 rfl rfl rfl (by decide +kernel) ⟨hrm.1, by show 8 + (7 + 11) + 200 ≤ _; omega⟩ rfl (Nat.le_of_ble_eq_true rfl) dM_sweep_33 ⟨Nat.zero_le _, Nat.zero_le _⟩ (fun vw294 gw295 hpw296 => ?_)
    have hpost := hpw296
    rcases hpost with ⟨-, hnf, -⟩ | ⟨rfl, m1, fv1, fl1, fm1, hLY, hf0, kp⟩
    · exact absurd hnf hfit
    have hkp : ∀ k e, (4 ≤ k ∧ k < 9) → gAt g1 (u k) e → gAt gw295 (u k) e := fun k e hk q => lU_kp hne kp (by omega) q
    have hSB1 : SB t gw295 u (nI s.2.2.length) (wk s.1 (k + 1)) := hLY.sb ⟨_, hkp 4 _ (by omega) ho⟩ ⟨_, hkp 5 _ (by omega) hp⟩
    refine j_pop O dM_sweep_36 rfl ?_
    refine j_iinc O (nI (k + 1)) [(2, .int (nI (k + 1))), (0, .ref (u 19)), (1, .int (nI V.length))] dM_sweep_37 rfl (nI_1 _) (by decide) rfl ?_
    refine j_goto O 25 dM_sweep_40 (by decide) ?_
    refine J.pk [1, 2, 0] rfl ?_
    exact ih (k + 1) gw295 (by omega) hSB1 (hRT1.lU hne kp) (hD1.keep hkp)
set_option maxRecDepth 100000 in
set_option maxHeartbeats 1000000 in
theorem c_M_sweep (l : Launch) (D : va_G) (t : Nat → ClassId) (A : Nat → Prop) (g : GH) (u : Nat → Nat) (s : AS) (V : List NV) (hW : RW t g u s V) (hA : aOK s) : Ct l yM_sweep sM_sweep { frames := 4, cells := 0, slots := 0, locals := 240 } (zz D t A) [.ref (u 19)] g 0 0 (fun v g' => v = some (.int (aSweep s).1) ∧ ∃ V', RW t g' u (aSweep s).2 V') := by
  refine Ct.of (cc := bM_sweep) (maxL := 3) (ret := (some .int)) (by decide) (Nat.le_of_ble_eq_true rfl) (fun X hlX O M hNn => ?_)
  show J X 3 (zz D t A) g 0 0 0 [(0, .ref (u 19))] []
  obtain ⟨hRT, hD, ⟨⟨oc, om, lm, mm, ta, co, si, hM⟩, ⟨fv, hv⟩, ⟨fl, hl⟩, ⟨fm, hm⟩, ⟨fo, ho⟩, ⟨fp, hp⟩, hR, hV⟩, hpm, hne⟩ := id hW
  obtain ⟨htb, hrc, hso⟩ := id hA
  have hle := hR.le
  obtain ⟨⟨fh, fb, fl2, fw, fc, fp2, fB, a1, a2, a3, a4, a5, a6, a7, a8⟩, hl6, hs6, hok⟩ := id hR
  have kp0 : Kp [u 19, u 15] g g := Kp.rf
  refine j_aload_n O 0 dM_sweep_0 rfl rfl ?_
  refine j_get O uwM hM rfl 19 (by decide) w466 rfl rfl dM_sweep_1 ?_
  refine j_istore_n O 1 [(1, .int (nI V.length)), (0, .ref (u 19))] dM_sweep_4 rfl (by decide) rfl ?_
  refine j_aload_n O 0 dM_sweep_5 rfl rfl ?_
  refine j_iconst O (v := 0) dM_sweep_6 (by decide) ?_
  refine j_put O uwM hM rfl 19 (by decide) w466 rfl tM ftM fnM rfl (.int) (by decide +kernel) rfl rfl (Nat.le_of_ble_eq_true rfl) [.ref (u 0), .ref (u 1), .ref (u 2), .ref (u 3), .int oc, .int om, .ref (u 4), .ref (u 5), .ref (u 6), .ref (u 7), .ref (u 8), .int (nI s.2.2.length), .ref (u 9), .ref (u 10), .ref (u 11), .ref (u 12), .ref (u 13), .ref (u 14), .ref (u 15), .int 0, .int (nI (szL V)), .ref (u 16), .ref (u 17), .int lm, .ref (u 18), .int mm, .int ta, .int co, .int si] rfl dM_sweep_7 (fun gw297 ew298 => ?_)
  have hw299 := gUp_ne (e' := .inr (6, [.ref (u 0), .ref (u 1), .ref (u 2), .ref (u 3), .int oc, .int om, .ref (u 4), .ref (u 5), .ref (u 6), .ref (u 7), .ref (u 8), .int (nI s.2.2.length), .ref (u 9), .ref (u 10), .ref (u 11), .ref (u 12), .ref (u 13), .ref (u 14), .ref (u 15), .int 0, .int (nI (szL V)), .ref (u 16), .ref (u 17), .int lm, .ref (u 18), .int mm, .int ta, .int co, .int si])) a7 (a7.ne hM (by simp))
  rw [← ew298] at hw299
  have hw300 := gUp_self (e' := .inr (6, [.ref (u 0), .ref (u 1), .ref (u 2), .ref (u 3), .int oc, .int om, .ref (u 4), .ref (u 5), .ref (u 6), .ref (u 7), .ref (u 8), .int (nI s.2.2.length), .ref (u 9), .ref (u 10), .ref (u 11), .ref (u 12), .ref (u 13), .ref (u 14), .ref (u 15), .int 0, .int (nI (szL V)), .ref (u 16), .ref (u 17), .int lm, .ref (u 18), .int mm, .int ta, .int co, .int si])) hM
  rw [← ew298] at hw300
  have kpw301 := kp0.up (a := (u 19)) (e := .inr (6, [.ref (u 0), .ref (u 1), .ref (u 2), .ref (u 3), .int oc, .int om, .ref (u 4), .ref (u 5), .ref (u 6), .ref (u 7), .ref (u 8), .int (nI s.2.2.length), .ref (u 9), .ref (u 10), .ref (u 11), .ref (u 12), .ref (u 13), .ref (u 14), .ref (u 15), .int 0, .int (nI (szL V)), .ref (u 16), .ref (u 17), .int lm, .ref (u 18), .int mm, .int ta, .int co, .int si])) (by simp)
  rw [← ew298] at kpw301
  refine j_aload_n O 0 dM_sweep_10 rfl rfl ?_
  refine j_iconst O (v := 0) dM_sweep_11 (by decide) ?_
  refine j_put O uwM hw300 rfl 20 (by decide) w467 rfl tM ftM fnM rfl (.int) (by decide +kernel) rfl rfl (Nat.le_of_ble_eq_true rfl) [.ref (u 0), .ref (u 1), .ref (u 2), .ref (u 3), .int oc, .int om, .ref (u 4), .ref (u 5), .ref (u 6), .ref (u 7), .ref (u 8), .int (nI s.2.2.length), .ref (u 9), .ref (u 10), .ref (u 11), .ref (u 12), .ref (u 13), .ref (u 14), .ref (u 15), .int 0, .int 0, .ref (u 16), .ref (u 17), .int lm, .ref (u 18), .int mm, .int ta, .int co, .int si] rfl dM_sweep_12 (fun gw302 ew303 => ?_)
  have hw304 := gUp_ne (e' := .inr (6, [.ref (u 0), .ref (u 1), .ref (u 2), .ref (u 3), .int oc, .int om, .ref (u 4), .ref (u 5), .ref (u 6), .ref (u 7), .ref (u 8), .int (nI s.2.2.length), .ref (u 9), .ref (u 10), .ref (u 11), .ref (u 12), .ref (u 13), .ref (u 14), .ref (u 15), .int 0, .int 0, .ref (u 16), .ref (u 17), .int lm, .ref (u 18), .int mm, .int ta, .int co, .int si])) hw299 (hw299.ne hw300 (by simp))
  rw [← ew303] at hw304
  have hw305 := gUp_self (e' := .inr (6, [.ref (u 0), .ref (u 1), .ref (u 2), .ref (u 3), .int oc, .int om, .ref (u 4), .ref (u 5), .ref (u 6), .ref (u 7), .ref (u 8), .int (nI s.2.2.length), .ref (u 9), .ref (u 10), .ref (u 11), .ref (u 12), .ref (u 13), .ref (u 14), .ref (u 15), .int 0, .int 0, .ref (u 16), .ref (u 17), .int lm, .ref (u 18), .int mm, .int ta, .int co, .int si])) hw300
  rw [← ew303] at hw305
  have kpw306 := kpw301.up (a := (u 19)) (e := .inr (6, [.ref (u 0), .ref (u 1), .ref (u 2), .ref (u 3), .int oc, .int om, .ref (u 4), .ref (u 5), .ref (u 6), .ref (u 7), .ref (u 8), .int (nI s.2.2.length), .ref (u 9), .ref (u 10), .ref (u 11), .ref (u 12), .ref (u 13), .ref (u 14), .ref (u 15), .int 0, .int 0, .ref (u 16), .ref (u 17), .int lm, .ref (u 18), .int mm, .int ta, .int co, .int si])) (by simp)
  rw [← ew303] at kpw306
  refine j_aload_n O 0 dM_sweep_15 rfl rfl ?_
  refine j_get O uwM hw305 rfl 18 (by decide) w465 rfl rfl dM_sweep_16 ?_
  refine j_iconst O (v := 0) dM_sweep_19 (by decide) ?_
  refine j_callS O [.ref (u 15), .int 0] (c_fill X.2.1 D t A gw302 (u 15) 4096 0 fB hw304 (by decide)) w613 w614 w32 w615 2 rfl rfl rfl (by decide +kernel) ⟨(Nat.le_of_ble_eq_true rfl), (Nat.le_of_ble_eq_true rfl)⟩ rfl (Nat.le_of_ble_eq_true rfl) dM_sweep_20 ⟨(Nat.le_of_ble_eq_true rfl), (Nat.le_of_ble_eq_true rfl)⟩ (fun vw307 gw308 hpw309 => ?_)
  obtain ⟨rfl, fB1, hB1, hz, kp2⟩ := hpw309
  have hM2 := kp2.2 _ _ (one_ne (hne 19 15 (by omega) (by omega) (by omega))) hw305
  have kp3 := kpw306.tr (kp2.mono (fun x hx => by rw [List.mem_singleton.mp hx]; simp))
  have hkk : ∀ k e, k < 32 → k ≠ 19 → k ≠ 15 → gAt g (u k) e → gAt gw308 (u k) e := fun k e h0 h1 h2 q => kp3.2 _ _ (two_ne (hne _ _ h0 (by omega) h1) (hne _ _ h0 (by omega) h2)) q
  have hK := fun k e h0 h1 h2 q => hkk k e h0 h1 h2 q
  have hR2 : RS t gw308 u (encL []) := ⟨⟨fh, fb, fl2, fw, fc, fp2, fB1, hkk _ _ (by omega) (by omega) (by omega) a1, hkk _ _ (by omega) (by omega) (by omega) a2, hkk _ _ (by omega) (by omega) (by omega) a3, hkk _ _ (by omega) (by omega) (by omega) a4, hkk _ _ (by omega) (by omega) (by omega) a5, hkk _ _ (by omega) (by omega) (by omega) a6, hB1, RSa.nil _ _ _ _ _ _ hz⟩, Nat.zero_le _, Nat.zero_le _, fun x hx => (by cases hx)⟩
  have hV2 : VOK [] := ⟨List.Pairwise.nil, fun v hv => (by cases hv), fun n hn => absurd hn (Nat.not_lt_zero _)⟩
  have hSB2 : SB t gw308 u (nI s.2.2.length) (wk s.1 0) := ⟨⟨_, _, _, _, _, _, _, hM2⟩, ⟨_, hkk _ _ (by omega) (by omega) (by omega) hv⟩, ⟨_, hkk _ _ (by omega) (by omega) (by omega) hl⟩, ⟨_, hkk _ _ (by omega) (by omega) (by omega) hm⟩, ⟨_, hkk _ _ (by omega) (by omega) (by omega) ho⟩, ⟨_, hkk _ _ (by omega) (by omega) (by omega) hp⟩, hR2, hV2⟩
  have hRT2 : RT t gw308 u s.1 := hRT.keep (fun k hk e q => hkk k e (by omega) (by omega) (by omega) q)
  have hD2 : RD t gw308 u s.2.2 := hD.keep (fun k e hk q => hkk k e (by omega) (by omega) (by omega) q)
  refine j_iconst O (v := 0) dM_sweep_23 (by decide) ?_
  refine j_istore_n O 2 [(2, .int 0), (1, .int (nI V.length)), (0, .ref (u 19))] dM_sweep_24 rfl (by decide) rfl ?_
  refine J.pk [2, 1, 0] rfl ?_
  exact M_sweep_loop (g := g) O M hA hne hV.1 hpm hle.2 hle.1 ⟨(Nat.le_of_ble_eq_true rfl), (Nat.le_of_ble_eq_true rfl)⟩ 6 0 gw308 rfl hSB2 hRT2 hD2
