/-- the nodes of the first k tables -/
def dscs (K : Nat → List Nat) (tb : TB) (rt : Nat → Nat) (k : Nat) : List Nat := (List.range k).flatMap (fun i => dsc K (hgt (tb i).2) (rt i))
theorem dscs_succ (K : Nat → List Nat) (tb : TB) (rt : Nat → Nat) (k : Nat) : dscs K tb rt (k + 1) = dscs K tb rt k ++ dsc K (hgt (tb k).2) (rt k) := by
  unfold dscs
  rw [List.range_succ, List.flatMap_append]
  simp
theorem dscs_mem {K : Nat → List Nat} {tb : TB} {rt : Nat → Nat} {k x : Nat} : x ∈ dscs K tb rt k ↔ ∃ i, i < k ∧ x ∈ dsc K (hgt (tb i).2) (rt i) := by
  unfold dscs
  rw [List.mem_flatMap]
  simp only [List.mem_range]
theorem dscs_kids {t : Nat → ClassId} {g : GH} {w : GD} (hN : NI t g w) {tb : TB} {rt : Nat → Nat} {k : Nat} (hr : ∀ i, i < k → w.1 (rt i) = some (hgt (tb i).2, (tb i).2)) : ∀ x ∈ dscs w.2.1 tb rt k, ∀ c ∈ w.2.1 x, c ∈ dscs w.2.1 tb rt k := by
  intro x hx c hc
  obtain ⟨i, hi, hxi⟩ := dscs_mem.mp hx
  exact dscs_mem.mpr ⟨i, hi, dsc_kids hN _ _ _ (hr i hi) x hxi c hc⟩
theorem stmp_nx (mu : Nat → MU) (s : Int32) (L : List Nat) (x : Nat) : (stmp mu s L x).2.2.2 = (mu x).2.2.2 := by unfold stmp; split <;> rfl
set_option maxRecDepth 100000 in
set_option maxHeartbeats 1000000 in
theorem sweep_loop {X : CX} {D : va_G} {t : Nat → ClassId} {A : Nat → Prop} {rm : Room} {g : GH} {T aR : Nat} {st : Int32} {N : NM} {K : Nat → List Nat} {mu : Nat → MU} {I : Nat → Prop} {R : (Nat → List Nat) × List Nat} {fR : Nat → Option Nat} {tb : TB} {rt : Nat → Nat} (O : Ok X bT_sweep 6 "TwinTrees" (zz D t A) rm) (hR : gAt g aR (eNs t 6 fR)) (hN : NI t g (N, K, mu, I, R)) (hrt : ∀ i, i < 6 → fR i = some (rt i) ∧ N (rt i) = some (hgt (tb i).2, (tb i).2)) (hfr : ∀ x u, N x = some u → ¬ (mu x).2.2.1 = st) (hrm : 6 ≤ rm.frames ∧ 190 ≤ rm.locals) (HK : ∀ g1 : GH, NI t g1 (N, K, stmp mu st (dscs K tb rt 6), I, R) → KN [] N g g1 → J X 6 (zz D t A) g1 0 0 42 [(0, .ref T), (1, .int st)] []) : ∀ (n k : Nat) (g1 : GH), k + n = 6 → NI t g1 (N, K, stmp mu st (dscs K tb rt k), I, R) → KN [] N g g1 → J X 6 (zz D t A) g1 0 0 16 [(0, .ref T), (1, .int st), (2, .ref aR), (3, .int (nI 6)), (4, .int (nI k))] [] := by
  have hRn : N aR = none := hN.no hR (fun _ _ _ _ _ => by simp)
  intro n
  induction n with
  | zero =>
    intro k g1 hk hN1 hk1
    have ek : k = 6 := by omega
    subst ek
    refine j_iload O dT_sweep_16 rfl ?_
    refine j_iload_n O 3 dT_sweep_18 rfl rfl ?_
    refine j_icmp_ge O 42 dT_sweep_19 (by decide) (fun c => ?_) (fun c => absurd (by decide) c)
    refine J.pk [0, 1] rfl ?_
    exact HK g1 hN1 hk1
  | succ n ih =>
    intro k g1 hk hN1 hk1
    have hR1 := hk1.2 aR _ (by simp) hRn hR
    have k6 : k < 6 := by omega
    obtain ⟨hfk, hvk⟩ := hrt k k6
    have hvo := (hN _ _ hvk).1
    have hdk := dsc_some hN hvk
    have hcl : ∀ x ∈ dsc K (hgt (tb k).2) (rt k), (stmp mu st (dscs K tb rt k) x).2.2.1 = st → ∀ c ∈ K x, (stmp mu st (dscs K tb rt k) c).2.2.1 = st := fun x hx hs c hc => by
      obtain ⟨u, hu⟩ := hdk x hx
      have hxin := (stmp_iff (hfr x u hu)).mp hs
      exact stmp_in (dscs_kids hN (fun i hi => (hrt i (by omega)).2) x hxin c hc)
    refine j_iload O dT_sweep_16 rfl ?_
    refine j_iload_n O 3 dT_sweep_18 rfl rfl ?_
    refine j_icmp_ge O 42 dT_sweep_19 (by decide) (fun c => absurd c (nI_ge k6 (by decide))) (fun c => ?_)
    refine j_aload_n O 2 dT_sweep_22 rfl rfl ?_
    refine j_iload O dT_sweep_23 rfl ?_
    refine j_aald O hR1 2 rfl (by omega) (by omega) dT_sweep_25 ?_
    refine j_some (rt k) hfk ?_
    refine j_astore O [(5, .ref (rt k)), (0, .ref T), (1, .int st), (2, .ref aR), (3, .int (nI 6)), (4, .int (nI k))] dT_sweep_26 (by decide) rfl ?_
    refine j_aload O dT_sweep_28 rfl ?_
    refine j_iload_n O 1 dT_sweep_30 rfl rfl ?_
    refine j_iconst O (v := 5) dT_sweep_31 (by decide) ?_
    refine j_callS O [.ref (rt k), .int st, .int 5] (c_stampTree X.2.1 D t A N K I R st 5 (rt k) _ (hgt (tb k).2) g1 (stmp mu st (dscs K tb rt k)) hvk rfl hvo.1 (Nat.le_refl _) hN1 (dsc_nodup hN hvk) hcl) w354 w355 w23 w356 3 rfl rfl rfl (by decide +kernel) ⟨(by show 5 + 1 ≤ _; omega), (by show 8 + (8 + 11) + 150 ≤ _; omega)⟩ rfl (Nat.le_of_ble_eq_true rfl) dT_sweep_32 ⟨Nat.zero_le _, Nat.zero_le _⟩ (fun vw73 gw74 hpw75 => ?_)
    obtain ⟨rfl, hN2, hk2⟩ := hpw75
    refine j_pop O dT_sweep_35 rfl ?_
    refine j_iinc O (nI (k + 1)) [(4, .int (nI (k + 1))), (5, .ref (rt k)), (0, .ref T), (1, .int st), (2, .ref aR), (3, .int (nI 6))] dT_sweep_36 rfl (nI_1 _) (by decide) rfl ?_
    refine j_goto O 16 dT_sweep_39 (by decide) ?_
    refine J.pk [2, 3, 4, 5, 0] rfl ?_
    rw [stmp_app, ← dscs_succ] at hN2
    exact ih (k + 1) gw74 (by omega) hN2 (hk1.tr hk2)
set_option maxRecDepth 100000 in
set_option maxHeartbeats 1000000 in
theorem c_sweep (l : Launch) (D : va_G) (t : Nat → ClassId) (A : Nat → Prop) (g : GH) (p : Nat → Nat) (w : GD) (ls : Nat) (s : AS) (h : TW t g p w ls s) (hls : ls < 2 ^ 30) : Ct l yT_sweep sT_sweep { frames := 7, cells := 0, slots := 0, locals := 230 } (zz D t A) [.ref (p 13)] g 0 0 (fun v g' => v = some (.int (aSweep s).1) ∧ ∃ w' ls', ls' ≤ ls + 1 ∧ TW t g' p w' ls' (aSweep s).2) := by
  refine Ct.of (cc := bT_sweep) (maxL := 6) (ret := (some .int)) (by decide) (Nat.le_of_ble_eq_true rfl) (fun X hlX O M hNn => ?_)
  show J X 6 (zz D t A) g 0 0 0 [(0, .ref (p 13))] []
  obtain ⟨hT, ⟨fW, hW, hWv⟩, ⟨fR, hR, hRv⟩, hS, ⟨hpd, hval, hsz, hsn⟩, ⟨fk, fs, fu, hD, hk, hs, hu, hdf, hdl⟩, ⟨nF, fF, hF, hFb⟩, ⟨nE, fE, hE, hEb⟩, ⟨fL, hL⟩, hne, hI, hst, htb⟩ := id h
  obtain ⟨rt, hrt⟩ : ∃ rt : Nat → Nat, ∀ i, i < 6 → fR i = some (rt i) ∧ w.1 (rt i) = some (hgt (s.1 i).2, (s.1 i).2) ∧ inS w.2.2.2.2.1 (rt i) := ⟨fun i => (fR i).getD 0, fun i hi => by
    obtain ⟨r, h1, h2, h3⟩ := hRv i hi
    dsimp only
    rw [h1]
    exact ⟨rfl, h2, h3⟩⟩
  refine j_aload_n O 0 dT_sweep_0 rfl rfl ?_
  refine j_callV O [] (c_newStamp X.2.1 D t A g (p 13) (p 0) (p 1) (p 2) (p 4) (p 8) (p 10) (p 12) ls hT) hT rfl w254 w255 w7 w23 w256 0 rfl rfl rfl (by decide +kernel) ⟨(Nat.le_of_ble_eq_true rfl), (Nat.le_of_ble_eq_true rfl)⟩ rfl (Nat.le_of_ble_eq_true rfl) dT_sweep_1 ⟨(Nat.le_of_ble_eq_true rfl), (Nat.le_of_ble_eq_true rfl)⟩ (fun vw76 gw77 hpw78 => ?_)
  obtain ⟨rfl, hT2, hk2⟩ := hpw78
  have hN2 : NI t gw77 w := hS.1.keep (fun x e hx he => hk2.2 x e (h.own hx [13] (by decide)) he)
  have hR2 := hk2.2 (p 1) _ (pn hne 1 [13] rfl) hR
  refine j_istore_n O 1 [(1, .int (nI (ls + 1))), (0, .ref (p 13))] dT_sweep_4 rfl (by decide) rfl ?_
  refine j_aload_n O 0 dT_sweep_5 rfl rfl ?_
  refine j_get O uwT hT2 rfl 1 (by decide) w193 rfl rfl dT_sweep_6 ?_
  refine j_astore_n O 2 [(2, .ref (p 1)), (1, .int (nI (ls + 1))), (0, .ref (p 13))] dT_sweep_9 rfl (by decide) rfl ?_
  refine j_aload_n O 2 dT_sweep_10 rfl rfl ?_
  refine j_alen O hR2 2 rfl dT_sweep_11 ?_
  refine j_istore_n O 3 [(3, .int (nI 6)), (2, .ref (p 1)), (1, .int (nI (ls + 1))), (0, .ref (p 13))] dT_sweep_12 rfl (by decide) rfl ?_
  refine j_iconst O (v := 0) dT_sweep_13 (by decide) ?_
  refine j_istore O [(4, .int 0), (3, .int (nI 6)), (2, .ref (p 1)), (1, .int (nI (ls + 1))), (0, .ref (p 13))] dT_sweep_14 (by decide) rfl ?_
  refine J.pk [4, 3, 2, 1, 0] rfl ?_
  refine sweep_loop (N := w.1) (K := w.2.1) (mu := w.2.2.1) (I := w.2.2.2.1) (R := w.2.2.2.2) (tb := s.1) (rt := rt) O hR2 hN2 (fun i hi => ⟨(hrt i hi).1, (hrt i hi).2.1⟩) (h.fresh hls) ⟨Nat.le_of_ble_eq_true rfl, Nat.le_of_ble_eq_true rfl⟩ (fun g3 hN3 hk3 => ?_) 6 0 gw77 rfl (by rw [show dscs w.2.1 s.1 rt 0 = [] from rfl, stmp_nil]; exact hN2) KN.rf
  have kk : ∀ i, i < 13 → ∀ e, gAt g (p i) e → gAt g3 (p i) e := fun i hi e he => hk3.2 (p i) e (by simp) (h.nn i (by omega)) (hk2.2 (p i) e (one_ne (hne i 13 (by omega) (by omega) (by omega))) he)
  have hT3 := hk3.2 (p 13) _ (by simp) (h.nn 13 (by decide)) hT2
  have hin : ∀ x, inS w.2.2.2.2.1 x → ∃ u, w.1 x = some u := fun x hx => SW.in hS (Or.inl hx)
  have hmem : ∀ x u, w.1 x = some u → (((stmp w.2.2.1 (nI (ls + 1)) (dscs w.2.1 s.1 rt 6)) x).2.2.1 = (nI (ls + 1)) ↔ x ∈ (dscs w.2.1 s.1 rt 6)) := fun x u hu => stmp_iff (h.fresh hls x u hu)
  have hS3 : SW t g3 (w.1, w.2.1, (stmp w.2.2.1 (nI (ls + 1)) (dscs w.2.1 s.1 rt 6)), w.2.2.2.1, w.2.2.2.2.1, w.2.2.2.2.2) (p 2) (p 3) (nI s.2.1.length) (nI (szL s.2.1)) := SW.mu (N := w.1) (K := w.2.1) (mu := w.2.2.1) (I := w.2.2.2.1) (ch := w.2.2.2.2.1) (pd := w.2.2.2.2.2) hS hN3 (fun x => stmp_nx _ _ _ _) (fun b hb => hk3.1 b (hk2.1 b hb)) (kk 2 (by decide)) (kk 3 (by decide))
  obtain ⟨hl1, hl2⟩ := h.stored
  rw [← hl1, ← hl2] at hS3
  refine j_aload_n O 0 dT_sweep_42 rfl rfl ?_
  refine j_get O uwT hT3 rfl 2 (by decide) w194 rfl rfl dT_sweep_43 ?_
  refine j_iload_n O 1 dT_sweep_46 rfl rfl ?_
  refine j_callV O [.int (nI (ls + 1))] (c_dropWithout X.2.1 D t A g3 (p 2) (p 3) (nI (ls + 1)) (w.1, w.2.1, (stmp w.2.2.1 (nI (ls + 1)) (dscs w.2.1 s.1 rt 6)), w.2.2.2.1, w.2.2.2.2.1, w.2.2.2.2.2) hS3 hpd (by show szS w.1 (stL w.2.2.2.2.1) < _; rw [hl2]; omega) (by show (stL w.2.2.2.2.1).length < _; rw [hl1]; exact hsn) (fun x hx hs b hb => by
    obtain ⟨u, hu⟩ := hin x hx
    exact stmp_in (dscs_kids hS.1 (fun i hi => (hrt i hi).2.1) x ((hmem x u hu).mp hs) b hb))) hS3.2.1 rfl w402 w403 w404 w24 w405 1 rfl rfl rfl (by decide +kernel) ⟨(Nat.le_of_ble_eq_true rfl), (Nat.le_of_ble_eq_true rfl)⟩ rfl (Nat.le_of_ble_eq_true rfl) dT_sweep_47 ⟨(Nat.le_of_ble_eq_true rfl), (Nat.le_of_ble_eq_true rfl)⟩ (fun vw79 gw80 hpw81 => ?_)
  obtain ⟨mu4, ch4, Dl, rfl, hS4, hm4, hp4, hD4, hc4, hk4⟩ := hpw81
  have hm4 : ∀ x, muN ((stmp w.2.2.1 (nI (ls + 1)) (dscs w.2.1 s.1 rt 6)) x) (mu4 x) := hm4
  have hp4 : (stL ch4 ++ Dl).Perm (stL w.2.2.2.2.1) := hp4
  have hD4 : ∀ x ∈ Dl, ((stmp w.2.2.1 (nI (ls + 1)) (dscs w.2.1 s.1 rt 6)) x).2.2.1 ≠ (nI (ls + 1)) := hD4
  have hc4 : ∀ x, inS ch4 x → ((stmp w.2.2.1 (nI (ls + 1)) (dscs w.2.1 s.1 rt 6)) x).2.2.1 = (nI (ls + 1)) := hc4
  have hk4 : KN [p 2, p 3] w.1 g3 gw80 := hk4
  have hinD : ∀ x ∈ Dl, ∃ u, w.1 x = some u := fun x hx => hin x (stL_in.mp (hp4.mem_iff.mp (List.mem_append_right _ hx)))
  have hinC : ∀ x ∈ stL ch4, ∃ u, w.1 x = some u := fun x hx => hin x (stL_in.mp (hp4.mem_iff.mp (List.mem_append_left _ hx)))
  have hvp : (vals w.1 (stL ch4) ++ vals w.1 Dl).Perm s.2.1 := by
    rw [← vals_app]
    exact (hp4.filterMap w.1).trans hval
  have hlive : ∀ v, lives s.1 v = true ↔ ∃ x ∈ (dscs w.2.1 s.1 rt 6), w.1 x = some v := by
    intro v
    unfold lives
    rw [List.any_eq_true]
    constructor
    · rintro ⟨i, hi, hv⟩
      have i6 := List.mem_range.mp hi
      have hv := (nds_ndl _).mem_iff.mpr (of_decide_eq_true hv)
      obtain ⟨x, hx, e⟩ := (dsc_mem hS.1 (hrt i i6).2.1 v).mp hv
      exact ⟨x, dscs_mem.mpr ⟨i, i6, hx⟩, e⟩
    · rintro ⟨x, hx, e⟩
      obtain ⟨i, i6, hxi⟩ := dscs_mem.mp hx
      exact ⟨i, List.mem_range.mpr i6, decide_eq_true ((nds_ndl _).mem_iff.mp ((dsc_mem hS.1 (hrt i i6).2.1 v).mpr ⟨x, hxi, e⟩))⟩
  have hinDS : ∀ x ∈ (dscs w.2.1 s.1 rt 6), inS w.2.2.2.2.1 x := fun x hx => by
    obtain ⟨i, i6, hxi⟩ := dscs_mem.mp hx
    exact dsc_in (P := inS w.2.2.2.2.1) hS.2.2.2.2.2.2.1.1 _ _ (hrt i i6).2.2 x hxi
  have hlC : ∀ v ∈ vals w.1 (stL ch4), lives s.1 v = true := fun v hv => by
    obtain ⟨x, hx, e⟩ := vals_mem.mp hv
    exact (hlive v).mpr ⟨x, (hmem x v e).mp (hc4 x (stL_in.mp hx)), e⟩
  have hlD : ∀ v ∈ vals w.1 Dl, lives s.1 v = false := fun v hv => by
    obtain ⟨x, hx, e⟩ := vals_mem.mp hv
    cases hc : lives s.1 v with
    | false => rfl
    | true =>
      obtain ⟨y, hy, e2⟩ := (hlive v).mp hc
      have hxy : x = y := hS.2.2.2.2.2.1 x y v (Or.inl (stL_in.mp (hp4.mem_iff.mp (List.mem_append_right _ hx)))) (Or.inl (hinDS y hy)) e e2
      subst hxy
      exact absurd ((hmem x v e).mpr hy) (hD4 x hx)
  have hfC : (vals w.1 (stL ch4)).Perm (s.2.1.filter (lives s.1)) := by
    have h1 := hvp.filter (lives s.1)
    rw [List.filter_append, List.filter_eq_self.mpr hlC, List.filter_eq_nil_iff.mpr (fun v hv => by rw [hlD v hv]; simp), List.append_nil] at h1
    exact h1
  have hfD : (vals w.1 Dl).Perm (s.2.1.filter (fun v => ! lives s.1 v)) := by
    have h1 := hvp.filter (fun v => ! lives s.1 v)
    rw [List.filter_append, List.filter_eq_nil_iff.mpr (fun v hv => by rw [hlC v hv]; simp), List.filter_eq_self.mpr (fun v hv => by rw [hlD v hv]; rfl), List.nil_append] at h1
    exact h1
  have eD : Dl.length = (s.2.1.filter (fun v => ! lives s.1 v)).length := (vals_full hinD).1.symm.trans hfD.length_eq
  have eC : (stL ch4).length = (s.2.1.filter (lives s.1)).length := (vals_full hinC).1.symm.trans hfC.length_eq
  have eZ : szS w.1 (stL ch4) = szL (s.2.1.filter (lives s.1)) := (vals_full hinC).2.trans (szL_perm hfC)
  have hS4 : SW t gw80 (w.1, w.2.1, mu4, w.2.2.2.1, ch4, []) (p 2) (p 3) (nI (s.2.1.filter (lives s.1)).length) (nI (szL (s.2.1.filter (lives s.1)))) := by
    rw [← eC, ← eZ]; exact hS4
  have k4 : ∀ i, i < 14 → p i ∉ [p 2, p 3] → ∀ e, gAt g3 (p i) e → gAt gw80 (p i) e := fun i hi hn e he => hk4.2 (p i) e hn (h.nn i hi) he
  have hTW : TW t gw80 p (w.1, w.2.1, mu4, w.2.2.2.1, ch4, []) (ls + 1) (s.1, s.2.1.filter (lives s.1), s.2.2) := ⟨k4 13 (by decide) (pn hne 13 [2, 3] rfl) _ hT3, ⟨fW, k4 0 (by decide) (pn hne 0 [2, 3] rfl) _ (kk 0 (by decide) _ hW), hWv⟩, ⟨fR, k4 1 (by decide) (pn hne 1 [2, 3] rfl) _ (kk 1 (by decide) _ hR), fun i hi => ⟨rt i, (hrt i hi).1, (hrt i hi).2.1, by
    have hx : rt i ∈ stL ch4 ++ Dl := hp4.mem_iff.mpr (stL_in.mpr (hrt i hi).2.2)
    rcases List.mem_append.mp hx with z | z
    · exact stL_in.mp z
    · exact absurd ((hmem (rt i) _ (hrt i hi).2.1).mpr (dscs_mem.mpr ⟨i, hi, dsc_self _ _ _⟩)) (hD4 _ z)⟩⟩, hS4, ⟨rfl, hfC, Nat.le_trans (szL_filter _ _) hsz, Nat.lt_of_le_of_lt (List.length_filter_le _ _) hsn⟩, ⟨fk, fs, fu, k4 4 (by decide) (pn hne 4 [2, 3] rfl) _ (kk 4 (by decide) _ hD), k4 5 (by decide) (pn hne 5 [2, 3] rfl) _ (kk 5 (by decide) _ hk), k4 6 (by decide) (pn hne 6 [2, 3] rfl) _ (kk 6 (by decide) _ hs), k4 7 (by decide) (pn hne 7 [2, 3] rfl) _ (kk 7 (by decide) _ hu), hdf, hdl⟩, ⟨nF, fF, k4 8 (by decide) (pn hne 8 [2, 3] rfl) _ (kk 8 (by decide) _ hF), k4 9 (by decide) (pn hne 9 [2, 3] rfl) _ (kk 9 (by decide) _ hFb)⟩, ⟨nE, fE, k4 10 (by decide) (pn hne 10 [2, 3] rfl) _ (kk 10 (by decide) _ hE), k4 11 (by decide) (pn hne 11 [2, 3] rfl) _ (kk 11 (by decide) _ hEb)⟩, ⟨fL, k4 12 (by decide) (pn hne 12 [2, 3] rfl) _ (kk 12 (by decide) _ hL)⟩, hne, hI, fun x u hu => by
    have e : (mu4 x).2.2.1 = ((stmp w.2.2.1 (nI (ls + 1)) (dscs w.2.1 s.1 rt 6)) x).2.2.1 := (hm4 x).2.2
    show ∃ m, m ≤ ls + 1 ∧ (mu4 x).2.2.1 = nI m
    rw [e]
    by_cases hx : x ∈ (dscs w.2.1 s.1 rt 6)
    · exact ⟨ls + 1, Nat.le_refl _, stmp_in hx⟩
    · rw [stmp_out hx]; obtain ⟨m, hm, e⟩ := hst x u hu; exact ⟨m, by omega, e⟩, htb⟩
  exact j_iret O M (Nat.le_of_ble_eq_true rfl) (Nat.le_of_ble_eq_true rfl) ⟨by rw [eD]; rfl, _, ls + 1, Nat.le_refl _, hTW⟩ dT_sweep_50
