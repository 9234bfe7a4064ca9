theorem ins_lt {α : Type} (rs : List α) (k j : Nat) (a : α) (hk : k ≤ rs.length) (hj : j < k) (h : j < (rs.take k ++ a :: rs.drop k).length) : (rs.take k ++ a :: rs.drop k)[j] = rs[j] := by
  rw [List.getElem_append_left (by rw [List.length_take]; omega), List.getElem_take]
theorem ins_gt {α : Type} (rs : List α) (k j : Nat) (a : α) (hk : k ≤ rs.length) (hj : k < j) (h : j < (rs.take k ++ a :: rs.drop k).length) (h' : j - 1 < rs.length) : (rs.take k ++ a :: rs.drop k)[j] = rs[j - 1] := by
  have e : (rs.take k).length = k := by rw [List.length_take]; omega
  obtain ⟨m, rfl⟩ : ∃ m, j = k + (m + 1) := ⟨j - k - 1, by omega⟩
  rw [List.getElem_append_right (by omega)]
  simp only [e, Nat.add_sub_cancel_left, List.getElem_cons_succ, List.getElem_drop]
  congr 1
theorem rlI.ins {t : Nat → ClassId} {g g' : GH} {I : Nat → Prop} {q b k x : Nat} {f f' : Nat → Option Nat} {rs : List RV} {r : RV} (hr : rowsI t g I f 0 rs) (hx : rowI t g I x r) (hk : k ≤ rs.length) (hq : gAt g' q (eRL b (nI (rs.length + 1)))) (hb : gAt g' b (eRs t 300 f')) (h1 : ∀ j, j < k → f' j = f j) (h2 : f' k = some x) (h3 : ∀ j, k < j → j ≤ rs.length → f' j = f (j - 1)) (hI : ∀ (y : Nat) (e : va_E), I y → gAt g y e → gAt g' y e) : rlI t g' I q b (rs.take k ++ r :: rs.drop k) := by
  refine ⟨by rw [ins_len _ _ _ hk]; exact hq, f', hb, fun j hj => ?_⟩
  have hj' : j < rs.length + 1 := by rw [ins_len _ _ _ hk] at hj; exact hj
  rw [Nat.zero_add]
  rcases Nat.lt_trichotomy j k with z | z | z
  · obtain ⟨y, e1, e2⟩ := hr j (by omega)
    rw [Nat.zero_add] at e1
    refine ⟨y, (h1 j z).trans e1, ?_⟩
    rw [ins_lt rs k j r hk z]
    exact e2.keep (fun _ z => z) hI
  · subst z
    refine ⟨x, h2, ?_⟩
    rw [ins_get rs j r hk]
    exact hx.keep (fun _ z => z) hI
  · obtain ⟨y, e1, e2⟩ := hr (j - 1) (by omega)
    rw [Nat.zero_add] at e1
    refine ⟨y, (h3 j z (by omega)).trans e1, ?_⟩
    rw [ins_gt rs k j r hk z hj (by omega)]
    exact e2.keep (fun _ z => z) hI
theorem rlI.set {t : Nat → ClassId} {g g' : GH} {I : Nat → Prop} {q b k x : Nat} {f : Nat → Option Nat} {rs : List RV} {r : RV} (hr : rowsI t g I f 0 rs) (hx : rowI t g I x r) (hq : gAt g' q (eRL b (nI rs.length))) (hb : gAt g' b (eRs t 300 (va_up f k (some x)))) (hI : ∀ (y : Nat) (e : va_E), I y → gAt g y e → gAt g' y e) : rlI t g' I q b (rs.set k r) := by
  refine ⟨by rw [List.length_set]; exact hq, _, hb, fun j hj => ?_⟩
  rw [List.length_set] at hj
  rw [Nat.zero_add, List.getElem_set]
  split
  · next z =>
    subst z
    exact ⟨x, va_up_self _ _ _, hx.keep (fun _ z => z) hI⟩
  · next z =>
    obtain ⟨y, e1, e2⟩ := hr j hj
    rw [Nat.zero_add] at e1
    exact ⟨y, by rw [va_up_ne _ _ (fun q => z q.symm)]; exact e1, e2.keep (fun _ z => z) hI⟩
set_option maxRecDepth 100000 in
set_option maxHeartbeats 1000000 in
theorem put_tail {X : CX} {D : va_G} {t : Nat → ClassId} {A : Nat → Prop} {rm : Room} {g : GH} {k0 n0 : Nat} {p : Nat → Nat} {w : GD} {ls i j kk : Nat} {s : AS} {rs1 : List RV} {k a z : Int32} {R : Int32 × AS} (O : Ok X bT_put 7 "TwinTrees" (zz D t A) rm) (M : Om X (zz D t A) (some .int) 40 3770 (fun v g' => v = some (.int R.1) ∧ ∃ w' ls', ls' ≤ ls ∧ TW t g' p w' ls' R.2)) (h : TW t g p w ls s) (hrl : rlI t g w.2.2.2.1 (p 8) (p 9) rs1) (hkk : kk < rs1.length) (i6 : i < 6) (hj : j < (s.1 i).1) (h1w : rs1[kk].2.1.length = (s.1 i).1) (hl3 : rs1.length ≤ 300) (hw6 : (s.1 i).1 ≤ 6) (htk : tOK ((s.1 i).1, (rs1.set kk (setC rs1[kk] j a z)))) (hR : R = aPlant s i (s.1 i).1 (rs1.set kk (setC rs1[kk] j a z))) (hn12 : (news s.2.1 (ndl (rs1.set kk (setC rs1[kk] j a z)))).length ≤ 12) (hsl : s.2.1.length < 2 ^ 29) (hrm : 10 ≤ rm.frames ∧ 320 ≤ rm.locals ∧ 40 ≤ rm.cells ∧ 3770 ≤ rm.slots) (hk0 : k0 ≤ 2) (hn0 : n0 ≤ 11) : J X 7 (zz D t A) g k0 n0 74 [(0, .ref (p 13)), (1, .int (nI i)), (2, .int k), (3, .int (nI j)), (4, .int a), (5, .int z), (6, .int (nI kk))] [] := by
  obtain ⟨hq, f, hb, hr⟩ := id hrl
  obtain ⟨y, hfy, hy⟩ := hr kk hkk
  rw [Nat.zero_add] at hfy
  have hT := h.1
  have hne := h.2.2.2.2.2.2.2.2.2.1
  refine j_aload_n O 0 dT_put_74 rfl rfl ?_
  refine j_get O uwT hT rfl 4 (by decide) w196 rfl rfl dT_put_75 ?_
  refine j_get O uwQ hq rfl 0 (by decide) w94 rfl rfl dT_put_78 ?_
  refine j_iload O dT_put_81 rfl ?_
  refine j_aload_n O 0 dT_put_83 rfl rfl ?_
  refine j_get O uwT hT rfl 4 (by decide) w196 rfl rfl dT_put_84 ?_
  refine j_get O uwQ hq rfl 0 (by decide) w94 rfl rfl dT_put_87 ?_
  refine j_iload O dT_put_90 rfl ?_
  refine j_aald O hb 1 rfl (by omega) (by omega) dT_put_92 ?_
  refine j_some y hfy ?_
  refine j_iload_n O 3 dT_put_93 rfl rfl ?_
  refine j_iload O dT_put_94 rfl ?_
  refine j_iload O dT_put_96 rfl ?_
  refine j_callV O [.int (nI j), .int a, .int z] (c_withCell X.2.1 D t A g y j a z rs1[kk] hy.at (by omega) (by omega)) hy.at.isRow.choose_spec.choose_spec.choose_spec.choose_spec.choose_spec rfl w313 w314 w315 w31 w316 3 rfl rfl rfl (by decide +kernel) ⟨(by (try dsimp only); omega), (by (try dsimp only); omega)⟩ rfl (Nat.le_of_ble_eq_true rfl) dT_put_98 ⟨(by (try dsimp only); omega), (by (try dsimp only); omega)⟩ (fun vw114 gw115 hpw116 => ?_)
  obtain ⟨q, rfl, hqn, hqI, kp1⟩ := hpw116
  have hTW1 : TW t gw115 p (w.1, w.2.1, w.2.2.1, gI w.2.2.2.1 g gw115, w.2.2.2.2.1, w.2.2.2.2.2) ls s := h.grow kp1
  have hT1 := kp1.2 (p 13) _ (by simp) hT
  have hq1 := kp1.2 (p 8) _ (by simp) hq
  have hb1 := kp1.2 (p 9) _ (by simp) hb
  have hr1 : rowsI t gw115 (gI w.2.2.2.1 g gw115) f 0 rs1 := hr.keep (fun _ z => Or.inl z) (fun x e _ he => kp1.2 x e (by simp) he)
  have hqI1 : rowI t gw115 (gI w.2.2.2.1 g gw115) q (setC rs1[kk] j a z) := hqI.grow
  obtain ⟨qc, qf, -, -, hqq, -⟩ := id hqI
  have kp2 : Kp [p 9] gw115 gw115 := Kp.rf
  refine j_aast O hb1 1 rfl hqq rfl (by omega) (by decide) dT_put_101 (fun gw117 ew118 => ?_)
  have hw119 := gUp_ne (e' := .inl (t 1, 300, .inr (.inr (.inr (.inr (va_up f kk (some q))))))) hT1 (hT1.ne hb1 (by simp))
  rw [← ew118] at hw119
  have hw120 := gUp_ne (e' := .inl (t 1, 300, .inr (.inr (.inr (.inr (va_up f kk (some q))))))) hq1 (hq1.ne hb1 (by simp))
  rw [← ew118] at hw120
  have hw121 := gUp_self (e' := .inl (t 1, 300, .inr (.inr (.inr (.inr (va_up f kk (some q))))))) hb1
  rw [← ew118] at hw121
  have kpw122 := kp2.up (a := (p 9)) (e := .inl (t 1, 300, .inr (.inr (.inr (.inr (va_up f kk (some q))))))) (by simp)
  rw [← ew118] at kpw122
  have hTW2 : TW t gw117 p (w.1, w.2.1, w.2.2.1, gI w.2.2.2.1 g gw115, w.2.2.2.2.1, w.2.2.2.2.2) ls s := hTW1.draft (kpw122.mono (fun x hx => by rw [List.mem_singleton.mp hx]; simp)) hw119 (Nat.le_refl _) hw120 hw121
  have hrl2 : rlI t gw117 (gI w.2.2.2.1 g gw115) (p 8) (p 9) (rs1.set kk (setC rs1[kk] j a z)) := rlI.set hr1 hqI1 hw120 hw121 (fun y e hy he => kpw122.2 y e (hTW1.own (Or.inl hy) [9] (by decide)) he)
  obtain ⟨wg, hTW2, hrl2⟩ : ∃ wg : GD, TW t gw117 p wg ls s ∧ rlI t gw117 wg.2.2.2.1 (p 8) (p 9) (rs1.set kk (setC rs1[kk] j a z)) := ⟨(w.1, w.2.1, w.2.2.1, gI w.2.2.2.1 g gw115, w.2.2.2.2.1, w.2.2.2.2.2), hTW2, hrl2⟩
  refine j_aload_n O 0 dT_put_102 rfl rfl ?_
  refine j_iload_n O 1 dT_put_103 rfl rfl ?_
  obtain ⟨hTx, -, ⟨fRx, hRx, hRvx⟩, hSx, ⟨hpdx, hvalx, hszx, hsnx⟩, -, -, -, hLx, hnex, hIx, -, htbx⟩ := id hTW2
  have htkx : tOK ((s.1 i).1, (rs1.set kk (setC rs1[kk] j a z))) := htk
  have h6x : ∀ r ∈ (((rs1.set kk (setC rs1[kk] j a z))) : List RV), r.2.1.length ≤ 6 := fun r hr => by have h1 := htkx.2.2.1 r hr; have h2 := htkx.2.1; dsimp only at h1 h2; omega
  have hnx : (news s.2.1 (ndl ((rs1.set kk (setC rs1[kk] j a z))))).length ≤ 12 := hn12
  have hcx : (news (vals wg.1 (stL wg.2.2.2.2.1)) (ndl ((rs1.set kk (setC rs1[kk] j a z))))).length ≤ 12 := by rw [news_perm hvalx]; exact hnx
  have hbx : szL s.2.1 + szL (news (vals wg.1 (stL wg.2.2.2.2.1)) (ndl ((rs1.set kk (setC rs1[kk] j a z))))) < 2 ^ 30 := by
    rw [news_perm hvalx]
    have := szL_news s.2.1 h6x htkx.2.2.2.2
    omega
  refine j_callV O [.int (nI i)] (c_plantDraft X.2.1 D t A gw117 (p 13) (p 0) (p 1) (p 2) (p 3) (p 4) (p 8) (p 9) (p 10) (p 12) i s.2.1.length (szL s.2.1) (nI (ls)) wg ((rs1.set kk (setC rs1[kk] j a z))) fRx hTx hSx ⟨hLx, hIx 12 (by decide), hnex 3 12 (by decide) (by decide) (by decide), hnex 2 12 (by decide) (by decide) (by decide), hTW2.nn 12 (by decide)⟩ h6x htkx.2.2.2.2 htkx.2.2.2.1 hrl2 (hnex 9 12 (by decide) (by decide) (by decide)) hpdx hRx (hIx 1 (by decide)) (hnex 1 12 (by decide) (by decide) (by decide)) (hnex 1 3 (by decide) (by decide) (by decide)) i6 hbx) hTx rfl w224 w225 w2 w23 w226 1 rfl rfl rfl (by decide +kernel) ⟨(by (try dsimp only); omega), (by (try dsimp only); omega)⟩ rfl (Nat.le_of_ble_eq_true rfl) dT_put_104 ⟨(by (try dsimp only); omega), (by (try dsimp only); omega)⟩ (fun vw123 gw124 hpw125 => ?_)
  have hplx := hpw125
  obtain ⟨rfl, wx, hTWx⟩ := hTW2.plant i6 htkx hRx hRvx (by omega) hplx
  rw [hR] at M
  exact j_iret O M (by (try dsimp only); omega) (by (try dsimp only); omega) ⟨rfl, wx, ls, Nat.le_refl _, hTWx⟩ dT_put_107
set_option maxRecDepth 100000 in
set_option maxHeartbeats 1000000 in
theorem c_put (l : Launch) (D : va_G) (t : Nat → ClassId) (A : Nat → Prop) (g : GH) (p : Nat → Nat) (w : GD) (ls : Nat) (s : AS) (x k y a z : Int32) (h : TW t g p w ls s) (hls : ls < 2 ^ 30) (hsl : s.2.1.length < 2 ^ 29) (hn12 : ∀ i j, i < 6 → j < (s.1 i).1 → (news s.2.1 (ndl (chg (s.1 i).2 (s.1 i).1 k j a z))).length ≤ 12) : Ct l yT_put sT_put { frames := 10, cells := 40, slots := 3770, locals := 320 } (zz D t A) [.ref (p 13), .int x, .int k, .int y, .int a, .int z] g 40 3770 (fun v g' => v = some (.int (aPut s x k y a z).1) ∧ ∃ w' ls', ls' ≤ ls + 1 ∧ TW t g' p w' ls' (aPut s x k y a z).2) := by
  refine Ct.of (cc := bT_put) (maxL := 7) (ret := (some .int)) (by decide) (Nat.le_of_ble_eq_true rfl) (fun X hlX O M hNn => ?_)
  show J X 7 (zz D t A) g 0 0 0 [(0, .ref (p 13)), (1, .int x), (2, .int k), (3, .int y), (4, .int a), (5, .int z)] []
  obtain ⟨hT, ⟨fW, hW, hWv⟩, ⟨fR, hR, hRv⟩, hS, ⟨hpd, hval, hsz, hsn⟩, ⟨fk, fs, fu, hD, hk, hs, hu, hdf, hdl⟩, ⟨nF, fF, hF, hFb⟩, ⟨nE, fE, hE, hEb⟩, ⟨fL, hL⟩, hne, hI, hst, htb⟩ := id h
  refine j_aload_n O 0 dT_put_0 rfl rfl ?_
  refine j_iload_n O 1 dT_put_1 rfl rfl ?_
  refine j_iload_n O 3 dT_put_2 rfl rfl ?_
  refine j_callV O [.int x, .int y] (c_isColumn X.2.1 D t A g (p 13) (p 0) (p 1) (p 2) (p 4) (p 8) (p 10) (p 12) (nI ls) x y fW hT hW) hT rfl w248 w249 w5 w23 w250 2 rfl rfl rfl (by decide +kernel) ⟨(Nat.le_of_ble_eq_true rfl), (Nat.le_of_ble_eq_true rfl)⟩ rfl (Nat.le_of_ble_eq_true rfl) dT_put_3 ⟨(Nat.le_of_ble_eq_true rfl), (Nat.le_of_ble_eq_true rfl)⟩ (fun vw126 gw127 hpw128 => ?_)
  obtain ⟨zz0, rfl, hz, hg0⟩ := hpw128
  have hg0 := hg0.symm
  subst hg0
  refine j_if_ne O 11 dT_put_6 (by decide) (fun c1 => ?_) (fun c1 => ?_)
  · rcases hz with ⟨-, i, i6, rfl, y0, yl⟩ | ⟨z1, -⟩
    case inr => exact absurd z1 c1
    have ei : ix (nI i) = i := ix_nI (by omega)
    rw [hWv i i6] at yl
    obtain ⟨j, j31, rfl⟩ : ∃ j, j < 2 ^ 31 ∧ y = nI j := ⟨ix y, by have := Int32.toInt_lt y; unfold ix; omega, of_le0 y0⟩
    obtain ⟨t1, t2, t3, t4, t5⟩ := htb i i6
    have hjw : j < (s.1 i).1 := (nI_ltI j31 (by omega)).mp yl
    have ej : ix (nI j) = j := ix_nI (by omega)
    have hyes : isT (nI i) ∧ 0 ≤ nI j ∧ nI j < nI (s.1 (ix (nI i))).1 := ⟨tb_is i6, y0, by rw [ei]; exact yl⟩
    obtain ⟨r, hfr, hrv, hrS⟩ := hRv i i6
    refine j_aload_n O 0 dT_put_11 rfl rfl ?_
    refine j_iload_n O 1 dT_put_12 rfl rfl ?_
    refine j_callV O [.int (nI i)] (c_draftRowsOf X.2.1 D t A g (p 13) (p 0) (p 1) (p 2) (p 4) (p 8) (p 9) (p 10) (p 12) ls i r w _ fR fF nF hT hR i6 hfr hrv hS.1 (h.fresh hls) hF hFb (hI 13 (by decide)) (hI 8 (by decide)) (hI 9 (by decide))) hT rfl w251 w252 w6 w23 w253 1 rfl rfl rfl (by decide +kernel) ⟨(Nat.le_of_ble_eq_true rfl), (Nat.le_of_ble_eq_true rfl)⟩ rfl (Nat.le_of_ble_eq_true rfl) dT_put_13 ⟨(Nat.le_of_ble_eq_true rfl), (Nat.le_of_ble_eq_true rfl)⟩ (fun vw129 gw130 hpw131 => ?_)
    obtain ⟨rfl, hT1, hrl1, kp1⟩ := hpw131
    have hrl1 : rlI t gw130 w.2.2.2.1 (p 8) (p 9) (s.1 i).2 := hrl1
    obtain ⟨hq1, f1, hb1, hr1⟩ := id hrl1
    have hTW1 : TW t gw130 p w (ls + 1) s := h.draft kp1 hT1 (Nat.le_succ _) hq1 hb1
    have hple := plc_le k (s.1 i).2
    refine j_aload_n O 0 dT_put_16 rfl rfl ?_
    refine j_get O uwT hT1 rfl 4 (by decide) w196 rfl rfl dT_put_17 ?_
    refine j_iload_n O 2 dT_put_20 rfl rfl ?_
    refine j_callV O [.int k] (c_placeOf X.2.1 D t A gw130 (p 8) (p 9) f1 (s.1 i).2 k hq1 hb1 hr1.in t5) hq1 rfl w264 w265 w266 w26 w267 1 rfl rfl rfl (by decide +kernel) ⟨(Nat.le_of_ble_eq_true rfl), (Nat.le_of_ble_eq_true rfl)⟩ rfl (Nat.le_of_ble_eq_true rfl) dT_put_21 ⟨(Nat.le_of_ble_eq_true rfl), (Nat.le_of_ble_eq_true rfl)⟩ (fun vw132 gw133 hpw134 => ?_)
    obtain ⟨rfl, hgw135⟩ := hpw134
    have hgw135 := hgw135.symm
    subst hgw135
    refine j_istore O [(6, .int (nI (plc k (s.1 i).2))), (0, .ref (p 13)), (1, .int (nI i)), (2, .int k), (3, .int (nI j)), (4, .int a), (5, .int z)] dT_put_24 (by decide) rfl ?_
    refine j_aload_n O 0 dT_put_26 rfl rfl ?_
    refine j_get O uwT hT1 rfl 4 (by decide) w196 rfl rfl dT_put_27 ?_
    refine j_iload O dT_put_30 rfl ?_
    refine j_iload_n O 2 dT_put_32 rfl rfl ?_
    refine j_callV O [.int (nI (plc k (s.1 i).2)), .int k] (c_hasKeyAt X.2.1 D t A gw130 (p 8) (p 9) (plc k (s.1 i).2) f1 (s.1 i).2 k hple hq1 hb1 hr1.in t5) hq1 rfl w268 w269 w270 w26 w271 2 rfl rfl rfl (by decide +kernel) ⟨(Nat.le_of_ble_eq_true rfl), (Nat.le_of_ble_eq_true rfl)⟩ rfl (Nat.le_of_ble_eq_true rfl) dT_put_33 ⟨(Nat.le_of_ble_eq_true rfl), (Nat.le_of_ble_eq_true rfl)⟩ (fun vw136 gw137 hpw138 => ?_)
    obtain ⟨rfl, hgw139⟩ := hpw138
    have hgw139 := hgw139.symm
    subst hgw139
    refine j_if_ne O 74 dT_put_36 (by decide) (fun c2 => ?_) (fun c2 => ?_)
    · have hin : ∃ h : plc k (s.1 i).2 < (s.1 i).2.length, (s.1 i).2[plc k (s.1 i).2].1 = k := by
        by_cases z : ∃ h : plc k (s.1 i).2 < (s.1 i).2.length, (s.1 i).2[plc k (s.1 i).2].1 = k
        · exact z
        · rw [if_neg z] at c2; exact absurd rfl c2
      have er : aPut s (nI i) k (nI j) a z = aPlant s i (s.1 i).1 (chg (s.1 i).2 (s.1 i).1 k j a z) := by
        unfold aPut
        rw [if_pos hyes, ei, ej, if_neg (fun z => z.1 hin)]
      have ec : chg (s.1 i).2 (s.1 i).1 k j a z = (s.1 i).2.set (plc k (s.1 i).2) (setC ((s.1 i).2[plc k (s.1 i).2]'hin.1) j a z) := by
        unfold chg
        rw [dif_pos hin]
      rw [er] at M
      refine J.pk [1, 2, 3, 4, 5, 6, 0] rfl ?_
      exact put_tail O M hTW1 hrl1 hin.1 i6 hjw (t3 _ (List.getElem_mem _)) t5 t2 (by rw [← ec]; exact tOK_chg (htb i i6) k j a z (fun q => absurd hin q)) (by rw [ec]) (by rw [← ec]; exact hn12 i j i6 hjw) hsl ⟨(Nat.le_of_ble_eq_true rfl), (Nat.le_of_ble_eq_true rfl), (Nat.le_of_ble_eq_true rfl), (Nat.le_of_ble_eq_true rfl)⟩ (Nat.zero_le _) (Nat.zero_le _)
    · have hin : ¬ ∃ h : plc k (s.1 i).2 < (s.1 i).2.length, (s.1 i).2[plc k (s.1 i).2].1 = k := fun z => by rw [if_pos z] at c2; exact absurd c2 (by decide)
      refine j_aload_n O 0 dT_put_39 rfl rfl ?_
      refine j_get O uwT hT1 rfl 4 (by decide) w196 rfl rfl dT_put_40 ?_
      refine j_get O uwQ hq1 rfl 1 (by decide) w97 rfl rfl dT_put_43 ?_
      refine j_sipush O (v := 300) dT_put_46 (by decide) ?_
      refine j_icmp_lt O 55 dT_put_49 (by decide) (fun c3 => ?_) (fun c3 => ?_)
      · have hlt : (s.1 i).2.length < 300 := (nI_ltI (b := 300) (by omega) (by decide)).mp c3
        have er : aPut s (nI i) k (nI j) a z = aPlant s i (s.1 i).1 (chg (s.1 i).2 (s.1 i).1 k j a z) := by
          unfold aPut
          rw [if_pos hyes, ei, ej, if_neg (fun z => by have := z.2; omega)]
        rw [er] at M
        have hW1 := kp1.2 (p 0) _ (pn hne 0 [13, 8, 9] rfl) hW
        refine j_aload_n O 0 dT_put_55 rfl rfl ?_
        refine j_get O uwT hT1 rfl 4 (by decide) w196 rfl rfl dT_put_56 ?_
        refine j_iload O dT_put_59 rfl ?_
        refine j_iload_n O 2 dT_put_61 rfl rfl ?_
        refine j_aload_n O 0 dT_put_62 rfl rfl ?_
        refine j_get O uwT hT1 rfl 0 (by decide) w192 rfl rfl dT_put_63 ?_
        refine j_iload_n O 1 dT_put_66 rfl rfl ?_
        refine j_iald O hW1 0 rfl (by omega) (by omega) dT_put_67 ?_
        refine j_eqi (nI (s.1 i).1) (hWv i i6) ?_
        refine j_callS O [.int k, .int (nI (s.1 i).1)] (c_blankRow X.2.1 D t A gw130 k (s.1 i).1 (by omega)) w272 w273 w23 w274 2 rfl rfl rfl (by decide +kernel) ⟨(Nat.le_of_ble_eq_true rfl), (Nat.le_of_ble_eq_true rfl)⟩ rfl (Nat.le_of_ble_eq_true rfl) dT_put_68 ⟨(by show 0 + 2 ≤ 40; omega), (by show 0 + (_ + 5) ≤ 3770; omega)⟩ (fun vw140 gw141 hpw142 => ?_)
        obtain ⟨q, rfl, hqn, hqI, kp2⟩ := hpw142
        have hTW2 : TW t gw141 p (w.1, w.2.1, w.2.2.1, gI w.2.2.2.1 gw130 gw141, w.2.2.2.2.1, w.2.2.2.2.2) (ls + 1) s := hTW1.grow kp2
        have hT2 := kp2.2 (p 13) _ (by simp) hT1
        have hq2 := kp2.2 (p 8) _ (by simp) hq1
        have hb2 := kp2.2 (p 9) _ (by simp) hb1
        have hr2 : rowsI t gw141 (gI w.2.2.2.1 gw130 gw141) f1 0 (s.1 i).2 := hr1.keep (fun _ z => Or.inl z) (fun x e _ he => kp2.2 x e (by simp) he)
        have hqI2 : rowI t gw141 (gI w.2.2.2.1 gw130 gw141) q (blankR k (s.1 i).1) := hqI.grow
        refine j_callV O [.int (nI (plc k (s.1 i).2)), .ref q] (c_insertAt X.2.1 D t A gw141 (p 8) (p 9) (plc k (s.1 i).2) q (s.1 i).2.length f1 hq2 hb2 hqI2.at.isRow (fun j hj => by obtain ⟨b, e1, e2⟩ := hr2 j hj; rw [Nat.zero_add] at e1; exact ⟨b, e1, e2.at.isRow⟩) hple hlt) hq2 rfl w309 w310 w311 w26 w312 2 rfl rfl rfl (by decide +kernel) ⟨(Nat.le_of_ble_eq_true rfl), (Nat.le_of_ble_eq_true rfl)⟩ rfl (Nat.le_of_ble_eq_true rfl) dT_put_71 ⟨(by show 0 + 2 + 0 ≤ 40; omega), (by show 0 + (_ + 5) + 0 ≤ 3770; omega)⟩ (fun vw143 gw144 hpw145 => ?_)
        obtain ⟨rfl, hq3, f3, hb3, ha3, hm3, hc3, kp3⟩ := hpw145
        have hT3 := kp3.2 (p 13) _ (pn hne 13 [8, 9] rfl) hT2
        have hTW3 : TW t gw144 p (w.1, w.2.1, w.2.2.1, gI w.2.2.2.1 gw130 gw141, w.2.2.2.2.1, w.2.2.2.2.2) (ls + 1) s := hTW2.draft (kp3.mono (fun x hx => List.mem_cons_of_mem _ hx)) hT3 (Nat.le_refl _) hq3 hb3
        have hrl3 : rlI t gw144 (gI w.2.2.2.1 gw130 gw141) (p 8) (p 9) ((s.1 i).2.take (plc k (s.1 i).2) ++ blankR k (s.1 i).1 :: (s.1 i).2.drop (plc k (s.1 i).2)) := rlI.ins hr2 hqI2 hple hq3 hb3 ha3 hm3 hc3 (fun y e hy he => kp3.2 y e (hTW2.own (Or.inl hy) [8, 9] (by decide)) he)
        have hbl := ins_len (s.1 i).2 (plc k (s.1 i).2) (blankR k (s.1 i).1) hple
        have hgt0 := ins_get (s.1 i).2 (plc k (s.1 i).2) (blankR k (s.1 i).1) hple (by rw [hbl]; omega)
        have ec : ((s.1 i).2.take (plc k (s.1 i).2) ++ blankR k (s.1 i).1 :: (s.1 i).2.drop (plc k (s.1 i).2)).set (plc k (s.1 i).2) (setC (((s.1 i).2.take (plc k (s.1 i).2) ++ blankR k (s.1 i).1 :: (s.1 i).2.drop (plc k (s.1 i).2))[plc k (s.1 i).2]'(by rw [hbl]; omega)) j a z) = chg (s.1 i).2 (s.1 i).1 k j a z := by
          rw [hgt0, ins_set _ _ _ _ hple]
          unfold chg
          rw [dif_neg hin]
        refine J.pk [1, 2, 3, 4, 5, 6, 0] rfl ?_
        exact put_tail O M hTW3 hrl3 (by rw [hbl]; omega) i6 hjw (by rw [hgt0, blank_len]) (by rw [hbl]; omega) t2 (by rw [ec]; exact tOK_chg (htb i i6) k j a z (fun _ => hlt)) (by rw [ec]) (by rw [ec]; exact hn12 i j i6 hjw) hsl ⟨(Nat.le_of_ble_eq_true rfl), (Nat.le_of_ble_eq_true rfl), (Nat.le_of_ble_eq_true rfl), (Nat.le_of_ble_eq_true rfl)⟩ (by show 0 + 2 + 0 ≤ 2; omega) (by show 0 + ((s.1 i).1 + 5) + 0 ≤ 11; omega)
      · have hge : 300 ≤ (s.1 i).2.length := by
          rcases Nat.lt_or_ge (s.1 i).2.length 300 with q | q
          · exact absurd (nI_lt (b := 300) q (by decide)) c3
          · exact q
        have er : aPut s (nI i) k (nI j) a z = (-3, s) := by
          unfold aPut
          rw [if_pos hyes, ei, if_pos ⟨hin, hge⟩]
        rw [er] at M
        refine j_bipush O (v := -3) dT_put_52 (by decide) ?_
        exact j_iret O M (Nat.le_of_ble_eq_true rfl) (Nat.le_of_ble_eq_true rfl) ⟨rfl, w, ls + 1, Nat.le_refl _, hTW1⟩ dT_put_54
  · have hno : ¬ (isT x ∧ 0 ≤ y ∧ y < nI (s.1 (ix x)).1) := by
      rintro ⟨h1, h2, h3⟩
      obtain ⟨i, i6, rfl⟩ := tb_of h1
      rw [ix_nI (by omega)] at h3
      rcases hz with ⟨z1, -⟩ | ⟨-, z2⟩
      · rw [z1] at c1; exact absurd c1 (by decide)
      · exact z2 ⟨i, i6, rfl, h2, by rw [hWv i i6]; exact h3⟩
    have er : aPut s x k y a z = (-1, s) := if_neg hno
    rw [er] at M
    refine j_iconst O (v := -1) dT_put_9 (by decide) ?_
    exact j_iret O M (Nat.le_of_ble_eq_true rfl) (Nat.le_of_ble_eq_true rfl) ⟨rfl, w, ls, by omega, h⟩ dT_put_10
