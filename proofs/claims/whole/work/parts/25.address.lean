/-- stamps and pointers are as they were -/
def muA (mu mu' : Nat → MU) : Prop := ∀ x, (mu' x).2.2 = (mu x).2.2
theorem muA.rf {mu : Nat → MU} : muA mu mu := fun _ => rfl
theorem muA.tr {m1 m2 m3 : Nat → MU} (h : muA m1 m2) (h' : muA m2 m3) : muA m1 m3 := fun x => (h' x).trans (h x)
def nadB (h : Nat) (qs : List (List RV)) : Int64 := qs.foldl (fun a q => adM a (nad h q)) (adM 1469598103934665603 (nI (h + 1)).toInt64)
theorem nadB_take (h : Nat) (qs : List (List RV)) (i : Nat) (hi : i < qs.length) : nadB h (qs.take (i + 1)) = adM (nadB h (qs.take i)) (nad h qs[i]) := by
  unfold nadB
  rw [List.take_succ_eq_append_getElem hi, List.foldl_append]
  rfl
def nadL (rs : List RV) : Int64 := rs.foldl rad (adM 1469598103934665603 0)
theorem nadL_take (rs : List RV) (i : Nat) (hi : i < rs.length) : nadL (rs.take (i + 1)) = rad (nadL (rs.take i)) rs[i] := by
  unfold nadL
  rw [List.take_succ_eq_append_getElem hi, List.foldl_append]
  rfl
set_option maxRecDepth 100000 in
set_option maxHeartbeats 1000000 in
theorem addressOf_rows {X : CX} {D : va_G} {t : Nat → ClassId} {A : Nat → Prop} {rm : Room} {g : GH} {k0 n0 : Nat} {I : Nat → Prop} {a d ra : Nat} {fr : Nat → Option Nat} {rs : List RV} (O : Ok X bT_addressOf 8 "TwinTrees" (zz D t A) rm) (hra : gAt g ra (eRs t rs.length fr)) (hr : rowsI t g I fr 0 rs) (hl : rs.length ≤ 300) (hw : ∀ r ∈ rs, r.2.1.length ≤ 6) (hrm : 2 ≤ rm.frames ∧ 60 ≤ rm.locals ∧ k0 + 0 ≤ rm.cells ∧ n0 + 0 ≤ rm.slots) (HK : J X 8 (zz D t A) g k0 n0 69 [(0, .ref a), (1, .int (nI d)), (2, .long (nadL rs))] []) : ∀ (k i : Nat), i + k = rs.length → J X 8 (zz D t A) g k0 n0 42 [(0, .ref a), (1, .int (nI d)), (2, .long (nadL (rs.take i))), (4, .ref ra), (5, .int (nI rs.length)), (6, .int (nI i))] [] := by
  intro k
  induction k with
  | zero =>
    intro i hi
    have hi : i = rs.length := by omega
    subst hi
    rw [List.take_length]
    refine j_iload O dT_addressOf_42 rfl ?_
    refine j_iload O dT_addressOf_44 rfl ?_
    refine j_icmp_ge O 69 dT_addressOf_46 (by decide) (fun c => ?_) (fun c => absurd (nI_le (Nat.le_refl _) (by omega)) c)
    refine J.pk [0, 1, 2] rfl ?_
    exact HK
  | succ k ih =>
    intro i hi
    have hi1 : i < rs.length := by omega
    obtain ⟨x, hfx, hx⟩ := hr i hi1
    rw [Nat.zero_add] at hfx
    refine j_iload O dT_addressOf_42 rfl ?_
    refine j_iload O dT_addressOf_44 rfl ?_
    refine j_icmp_ge O 69 dT_addressOf_46 (by decide) (fun c => absurd c (nI_ge hi1 (by omega))) (fun c => ?_)
    refine j_aload O dT_addressOf_49 rfl ?_
    refine j_iload O dT_addressOf_51 rfl ?_
    refine j_aald O hra 1 rfl (by omega) (by omega) dT_addressOf_53 ?_
    refine j_some x hfx ?_
    refine j_astore O [(7, .ref x), (0, .ref a), (1, .int (nI d)), (2, .long (nadL (rs.take i))), (4, .ref ra), (5, .int (nI rs.length)), (6, .int (nI i))] dT_addressOf_54 (by decide) rfl ?_
    refine j_lload_n O 2 dT_addressOf_56 rfl rfl ?_
    refine j_aload O dT_addressOf_57 rfl ?_
    refine j_callS O [.long (nadL (rs.take i)), .ref x] (c_mixedRow X.2.1 D t A g _ x rs[i] hx.at (Nat.le_trans (hw _ (List.getElem_mem _)) (by decide))) w369 w370 w23 w371 2 rfl rfl rfl (by decide +kernel) ⟨(by show 1 + 1 ≤ _; omega), (by show 8 + (6 + 11) + 30 ≤ _; omega)⟩ rfl (Nat.le_of_ble_eq_true rfl) dT_addressOf_59 ⟨hrm.2.2.1, hrm.2.2.2⟩ (fun vw1 gw2 hpw3 => ?_)
    obtain ⟨rfl, hgw4⟩ := hpw3
    have hgw4 := hgw4.symm
    subst hgw4
    refine j_eql (nadL (rs.take (i + 1))) (nadL_take rs i hi1).symm ?_
    refine j_lstore_n O 2 [(2, .long (nadL (rs.take (i + 1)))), (7, .ref x), (0, .ref a), (1, .int (nI d)), (4, .ref ra), (5, .int (nI rs.length)), (6, .int (nI i))] dT_addressOf_62 rfl (by decide) rfl ?_
    refine j_iinc O (nI (i + 1)) [(6, .int (nI (i + 1))), (2, .long (nadL (rs.take (i + 1)))), (7, .ref x), (0, .ref a), (1, .int (nI d)), (4, .ref ra), (5, .int (nI rs.length))] dT_addressOf_63 rfl (nI_1 _) (by decide) rfl ?_
    refine j_goto O 42 dT_addressOf_66 (by decide) ?_
    refine J.pk [3, 4, 1, 5, 6, 0] rfl ?_
    exact ih (i + 1) (by omega)
set_option maxRecDepth 100000 in
set_option maxHeartbeats 1000000 in
theorem addressOf_loop {X : CX} {D : va_G} {t : Nat → ClassId} {A : Nat → Prop} {rm : Room} {g : GH} {k0 n0 : Nat} {N : NM} {K : Nat → List Nat} {mu : Nat → MU} {I : Nat → Prop} {R : (Nat → List Nat) × List Nat} {a d ba h : Nat} {fb : Nat → Option Nat} {ks : List Nat} {qs : List (List RV)} (O : Ok X bT_addressOf 8 "TwinTrees" (zz D t A) rm) (hba : gAt g ba (eNs t ks.length fb)) (hbaN : N ba = none) (hfb : ∀ i (hi : i < ks.length), fb i = some ks[i]) (hkl : ks.length ≤ 300) (hkq : ks.length = qs.length) (hrm : d + 3 ≤ rm.frames ∧ 30 * (d + 1) + 60 ≤ rm.locals ∧ k0 + 0 ≤ rm.cells ∧ n0 + 0 ≤ rm.slots) (IH : ∀ (i : Nat) (hi : i < ks.length) (hj : i < qs.length) (g1 : GH) (mu1 : Nat → MU), NI t g1 (N, K, mu1, I, R) → Ct X.2.1 yT_addressOf sT_addressOf { frames := d + 2, cells := 0, slots := 0, locals := 30 * d + 60 } (zz D t A) [.ref ks[i], .int (nI d)] g1 0 0 (fun v g' => v = some (.long (nad h qs[i])) ∧ ∃ mu', NI t g' (N, K, mu', I, R) ∧ muA mu1 mu' ∧ KN [] N g1 g')) (HK : ∀ (g1 : GH) (mu1 : Nat → MU), NI t g1 (N, K, mu1, I, R) → muA mu mu1 → KN [] N g g1 → J X 8 (zz D t A) g1 k0 n0 116 [(0, .ref a), (1, .int (nI (d + 1))), (2, .long (nadB h qs))] []) : ∀ (k i : Nat) (g1 : GH) (mu1 : Nat → MU), i + k = ks.length → NI t g1 (N, K, mu1, I, R) → muA mu mu1 → KN [] N g g1 → J X 8 (zz D t A) g1 k0 n0 83 [(0, .ref a), (1, .int (nI (d + 1))), (2, .long (nadB h (qs.take i))), (4, .ref ba), (5, .int (nI ks.length)), (6, .int (nI i))] [] := by
  intro k
  induction k with
  | zero =>
    intro i g1 mu1 hi hN hm hk
    have hi : i = ks.length := by omega
    subst hi
    have e : qs.take ks.length = qs := by rw [hkq, List.take_length]
    rw [e]
    refine j_iload O dT_addressOf_83 rfl ?_
    refine j_iload O dT_addressOf_85 rfl ?_
    refine j_icmp_ge O 116 dT_addressOf_87 (by decide) (fun c => ?_) (fun c => absurd (nI_le (Nat.le_refl _) (by omega)) c)
    refine J.pk [0, 1, 2] rfl ?_
    exact HK g1 mu1 hN hm hk
  | succ k ih =>
    intro i g1 mu1 hi hN hm hk
    have hi1 : i < ks.length := by omega
    have hj1 : i < qs.length := by omega
    have hba1 := hk.2 ba _ List.not_mem_nil hbaN hba
    refine j_iload O dT_addressOf_83 rfl ?_
    refine j_iload O dT_addressOf_85 rfl ?_
    refine j_icmp_ge O 116 dT_addressOf_87 (by decide) (fun c => absurd c (nI_ge hi1 (by omega))) (fun c => ?_)
    refine j_aload O dT_addressOf_90 rfl ?_
    refine j_iload O dT_addressOf_92 rfl ?_
    refine j_aald O hba1 2 rfl (by omega) (by omega) dT_addressOf_94 ?_
    refine j_some (ks[i]) (hfb i hi1) ?_
    refine j_astore O [(7, .ref (ks[i])), (0, .ref a), (1, .int (nI (d + 1))), (2, .long (nadB h (qs.take i))), (4, .ref ba), (5, .int (nI ks.length)), (6, .int (nI i))] dT_addressOf_95 (by decide) rfl ?_
    refine j_lload_n O 2 dT_addressOf_97 rfl rfl ?_
    refine j_aload O dT_addressOf_98 rfl ?_
    refine j_iload_n O 1 dT_addressOf_100 rfl rfl ?_
    refine j_iconst O (v := 1) dT_addressOf_101 (by decide) ?_
    refine j_isub O dT_addressOf_102 ?_
    refine j_eqi (nI (d + 1 - 1)) (pk_sub (b := 1) (by omega)) ?_
    refine j_eqi (nI d) (by rw [Nat.add_sub_cancel]) ?_
    refine j_callS O [.ref (ks[i]), .int (nI d)] (IH i hi1 hj1 g1 mu1 hN) w361 w362 w23 w363 2 rfl rfl rfl (by decide +kernel) ⟨(by show d + 2 + 1 ≤ _; omega), (by show 8 + (8 + 11) + (30 * d + 60) ≤ _; omega)⟩ rfl (Nat.le_of_ble_eq_true rfl) dT_addressOf_103 ⟨hrm.2.2.1, hrm.2.2.2⟩ (fun vw5 gw6 hpw7 => ?_)
    obtain ⟨rfl, mu2, hN2, hm2, hk2⟩ := hpw7
    refine j_callS O [.long (nadB h (qs.take i)), .long (nad h qs[i])] (c_mixed X.2.1 D t A gw6 _ _) w365 w366 w23 w367 2 rfl rfl rfl (by decide +kernel) ⟨(by show 0 + 1 ≤ _; omega), (by show 8 + (4 + 11) + 0 ≤ _; omega)⟩ rfl (Nat.le_of_ble_eq_true rfl) dT_addressOf_106 ⟨hrm.2.2.1, hrm.2.2.2⟩ (fun vw8 gw9 hpw10 => ?_)
    obtain ⟨rfl, hgw11⟩ := hpw10
    have hgw11 := hgw11.symm
    subst hgw11
    refine j_eql (nadB h (qs.take (i + 1))) (nadB_take h qs i hj1).symm ?_
    refine j_lstore_n O 2 [(2, .long (nadB h (qs.take (i + 1)))), (7, .ref (ks[i])), (0, .ref a), (1, .int (nI (d + 1))), (4, .ref ba), (5, .int (nI ks.length)), (6, .int (nI i))] dT_addressOf_109 rfl (by decide) rfl ?_
    refine j_iinc O (nI (i + 1)) [(6, .int (nI (i + 1))), (2, .long (nadB h (qs.take (i + 1)))), (7, .ref (ks[i])), (0, .ref a), (1, .int (nI (d + 1))), (4, .ref ba), (5, .int (nI ks.length))] dT_addressOf_110 rfl (nI_1 _) (by decide) rfl ?_
    refine j_goto O 83 dT_addressOf_113 (by decide) ?_
    refine J.pk [3, 4, 1, 5, 6, 0] rfl ?_
    exact ih (i + 1) gw6 mu2 (by omega) hN2 (hm.tr hm2) (hk.tr hk2)
set_option maxRecDepth 100000 in
set_option maxHeartbeats 1000000 in
theorem c_addressOf (l : Launch) (D : va_G) (t : Nat → ClassId) (A : Nat → Prop) (N : NM) (K : Nat → List Nat) (I : Nat → Prop) (R : (Nat → List Nat) × List Nat) : ∀ (d : Nat) (a : Nat) (v : NV) (g : GH) (mu : Nat → MU), N a = some v → v.1 ≤ d → d ≤ 5 → NI t g (N, K, mu, I, R) → Ct l yT_addressOf sT_addressOf { frames := d + 2, cells := 0, slots := 0, locals := 30 * d + 60 } (zz D t A) [.ref a, .int (nI d)] g 0 0 (fun r g' => r = some (.long (nad v.1 v.2)) ∧ ∃ mu', NI t g' (N, K, mu', I, R) ∧ muA mu mu' ∧ KN [] N g g') := by
  intro d
  induction d with
  | zero =>
    intro a v g mu hv hvd hd5 hN
    have hv0 : v.1 = 0 := by omega
    obtain ⟨hvo, hIa, ⟨ra, ba, nr, fr, fb, iA, iB, hac, hra, hba, -, h0, h0', hfb, h8⟩, had⟩ := hN a v hv
    dsimp only at hac hba h0 hfb h8 had hIa iA iB hra
    have hbaN : N ba = none := hN.no hba (fun _ _ _ _ _ => by simp)
    have hkl : (K a).length ≤ 300 := by
      cases hv1 : v.1 with
      | zero => rw [(h0 hv1).2.1]; exact Nat.zero_le _
      | succ h' =>
        rw [(h8 h' hv1).1]
        exact Nat.le_trans (runs_len_le _ _) hvo.2.1
    refine Ct.of (cc := bT_addressOf) (maxL := 8) (ret := (some .long)) (by decide) (Nat.le_of_ble_eq_true rfl) (fun X hlX O M hNn => ?_)
    show J X 8 (zz D t A) g 0 0 0 [(0, .ref a), (1, .int (nI 0))] []
    refine j_iload_n O 1 dT_addressOf_0 rfl rfl ?_
    refine j_if_lt O 11 dT_addressOf_1 (by decide) (fun c => absurd c (nI_pos (by omega))) (fun c => ?_)
    refine j_aload_n O 0 dT_addressOf_4 rfl rfl ?_
    refine j_get O uwN hac rfl 9 (by decide) w150 rfl rfl dT_addressOf_5 ?_
    refine j_if_eq O 16 dT_addressOf_8 (by decide) (fun c1 => ?_) (fun c1 => ?_)
    · refine j_ldc2 O 1469598103934665603 w364 dT_addressOf_16 ?_
      refine j_aload_n O 0 dT_addressOf_19 rfl rfl ?_
      refine j_get O uwN hac rfl 0 (by decide) w132 rfl rfl dT_addressOf_20 ?_
      refine j_i2l O dT_addressOf_23 ?_
      refine j_callS O [.long 1469598103934665603, .long ((nI v.1).toInt64)] (c_mixed X.2.1 D t A g _ _) w365 w366 w23 w367 2 rfl rfl rfl (by decide +kernel) ⟨(by show 0 + 1 ≤ 0 + 2; omega), (by show 8 + (4 + 11) + 0 ≤ 30 * 0 + 60; omega)⟩ rfl (Nat.le_of_ble_eq_true rfl) dT_addressOf_24 ⟨(Nat.le_of_ble_eq_true rfl), (Nat.le_of_ble_eq_true rfl)⟩ (fun vw12 gw13 hpw14 => ?_)
      obtain ⟨rfl, hgw15⟩ := hpw14
      have hgw15 := hgw15.symm
      subst hgw15
      obtain ⟨hnr, hk0, hrr⟩ := h0 hv0
      subst hnr
      have e0 : adM 1469598103934665603 (nI v.1).toInt64 = nadL (v.2.take 0) := by rw [hv0]; rfl
      refine j_eql (nadL (v.2.take 0)) e0 ?_
      refine j_lstore_n O 2 [(2, .long (nadL (v.2.take 0))), (0, .ref a), (1, .int (nI 0))] dT_addressOf_27 rfl (by decide) rfl ?_
      refine j_aload_n O 0 dT_addressOf_28 rfl rfl ?_
      refine j_get O uwN hac rfl 1 (by decide) w134 rfl rfl dT_addressOf_29 ?_
      refine j_astore O [(4, .ref ra), (2, .long (nadL (v.2.take 0))), (0, .ref a), (1, .int (nI 0))] dT_addressOf_32 (by decide) rfl ?_
      refine j_aload O dT_addressOf_34 rfl ?_
      refine j_alen O hra 1 rfl dT_addressOf_36 ?_
      refine j_istore O [(5, .int (nI v.2.length)), (4, .ref ra), (2, .long (nadL (v.2.take 0))), (0, .ref a), (1, .int (nI 0))] dT_addressOf_37 (by decide) rfl ?_
      refine j_iconst O (v := 0) dT_addressOf_39 (by decide) ?_
      refine j_istore O [(6, .int 0), (5, .int (nI v.2.length)), (4, .ref ra), (2, .long (nadL (v.2.take 0))), (0, .ref a), (1, .int (nI 0))] dT_addressOf_40 (by decide) rfl ?_
      refine J.pk [4, 5, 3, 2, 1, 0] rfl ?_
      refine addressOf_rows (k0 := 0) (n0 := 0) O hra hrr hvo.2.1 hvo.2.2.1 ⟨Nat.le_add_left _ _, by show 60 ≤ 30 * 0 + 60; omega, Nat.le_refl _, Nat.le_refl _⟩ ?_ v.2.length 0 (Nat.zero_add _)
      have hkl0 : (K a).length = 0 := by rw [hk0]; rfl
      have hval : nadL v.2 = nad v.1 v.2 := by rw [hv0]; rfl
      refine j_aload_n O 0 dT_addressOf_69 rfl rfl ?_
      refine j_get O uwN hac rfl 2 (by decide) w136 rfl rfl dT_addressOf_70 ?_
      refine j_astore O [(4, .ref ba), (0, .ref a), (1, .int (nI 0)), (2, .long (nadL v.2))] dT_addressOf_73 (by decide) rfl ?_
      refine j_aload O dT_addressOf_75 rfl ?_
      refine j_alen O hba 2 rfl dT_addressOf_77 ?_
      refine j_istore O [(5, .int (nI ((K a).length))), (4, .ref ba), (0, .ref a), (1, .int (nI 0)), (2, .long (nadL v.2))] dT_addressOf_78 (by decide) rfl ?_
      refine j_iconst O (v := 0) dT_addressOf_80 (by decide) ?_
      refine j_istore O [(6, .int 0), (5, .int (nI ((K a).length))), (4, .ref ba), (0, .ref a), (1, .int (nI 0)), (2, .long (nadL v.2))] dT_addressOf_81 (by decide) rfl ?_
      refine j_iload O dT_addressOf_83 rfl ?_
      refine j_iload O dT_addressOf_85 rfl ?_
      refine j_icmp_ge O 116 dT_addressOf_87 (by decide) (fun c => ?_) (fun c => absurd (by rw [hkl0]; decide) c)
      refine J.pk [3, 4, 5] rfl ?_
      obtain ⟨ra9, ba9, hac9⟩ := hN.cell hv
      have kp0 : Kp [a] g g := Kp.rf
      refine j_aload_n O 0 dT_addressOf_116 rfl rfl ?_
      refine j_lload_n O 2 dT_addressOf_117 rfl rfl ?_
      refine j_put O uwN hac9 rfl 8 (by decide) w148 rfl tN ftN fnN rfl (.long) (by decide +kernel) rfl rfl (Nat.le_of_ble_eq_true rfl) [.int (nI v.1), .ref ra9, .ref ba9, .int (nI v.2.length), .int (nI (nsz v.1 v.2)), .int (lastK v.2), .int (nI (lastL v.2)), .int (nprt v.1 v.2), .long (nadL v.2), .int ((mu a).2.1), .int ((mu a).2.2.1), va_rf ((mu a).2.2.2)] rfl dT_addressOf_118 (fun gw16 ew17 => ?_)
      have hw18 := gUp_self (e' := .inr (2, [.int (nI v.1), .ref ra9, .ref ba9, .int (nI v.2.length), .int (nI (nsz v.1 v.2)), .int (lastK v.2), .int (nI (lastL v.2)), .int (nprt v.1 v.2), .long (nadL v.2), .int ((mu a).2.1), .int ((mu a).2.2.1), va_rf ((mu a).2.2.2)])) hac9
      rw [← ew17] at hw18
      have kpw19 := kp0.up (a := a) (e := .inr (2, [.int (nI v.1), .ref ra9, .ref ba9, .int (nI v.2.length), .int (nI (nsz v.1 v.2)), .int (lastK v.2), .int (nI (lastL v.2)), .int (nprt v.1 v.2), .long (nadL v.2), .int ((mu a).2.1), .int ((mu a).2.2.1), va_rf ((mu a).2.2.2)])) (by simp)
      rw [← ew17] at kpw19
      refine j_aload_n O 0 dT_addressOf_121 rfl rfl ?_
      refine j_iconst O (v := 1) dT_addressOf_122 (by decide) ?_
      refine j_put O uwN hw18 rfl 9 (by decide) w150 rfl tN ftN fnN rfl (.boolean) (by decide +kernel) rfl rfl (Nat.le_of_ble_eq_true rfl) [.int (nI v.1), .ref ra9, .ref ba9, .int (nI v.2.length), .int (nI (nsz v.1 v.2)), .int (lastK v.2), .int (nI (lastL v.2)), .int (nprt v.1 v.2), .long (nadL v.2), .int 1, .int ((mu a).2.2.1), va_rf ((mu a).2.2.2)] rfl dT_addressOf_123 (fun gw20 ew21 => ?_)
      have hw22 := gUp_self (e' := .inr (2, [.int (nI v.1), .ref ra9, .ref ba9, .int (nI v.2.length), .int (nI (nsz v.1 v.2)), .int (lastK v.2), .int (nI (lastL v.2)), .int (nprt v.1 v.2), .long (nadL v.2), .int 1, .int ((mu a).2.2.1), va_rf ((mu a).2.2.2)])) hw18
      rw [← ew21] at hw22
      have kpw23 := kpw19.up (a := a) (e := .inr (2, [.int (nI v.1), .ref ra9, .ref ba9, .int (nI v.2.length), .int (nI (nsz v.1 v.2)), .int (lastK v.2), .int (nI (lastL v.2)), .int (nprt v.1 v.2), .long (nadL v.2), .int 1, .int ((mu a).2.2.1), va_rf ((mu a).2.2.2)])) (by simp)
      rw [← ew21] at kpw23
      refine j_lload_n O 2 dT_addressOf_126 rfl rfl ?_
      have hN9 : NI t gw20 (N, K, va_up mu a (nadL v.2, 1, (mu a).2.2), I, R) := by
        refine hN.mut hv (Or.inr ⟨rfl, hval⟩) (fun x e hx _ he => kpw23.2 x e (one_ne hx) he) (fun ra' ba' hc => ?_)
        have e := hac9.eq hc
        simp only [Sum.inr.injEq, Prod.mk.injEq, List.cons.injEq, Value.ref.injEq, true_and, and_true] at e
        rw [← e.1, ← e.2]
        exact hw22
      exact j_lret O M (Nat.le_of_ble_eq_true rfl) (Nat.le_of_ble_eq_true rfl) ⟨by rw [← hval], _, hN9, muA.rf (mu := mu).tr (fun x => by
            by_cases hx : x = a
            · subst hx; rw [va_up_self]
            · rw [va_up_ne _ _ hx]), (KN.rf (M := []) (N := N) (g := g)).tr ⟨kpw23.1, fun x e _ n2 he => kpw23.2 x e (one_ne (fun z => by rw [z, hv] at n2; cases n2)) he⟩⟩ dT_addressOf_127
    · have hq : (mu a).1 = nad v.1 v.2 := by
        rcases had with z | z
        · exact absurd z c1
        · exact z.2
      refine j_aload_n O 0 dT_addressOf_11 rfl rfl ?_
      refine j_get O uwN hac rfl 8 (by decide) w148 rfl rfl dT_addressOf_12 ?_
      exact j_lret O M (Nat.le_of_ble_eq_true rfl) (Nat.le_of_ble_eq_true rfl) ⟨by rw [hq], mu, hN, muA.rf, KN.rf⟩ dT_addressOf_15
  | succ d IH =>
    intro a v g mu hv hvd hd5 hN
    obtain ⟨hvo, hIa, ⟨ra, ba, nr, fr, fb, iA, iB, hac, hra, hba, -, h0, h0', hfb, h8⟩, had⟩ := hN a v hv
    dsimp only at hac hba h0 hfb h8 had hIa iA iB hra
    have hbaN : N ba = none := hN.no hba (fun _ _ _ _ _ => by simp)
    have hkl : (K a).length ≤ 300 := by
      cases hv1 : v.1 with
      | zero => rw [(h0 hv1).2.1]; exact Nat.zero_le _
      | succ h' =>
        rw [(h8 h' hv1).1]
        exact Nat.le_trans (runs_len_le _ _) hvo.2.1
    refine Ct.of (cc := bT_addressOf) (maxL := 8) (ret := (some .long)) (by decide) (Nat.le_of_ble_eq_true rfl) (fun X hlX O M hNn => ?_)
    show J X 8 (zz D t A) g 0 0 0 [(0, .ref a), (1, .int (nI (d + 1)))] []
    refine j_iload_n O 1 dT_addressOf_0 rfl rfl ?_
    refine j_if_lt O 11 dT_addressOf_1 (by decide) (fun c => absurd c (nI_pos (by omega))) (fun c => ?_)
    refine j_aload_n O 0 dT_addressOf_4 rfl rfl ?_
    refine j_get O uwN hac rfl 9 (by decide) w150 rfl rfl dT_addressOf_5 ?_
    refine j_if_eq O 16 dT_addressOf_8 (by decide) (fun c1 => ?_) (fun c1 => ?_)
    · refine j_ldc2 O 1469598103934665603 w364 dT_addressOf_16 ?_
      refine j_aload_n O 0 dT_addressOf_19 rfl rfl ?_
      refine j_get O uwN hac rfl 0 (by decide) w132 rfl rfl dT_addressOf_20 ?_
      refine j_i2l O dT_addressOf_23 ?_
      refine j_callS O [.long 1469598103934665603, .long ((nI v.1).toInt64)] (c_mixed X.2.1 D t A g _ _) w365 w366 w23 w367 2 rfl rfl rfl (by decide +kernel) ⟨(by show 0 + 1 ≤ (d + 1) + 2; omega), (by show 8 + (4 + 11) + 0 ≤ 30 * (d + 1) + 60; omega)⟩ rfl (Nat.le_of_ble_eq_true rfl) dT_addressOf_24 ⟨(Nat.le_of_ble_eq_true rfl), (Nat.le_of_ble_eq_true rfl)⟩ (fun vw24 gw25 hpw26 => ?_)
      obtain ⟨rfl, hgw27⟩ := hpw26
      have hgw27 := hgw27.symm
      subst hgw27
      rcases Nat.eq_zero_or_pos v.1 with hv0 | hvp
      · obtain ⟨hnr, hk0, hrr⟩ := h0 hv0
        subst hnr
        have e0 : adM 1469598103934665603 (nI v.1).toInt64 = nadL (v.2.take 0) := by rw [hv0]; rfl
        refine j_eql (nadL (v.2.take 0)) e0 ?_
        refine j_lstore_n O 2 [(2, .long (nadL (v.2.take 0))), (0, .ref a), (1, .int (nI (d + 1)))] dT_addressOf_27 rfl (by decide) rfl ?_
        refine j_aload_n O 0 dT_addressOf_28 rfl rfl ?_
        refine j_get O uwN hac rfl 1 (by decide) w134 rfl rfl dT_addressOf_29 ?_
        refine j_astore O [(4, .ref ra), (2, .long (nadL (v.2.take 0))), (0, .ref a), (1, .int (nI (d + 1)))] dT_addressOf_32 (by decide) rfl ?_
        refine j_aload O dT_addressOf_34 rfl ?_
        refine j_alen O hra 1 rfl dT_addressOf_36 ?_
        refine j_istore O [(5, .int (nI v.2.length)), (4, .ref ra), (2, .long (nadL (v.2.take 0))), (0, .ref a), (1, .int (nI (d + 1)))] dT_addressOf_37 (by decide) rfl ?_
        refine j_iconst O (v := 0) dT_addressOf_39 (by decide) ?_
        refine j_istore O [(6, .int 0), (5, .int (nI v.2.length)), (4, .ref ra), (2, .long (nadL (v.2.take 0))), (0, .ref a), (1, .int (nI (d + 1)))] dT_addressOf_40 (by decide) rfl ?_
        refine J.pk [4, 5, 3, 2, 1, 0] rfl ?_
        refine addressOf_rows (k0 := 0) (n0 := 0) O hra hrr hvo.2.1 hvo.2.2.1 ⟨Nat.le_add_left _ _, by show 60 ≤ 30 * (d + 1) + 60; omega, Nat.le_refl _, Nat.le_refl _⟩ ?_ v.2.length 0 (Nat.zero_add _)
        have hkl0 : (K a).length = 0 := by rw [hk0]; rfl
        have hval : nadL v.2 = nad v.1 v.2 := by rw [hv0]; rfl
        refine j_aload_n O 0 dT_addressOf_69 rfl rfl ?_
        refine j_get O uwN hac rfl 2 (by decide) w136 rfl rfl dT_addressOf_70 ?_
        refine j_astore O [(4, .ref ba), (0, .ref a), (1, .int (nI (d + 1))), (2, .long (nadL v.2))] dT_addressOf_73 (by decide) rfl ?_
        refine j_aload O dT_addressOf_75 rfl ?_
        refine j_alen O hba 2 rfl dT_addressOf_77 ?_
        refine j_istore O [(5, .int (nI ((K a).length))), (4, .ref ba), (0, .ref a), (1, .int (nI (d + 1))), (2, .long (nadL v.2))] dT_addressOf_78 (by decide) rfl ?_
        refine j_iconst O (v := 0) dT_addressOf_80 (by decide) ?_
        refine j_istore O [(6, .int 0), (5, .int (nI ((K a).length))), (4, .ref ba), (0, .ref a), (1, .int (nI (d + 1))), (2, .long (nadL v.2))] dT_addressOf_81 (by decide) rfl ?_
        refine j_iload O dT_addressOf_83 rfl ?_
        refine j_iload O dT_addressOf_85 rfl ?_
        refine j_icmp_ge O 116 dT_addressOf_87 (by decide) (fun c => ?_) (fun c => absurd (by rw [hkl0]; decide) c)
        refine J.pk [3, 4, 5] rfl ?_
        obtain ⟨ra9, ba9, hac9⟩ := hN.cell hv
        have kp0 : Kp [a] g g := Kp.rf
        refine j_aload_n O 0 dT_addressOf_116 rfl rfl ?_
        refine j_lload_n O 2 dT_addressOf_117 rfl rfl ?_
        refine j_put O uwN hac9 rfl 8 (by decide) w148 rfl tN ftN fnN rfl (.long) (by decide +kernel) rfl rfl (Nat.le_of_ble_eq_true rfl) [.int (nI v.1), .ref ra9, .ref ba9, .int (nI v.2.length), .int (nI (nsz v.1 v.2)), .int (lastK v.2), .int (nI (lastL v.2)), .int (nprt v.1 v.2), .long (nadL v.2), .int ((mu a).2.1), .int ((mu a).2.2.1), va_rf ((mu a).2.2.2)] rfl dT_addressOf_118 (fun gw28 ew29 => ?_)
        have hw30 := gUp_self (e' := .inr (2, [.int (nI v.1), .ref ra9, .ref ba9, .int (nI v.2.length), .int (nI (nsz v.1 v.2)), .int (lastK v.2), .int (nI (lastL v.2)), .int (nprt v.1 v.2), .long (nadL v.2), .int ((mu a).2.1), .int ((mu a).2.2.1), va_rf ((mu a).2.2.2)])) hac9
        rw [← ew29] at hw30
        have kpw31 := kp0.up (a := a) (e := .inr (2, [.int (nI v.1), .ref ra9, .ref ba9, .int (nI v.2.length), .int (nI (nsz v.1 v.2)), .int (lastK v.2), .int (nI (lastL v.2)), .int (nprt v.1 v.2), .long (nadL v.2), .int ((mu a).2.1), .int ((mu a).2.2.1), va_rf ((mu a).2.2.2)])) (by simp)
        rw [← ew29] at kpw31
        refine j_aload_n O 0 dT_addressOf_121 rfl rfl ?_
        refine j_iconst O (v := 1) dT_addressOf_122 (by decide) ?_
        refine j_put O uwN hw30 rfl 9 (by decide) w150 rfl tN ftN fnN rfl (.boolean) (by decide +kernel) rfl rfl (Nat.le_of_ble_eq_true rfl) [.int (nI v.1), .ref ra9, .ref ba9, .int (nI v.2.length), .int (nI (nsz v.1 v.2)), .int (lastK v.2), .int (nI (lastL v.2)), .int (nprt v.1 v.2), .long (nadL v.2), .int 1, .int ((mu a).2.2.1), va_rf ((mu a).2.2.2)] rfl dT_addressOf_123 (fun gw32 ew33 => ?_)
        have hw34 := gUp_self (e' := .inr (2, [.int (nI v.1), .ref ra9, .ref ba9, .int (nI v.2.length), .int (nI (nsz v.1 v.2)), .int (lastK v.2), .int (nI (lastL v.2)), .int (nprt v.1 v.2), .long (nadL v.2), .int 1, .int ((mu a).2.2.1), va_rf ((mu a).2.2.2)])) hw30
        rw [← ew33] at hw34
        have kpw35 := kpw31.up (a := a) (e := .inr (2, [.int (nI v.1), .ref ra9, .ref ba9, .int (nI v.2.length), .int (nI (nsz v.1 v.2)), .int (lastK v.2), .int (nI (lastL v.2)), .int (nprt v.1 v.2), .long (nadL v.2), .int 1, .int ((mu a).2.2.1), va_rf ((mu a).2.2.2)])) (by simp)
        rw [← ew33] at kpw35
        refine j_lload_n O 2 dT_addressOf_126 rfl rfl ?_
        have hN9 : NI t gw32 (N, K, va_up mu a (nadL v.2, 1, (mu a).2.2), I, R) := by
          refine hN.mut hv (Or.inr ⟨rfl, hval⟩) (fun x e hx _ he => kpw35.2 x e (one_ne hx) he) (fun ra' ba' hc => ?_)
          have e := hac9.eq hc
          simp only [Sum.inr.injEq, Prod.mk.injEq, List.cons.injEq, Value.ref.injEq, true_and, and_true] at e
          rw [← e.1, ← e.2]
          exact hw34
        exact j_lret O M (Nat.le_of_ble_eq_true rfl) (Nat.le_of_ble_eq_true rfl) ⟨by rw [← hval], _, hN9, muA.rf (mu := mu).tr (fun x => by
              by_cases hx : x = a
              · subst hx; rw [va_up_self]
              · rw [va_up_ne _ _ hx]), (KN.rf (M := []) (N := N) (g := g)).tr ⟨kpw35.1, fun x e _ n2 he => kpw35.2 x e (one_ne (fun z => by rw [z, hv] at n2; cases n2)) he⟩⟩ dT_addressOf_127
      · obtain ⟨h, hvh⟩ : ∃ h, v.1 = h + 1 := ⟨v.1 - 1, by omega⟩
        have hnr := h0' (by omega)
        subst hnr
        obtain ⟨q1, q2⟩ := h8 h hvh
        have e0 : adM 1469598103934665603 (nI v.1).toInt64 = nadB h ((runs (h + 1) v.2).take 0) := by rw [hvh]; rfl
        have hval : nadB h (runs (h + 1) v.2) = nad v.1 v.2 := by rw [hvh]; rfl
        refine j_eql (nadB h ((runs (h + 1) v.2).take 0)) e0 ?_
        refine j_lstore_n O 2 [(2, .long (nadB h ((runs (h + 1) v.2).take 0))), (0, .ref a), (1, .int (nI (d + 1)))] dT_addressOf_27 rfl (by decide) rfl ?_
        refine j_aload_n O 0 dT_addressOf_28 rfl rfl ?_
        refine j_get O uwN hac rfl 1 (by decide) w134 rfl rfl dT_addressOf_29 ?_
        refine j_astore O [(4, .ref ra), (2, .long (nadB h ((runs (h + 1) v.2).take 0))), (0, .ref a), (1, .int (nI (d + 1)))] dT_addressOf_32 (by decide) rfl ?_
        refine j_aload O dT_addressOf_34 rfl ?_
        refine j_alen O hra 1 rfl dT_addressOf_36 ?_
        refine j_istore O [(5, .int (nI 0)), (4, .ref ra), (2, .long (nadB h ((runs (h + 1) v.2).take 0))), (0, .ref a), (1, .int (nI (d + 1)))] dT_addressOf_37 (by decide) rfl ?_
        refine j_iconst O (v := 0) dT_addressOf_39 (by decide) ?_
        refine j_istore O [(6, .int 0), (5, .int (nI 0)), (4, .ref ra), (2, .long (nadB h ((runs (h + 1) v.2).take 0))), (0, .ref a), (1, .int (nI (d + 1)))] dT_addressOf_40 (by decide) rfl ?_
        refine j_iload O dT_addressOf_42 rfl ?_
        refine j_iload O dT_addressOf_44 rfl ?_
        refine j_icmp_ge O 69 dT_addressOf_46 (by decide) (fun c => ?_) (fun c => absurd (by decide) c)
        refine j_aload_n O 0 dT_addressOf_69 rfl rfl ?_
        refine j_get O uwN hac rfl 2 (by decide) w136 rfl rfl dT_addressOf_70 ?_
        refine j_astore O [(4, .ref ba), (6, .int 0), (5, .int (nI 0)), (2, .long (nadB h ((runs (h + 1) v.2).take 0))), (0, .ref a), (1, .int (nI (d + 1)))] dT_addressOf_73 (by decide) rfl ?_
        refine j_aload O dT_addressOf_75 rfl ?_
        refine j_alen O hba 2 rfl dT_addressOf_77 ?_
        refine j_istore O [(5, .int (nI ((K a).length))), (4, .ref ba), (6, .int 0), (2, .long (nadB h ((runs (h + 1) v.2).take 0))), (0, .ref a), (1, .int (nI (d + 1)))] dT_addressOf_78 (by decide) rfl ?_
        refine j_iconst O (v := 0) dT_addressOf_80 (by decide) ?_
        refine j_istore O [(6, .int 0), (5, .int (nI ((K a).length))), (4, .ref ba), (2, .long (nadB h ((runs (h + 1) v.2).take 0))), (0, .ref a), (1, .int (nI (d + 1)))] dT_addressOf_81 (by decide) rfl ?_
        refine J.pk [4, 5, 3, 2, 1, 0] rfl ?_
        refine addressOf_loop (k0 := 0) (n0 := 0) (mu := mu) (d := d) O hba hbaN hfb hkl q1 ⟨Nat.le_refl _, Nat.le_refl _, Nat.le_refl _, Nat.le_refl _⟩ (fun i hi hj g1 mu1 hN1 => by rw [hlX]; exact IH _ _ g1 mu1 (q2 i hi hj) (by omega) (by omega) hN1) (fun g1 mu1 hN1 hm1 hk1 => ?_) (K a).length 0 g mu (Nat.zero_add _) hN muA.rf KN.rf
        obtain ⟨ra9, ba9, hac9⟩ := hN1.cell hv
        have kp0 : Kp [a] g1 g1 := Kp.rf
        refine j_aload_n O 0 dT_addressOf_116 rfl rfl ?_
        refine j_lload_n O 2 dT_addressOf_117 rfl rfl ?_
        refine j_put O uwN hac9 rfl 8 (by decide) w148 rfl tN ftN fnN rfl (.long) (by decide +kernel) rfl rfl (Nat.le_of_ble_eq_true rfl) [.int (nI v.1), .ref ra9, .ref ba9, .int (nI v.2.length), .int (nI (nsz v.1 v.2)), .int (lastK v.2), .int (nI (lastL v.2)), .int (nprt v.1 v.2), .long (nadB h (runs (h + 1) v.2)), .int ((mu1 a).2.1), .int ((mu1 a).2.2.1), va_rf ((mu1 a).2.2.2)] rfl dT_addressOf_118 (fun gw36 ew37 => ?_)
        have hw38 := gUp_self (e' := .inr (2, [.int (nI v.1), .ref ra9, .ref ba9, .int (nI v.2.length), .int (nI (nsz v.1 v.2)), .int (lastK v.2), .int (nI (lastL v.2)), .int (nprt v.1 v.2), .long (nadB h (runs (h + 1) v.2)), .int ((mu1 a).2.1), .int ((mu1 a).2.2.1), va_rf ((mu1 a).2.2.2)])) hac9
        rw [← ew37] at hw38
        have kpw39 := kp0.up (a := a) (e := .inr (2, [.int (nI v.1), .ref ra9, .ref ba9, .int (nI v.2.length), .int (nI (nsz v.1 v.2)), .int (lastK v.2), .int (nI (lastL v.2)), .int (nprt v.1 v.2), .long (nadB h (runs (h + 1) v.2)), .int ((mu1 a).2.1), .int ((mu1 a).2.2.1), va_rf ((mu1 a).2.2.2)])) (by simp)
        rw [← ew37] at kpw39
        refine j_aload_n O 0 dT_addressOf_121 rfl rfl ?_
        refine j_iconst O (v := 1) dT_addressOf_122 (by decide) ?_
        refine j_put O uwN hw38 rfl 9 (by decide) w150 rfl tN ftN fnN rfl (.boolean) (by decide +kernel) rfl rfl (Nat.le_of_ble_eq_true rfl) [.int (nI v.1), .ref ra9, .ref ba9, .int (nI v.2.length), .int (nI (nsz v.1 v.2)), .int (lastK v.2), .int (nI (lastL v.2)), .int (nprt v.1 v.2), .long (nadB h (runs (h + 1) v.2)), .int 1, .int ((mu1 a).2.2.1), va_rf ((mu1 a).2.2.2)] rfl dT_addressOf_123 (fun gw40 ew41 => ?_)
        have hw42 := gUp_self (e' := .inr (2, [.int (nI v.1), .ref ra9, .ref ba9, .int (nI v.2.length), .int (nI (nsz v.1 v.2)), .int (lastK v.2), .int (nI (lastL v.2)), .int (nprt v.1 v.2), .long (nadB h (runs (h + 1) v.2)), .int 1, .int ((mu1 a).2.2.1), va_rf ((mu1 a).2.2.2)])) hw38
        rw [← ew41] at hw42
        have kpw43 := kpw39.up (a := a) (e := .inr (2, [.int (nI v.1), .ref ra9, .ref ba9, .int (nI v.2.length), .int (nI (nsz v.1 v.2)), .int (lastK v.2), .int (nI (lastL v.2)), .int (nprt v.1 v.2), .long (nadB h (runs (h + 1) v.2)), .int 1, .int ((mu1 a).2.2.1), va_rf ((mu1 a).2.2.2)])) (by simp)
        rw [← ew41] at kpw43
        refine j_lload_n O 2 dT_addressOf_126 rfl rfl ?_
        have hN9 : NI t gw40 (N, K, va_up mu1 a (nadB h (runs (h + 1) v.2), 1, (mu1 a).2.2), I, R) := by
          refine hN1.mut hv (Or.inr ⟨rfl, hval⟩) (fun x e hx _ he => kpw43.2 x e (one_ne hx) he) (fun ra' ba' hc => ?_)
          have e := hac9.eq hc
          simp only [Sum.inr.injEq, Prod.mk.injEq, List.cons.injEq, Value.ref.injEq, true_and, and_true] at e
          rw [← e.1, ← e.2]
          exact hw42
        exact j_lret O M (Nat.le_of_ble_eq_true rfl) (Nat.le_of_ble_eq_true rfl) ⟨by rw [← hval], _, hN9, hm1.tr (fun x => by
              by_cases hx : x = a
              · subst hx; rw [va_up_self]
              · rw [va_up_ne _ _ hx]), hk1.tr ⟨kpw43.1, fun x e _ n2 he => kpw43.2 x e (one_ne (fun z => by rw [z, hv] at n2; cases n2)) he⟩⟩ dT_addressOf_127
    · have hq : (mu a).1 = nad v.1 v.2 := by
        rcases had with z | z
        · exact absurd z c1
        · exact z.2
      refine j_aload_n O 0 dT_addressOf_11 rfl rfl ?_
      refine j_get O uwN hac rfl 8 (by decide) w148 rfl rfl dT_addressOf_12 ?_
      exact j_lret O M (Nat.le_of_ble_eq_true rfl) (Nat.le_of_ble_eq_true rfl) ⟨by rw [hq], mu, hN, muA.rf, KN.rf⟩ dT_addressOf_15
