/-- the number of a table -/
theorem tb_of {x : Int32} (h : 0 ≤ x ∧ x < 6) : ∃ i, i < 6 ∧ x = nI i := by
  have h1 := Int32.le_iff_toInt_le.mp h.1
  have h2 := Int32.lt_iff_toInt_lt.mp h.2
  have e0 : (0 : Int32).toInt = 0 := by decide
  have e6 : (6 : Int32).toInt = 6 := by decide
  refine ⟨x.toInt.toNat, by omega, Int32.toInt_inj.mp ?_⟩
  rw [nI_toInt (by omega)]
  omega
theorem tb_is {i : Nat} (h : i < 6) : 0 ≤ nI i ∧ nI i < 6 := by
  rcases (show i = 0 ∨ i = 1 ∨ i = 2 ∨ i = 3 ∨ i = 4 ∨ i = 5 by omega) with rfl | rfl | rfl | rfl | rfl | rfl <;> decide
theorem stmp_iff {mu : Nat → MU} {s : Int32} {L : List Nat} {x : Nat} (h : ¬ (mu x).2.2.1 = s) : (stmp mu s L x).2.2.1 = s ↔ x ∈ L := by
  constructor
  · intro hs
    by_cases hx : x ∈ L
    · exact hx
    · rw [stmp_out hx] at hs; exact absurd hs h
  · exact stmp_in
theorem three_ne {x a b c : Nat} (h1 : x ≠ a) (h2 : x ≠ b) (h3 : x ≠ c) : x ∉ [a, b, c] := fun q => by
  simp only [List.mem_cons, List.not_mem_nil, or_false] at q
  rcases q with z | z | z
  · exact h1 z
  · exact h2 z
  · exact h3 z
theorem KN.of {M : List Nat} {N : NM} {g g' : GH} (h : Kp M g g') : KN M N g g' := ⟨h.1, fun x e n _ he => h.2 x e n he⟩
set_option maxRecDepth 100000 in
set_option maxHeartbeats 1000000 in
theorem c_newStamp (l : Launch) (D : va_G) (t : Nat → ClassId) (A : Nat → Prop) (g : GH) (T aW aR sA dA qF qE aL ls : Nat) (hT : gAt g T (eTT aW aR sA dA qF qE aL (nI ls))) : Ct l yT_newStamp sT_newStamp { frames := 0, cells := 0, slots := 0, locals := 0 } (zz D t A) [.ref T] g 0 0 (fun v g' => v = some (.int (nI (ls + 1))) ∧ gAt g' T (eTT aW aR sA dA qF qE aL (nI (ls + 1))) ∧ Kp [T] g g') := by
  refine Ct.of (cc := bT_newStamp) (maxL := 1) (ret := (some .int)) (by decide) (Nat.le_of_ble_eq_true rfl) (fun X hlX O M hNn => ?_)
  show J X 1 (zz D t A) g 0 0 0 [(0, .ref T)] []
  have kp0 : Kp [T] g g := Kp.rf
  refine j_aload_n O 0 dT_newStamp_0 rfl rfl ?_
  refine j_dup O dT_newStamp_1 rfl ?_
  refine j_get O uwT hT rfl 7 (by decide) w199 rfl rfl dT_newStamp_2 ?_
  refine j_iconst O (v := 1) dT_newStamp_5 (by decide) ?_
  refine j_iadd O dT_newStamp_6 ?_
  refine j_eqi (nI (ls + 1)) (nI_1 _) ?_
  refine j_put O uwT hT rfl 7 (by decide) w199 rfl tT ftT fnT rfl (.int) (by decide +kernel) rfl rfl (Nat.le_of_ble_eq_true rfl) [.ref aW, .ref aR, .ref sA, .ref dA, .ref qF, .ref qE, .ref aL, .int (nI (ls + 1))] rfl dT_newStamp_7 (fun gw1 ew2 => ?_)
  have hw3 := gUp_self (e' := .inr (0, [.ref aW, .ref aR, .ref sA, .ref dA, .ref qF, .ref qE, .ref aL, .int (nI (ls + 1))])) hT
  rw [← ew2] at hw3
  have kpw4 := kp0.up (a := T) (e := .inr (0, [.ref aW, .ref aR, .ref sA, .ref dA, .ref qF, .ref qE, .ref aL, .int (nI (ls + 1))])) (by simp)
  rw [← ew2] at kpw4
  refine j_aload_n O 0 dT_newStamp_10 rfl rfl ?_
  refine j_get O uwT hw3 rfl 7 (by decide) w199 rfl rfl dT_newStamp_11 ?_
  exact j_iret O M (Nat.le_of_ble_eq_true rfl) (Nat.le_of_ble_eq_true rfl) ⟨rfl, hw3, kpw4⟩ dT_newStamp_14
set_option maxRecDepth 100000 in
set_option maxHeartbeats 1000000 in
theorem c_isColumn (l : Launch) (D : va_G) (t : Nat → ClassId) (A : Nat → Prop) (g : GH) (T aW aR sA dA qF qE aL : Nat) (ls x y : Int32) (f : Nat → Int32) (hT : gAt g T (eTT aW aR sA dA qF qE aL ls)) (hW : gAt g aW (eI t 6 f)) : Ct l yT_isColumn sT_isColumn { frames := 1, cells := 0, slots := 0, locals := 30 } (zz D t A) [.ref T, .int x, .int y] g 0 0 (fun v g' => ∃ z : Int32, v = some (.int z) ∧ ((z = 1 ∧ (∃ i, i < 6 ∧ x = nI i ∧ 0 ≤ y ∧ y < f i)) ∨ (z = 0 ∧ ¬ (∃ i, i < 6 ∧ x = nI i ∧ 0 ≤ y ∧ y < f i))) ∧ g' = g) := by
  refine Ct.of (cc := bT_isColumn) (maxL := 3) (ret := (some .boolean)) (by decide) (Nat.le_of_ble_eq_true rfl) (fun X hlX O M hNn => ?_)
  show J X 3 (zz D t A) g 0 0 0 [(0, .ref T), (1, .int x), (2, .int y)] []
  refine j_iload_n O 1 dT_isColumn_0 rfl rfl ?_
  refine j_callS O [.int x] (c_isTable X.2.1 D t A g x) w221 w222 w23 w223 1 rfl rfl rfl (by decide +kernel) ⟨(Nat.le_of_ble_eq_true rfl), (Nat.le_of_ble_eq_true rfl)⟩ rfl (Nat.le_of_ble_eq_true rfl) dT_isColumn_1 ⟨(Nat.le_of_ble_eq_true rfl), (Nat.le_of_ble_eq_true rfl)⟩ (fun vw5 gw6 hpw7 => ?_)
  obtain ⟨rfl, hgw8⟩ := hpw7
  have hgw8 := hgw8.symm
  subst hgw8
  refine j_if_eq O 25 dT_isColumn_4 (by decide) (fun c1 => ?_) (fun c1 => ?_)
  · have hx : ¬ (0 ≤ x ∧ x < 6) := fun z => by rw [if_pos z] at c1; exact absurd c1 (by decide)
    refine j_iconst O (v := 0) dT_isColumn_25 (by decide) ?_
    exact j_zret O (by decide) M (Nat.le_of_ble_eq_true rfl) (Nat.le_of_ble_eq_true rfl) ⟨0, rfl, Or.inr ⟨rfl, fun ⟨i, hi, e, _⟩ => hx (e ▸ tb_is hi)⟩, rfl⟩ dT_isColumn_26
  · have hx : 0 ≤ x ∧ x < 6 := by
      by_cases z : 0 ≤ x ∧ x < 6
      · exact z
      · rw [if_neg z] at c1; exact absurd rfl c1
    obtain ⟨i, hi, rfl⟩ := tb_of hx
    refine j_iload_n O 2 dT_isColumn_7 rfl rfl ?_
    refine j_if_lt O 25 dT_isColumn_8 (by decide) (fun c2 => ?_) (fun c2 => ?_)
    · refine j_iconst O (v := 0) dT_isColumn_25 (by decide) ?_
      exact j_zret O (by decide) M (Nat.le_of_ble_eq_true rfl) (Nat.le_of_ble_eq_true rfl) ⟨0, rfl, Or.inr ⟨rfl, fun ⟨j, hj, e, h0, _⟩ => absurd c2 (fun z => absurd (Int32.lt_iff_toInt_lt.mp z) (by have := Int32.le_iff_toInt_le.mp h0; omega))⟩, rfl⟩ dT_isColumn_26
    · have h0 : 0 ≤ y := Int32.le_iff_toInt_le.mpr (by have z : ¬ y.toInt < (0 : Int32).toInt := fun z => c2 (Int32.lt_iff_toInt_lt.mpr z); omega)
      refine j_iload_n O 2 dT_isColumn_11 rfl rfl ?_
      refine j_aload_n O 0 dT_isColumn_12 rfl rfl ?_
      refine j_get O uwT hT rfl 0 (by decide) w192 rfl rfl dT_isColumn_13 ?_
      refine j_iload_n O 1 dT_isColumn_16 rfl rfl ?_
      refine j_iald O hW 0 rfl (by omega) (by omega) dT_isColumn_17 ?_
      refine j_icmp_ge O 25 dT_isColumn_18 (by decide) (fun c3 => ?_) (fun c3 => ?_)
      · refine j_iconst O (v := 0) dT_isColumn_25 (by decide) ?_
        exact j_zret O (by decide) M (Nat.le_of_ble_eq_true rfl) (Nat.le_of_ble_eq_true rfl) ⟨0, rfl, Or.inr ⟨rfl, fun ⟨j, hj, e, _, hy⟩ => by
          have ej : j = i := by
            have := congrArg Int32.toInt e
            rw [nI_toInt (by omega), nI_toInt (by omega)] at this
            omega
          subst ej
          exact absurd (Int32.lt_iff_toInt_lt.mp hy) (by have := Int32.le_iff_toInt_le.mp c3; omega)⟩, rfl⟩ dT_isColumn_26
      · refine j_iconst O (v := 1) dT_isColumn_21 (by decide) ?_
        refine j_goto O 26 dT_isColumn_22 (by decide) ?_
        exact j_zret O (by decide) M (Nat.le_of_ble_eq_true rfl) (Nat.le_of_ble_eq_true rfl) ⟨1, rfl, Or.inl ⟨rfl, i, hi, rfl, h0, Int32.lt_iff_toInt_lt.mpr (by have z : ¬ (f i).toInt ≤ y.toInt := fun z => c3 (Int32.le_iff_toInt_le.mpr z); omega)⟩, rfl⟩ dT_isColumn_26
set_option maxRecDepth 100000 in
set_option maxHeartbeats 1000000 in
theorem c_draftRowsOf (l : Launch) (D : va_G) (t : Nat → ClassId) (A : Nat → Prop) (g : GH) (T aW aR sA dA qF bF qE aL ls i r : Nat) (w : GD) (v0 : NV) (fR f0 : Nat → Option Nat) (n0 : Int32) (hT : gAt g T (eTT aW aR sA dA qF qE aL (nI ls))) (hR : gAt g aR (eNs t 6 fR)) (hi6 : i < 6) (hfr : fR i = some r) (hv : w.1 r = some v0) (hN : NI t g w) (hst : ∀ x u, w.1 x = some u → ¬ (w.2.2.1 x).2.2.1 = nI (ls + 1)) (hq : gAt g qF (eRL bF n0)) (hb : gAt g bF (eRs t 300 f0)) (hIT : ¬ w.2.2.2.1 T) (hIq : ¬ w.2.2.2.1 qF) (hIb : ¬ w.2.2.2.1 bF) : Ct l yT_draftRowsOf sT_draftRowsOf { frames := 8, cells := 0, slots := 0, locals := 260 } (zz D t A) [.ref T, .int (nI i)] g 0 0 (fun v g' => v = none ∧ gAt g' T (eTT aW aR sA dA qF qE aL (nI (ls + 1))) ∧ rlI t g' w.2.2.2.1 qF bF v0.2 ∧ Kp [T, qF, bF] g g') := by
  refine Ct.of (cc := bT_draftRowsOf) (maxL := 2) (ret := none) (by decide) (Nat.le_of_ble_eq_true rfl) (fun X hlX O M hNn => ?_)
  show J X 2 (zz D t A) g 0 0 0 [(0, .ref T), (1, .int (nI i))] []
  have kp0 : Kp [T, qF, bF] g g := Kp.rf
  have hvo := (hN r v0 hv).1
  have hTn : w.1 T = none := hN.no hT (fun _ _ _ _ _ => by simp)
  have hqn : w.1 qF = none := hN.no hq (fun _ _ _ _ _ => by simp)
  have hbn : w.1 bF = none := hN.no hb (fun _ _ _ _ _ => by simp)
  have hkn : ∀ g1, Kp [T, qF, bF] g g1 → NI t g1 w := fun g1 hk => hN.keep (fun x e hx he => hk.2 x e (three_ne (fun z => by
    subst z; rcases hx with z | ⟨u, z⟩
    · exact hIT z
    · rw [hTn] at z; cases z) (fun z => by
    subst z; rcases hx with z | ⟨u, z⟩
    · exact hIq z
    · rw [hqn] at z; cases z) (fun z => by
    subst z; rcases hx with z | ⟨u, z⟩
    · exact hIb z
    · rw [hbn] at z; cases z)) he)
  have hall : gth w.1 w.2.1 w.2.2.1 (nI (ls + 1)) v0.1 r = v0.2 := gth_all hN (show w.1 r = some (v0.1, v0.2) from hv) hst
  refine j_aload_n O 0 dT_draftRowsOf_0 rfl rfl ?_
  refine j_get O uwT hT rfl 4 (by decide) w196 rfl rfl dT_draftRowsOf_1 ?_
  refine j_iconst O (v := 0) dT_draftRowsOf_4 (by decide) ?_
  refine j_put O uwQ hq rfl 1 (by decide) w97 rfl tQ ftQ fnQ rfl (.int) (by decide +kernel) rfl rfl (Nat.le_of_ble_eq_true rfl) [.ref bF, .int 0] rfl dT_draftRowsOf_5 (fun gw9 ew10 => ?_)
  have hw11 := gUp_ne (e' := .inr (4, [.ref bF, .int 0])) hT (hT.ne hq (by simp))
  rw [← ew10] at hw11
  have hw12 := gUp_ne (e' := .inr (4, [.ref bF, .int 0])) hR (hR.ne hq (by simp))
  rw [← ew10] at hw12
  have hw13 := gUp_ne (e' := .inr (4, [.ref bF, .int 0])) hb (hb.ne hq (by simp))
  rw [← ew10] at hw13
  have hw14 := gUp_self (e' := .inr (4, [.ref bF, .int 0])) hq
  rw [← ew10] at hw14
  have kpw15 := kp0.up (a := qF) (e := .inr (4, [.ref bF, .int 0])) (by simp)
  rw [← ew10] at kpw15
  refine j_aload_n O 0 dT_draftRowsOf_8 rfl rfl ?_
  refine j_get O uwT hw11 rfl 1 (by decide) w193 rfl rfl dT_draftRowsOf_9 ?_
  refine j_iload_n O 1 dT_draftRowsOf_12 rfl rfl ?_
  refine j_aald O hw12 2 rfl (by omega) (by omega) dT_draftRowsOf_13 ?_
  refine j_some r hfr ?_
  refine j_aload_n O 0 dT_draftRowsOf_14 rfl rfl ?_
  refine j_callV O [] (c_newStamp X.2.1 D t A gw9 T aW aR sA dA qF qE aL ls hw11) hw11 rfl w254 w255 w7 w23 w256 0 rfl rfl rfl (by decide +kernel) ⟨(Nat.le_of_ble_eq_true rfl), (Nat.le_of_ble_eq_true rfl)⟩ rfl (Nat.le_of_ble_eq_true rfl) dT_draftRowsOf_15 ⟨(Nat.le_of_ble_eq_true rfl), (Nat.le_of_ble_eq_true rfl)⟩ (fun vw16 gw17 hpw18 => ?_)
  obtain ⟨rfl, hT2, hk2⟩ := hpw18
  have hqT : qF ≠ T := hq.ne hT (by simp)
  have hbT : bF ≠ T := hb.ne hT (by simp)
  have hq2 := hk2.2 qF _ (one_ne hqT) hw14
  have hb2 := hk2.2 bF _ (one_ne hbT) hw13
  have kp2 : Kp [T, qF, bF] g gw17 := kpw15.tr (hk2.mono (fun x hx => by rw [List.mem_singleton.mp hx]; exact List.mem_cons_self))
  have hrl : rlI t gw17 w.2.2.2.1 qF bF [] := ⟨hq2, f0, hb2, fun i hi => by cases hi⟩
  refine j_aload_n O 0 dT_draftRowsOf_18 rfl rfl ?_
  refine j_get O uwT hT2 rfl 4 (by decide) w196 rfl rfl dT_draftRowsOf_19 ?_
  refine j_iconst O (v := 5) dT_draftRowsOf_22 (by decide) ?_
  refine j_callS O [.ref r, .int (nI (ls + 1)), .ref qF, .int 5] (c_gather X.2.1 D t A w.1 w.2.1 w.2.2.1 w.2.2.2.1 w.2.2.2.2 (nI (ls + 1)) qF bF hIq hIb 5 r v0 v0.1 gw17 [] hv rfl hvo.1 (Nat.le_refl _) (hkn _ kp2) hrl (by rw [hall]; simp only [List.length_nil, Nat.zero_add]; exact hvo.2.1)) w257 w258 w23 w259 4 rfl rfl rfl (by decide +kernel) ⟨(Nat.le_of_ble_eq_true rfl), (Nat.le_of_ble_eq_true rfl)⟩ rfl (Nat.le_of_ble_eq_true rfl) dT_draftRowsOf_23 ⟨(Nat.le_of_ble_eq_true rfl), (Nat.le_of_ble_eq_true rfl)⟩ (fun vw19 gw20 hpw21 => ?_)
  obtain ⟨rfl, hrl3, hk3⟩ := hpw21
  rw [List.nil_append, hall] at hrl3
  have hT3 := hk3.2 T _ (two_ne hqT.symm hbT.symm) hT2
  have kp3 : Kp [T, qF, bF] g gw20 := kp2.tr (hk3.mono (fun x hx => List.mem_cons_of_mem _ hx))
  exact j_vret O M (Nat.le_of_ble_eq_true rfl) (Nat.le_of_ble_eq_true rfl) ⟨rfl, hT3, hrl3, kp3⟩ dT_draftRowsOf_26
set_option maxRecDepth 100000 in
set_option maxHeartbeats 1000000 in
theorem c_gatherUnshared (l : Launch) (D : va_G) (t : Nat → ClassId) (A : Nat → Prop) (g : GH) (T aW aR sA dA qF qE aL ls i j ri rj q b : Nat) (N : NM) (K : Nat → List Nat) (mu : Nat → MU) (I : Nat → Prop) (R : (Nat → List Nat) × List Nat) (vi vj : NV) (fR f0 : Nat → Option Nat) (n0 : Int32) (hT : gAt g T (eTT aW aR sA dA qF qE aL (nI ls))) (hR : gAt g aR (eNs t 6 fR)) (hi6 : i < 6) (hj6 : j < 6) (hfi : fR i = some ri) (hfj : fR j = some rj) (hvi : N ri = some vi) (hvj : N rj = some vj) (hN : NI t g (N, K, mu, I, R)) (hst : ∀ x u, N x = some u → ¬ (mu x).2.2.1 = nI (ls + 1)) (hq : gAt g q (eRL b n0)) (hb : gAt g b (eRs t 300 f0)) (hIT : ¬ I T) (hIq : ¬ I q) (hIb : ¬ I b) : Ct l yT_gatherUnshared sT_gatherUnshared { frames := 8, cells := 0, slots := 0, locals := 260 } (zz D t A) [.ref T, .int (nI i), .int (nI j), .ref q] g 0 0 (fun v g' => v = none ∧ gAt g' T (eTT aW aR sA dA qF qE aL (nI (ls + 1))) ∧ NI t g' (N, K, (stmp mu (nI (ls + 1)) (dsc K vj.1 rj)), I, R) ∧ rlI t g' I q b (gth N K (stmp mu (nI (ls + 1)) (dsc K vj.1 rj)) (nI (ls + 1)) vi.1 ri) ∧ KN [T, q, b] N g g') := by
  refine Ct.of (cc := bT_gatherUnshared) (maxL := 5) (ret := none) (by decide) (Nat.le_of_ble_eq_true rfl) (fun X hlX O M hNn => ?_)
  show J X 5 (zz D t A) g 0 0 0 [(0, .ref T), (1, .int (nI i)), (2, .int (nI j)), (3, .ref q)] []
  have kp0 : KN [T, q, b] N g g := KN.of Kp.rf
  have hvo := (hN rj vj hvj).1
  have hvoi := (hN ri vi hvi).1
  have hTn : N T = none := hN.no hT (fun _ _ _ _ _ => by simp)
  have hqn : N q = none := hN.no hq (fun _ _ _ _ _ => by simp)
  have hbn : N b = none := hN.no hb (fun _ _ _ _ _ => by simp)
  have hRn : N aR = none := hN.no hR (fun _ _ _ _ _ => by simp)
  have hqT : q ≠ T := hq.ne hT (by simp)
  have hbT : b ≠ T := hb.ne hT (by simp)
  have hRT : aR ≠ T := hR.ne hT (by simp)
  have hRq : aR ≠ q := hR.ne hq (by simp)
  have hRb : aR ≠ b := hR.ne hb (by simp)
  have hval : ∀ x ∈ dsc K vi.1 ri, ∃ u, N x = some u := by
    intro x hx
    have h1 : N x ∈ (dsc K vi.1 ri).map N := List.mem_map.mpr ⟨x, hx, rfl⟩
    rw [dsc_vals hN vi.1 ri vi.2 hvi] at h1
    obtain ⟨u, -, e⟩ := List.mem_map.mp h1
    exact ⟨u, e.symm⟩
  have hvalj : ∀ x ∈ dsc K vj.1 rj, ∃ u, N x = some u := by
    intro x hx
    have h1 : N x ∈ (dsc K vj.1 rj).map N := List.mem_map.mpr ⟨x, hx, rfl⟩
    rw [dsc_vals hN vj.1 rj vj.2 hvj] at h1
    obtain ⟨u, -, e⟩ := List.mem_map.mp h1
    exact ⟨u, e.symm⟩
  have hlen : (gth N K (stmp mu (nI (ls + 1)) (dsc K vj.1 rj)) (nI (ls + 1)) vi.1 ri).length ≤ 300 := by
    have hg := gth_flt hN (show N ri = some (vi.1, vi.2) from hvi) (mu := (stmp mu (nI (ls + 1)) (dsc K vj.1 rj))) (s := nI (ls + 1)) (P := fun x => x ∈ dsc K vj.1 rj) (fun x hx => (hval x hx).elim (fun u hu => stmp_iff (hst x u hu))) (fun x hx hs c hc => stmp_in (dsc_kids hN vj.1 rj vj.2 hvj x ((hval x hx).elim (fun u hu => (stmp_iff (hst x u hu)).mp hs)) c hc))
    have hg : gth N K (stmp mu (nI (ls + 1)) (dsc K vj.1 rj)) (nI (ls + 1)) vi.1 ri = _ := hg
    rw [hg]
    exact Nat.le_trans (List.length_filter_le _ _) hvoi.2.1
  refine j_aload_n O 0 dT_gatherUnshared_0 rfl rfl ?_
  refine j_callV O [] (c_newStamp X.2.1 D t A g T aW aR sA dA qF qE aL ls hT) hT rfl w254 w255 w7 w23 w256 0 rfl rfl rfl (by decide +kernel) ⟨(Nat.le_of_ble_eq_true rfl), (Nat.le_of_ble_eq_true rfl)⟩ rfl (Nat.le_of_ble_eq_true rfl) dT_gatherUnshared_1 ⟨(Nat.le_of_ble_eq_true rfl), (Nat.le_of_ble_eq_true rfl)⟩ (fun vw22 gw23 hpw24 => ?_)
  obtain ⟨rfl, hT2, hk2⟩ := hpw24
  have hR2 := hk2.2 aR _ (one_ne hRT) hR
  have hN2 : NI t gw23 (N, K, mu, I, R) := hN.keep (fun x e hx he => hk2.2 x e (one_ne (fun z => by
    subst z; rcases hx with z | ⟨u, z⟩
    · exact hIT z
    · have z : N x = some u := z
      rw [hTn] at z; cases z)) he)
  have hq2 := hk2.2 q _ (one_ne hqT) hq
  have hb2 := hk2.2 b _ (one_ne hbT) hb
  refine j_istore O [(4, .int (nI (ls + 1))), (0, .ref T), (1, .int (nI i)), (2, .int (nI j)), (3, .ref q)] dT_gatherUnshared_4 (by decide) rfl ?_
  refine j_aload_n O 0 dT_gatherUnshared_6 rfl rfl ?_
  refine j_get O uwT hT2 rfl 1 (by decide) w193 rfl rfl dT_gatherUnshared_7 ?_
  refine j_iload_n O 2 dT_gatherUnshared_10 rfl rfl ?_
  refine j_aald O hR2 2 rfl (by omega) (by omega) dT_gatherUnshared_11 ?_
  refine j_some rj hfj ?_
  refine j_iload O dT_gatherUnshared_12 rfl ?_
  refine j_iconst O (v := 5) dT_gatherUnshared_14 (by decide) ?_
  refine j_callS O [.ref rj, .int (nI (ls + 1)), .int 5] (c_stampTree X.2.1 D t A N K I R (nI (ls + 1)) 5 rj vj vj.1 gw23 mu hvj rfl hvo.1 (Nat.le_refl _) hN2 (dsc_nodup hN hvj) (fun x hx he => (hvalj x hx).elim (fun u hu => absurd he (hst x u hu)))) w354 w355 w23 w356 3 rfl rfl rfl (by decide +kernel) ⟨(Nat.le_of_ble_eq_true rfl), (Nat.le_of_ble_eq_true rfl)⟩ rfl (Nat.le_of_ble_eq_true rfl) dT_gatherUnshared_15 ⟨(Nat.le_of_ble_eq_true rfl), (Nat.le_of_ble_eq_true rfl)⟩ (fun vw25 gw26 hpw27 => ?_)
  obtain ⟨rfl, hN3, hk3⟩ := hpw27
  have hT3 := hk3.2 T _ (by simp) hTn hT2
  have hR3 := hk3.2 aR _ (by simp) hRn hR2
  have hq3 := hk3.2 q _ (by simp) hqn hq2
  have hb3 := hk3.2 b _ (by simp) hbn hb2
  have kp3 : Kp [q] gw26 gw26 := Kp.rf
  refine j_pop O dT_gatherUnshared_18 rfl ?_
  refine j_aload_n O 3 dT_gatherUnshared_19 rfl rfl ?_
  refine j_iconst O (v := 0) dT_gatherUnshared_20 (by decide) ?_
  refine j_put O uwQ hq3 rfl 1 (by decide) w97 rfl tQ ftQ fnQ rfl (.int) (by decide +kernel) rfl rfl (Nat.le_of_ble_eq_true rfl) [.ref b, .int 0] rfl dT_gatherUnshared_21 (fun gw28 ew29 => ?_)
  have hw30 := gUp_ne (e' := .inr (4, [.ref b, .int 0])) hT3 (hT3.ne hq3 (by simp))
  rw [← ew29] at hw30
  have hw31 := gUp_ne (e' := .inr (4, [.ref b, .int 0])) hR3 (hR3.ne hq3 (by simp))
  rw [← ew29] at hw31
  have hw32 := gUp_ne (e' := .inr (4, [.ref b, .int 0])) hb3 (hb3.ne hq3 (by simp))
  rw [← ew29] at hw32
  have hw33 := gUp_self (e' := .inr (4, [.ref b, .int 0])) hq3
  rw [← ew29] at hw33
  have kpw34 := kp3.up (a := q) (e := .inr (4, [.ref b, .int 0])) (by simp)
  rw [← ew29] at kpw34
  refine j_aload_n O 0 dT_gatherUnshared_24 rfl rfl ?_
  refine j_get O uwT hw30 rfl 1 (by decide) w193 rfl rfl dT_gatherUnshared_25 ?_
  refine j_iload_n O 1 dT_gatherUnshared_28 rfl rfl ?_
  refine j_aald O hw31 2 rfl (by omega) (by omega) dT_gatherUnshared_29 ?_
  refine j_some ri hfi ?_
  refine j_iload O dT_gatherUnshared_30 rfl ?_
  refine j_aload_n O 3 dT_gatherUnshared_32 rfl rfl ?_
  refine j_iconst O (v := 5) dT_gatherUnshared_33 (by decide) ?_
  have hN4 : NI t gw28 (N, K, (stmp mu (nI (ls + 1)) (dsc K vj.1 rj)), I, R) := hN3.keep (fun x e hx he => kpw34.2 x e (one_ne (fun z => by
    subst z; rcases hx with z | ⟨u, z⟩
    · exact hIq z
    · have z : N x = some u := z
      rw [hqn] at z; cases z)) he)
  have hrl : rlI t gw28 I q b [] := ⟨hw33, f0, hw32, fun i hi => by cases hi⟩
  refine j_callS O [.ref ri, .int (nI (ls + 1)), .ref q, .int 5] (c_gather X.2.1 D t A N K (stmp mu (nI (ls + 1)) (dsc K vj.1 rj)) I R (nI (ls + 1)) q b hIq hIb 5 ri vi vi.1 gw28 [] hvi rfl hvoi.1 (Nat.le_refl _) hN4 hrl (by simp only [List.length_nil, Nat.zero_add]; exact hlen)) w257 w258 w23 w259 4 rfl rfl rfl (by decide +kernel) ⟨(Nat.le_of_ble_eq_true rfl), (Nat.le_of_ble_eq_true rfl)⟩ rfl (Nat.le_of_ble_eq_true rfl) dT_gatherUnshared_34 ⟨(Nat.le_of_ble_eq_true rfl), (Nat.le_of_ble_eq_true rfl)⟩ (fun vw35 gw36 hpw37 => ?_)
  obtain ⟨rfl, hrl5, hk5⟩ := hpw37
  rw [List.nil_append] at hrl5
  have hT5 := hk5.2 T _ (two_ne hqT.symm hbT.symm) hw30
  have hN5 : NI t gw36 (N, K, (stmp mu (nI (ls + 1)) (dsc K vj.1 rj)), I, R) := hN4.keep (fun x e hx he => hk5.2 x e (two_ne (fun z => by
    subst z; rcases hx with z | ⟨u, z⟩
    · exact hIq z
    · have z : N x = some u := z
      rw [hqn] at z; cases z) (fun z => by
    subst z; rcases hx with z | ⟨u, z⟩
    · exact hIb z
    · have z : N x = some u := z
      rw [hbn] at z; cases z)) he)
  have kn5 : KN [T, q, b] N g gw36 := (((KN.of hk2).mono (fun x hx => by rw [List.mem_singleton.mp hx]; simp)).tr (hk3.mono (fun x hx => by cases hx))).tr (((KN.of kpw34).mono (fun x hx => by rw [List.mem_singleton.mp hx]; simp)).tr ((KN.of hk5).mono (fun x hx => List.mem_cons_of_mem _ hx)))
  exact j_vret O M (Nat.le_of_ble_eq_true rfl) (Nat.le_of_ble_eq_true rfl) ⟨rfl, hT5, hN5, hrl5, kn5⟩ dT_gatherUnshared_37
