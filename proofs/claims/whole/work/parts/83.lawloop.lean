set_option maxRecDepth 100000 in
set_option maxHeartbeats 1000000 in
theorem law_loop {X : CX} {D : va_G} {t : Nat → ClassId} {A : Nat → Prop} {b L : Nat} {xs : Nat → Int32} {p u : Nat → Nat} (O : Ok X bL_law 4 "TwinTreesLaw" (zz D t A) room_1) (hX : va_X b L xs X.2.2.2.2.1 X.2.2.2.2.1.heap) (hbl : b < X.2.2.2.2.1.heap.size) (hbA : ¬ zA (zz D t A) b) (hL : L ≤ 3072) (HE : ∀ (k n : Nat) (g : GH), k ≤ 600000 → n ≤ 7302250 → J X 4 (zz D t A) g k n 518 [(0, .ref b)] []) : ∀ (d c : Nat) (s : AS) (g1 g2 : GH) (w : GD) (ls : Nat) (V : List NV), L < 6 * (c + d) + 6 → 6 * c ≤ L → TW t g1 p w ls s → RW t g2 u s V → aOK s → s.2.1.length ≤ 1 + 12 * c → ls ≤ 2 * c → J X 4 (zz D t A) (gPl g1 g2) (100 + 40 * c) (400000 + 3770 * c) 18 [(0, .ref b), (1, .ref (p 13)), (2, .ref (u 19)), (3, .int (nI (6 * c)))] [] := by
  have h6 := sub6 hL
  intro d
  induction d with
  | zero =>
    intro c s g1 g2 w ls V hd hcL hT hR hA hsn hls
    have hc5 : c ≤ 512 := by omega
    refine j_iload_n O 3 dL_law_18 rfl rfl ?_
    refine j_aload_n O 0 dL_law_19 rfl rfl ?_
    refine j_slen O hX hbl hbA dL_law_20 ?_
    refine j_bipush O (v := 6) dL_law_21 (by decide) ?_
    refine j_isub O dL_law_23 ?_
    refine j_icmp_gt O 518 dL_law_24 (by decide) (fun c0 => ?_) (fun c0 => absurd (Int32.lt_iff_toInt_lt.mpr (by rw [h6, nI_toInt (by omega)]; omega)) c0)
    refine J.pk [0] rfl ?_
    exact HE _ _ _ (by omega) (by omega)
  | succ d ih =>
    intro c s g1 g2 w ls V hd hcL hT hR hA hsn hls
    have hc5 : c ≤ 512 := by omega
    by_cases hx : L < 6 * c + 6
    · refine j_iload_n O 3 dL_law_18 rfl rfl ?_
      refine j_aload_n O 0 dL_law_19 rfl rfl ?_
      refine j_slen O hX hbl hbA dL_law_20 ?_
      refine j_bipush O (v := 6) dL_law_21 (by decide) ?_
      refine j_isub O dL_law_23 ?_
      refine j_icmp_gt O 518 dL_law_24 (by decide) (fun c0 => ?_) (fun c0 => absurd (Int32.lt_iff_toInt_lt.mpr (by rw [h6, nI_toInt (by omega)]; omega)) c0)
      refine J.pk [0] rfl ?_
      exact HE _ _ _ (by omega) (by omega)
    · have hc : 6 * c + 6 ≤ L := by omega
      have HK : ∀ (s' : AS) (g1 g2 : GH) (w : GD) (ls : Nat) (V : List NV), TW t g1 p w ls s' → RW t g2 u s' V → aOK s' → s'.2.1.length ≤ 1 + 12 * (c + 1) → ls ≤ 2 * (c + 1) → J X 4 (zz D t A) (gPl g1 g2) (100 + 40 * (c + 1)) (400000 + 3770 * (c + 1)) 512 [(0, .ref b), (1, .ref (p 13)), (2, .ref (u 19)), (3, .int (nI (6 * c)))] [] := by
        intro s' g1 g2 w ls V a1 a2 a3 a4 a5
        refine j_iinc O (nI (6 * (c + 1))) [(3, .int (nI (6 * (c + 1)))), (0, .ref b), (1, .ref (p 13)), (2, .ref (u 19))] dL_law_512 rfl (nI_add (6 * c) 6) (by decide) rfl ?_
        refine j_goto O 18 dL_law_515 (by decide) ?_
        refine J.pk [1, 2, 3, 0] rfl ?_
        exact ih (c + 1) s' g1 g2 w ls V (by omega) (by omega) a1 a2 a3 a4 a5
      refine j_iload_n O 3 dL_law_18 rfl rfl ?_
      refine j_aload_n O 0 dL_law_19 rfl rfl ?_
      refine j_slen O hX hbl hbA dL_law_20 ?_
      refine j_bipush O (v := 6) dL_law_21 (by decide) ?_
      refine j_isub O dL_law_23 ?_
      refine j_icmp_gt O 518 dL_law_24 (by decide) (fun c0 => absurd (Int32.lt_iff_toInt_lt.mp c0) (by rw [h6, nI_toInt (by omega)]; omega)) (fun c0 => ?_)
      refine j_aload_n O 0 dL_law_27 rfl rfl ?_
      refine j_iload_n O 3 dL_law_28 rfl rfl ?_
      refine j_sld (i := (6 * c)) O hX hbl hbA (by omega) (by omega) dL_law_29 ?_
      refine j_bipush O (v := 15) dL_law_30 (by decide) ?_
      refine j_iand O dL_law_32 ?_
      obtain ⟨v, hv, ev⟩ := and15 (xs (6 * c))
      refine j_eqi (nI v) ev ?_
      rcases (show v = 0 ∨ v = 1 ∨ v = 2 ∨ v = 3 ∨ v = 4 ∨ v = 5 ∨ v = 6 ∨ v = 7 ∨ v = 8 ∨ v = 9 ∨ v = 10 ∨ v = 11 ∨ v = 12 ∨ v = 13 ∨ v = 14 ∨ v = 15 by omega) with rfl | rfl | rfl | rfl | rfl | rfl | rfl | rfl | rfl | rfl | rfl | rfl | rfl | rfl | rfl | rfl
      · refine j_tsIn (off := 63) (tgt := 96) O dL_law_33 (by decide) (by decide) (by decide) (by decide) ?_
        exact law_make O hX hbl hbA hL hc hT hR hA hsn hls HK
      · refine j_tsIn (off := 96) (tgt := 129) O dL_law_33 (by decide) (by decide) (by decide) (by decide) ?_
        exact law_put O hX hbl hbA hL hc hT hR hA hsn hls HK
      · refine j_tsIn (off := 175) (tgt := 208) O dL_law_33 (by decide) (by decide) (by decide) (by decide) ?_
        exact law_remove O hX hbl hbA hL hc hT hR hA hsn hls HK
      · refine j_tsIn (off := 208) (tgt := 241) O dL_law_33 (by decide) (by decide) (by decide) (by decide) ?_
        exact law_copy O hX hbl hbA hL hc hT hR hA hsn hls HK
      · refine j_tsIn (off := 241) (tgt := 274) O dL_law_33 (by decide) (by decide) (by decide) (by decide) ?_
        exact law_get O hX hbl hbA hL hc hT hR hA hsn hls HK
      · refine j_tsIn (off := 285) (tgt := 318) O dL_law_33 (by decide) (by decide) (by decide) (by decide) ?_
        exact law_measure O hX hbl hbA hL hc hT hR hA hsn hls HK
      · refine j_tsIn (off := 318) (tgt := 351) O dL_law_33 (by decide) (by decide) (by decide) (by decide) ?_
        exact law_address O hX hbl hbA hL hc hT hR hA hsn hls HK
      · refine j_tsIn (off := 342) (tgt := 375) O dL_law_33 (by decide) (by decide) (by decide) (by decide) ?_
        exact law_row O hX hbl hbA hL hc hT hR hA hsn hls HK
      · refine j_tsIn (off := 376) (tgt := 409) O dL_law_33 (by decide) (by decide) (by decide) (by decide) ?_
        exact law_compare O hX hbl hbA hL hc hT hR hA hsn hls HK
      · refine j_tsIn (off := 409) (tgt := 442) O dL_law_33 (by decide) (by decide) (by decide) (by decide) ?_
        exact law_difference O hX hbl hbA hL hc hT hR hA hsn hls HK
      · refine j_tsIn (off := 443) (tgt := 476) O dL_law_33 (by decide) (by decide) (by decide) (by decide) ?_
        exact law_sweep O hX hbl hbA hL hc hT hR hA hsn hls HK
      · refine j_tsIn (off := 456) (tgt := 489) O dL_law_33 (by decide) (by decide) (by decide) (by decide) ?_
        exact law_count O hX hbl hbA hL hc hT hR hA hsn hls HK
      · refine j_tsOut (tgt := 512) O dL_law_33 (by decide) (by decide) ?_
        exact J.widen (by omega) (by omega) (HK s g1 g2 w ls V hT hR hA (by omega) (by omega))
      · refine j_tsOut (tgt := 512) O dL_law_33 (by decide) (by decide) ?_
        exact J.widen (by omega) (by omega) (HK s g1 g2 w ls V hT hR hA (by omega) (by omega))
      · refine j_tsOut (tgt := 512) O dL_law_33 (by decide) (by decide) ?_
        exact J.widen (by omega) (by omega) (HK s g1 g2 w ls V hT hR hA (by omega) (by omega))
      · refine j_tsOut (tgt := 512) O dL_law_33 (by decide) (by decide) ?_
        exact J.widen (by omega) (by omega) (HK s g1 g2 w ls V hT hR hA (by omega) (by omega))
