theorem SB.keep {t : Nat → ClassId} {g g' : GH} {u : Nat → Nat} {df df' : Int32} {V : List NV} (h : SB t g u df V) (hM : ∃ oc om lm mm ta co si, gAt g' (u 19) (eM u oc om df' (nI V.length) (nI (szL V)) lm mm ta co si)) (hk : ∀ k e, (k = 4 ∨ k = 5 ∨ (9 ≤ k ∧ k ≤ 18)) → gAt g (u k) e → gAt g' (u k) e) : SB t g' u df' V := by
  obtain ⟨-, ⟨f1, h1⟩, ⟨f2, h2⟩, ⟨f3, h3⟩, ⟨f4, h4⟩, ⟨f5, h5⟩, hR, hV⟩ := h
  exact ⟨hM, ⟨f1, hk _ _ (by omega) h1⟩, ⟨f2, hk _ _ (by omega) h2⟩, ⟨f3, hk _ _ (by omega) h3⟩, ⟨f4, hk _ _ (by omega) h4⟩, ⟨f5, hk _ _ (by omega) h5⟩, hR.keep (fun k e k1 k2 q => hk k e (by omega) q), hV⟩
theorem aCopy_2 (s : AS) (x y : Int32) : (aCopy s x y).2.2 = s.2 := by
  unfold aCopy
  split <;> rfl
theorem RW.copy {t : Nat → ClassId} {g g' : GH} {u : Nat → Nat} {s : AS} {V : List NV} {oc om lm mm ta co si : Int32} {x y : Int32} (h : RW t g u s V) (h1 : RT t g' u (aCopy s x y).2.1) (h2 : gAt g' (u 19) (eM u oc om (nI s.2.2.length) (nI V.length) (nI (szL V)) lm mm ta co si)) (kp : Kp (tU.map u) g g') : RW t g' u (aCopy s x y).2 V := by
  obtain ⟨-, hD, hS, hp, hne⟩ := h
  have hk : ∀ k e, 2 ≤ k → k < 20 → gAt g (u k) e → gAt g' (u k) e := fun k e k1 k2 q => kp.2 _ _ (fun z => by
    obtain ⟨j, hj, e2⟩ := List.mem_map.mp z
    have hj2 : ∀ j ∈ tU, j < 2 ∨ (20 ≤ j ∧ j < 32) := by decide
    have := hj2 j hj
    exact hne j k (by omega) (by omega) (by omega) e2) q
  refine ⟨h1, ?_, ?_, ?_, hne⟩
  · rw [aCopy_2]
    exact hD.keep (fun k e hk2 q => hk k e (by omega) (by omega) q)
  · rw [aCopy_2]
    exact hS.keep ⟨_, _, _, _, _, _, _, h2⟩ (fun k e hk2 q => hk k e (by omega) (by omega) q)
  · rw [aCopy_2]
    exact hp
theorem aCmp_1 (s : AS) (x y : Int32) : (aCmp s x y).2.1 = s.1 ∧ (aCmp s x y).2.2.1 = s.2.1 := by
  unfold aCmp
  split <;> exact ⟨rfl, rfl⟩
theorem RW.cmp {t : Nat → ClassId} {g g' : GH} {u : Nat → Nat} {s : AS} {V : List NV} {oc om lm mm ta co si : Int32} {x y : Int32} (h : RW t g u s V) (h1 : gAt g' (u 19) (eM u oc om (nI (aCmp s x y).2.2.2.length) (nI V.length) (nI (szL V)) lm mm ta co si)) (h2 : RD t g' u (aCmp s x y).2.2.2) (kp : Kp [u 19, u 6, u 7, u 8] g g') : RW t g' u (aCmp s x y).2 V := by
  obtain ⟨hRT, -, hS, hp, hne⟩ := h
  have hk : ∀ k e, k < 32 → k ≠ 19 → k ≠ 6 → k ≠ 7 → k ≠ 8 → gAt g (u k) e → gAt g' (u k) e := fun k e k0 k1 k2 k3 k4 q => kp.2 _ _ (four_ne (hne _ _ k0 (by omega) k1) (hne _ _ k0 (by omega) k2) (hne _ _ k0 (by omega) k3) (hne _ _ k0 (by omega) k4)) q
  refine ⟨?_, h2, hS.keep ⟨_, _, _, _, _, _, _, h1⟩ (fun k e hk2 q => hk k e (by omega) (by omega) (by omega) (by omega) (by omega) q), ?_, hne⟩
  · rw [(aCmp_1 s x y).1]
    exact hRT.keep (fun k hk2 e q => hk k e (by omega) (by omega) (by omega) (by omega) (by omega) q)
  · rw [(aCmp_1 s x y).2]
    exact hp
set_option maxRecDepth 100000 in
set_option maxHeartbeats 1000000 in
theorem law_make {X : CX} {D : va_G} {t : Nat → ClassId} {A : Nat → Prop} {b L : Nat} {xs : Nat → Int32} {c : Nat} {p u : Nat → Nat} {g1 g2 : GH} {w : GD} {ls : Nat} {s : AS} {V : List NV} (O : Ok X bL_law 4 "TwinTreesLaw" (zz D t A) room_1) (hX : va_X b L xs X.2.2.2.2.1 X.2.2.2.2.1.heap) (hbl : b < X.2.2.2.2.1.heap.size) (hbA : ¬ zA (zz D t A) b) (hL : L ≤ 3072) (hc : 6 * c + 6 ≤ L) (hT : TW t g1 p w ls s) (hR : RW t g2 u s V) (hA : aOK s) (hsn : s.2.1.length ≤ 1 + 12 * c) (hls : ls ≤ 2 * c) (HK : ∀ (s' : AS) (g1 g2 : GH) (w : GD) (ls : Nat) (V : List NV), TW t g1 p w ls s' → RW t g2 u s' V → aOK s' → s'.2.1.length ≤ 1 + 12 * (c + 1) → ls ≤ 2 * (c + 1) → J X 4 (zz D t A) (gPl g1 g2) (100 + 40 * (c + 1)) (400000 + 3770 * (c + 1)) 512 [(0, .ref b), (1, .ref (p 13)), (2, .ref (u 19)), (3, .int (nI (6 * c)))] []) : J X 4 (zz D t A) (gPl g1 g2) (100 + 40 * c) (400000 + 3770 * c) 96 [(0, .ref b), (1, .ref (p 13)), (2, .ref (u 19)), (3, .int (nI (6 * c)))] [] := by
  obtain ⟨hRT, hD, ⟨⟨oc, om, lm, mm, ta, co, si, hM⟩, -⟩, hpm, hne⟩ := id hR
  have hc512 : c < 512 := by omega
  have hTo := hT.1
  refine j_aload_n O 1 dL_law_96 rfl rfl ?_
  refine j_aload_n O 0 dL_law_97 rfl rfl ?_
  refine j_iload_n O 3 dL_law_98 rfl rfl ?_
  refine j_iconst O (v := 1) dL_law_99 (by decide) ?_
  refine j_iadd O dL_law_100 ?_
  refine j_eqi (nI (6 * c + 1)) (nI_1 _) ?_
  refine j_sld (i := (6 * c + 1)) O hX hbl hbA (by omega) (by omega) dL_law_101 ?_
  refine j_aload_n O 0 dL_law_102 rfl rfl ?_
  refine j_iload_n O 3 dL_law_103 rfl rfl ?_
  refine j_iconst O (v := 2) dL_law_104 (by decide) ?_
  refine j_iadd O dL_law_105 ?_
  refine j_eqi (nI (6 * c + 2)) (nI_add _ _) ?_
  refine j_sld (i := (6 * c + 2)) O hX hbl hbA (by omega) (by omega) dL_law_106 ?_
  refine j_callVF O [.int (xs (6 * c + 1)), .int (xs (6 * c + 2))] (fun A1 => c_make X.2.1 D t A1 g1 p w ls s (xs (6 * c + 1)) (xs (6 * c + 2)) hT (by omega)) hTo rfl w217 w218 w219 w23 w220 2 rfl rfl rfl (by decide +kernel) ⟨(Nat.le_of_ble_eq_true rfl), (Nat.le_of_ble_eq_true rfl)⟩ rfl (Nat.le_of_ble_eq_true rfl) dL_law_107 ⟨by show 100 + 40 * c + 36 ≤ 600000; omega, by show 400000 + 3770 * c + 3744 ≤ 7302250; omega⟩ (fun vw1 gw2 hpw3 => ?_)
  obtain ⟨rfl, w1, hT1⟩ := hpw3
  refine J.comm ?_
  refine j_aload_n O 2 dL_law_110 rfl rfl ?_
  refine j_aload_n O 0 dL_law_111 rfl rfl ?_
  refine j_iload_n O 3 dL_law_112 rfl rfl ?_
  refine j_iconst O (v := 1) dL_law_113 (by decide) ?_
  refine j_iadd O dL_law_114 ?_
  refine j_eqi (nI (6 * c + 1)) (nI_1 _) ?_
  refine j_sld (i := (6 * c + 1)) O hX hbl hbA (by omega) (by omega) dL_law_115 ?_
  refine j_aload_n O 0 dL_law_116 rfl rfl ?_
  refine j_iload_n O 3 dL_law_117 rfl rfl ?_
  refine j_iconst O (v := 2) dL_law_118 (by decide) ?_
  refine j_iadd O dL_law_119 ?_
  refine j_eqi (nI (6 * c + 2)) (nI_add _ _) ?_
  refine j_sld (i := (6 * c + 2)) O hX hbl hbA (by omega) (by omega) dL_law_120 ?_
  refine j_callVF O [.int (xs (6 * c + 1)), .int (xs (6 * c + 2))] (fun A1 => c_M_make X.2.1 D t A1 g2 u s V (xs (6 * c + 1)) (xs (6 * c + 2)) hR hA (by omega)) hM rfl w536 w537 w538 w28 w539 2 rfl rfl rfl (by decide +kernel) ⟨(Nat.le_of_ble_eq_true rfl), (Nat.le_of_ble_eq_true rfl)⟩ rfl (Nat.le_of_ble_eq_true rfl) dL_law_121 ⟨by show 100 + 40 * c + 36 + 0 ≤ 600000; omega, by show 400000 + 3770 * c + 3744 + 0 ≤ 7302250; omega⟩ (fun vw4 gw5 hpw6 => ?_)
  obtain ⟨rfl, V1, hR1⟩ := hpw6
  refine J.comm ?_
  refine j_icmp_eq O 512 dL_law_124 (by decide) (fun c9 => ?_) (fun c9 => absurd rfl c9)
  refine J.widen (k' := 100 + 40 * (c + 1)) (n' := 400000 + 3770 * (c + 1)) (by omega) (by omega) ?_
  have hq := aOK_make hA (xs (6 * c + 1)) (xs (6 * c + 2))
  exact HK _ gw2 gw5 w1 ls V1 hT1 hR1 hq.1 (by omega) (by omega)
set_option maxRecDepth 100000 in
set_option maxHeartbeats 1000000 in
theorem law_put {X : CX} {D : va_G} {t : Nat → ClassId} {A : Nat → Prop} {b L : Nat} {xs : Nat → Int32} {c : Nat} {p u : Nat → Nat} {g1 g2 : GH} {w : GD} {ls : Nat} {s : AS} {V : List NV} (O : Ok X bL_law 4 "TwinTreesLaw" (zz D t A) room_1) (hX : va_X b L xs X.2.2.2.2.1 X.2.2.2.2.1.heap) (hbl : b < X.2.2.2.2.1.heap.size) (hbA : ¬ zA (zz D t A) b) (hL : L ≤ 3072) (hc : 6 * c + 6 ≤ L) (hT : TW t g1 p w ls s) (hR : RW t g2 u s V) (hA : aOK s) (hsn : s.2.1.length ≤ 1 + 12 * c) (hls : ls ≤ 2 * c) (HK : ∀ (s' : AS) (g1 g2 : GH) (w : GD) (ls : Nat) (V : List NV), TW t g1 p w ls s' → RW t g2 u s' V → aOK s' → s'.2.1.length ≤ 1 + 12 * (c + 1) → ls ≤ 2 * (c + 1) → J X 4 (zz D t A) (gPl g1 g2) (100 + 40 * (c + 1)) (400000 + 3770 * (c + 1)) 512 [(0, .ref b), (1, .ref (p 13)), (2, .ref (u 19)), (3, .int (nI (6 * c)))] []) : J X 4 (zz D t A) (gPl g1 g2) (100 + 40 * c) (400000 + 3770 * c) 129 [(0, .ref b), (1, .ref (p 13)), (2, .ref (u 19)), (3, .int (nI (6 * c)))] [] := by
  obtain ⟨hRT, hD, ⟨⟨oc, om, lm, mm, ta, co, si, hM⟩, -⟩, hpm, hne⟩ := id hR
  have hc512 : c < 512 := by omega
  have hTo := hT.1
  by_cases hz : (xs (6 * c + 5)) = 0
  · refine j_aload_n O 1 dL_law_129 rfl rfl ?_
    refine j_aload_n O 0 dL_law_130 rfl rfl ?_
    refine j_iload_n O 3 dL_law_131 rfl rfl ?_
    refine j_iconst O (v := 1) dL_law_132 (by decide) ?_
    refine j_iadd O dL_law_133 ?_
    refine j_eqi (nI (6 * c + 1)) (nI_1 _) ?_
    refine j_sld (i := (6 * c + 1)) O hX hbl hbA (by omega) (by omega) dL_law_134 ?_
    refine j_aload_n O 0 dL_law_135 rfl rfl ?_
    refine j_iload_n O 3 dL_law_136 rfl rfl ?_
    refine j_iconst O (v := 2) dL_law_137 (by decide) ?_
    refine j_iadd O dL_law_138 ?_
    refine j_eqi (nI (6 * c + 2)) (nI_add _ _) ?_
    refine j_sld (i := (6 * c + 2)) O hX hbl hbA (by omega) (by omega) dL_law_139 ?_
    refine j_aload_n O 0 dL_law_140 rfl rfl ?_
    refine j_iload_n O 3 dL_law_141 rfl rfl ?_
    refine j_iconst O (v := 3) dL_law_142 (by decide) ?_
    refine j_iadd O dL_law_143 ?_
    refine j_eqi (nI (6 * c + 3)) (nI_add _ _) ?_
    refine j_sld (i := (6 * c + 3)) O hX hbl hbA (by omega) (by omega) dL_law_144 ?_
    refine j_aload_n O 0 dL_law_145 rfl rfl ?_
    refine j_iload_n O 3 dL_law_146 rfl rfl ?_
    refine j_iconst O (v := 4) dL_law_147 (by decide) ?_
    refine j_iadd O dL_law_148 ?_
    refine j_eqi (nI (6 * c + 4)) (nI_add _ _) ?_
    refine j_sld (i := (6 * c + 4)) O hX hbl hbA (by omega) (by omega) dL_law_149 ?_
    refine j_aload_n O 0 dL_law_150 rfl rfl ?_
    refine j_iload_n O 3 dL_law_151 rfl rfl ?_
    refine j_iconst O (v := 5) dL_law_152 (by decide) ?_
    refine j_iadd O dL_law_153 ?_
    refine j_eqi (nI (6 * c + 5)) (nI_add _ _) ?_
    refine j_sld (i := (6 * c + 5)) O hX hbl hbA (by omega) (by omega) dL_law_154 ?_
    refine j_if_eq O 162 dL_law_155 (by decide) (fun c0 => ?_) (fun c0 => absurd hz c0)
    refine j_iconst O (v := 0) dL_law_162 (by decide) ?_
    refine j_callVF O [.int (xs (6 * c + 1)), .int (xs (6 * c + 2)), .int (xs (6 * c + 3)), .int (xs (6 * c + 4)), .int 0] (fun A1 => c_put X.2.1 D t A1 g1 p w ls s (xs (6 * c + 1)) (xs (6 * c + 2)) (xs (6 * c + 3)) (xs (6 * c + 4)) 0 hT (by omega) (by omega) (few_put hA (xs (6 * c + 2)) (xs (6 * c + 4)) 0)) hTo rfl w244 w245 w246 w23 w247 5 rfl rfl rfl (by decide +kernel) ⟨(Nat.le_of_ble_eq_true rfl), (Nat.le_of_ble_eq_true rfl)⟩ rfl (Nat.le_of_ble_eq_true rfl) dL_law_163 ⟨by show 100 + 40 * c + 40 ≤ 600000; omega, by show 400000 + 3770 * c + 3770 ≤ 7302250; omega⟩ (fun vw7 gw8 hpw9 => ?_)
    obtain ⟨rfl, w1, ls1, hl1, hT1⟩ := hpw9
    refine J.comm ?_
    refine j_aload_n O 2 dL_law_166 rfl rfl ?_
    refine j_aload_n O 0 dL_law_167 rfl rfl ?_
    refine j_iload_n O 3 dL_law_168 rfl rfl ?_
    refine j_iconst O (v := 1) dL_law_169 (by decide) ?_
    refine j_iadd O dL_law_170 ?_
    refine j_eqi (nI (6 * c + 1)) (nI_1 _) ?_
    refine j_sld (i := (6 * c + 1)) O hX hbl hbA (by omega) (by omega) dL_law_171 ?_
    refine j_aload_n O 0 dL_law_172 rfl rfl ?_
    refine j_iload_n O 3 dL_law_173 rfl rfl ?_
    refine j_iconst O (v := 2) dL_law_174 (by decide) ?_
    refine j_iadd O dL_law_175 ?_
    refine j_eqi (nI (6 * c + 2)) (nI_add _ _) ?_
    refine j_sld (i := (6 * c + 2)) O hX hbl hbA (by omega) (by omega) dL_law_176 ?_
    refine j_aload_n O 0 dL_law_177 rfl rfl ?_
    refine j_iload_n O 3 dL_law_178 rfl rfl ?_
    refine j_iconst O (v := 3) dL_law_179 (by decide) ?_
    refine j_iadd O dL_law_180 ?_
    refine j_eqi (nI (6 * c + 3)) (nI_add _ _) ?_
    refine j_sld (i := (6 * c + 3)) O hX hbl hbA (by omega) (by omega) dL_law_181 ?_
    refine j_aload_n O 0 dL_law_182 rfl rfl ?_
    refine j_iload_n O 3 dL_law_183 rfl rfl ?_
    refine j_iconst O (v := 4) dL_law_184 (by decide) ?_
    refine j_iadd O dL_law_185 ?_
    refine j_eqi (nI (6 * c + 4)) (nI_add _ _) ?_
    refine j_sld (i := (6 * c + 4)) O hX hbl hbA (by omega) (by omega) dL_law_186 ?_
    refine j_aload_n O 0 dL_law_187 rfl rfl ?_
    refine j_iload_n O 3 dL_law_188 rfl rfl ?_
    refine j_iconst O (v := 5) dL_law_189 (by decide) ?_
    refine j_iadd O dL_law_190 ?_
    refine j_eqi (nI (6 * c + 5)) (nI_add _ _) ?_
    refine j_sld (i := (6 * c + 5)) O hX hbl hbA (by omega) (by omega) dL_law_191 ?_
    refine j_if_eq O 199 dL_law_192 (by decide) (fun c3 => ?_) (fun c3 => absurd hz c3)
    refine j_iconst O (v := 0) dL_law_199 (by decide) ?_
    refine j_callVF O [.int (xs (6 * c + 1)), .int (xs (6 * c + 2)), .int (xs (6 * c + 3)), .int (xs (6 * c + 4)), .int 0] (fun A1 => c_M_put X.2.1 D t A1 g2 u s V (xs (6 * c + 1)) (xs (6 * c + 2)) (xs (6 * c + 3)) (xs (6 * c + 4)) 0 hR hA (by omega) (few_put hA (xs (6 * c + 2)) (xs (6 * c + 4)) 0)) hM rfl w552 w553 w554 w28 w555 5 rfl rfl rfl (by decide +kernel) ⟨(Nat.le_of_ble_eq_true rfl), (Nat.le_of_ble_eq_true rfl)⟩ rfl (Nat.le_of_ble_eq_true rfl) dL_law_200 ⟨by show 100 + 40 * c + 40 + 0 ≤ 600000; omega, by show 400000 + 3770 * c + 3770 + 0 ≤ 7302250; omega⟩ (fun vw10 gw11 hpw12 => ?_)
    obtain ⟨rfl, V1, hR1⟩ := hpw12
    refine J.comm ?_
    refine j_icmp_eq O 512 dL_law_203 (by decide) (fun c9 => ?_) (fun c9 => absurd rfl c9)
    refine J.widen (k' := 100 + 40 * (c + 1)) (n' := 400000 + 3770 * (c + 1)) (by omega) (by omega) ?_
    have hq := aOK_put hA (xs (6 * c + 1)) (xs (6 * c + 2)) (xs (6 * c + 3)) (xs (6 * c + 4)) 0
    exact HK _ gw8 gw11 w1 ls1 V1 hT1 hR1 hq.1 (by omega) (by omega)
  · refine j_aload_n O 1 dL_law_129 rfl rfl ?_
    refine j_aload_n O 0 dL_law_130 rfl rfl ?_
    refine j_iload_n O 3 dL_law_131 rfl rfl ?_
    refine j_iconst O (v := 1) dL_law_132 (by decide) ?_
    refine j_iadd O dL_law_133 ?_
    refine j_eqi (nI (6 * c + 1)) (nI_1 _) ?_
    refine j_sld (i := (6 * c + 1)) O hX hbl hbA (by omega) (by omega) dL_law_134 ?_
    refine j_aload_n O 0 dL_law_135 rfl rfl ?_
    refine j_iload_n O 3 dL_law_136 rfl rfl ?_
    refine j_iconst O (v := 2) dL_law_137 (by decide) ?_
    refine j_iadd O dL_law_138 ?_
    refine j_eqi (nI (6 * c + 2)) (nI_add _ _) ?_
    refine j_sld (i := (6 * c + 2)) O hX hbl hbA (by omega) (by omega) dL_law_139 ?_
    refine j_aload_n O 0 dL_law_140 rfl rfl ?_
    refine j_iload_n O 3 dL_law_141 rfl rfl ?_
    refine j_iconst O (v := 3) dL_law_142 (by decide) ?_
    refine j_iadd O dL_law_143 ?_
    refine j_eqi (nI (6 * c + 3)) (nI_add _ _) ?_
    refine j_sld (i := (6 * c + 3)) O hX hbl hbA (by omega) (by omega) dL_law_144 ?_
    refine j_aload_n O 0 dL_law_145 rfl rfl ?_
    refine j_iload_n O 3 dL_law_146 rfl rfl ?_
    refine j_iconst O (v := 4) dL_law_147 (by decide) ?_
    refine j_iadd O dL_law_148 ?_
    refine j_eqi (nI (6 * c + 4)) (nI_add _ _) ?_
    refine j_sld (i := (6 * c + 4)) O hX hbl hbA (by omega) (by omega) dL_law_149 ?_
    refine j_aload_n O 0 dL_law_150 rfl rfl ?_
    refine j_iload_n O 3 dL_law_151 rfl rfl ?_
    refine j_iconst O (v := 5) dL_law_152 (by decide) ?_
    refine j_iadd O dL_law_153 ?_
    refine j_eqi (nI (6 * c + 5)) (nI_add _ _) ?_
    refine j_sld (i := (6 * c + 5)) O hX hbl hbA (by omega) (by omega) dL_law_154 ?_
    refine j_if_eq O 162 dL_law_155 (by decide) (fun c0 => absurd c0 hz) (fun c0 => ?_)
    refine j_iconst O (v := 1) dL_law_158 (by decide) ?_
    refine j_goto O 163 dL_law_159 (by decide) ?_
    refine j_callVF O [.int (xs (6 * c + 1)), .int (xs (6 * c + 2)), .int (xs (6 * c + 3)), .int (xs (6 * c + 4)), .int 1] (fun A1 => c_put X.2.1 D t A1 g1 p w ls s (xs (6 * c + 1)) (xs (6 * c + 2)) (xs (6 * c + 3)) (xs (6 * c + 4)) 1 hT (by omega) (by omega) (few_put hA (xs (6 * c + 2)) (xs (6 * c + 4)) 1)) hTo rfl w244 w245 w246 w23 w247 5 rfl rfl rfl (by decide +kernel) ⟨(Nat.le_of_ble_eq_true rfl), (Nat.le_of_ble_eq_true rfl)⟩ rfl (Nat.le_of_ble_eq_true rfl) dL_law_163 ⟨by show 100 + 40 * c + 40 ≤ 600000; omega, by show 400000 + 3770 * c + 3770 ≤ 7302250; omega⟩ (fun vw13 gw14 hpw15 => ?_)
    obtain ⟨rfl, w1, ls1, hl1, hT1⟩ := hpw15
    refine J.comm ?_
    refine j_aload_n O 2 dL_law_166 rfl rfl ?_
    refine j_aload_n O 0 dL_law_167 rfl rfl ?_
    refine j_iload_n O 3 dL_law_168 rfl rfl ?_
    refine j_iconst O (v := 1) dL_law_169 (by decide) ?_
    refine j_iadd O dL_law_170 ?_
    refine j_eqi (nI (6 * c + 1)) (nI_1 _) ?_
    refine j_sld (i := (6 * c + 1)) O hX hbl hbA (by omega) (by omega) dL_law_171 ?_
    refine j_aload_n O 0 dL_law_172 rfl rfl ?_
    refine j_iload_n O 3 dL_law_173 rfl rfl ?_
    refine j_iconst O (v := 2) dL_law_174 (by decide) ?_
    refine j_iadd O dL_law_175 ?_
    refine j_eqi (nI (6 * c + 2)) (nI_add _ _) ?_
    refine j_sld (i := (6 * c + 2)) O hX hbl hbA (by omega) (by omega) dL_law_176 ?_
    refine j_aload_n O 0 dL_law_177 rfl rfl ?_
    refine j_iload_n O 3 dL_law_178 rfl rfl ?_
    refine j_iconst O (v := 3) dL_law_179 (by decide) ?_
    refine j_iadd O dL_law_180 ?_
    refine j_eqi (nI (6 * c + 3)) (nI_add _ _) ?_
    refine j_sld (i := (6 * c + 3)) O hX hbl hbA (by omega) (by omega) dL_law_181 ?_
    refine j_aload_n O 0 dL_law_182 rfl rfl ?_
    refine j_iload_n O 3 dL_law_183 rfl rfl ?_
    refine j_iconst O (v := 4) dL_law_184 (by decide) ?_
    refine j_iadd O dL_law_185 ?_
    refine j_eqi (nI (6 * c + 4)) (nI_add _ _) ?_
    refine j_sld (i := (6 * c + 4)) O hX hbl hbA (by omega) (by omega) dL_law_186 ?_
    refine j_aload_n O 0 dL_law_187 rfl rfl ?_
    refine j_iload_n O 3 dL_law_188 rfl rfl ?_
    refine j_iconst O (v := 5) dL_law_189 (by decide) ?_
    refine j_iadd O dL_law_190 ?_
    refine j_eqi (nI (6 * c + 5)) (nI_add _ _) ?_
    refine j_sld (i := (6 * c + 5)) O hX hbl hbA (by omega) (by omega) dL_law_191 ?_
    refine j_if_eq O 199 dL_law_192 (by decide) (fun c3 => absurd c3 hz) (fun c3 => ?_)
    refine j_iconst O (v := 1) dL_law_195 (by decide) ?_
    refine j_goto O 200 dL_law_196 (by decide) ?_
    refine j_callVF O [.int (xs (6 * c + 1)), .int (xs (6 * c + 2)), .int (xs (6 * c + 3)), .int (xs (6 * c + 4)), .int 1] (fun A1 => c_M_put X.2.1 D t A1 g2 u s V (xs (6 * c + 1)) (xs (6 * c + 2)) (xs (6 * c + 3)) (xs (6 * c + 4)) 1 hR hA (by omega) (few_put hA (xs (6 * c + 2)) (xs (6 * c + 4)) 1)) hM rfl w552 w553 w554 w28 w555 5 rfl rfl rfl (by decide +kernel) ⟨(Nat.le_of_ble_eq_true rfl), (Nat.le_of_ble_eq_true rfl)⟩ rfl (Nat.le_of_ble_eq_true rfl) dL_law_200 ⟨by show 100 + 40 * c + 40 + 0 ≤ 600000; omega, by show 400000 + 3770 * c + 3770 + 0 ≤ 7302250; omega⟩ (fun vw16 gw17 hpw18 => ?_)
    obtain ⟨rfl, V1, hR1⟩ := hpw18
    refine J.comm ?_
    refine j_icmp_eq O 512 dL_law_203 (by decide) (fun c9 => ?_) (fun c9 => absurd rfl c9)
    refine J.widen (k' := 100 + 40 * (c + 1)) (n' := 400000 + 3770 * (c + 1)) (by omega) (by omega) ?_
    have hq := aOK_put hA (xs (6 * c + 1)) (xs (6 * c + 2)) (xs (6 * c + 3)) (xs (6 * c + 4)) 1
    exact HK _ gw14 gw17 w1 ls1 V1 hT1 hR1 hq.1 (by omega) (by omega)
set_option maxRecDepth 100000 in
set_option maxHeartbeats 1000000 in
theorem law_remove {X : CX} {D : va_G} {t : Nat → ClassId} {A : Nat → Prop} {b L : Nat} {xs : Nat → Int32} {c : Nat} {p u : Nat → Nat} {g1 g2 : GH} {w : GD} {ls : Nat} {s : AS} {V : List NV} (O : Ok X bL_law 4 "TwinTreesLaw" (zz D t A) room_1) (hX : va_X b L xs X.2.2.2.2.1 X.2.2.2.2.1.heap) (hbl : b < X.2.2.2.2.1.heap.size) (hbA : ¬ zA (zz D t A) b) (hL : L ≤ 3072) (hc : 6 * c + 6 ≤ L) (hT : TW t g1 p w ls s) (hR : RW t g2 u s V) (hA : aOK s) (hsn : s.2.1.length ≤ 1 + 12 * c) (hls : ls ≤ 2 * c) (HK : ∀ (s' : AS) (g1 g2 : GH) (w : GD) (ls : Nat) (V : List NV), TW t g1 p w ls s' → RW t g2 u s' V → aOK s' → s'.2.1.length ≤ 1 + 12 * (c + 1) → ls ≤ 2 * (c + 1) → J X 4 (zz D t A) (gPl g1 g2) (100 + 40 * (c + 1)) (400000 + 3770 * (c + 1)) 512 [(0, .ref b), (1, .ref (p 13)), (2, .ref (u 19)), (3, .int (nI (6 * c)))] []) : J X 4 (zz D t A) (gPl g1 g2) (100 + 40 * c) (400000 + 3770 * c) 208 [(0, .ref b), (1, .ref (p 13)), (2, .ref (u 19)), (3, .int (nI (6 * c)))] [] := by
  obtain ⟨hRT, hD, ⟨⟨oc, om, lm, mm, ta, co, si, hM⟩, -⟩, hpm, hne⟩ := id hR
  have hc512 : c < 512 := by omega
  have hTo := hT.1
  refine j_aload_n O 1 dL_law_208 rfl rfl ?_
  refine j_aload_n O 0 dL_law_209 rfl rfl ?_
  refine j_iload_n O 3 dL_law_210 rfl rfl ?_
  refine j_iconst O (v := 1) dL_law_211 (by decide) ?_
  refine j_iadd O dL_law_212 ?_
  refine j_eqi (nI (6 * c + 1)) (nI_1 _) ?_
  refine j_sld (i := (6 * c + 1)) O hX hbl hbA (by omega) (by omega) dL_law_213 ?_
  refine j_aload_n O 0 dL_law_214 rfl rfl ?_
  refine j_iload_n O 3 dL_law_215 rfl rfl ?_
  refine j_iconst O (v := 2) dL_law_216 (by decide) ?_
  refine j_iadd O dL_law_217 ?_
  refine j_eqi (nI (6 * c + 2)) (nI_add _ _) ?_
  refine j_sld (i := (6 * c + 2)) O hX hbl hbA (by omega) (by omega) dL_law_218 ?_
  refine j_callVF O [.int (xs (6 * c + 1)), .int (xs (6 * c + 2))] (fun A1 => c_remove X.2.1 D t A1 g1 p w ls s (xs (6 * c + 1)) (xs (6 * c + 2)) hT (by omega) (by omega) (few_rem hA (xs (6 * c + 2)))) hTo rfl w324 w325 w326 w23 w327 2 rfl rfl rfl (by decide +kernel) ⟨(Nat.le_of_ble_eq_true rfl), (Nat.le_of_ble_eq_true rfl)⟩ rfl (Nat.le_of_ble_eq_true rfl) dL_law_219 ⟨by show 100 + 40 * c + 36 ≤ 600000; omega, by show 400000 + 3770 * c + 3744 ≤ 7302250; omega⟩ (fun vw19 gw20 hpw21 => ?_)
  obtain ⟨rfl, w1, ls1, hl1, hT1⟩ := hpw21
  refine J.comm ?_
  refine j_aload_n O 2 dL_law_222 rfl rfl ?_
  refine j_aload_n O 0 dL_law_223 rfl rfl ?_
  refine j_iload_n O 3 dL_law_224 rfl rfl ?_
  refine j_iconst O (v := 1) dL_law_225 (by decide) ?_
  refine j_iadd O dL_law_226 ?_
  refine j_eqi (nI (6 * c + 1)) (nI_1 _) ?_
  refine j_sld (i := (6 * c + 1)) O hX hbl hbA (by omega) (by omega) dL_law_227 ?_
  refine j_aload_n O 0 dL_law_228 rfl rfl ?_
  refine j_iload_n O 3 dL_law_229 rfl rfl ?_
  refine j_iconst O (v := 2) dL_law_230 (by decide) ?_
  refine j_iadd O dL_law_231 ?_
  refine j_eqi (nI (6 * c + 2)) (nI_add _ _) ?_
  refine j_sld (i := (6 * c + 2)) O hX hbl hbA (by omega) (by omega) dL_law_232 ?_
  refine j_callVF O [.int (xs (6 * c + 1)), .int (xs (6 * c + 2))] (fun A1 => c_M_remove X.2.1 D t A1 g2 u s V (xs (6 * c + 1)) (xs (6 * c + 2)) hR hA (by omega) (few_rem hA (xs (6 * c + 2)))) hM rfl w566 w567 w568 w28 w569 2 rfl rfl rfl (by decide +kernel) ⟨(Nat.le_of_ble_eq_true rfl), (Nat.le_of_ble_eq_true rfl)⟩ rfl (Nat.le_of_ble_eq_true rfl) dL_law_233 ⟨by show 100 + 40 * c + 36 + 0 ≤ 600000; omega, by show 400000 + 3770 * c + 3744 + 0 ≤ 7302250; omega⟩ (fun vw22 gw23 hpw24 => ?_)
  obtain ⟨rfl, V1, hR1⟩ := hpw24
  refine J.comm ?_
  refine j_icmp_eq O 512 dL_law_236 (by decide) (fun c9 => ?_) (fun c9 => absurd rfl c9)
  refine J.widen (k' := 100 + 40 * (c + 1)) (n' := 400000 + 3770 * (c + 1)) (by omega) (by omega) ?_
  have hq := aOK_rem hA (xs (6 * c + 1)) (xs (6 * c + 2))
  exact HK _ gw20 gw23 w1 ls1 V1 hT1 hR1 hq.1 (by omega) (by omega)
set_option maxRecDepth 100000 in
set_option maxHeartbeats 1000000 in
theorem law_copy {X : CX} {D : va_G} {t : Nat → ClassId} {A : Nat → Prop} {b L : Nat} {xs : Nat → Int32} {c : Nat} {p u : Nat → Nat} {g1 g2 : GH} {w : GD} {ls : Nat} {s : AS} {V : List NV} (O : Ok X bL_law 4 "TwinTreesLaw" (zz D t A) room_1) (hX : va_X b L xs X.2.2.2.2.1 X.2.2.2.2.1.heap) (hbl : b < X.2.2.2.2.1.heap.size) (hbA : ¬ zA (zz D t A) b) (hL : L ≤ 3072) (hc : 6 * c + 6 ≤ L) (hT : TW t g1 p w ls s) (hR : RW t g2 u s V) (hA : aOK s) (hsn : s.2.1.length ≤ 1 + 12 * c) (hls : ls ≤ 2 * c) (HK : ∀ (s' : AS) (g1 g2 : GH) (w : GD) (ls : Nat) (V : List NV), TW t g1 p w ls s' → RW t g2 u s' V → aOK s' → s'.2.1.length ≤ 1 + 12 * (c + 1) → ls ≤ 2 * (c + 1) → J X 4 (zz D t A) (gPl g1 g2) (100 + 40 * (c + 1)) (400000 + 3770 * (c + 1)) 512 [(0, .ref b), (1, .ref (p 13)), (2, .ref (u 19)), (3, .int (nI (6 * c)))] []) : J X 4 (zz D t A) (gPl g1 g2) (100 + 40 * c) (400000 + 3770 * c) 241 [(0, .ref b), (1, .ref (p 13)), (2, .ref (u 19)), (3, .int (nI (6 * c)))] [] := by
  obtain ⟨hRT, hD, ⟨⟨oc, om, lm, mm, ta, co, si, hM⟩, -⟩, hpm, hne⟩ := id hR
  have hc512 : c < 512 := by omega
  have hTo := hT.1
  refine j_aload_n O 1 dL_law_241 rfl rfl ?_
  refine j_aload_n O 0 dL_law_242 rfl rfl ?_
  refine j_iload_n O 3 dL_law_243 rfl rfl ?_
  refine j_iconst O (v := 1) dL_law_244 (by decide) ?_
  refine j_iadd O dL_law_245 ?_
  refine j_eqi (nI (6 * c + 1)) (nI_1 _) ?_
  refine j_sld (i := (6 * c + 1)) O hX hbl hbA (by omega) (by omega) dL_law_246 ?_
  refine j_aload_n O 0 dL_law_247 rfl rfl ?_
  refine j_iload_n O 3 dL_law_248 rfl rfl ?_
  refine j_iconst O (v := 2) dL_law_249 (by decide) ?_
  refine j_iadd O dL_law_250 ?_
  refine j_eqi (nI (6 * c + 2)) (nI_add _ _) ?_
  refine j_sld (i := (6 * c + 2)) O hX hbl hbA (by omega) (by omega) dL_law_251 ?_
  refine j_callVF O [.int (xs (6 * c + 1)), .int (xs (6 * c + 2))] (fun A1 => c_copy X.2.1 D t A1 g1 p w ls s (xs (6 * c + 1)) (xs (6 * c + 2)) hT) hTo rfl w332 w333 w334 w23 w335 2 rfl rfl rfl (by decide +kernel) ⟨(Nat.le_of_ble_eq_true rfl), (Nat.le_of_ble_eq_true rfl)⟩ rfl (Nat.le_of_ble_eq_true rfl) dL_law_252 ⟨by show 100 + 40 * c + 0 ≤ 600000; omega, by show 400000 + 3770 * c + 0 ≤ 7302250; omega⟩ (fun vw25 gw26 hpw27 => ?_)
  obtain ⟨rfl, hT1⟩ := hpw27
  refine J.comm ?_
  refine j_aload_n O 2 dL_law_255 rfl rfl ?_
  refine j_aload_n O 0 dL_law_256 rfl rfl ?_
  refine j_iload_n O 3 dL_law_257 rfl rfl ?_
  refine j_iconst O (v := 1) dL_law_258 (by decide) ?_
  refine j_iadd O dL_law_259 ?_
  refine j_eqi (nI (6 * c + 1)) (nI_1 _) ?_
  refine j_sld (i := (6 * c + 1)) O hX hbl hbA (by omega) (by omega) dL_law_260 ?_
  refine j_aload_n O 0 dL_law_261 rfl rfl ?_
  refine j_iload_n O 3 dL_law_262 rfl rfl ?_
  refine j_iconst O (v := 2) dL_law_263 (by decide) ?_
  refine j_iadd O dL_law_264 ?_
  refine j_eqi (nI (6 * c + 2)) (nI_add _ _) ?_
  refine j_sld (i := (6 * c + 2)) O hX hbl hbA (by omega) (by omega) dL_law_265 ?_
  refine j_callVF O [.int (xs (6 * c + 1)), .int (xs (6 * c + 2))] (fun A1 => c_M_copy X.2.1 D t A1 g2 u oc om (nI s.2.2.length) (nI V.length) (nI (szL V)) lm mm ta co si s (xs (6 * c + 1)) (xs (6 * c + 2)) hM hRT hA.1 hne) hM rfl w570 w571 w572 w28 w573 2 rfl rfl rfl (by decide +kernel) ⟨(Nat.le_of_ble_eq_true rfl), (Nat.le_of_ble_eq_true rfl)⟩ rfl (Nat.le_of_ble_eq_true rfl) dL_law_266 ⟨by show 100 + 40 * c + 0 + 0 ≤ 600000; omega, by show 400000 + 3770 * c + 0 + 0 ≤ 7302250; omega⟩ (fun vw28 gw29 hpw30 => ?_)
  obtain ⟨rfl, hRT1, hM1, kp1⟩ := hpw30
  refine J.comm ?_
  refine j_icmp_eq O 512 dL_law_269 (by decide) (fun c9 => ?_) (fun c9 => absurd rfl c9)
  refine J.widen (k' := 100 + 40 * (c + 1)) (n' := 400000 + 3770 * (c + 1)) (by omega) (by omega) ?_
  have hq := aOK_copy hA (xs (6 * c + 1)) (xs (6 * c + 2))
  exact HK _ gw26 gw29 w ls V hT1 (hR.copy hRT1 hM1 kp1) hq.1 (by omega) (by omega)
set_option maxRecDepth 100000 in
set_option maxHeartbeats 1000000 in
theorem law_get {X : CX} {D : va_G} {t : Nat → ClassId} {A : Nat → Prop} {b L : Nat} {xs : Nat → Int32} {c : Nat} {p u : Nat → Nat} {g1 g2 : GH} {w : GD} {ls : Nat} {s : AS} {V : List NV} (O : Ok X bL_law 4 "TwinTreesLaw" (zz D t A) room_1) (hX : va_X b L xs X.2.2.2.2.1 X.2.2.2.2.1.heap) (hbl : b < X.2.2.2.2.1.heap.size) (hbA : ¬ zA (zz D t A) b) (hL : L ≤ 3072) (hc : 6 * c + 6 ≤ L) (hT : TW t g1 p w ls s) (hR : RW t g2 u s V) (hA : aOK s) (hsn : s.2.1.length ≤ 1 + 12 * c) (hls : ls ≤ 2 * c) (HK : ∀ (s' : AS) (g1 g2 : GH) (w : GD) (ls : Nat) (V : List NV), TW t g1 p w ls s' → RW t g2 u s' V → aOK s' → s'.2.1.length ≤ 1 + 12 * (c + 1) → ls ≤ 2 * (c + 1) → J X 4 (zz D t A) (gPl g1 g2) (100 + 40 * (c + 1)) (400000 + 3770 * (c + 1)) 512 [(0, .ref b), (1, .ref (p 13)), (2, .ref (u 19)), (3, .int (nI (6 * c)))] []) : J X 4 (zz D t A) (gPl g1 g2) (100 + 40 * c) (400000 + 3770 * c) 274 [(0, .ref b), (1, .ref (p 13)), (2, .ref (u 19)), (3, .int (nI (6 * c)))] [] := by
  obtain ⟨hRT, hD, ⟨⟨oc, om, lm, mm, ta, co, si, hM⟩, -⟩, hpm, hne⟩ := id hR
  have hc512 : c < 512 := by omega
  have hTo := hT.1
  refine j_aload_n O 1 dL_law_274 rfl rfl ?_
  refine j_aload_n O 0 dL_law_275 rfl rfl ?_
  refine j_iload_n O 3 dL_law_276 rfl rfl ?_
  refine j_iconst O (v := 1) dL_law_277 (by decide) ?_
  refine j_iadd O dL_law_278 ?_
  refine j_eqi (nI (6 * c + 1)) (nI_1 _) ?_
  refine j_sld (i := (6 * c + 1)) O hX hbl hbA (by omega) (by omega) dL_law_279 ?_
  refine j_aload_n O 0 dL_law_280 rfl rfl ?_
  refine j_iload_n O 3 dL_law_281 rfl rfl ?_
  refine j_iconst O (v := 2) dL_law_282 (by decide) ?_
  refine j_iadd O dL_law_283 ?_
  refine j_eqi (nI (6 * c + 2)) (nI_add _ _) ?_
  refine j_sld (i := (6 * c + 2)) O hX hbl hbA (by omega) (by omega) dL_law_284 ?_
  refine j_aload_n O 0 dL_law_285 rfl rfl ?_
  refine j_iload_n O 3 dL_law_286 rfl rfl ?_
  refine j_iconst O (v := 3) dL_law_287 (by decide) ?_
  refine j_iadd O dL_law_288 ?_
  refine j_eqi (nI (6 * c + 3)) (nI_add _ _) ?_
  refine j_sld (i := (6 * c + 3)) O hX hbl hbA (by omega) (by omega) dL_law_289 ?_
  refine j_callVF O [.int (xs (6 * c + 1)), .int (xs (6 * c + 2)), .int (xs (6 * c + 3))] (fun A1 => c_get X.2.1 D t A1 g1 p w ls s (xs (6 * c + 1)) (xs (6 * c + 2)) (xs (6 * c + 3)) hT) hTo rfl w336 w337 w338 w23 w339 3 rfl rfl rfl (by decide +kernel) ⟨(Nat.le_of_ble_eq_true rfl), (Nat.le_of_ble_eq_true rfl)⟩ rfl (Nat.le_of_ble_eq_true rfl) dL_law_290 ⟨by show 100 + 40 * c + 0 ≤ 600000; omega, by show 400000 + 3770 * c + 0 ≤ 7302250; omega⟩ (fun vw31 gw32 hpw33 => ?_)
  obtain ⟨rfl, e1⟩ := hpw33
  refine J.comm ?_
  refine j_aload_n O 2 dL_law_293 rfl rfl ?_
  refine j_aload_n O 0 dL_law_294 rfl rfl ?_
  refine j_iload_n O 3 dL_law_295 rfl rfl ?_
  refine j_iconst O (v := 1) dL_law_296 (by decide) ?_
  refine j_iadd O dL_law_297 ?_
  refine j_eqi (nI (6 * c + 1)) (nI_1 _) ?_
  refine j_sld (i := (6 * c + 1)) O hX hbl hbA (by omega) (by omega) dL_law_298 ?_
  refine j_aload_n O 0 dL_law_299 rfl rfl ?_
  refine j_iload_n O 3 dL_law_300 rfl rfl ?_
  refine j_iconst O (v := 2) dL_law_301 (by decide) ?_
  refine j_iadd O dL_law_302 ?_
  refine j_eqi (nI (6 * c + 2)) (nI_add _ _) ?_
  refine j_sld (i := (6 * c + 2)) O hX hbl hbA (by omega) (by omega) dL_law_303 ?_
  refine j_aload_n O 0 dL_law_304 rfl rfl ?_
  refine j_iload_n O 3 dL_law_305 rfl rfl ?_
  refine j_iconst O (v := 3) dL_law_306 (by decide) ?_
  refine j_iadd O dL_law_307 ?_
  refine j_eqi (nI (6 * c + 3)) (nI_add _ _) ?_
  refine j_sld (i := (6 * c + 3)) O hX hbl hbA (by omega) (by omega) dL_law_308 ?_
  refine j_callVF O [.int (xs (6 * c + 1)), .int (xs (6 * c + 2)), .int (xs (6 * c + 3))] (fun A1 => c_M_get X.2.1 D t A1 g2 u oc om (nI s.2.2.length) (nI V.length) (nI (szL V)) lm mm ta co si s (xs (6 * c + 1)) (xs (6 * c + 2)) (xs (6 * c + 3)) hM hRT hA.1) hM rfl w574 w575 w576 w28 w577 3 rfl rfl rfl (by decide +kernel) ⟨(Nat.le_of_ble_eq_true rfl), (Nat.le_of_ble_eq_true rfl)⟩ rfl (Nat.le_of_ble_eq_true rfl) dL_law_309 ⟨by show 100 + 40 * c + 0 + 0 ≤ 600000; omega, by show 400000 + 3770 * c + 0 + 0 ≤ 7302250; omega⟩ (fun vw34 gw35 hpw36 => ?_)
  obtain ⟨rfl, e2⟩ := hpw36
  refine J.comm ?_
  refine j_lcmp O dL_law_312 ?_
  refine j_if_eq O 512 dL_law_313 (by decide) (fun c9 => ?_) (fun c9 => absurd (by unfold lg_cmp; simp) c9)
  refine J.widen (k' := 100 + 40 * (c + 1)) (n' := 400000 + 3770 * (c + 1)) (by omega) (by omega) ?_
  rw [e1, e2]
  exact HK s _ _ w ls V hT hR hA (by omega) (by omega)
set_option maxRecDepth 100000 in
set_option maxHeartbeats 1000000 in
theorem law_measure {X : CX} {D : va_G} {t : Nat → ClassId} {A : Nat → Prop} {b L : Nat} {xs : Nat → Int32} {c : Nat} {p u : Nat → Nat} {g1 g2 : GH} {w : GD} {ls : Nat} {s : AS} {V : List NV} (O : Ok X bL_law 4 "TwinTreesLaw" (zz D t A) room_1) (hX : va_X b L xs X.2.2.2.2.1 X.2.2.2.2.1.heap) (hbl : b < X.2.2.2.2.1.heap.size) (hbA : ¬ zA (zz D t A) b) (hL : L ≤ 3072) (hc : 6 * c + 6 ≤ L) (hT : TW t g1 p w ls s) (hR : RW t g2 u s V) (hA : aOK s) (hsn : s.2.1.length ≤ 1 + 12 * c) (hls : ls ≤ 2 * c) (HK : ∀ (s' : AS) (g1 g2 : GH) (w : GD) (ls : Nat) (V : List NV), TW t g1 p w ls s' → RW t g2 u s' V → aOK s' → s'.2.1.length ≤ 1 + 12 * (c + 1) → ls ≤ 2 * (c + 1) → J X 4 (zz D t A) (gPl g1 g2) (100 + 40 * (c + 1)) (400000 + 3770 * (c + 1)) 512 [(0, .ref b), (1, .ref (p 13)), (2, .ref (u 19)), (3, .int (nI (6 * c)))] []) : J X 4 (zz D t A) (gPl g1 g2) (100 + 40 * c) (400000 + 3770 * c) 318 [(0, .ref b), (1, .ref (p 13)), (2, .ref (u 19)), (3, .int (nI (6 * c)))] [] := by
  obtain ⟨hRT, hD, ⟨⟨oc, om, lm, mm, ta, co, si, hM⟩, -⟩, hpm, hne⟩ := id hR
  have hc512 : c < 512 := by omega
  have hTo := hT.1
  refine j_aload_n O 1 dL_law_318 rfl rfl ?_
  refine j_aload_n O 0 dL_law_319 rfl rfl ?_
  refine j_iload_n O 3 dL_law_320 rfl rfl ?_
  refine j_iconst O (v := 1) dL_law_321 (by decide) ?_
  refine j_iadd O dL_law_322 ?_
  refine j_eqi (nI (6 * c + 1)) (nI_1 _) ?_
  refine j_sld (i := (6 * c + 1)) O hX hbl hbA (by omega) (by omega) dL_law_323 ?_
  refine j_aload_n O 0 dL_law_324 rfl rfl ?_
  refine j_iload_n O 3 dL_law_325 rfl rfl ?_
  refine j_iconst O (v := 2) dL_law_326 (by decide) ?_
  refine j_iadd O dL_law_327 ?_
  refine j_eqi (nI (6 * c + 2)) (nI_add _ _) ?_
  refine j_sld (i := (6 * c + 2)) O hX hbl hbA (by omega) (by omega) dL_law_328 ?_
  refine j_callVF O [.int (xs (6 * c + 1)), .int (xs (6 * c + 2))] (fun A1 => c_measure X.2.1 D t A1 g1 p w ls s (xs (6 * c + 1)) (xs (6 * c + 2)) hT (by omega)) hTo rfl w350 w351 w352 w23 w353 2 rfl rfl rfl (by decide +kernel) ⟨(Nat.le_of_ble_eq_true rfl), (Nat.le_of_ble_eq_true rfl)⟩ rfl (Nat.le_of_ble_eq_true rfl) dL_law_329 ⟨by show 100 + 40 * c + 0 ≤ 600000; omega, by show 400000 + 3770 * c + 0 ≤ 7302250; omega⟩ (fun vw37 gw38 hpw39 => ?_)
  obtain ⟨rfl, w1, ls1, hl1, hT1⟩ := hpw39
  refine J.comm ?_
  refine j_aload_n O 2 dL_law_332 rfl rfl ?_
  refine j_aload_n O 0 dL_law_333 rfl rfl ?_
  refine j_iload_n O 3 dL_law_334 rfl rfl ?_
  refine j_iconst O (v := 1) dL_law_335 (by decide) ?_
  refine j_iadd O dL_law_336 ?_
  refine j_eqi (nI (6 * c + 1)) (nI_1 _) ?_
  refine j_sld (i := (6 * c + 1)) O hX hbl hbA (by omega) (by omega) dL_law_337 ?_
  refine j_aload_n O 0 dL_law_338 rfl rfl ?_
  refine j_iload_n O 3 dL_law_339 rfl rfl ?_
  refine j_iconst O (v := 2) dL_law_340 (by decide) ?_
  refine j_iadd O dL_law_341 ?_
  refine j_eqi (nI (6 * c + 2)) (nI_add _ _) ?_
  refine j_sld (i := (6 * c + 2)) O hX hbl hbA (by omega) (by omega) dL_law_342 ?_
  refine j_callVF O [.int (xs (6 * c + 1)), .int (xs (6 * c + 2))] (fun A1 => c_M_measure X.2.1 D t A1 g2 u s V (xs (6 * c + 1)) (xs (6 * c + 2)) hR hA) hM rfl w581 w582 w583 w28 w584 2 rfl rfl rfl (by decide +kernel) ⟨(Nat.le_of_ble_eq_true rfl), (Nat.le_of_ble_eq_true rfl)⟩ rfl (Nat.le_of_ble_eq_true rfl) dL_law_343 ⟨by show 100 + 40 * c + 0 + 0 ≤ 600000; omega, by show 400000 + 3770 * c + 0 + 0 ≤ 7302250; omega⟩ (fun vw40 gw41 hpw42 => ?_)
  obtain ⟨rfl, hR1⟩ := hpw42
  refine J.comm ?_
  refine j_icmp_eq O 512 dL_law_346 (by decide) (fun c9 => ?_) (fun c9 => absurd rfl c9)
  refine J.widen (k' := 100 + 40 * (c + 1)) (n' := 400000 + 3770 * (c + 1)) (by omega) (by omega) ?_
  exact HK s gw38 gw41 w1 ls1 V hT1 hR1 hA (by omega) (by omega)
set_option maxRecDepth 100000 in
set_option maxHeartbeats 1000000 in
theorem law_address {X : CX} {D : va_G} {t : Nat → ClassId} {A : Nat → Prop} {b L : Nat} {xs : Nat → Int32} {c : Nat} {p u : Nat → Nat} {g1 g2 : GH} {w : GD} {ls : Nat} {s : AS} {V : List NV} (O : Ok X bL_law 4 "TwinTreesLaw" (zz D t A) room_1) (hX : va_X b L xs X.2.2.2.2.1 X.2.2.2.2.1.heap) (hbl : b < X.2.2.2.2.1.heap.size) (hbA : ¬ zA (zz D t A) b) (hL : L ≤ 3072) (hc : 6 * c + 6 ≤ L) (hT : TW t g1 p w ls s) (hR : RW t g2 u s V) (hA : aOK s) (hsn : s.2.1.length ≤ 1 + 12 * c) (hls : ls ≤ 2 * c) (HK : ∀ (s' : AS) (g1 g2 : GH) (w : GD) (ls : Nat) (V : List NV), TW t g1 p w ls s' → RW t g2 u s' V → aOK s' → s'.2.1.length ≤ 1 + 12 * (c + 1) → ls ≤ 2 * (c + 1) → J X 4 (zz D t A) (gPl g1 g2) (100 + 40 * (c + 1)) (400000 + 3770 * (c + 1)) 512 [(0, .ref b), (1, .ref (p 13)), (2, .ref (u 19)), (3, .int (nI (6 * c)))] []) : J X 4 (zz D t A) (gPl g1 g2) (100 + 40 * c) (400000 + 3770 * c) 351 [(0, .ref b), (1, .ref (p 13)), (2, .ref (u 19)), (3, .int (nI (6 * c)))] [] := by
  obtain ⟨hRT, hD, ⟨⟨oc, om, lm, mm, ta, co, si, hM⟩, -⟩, hpm, hne⟩ := id hR
  have hc512 : c < 512 := by omega
  have hTo := hT.1
  refine j_aload_n O 1 dL_law_351 rfl rfl ?_
  refine j_aload_n O 0 dL_law_352 rfl rfl ?_
  refine j_iload_n O 3 dL_law_353 rfl rfl ?_
  refine j_iconst O (v := 1) dL_law_354 (by decide) ?_
  refine j_iadd O dL_law_355 ?_
  refine j_eqi (nI (6 * c + 1)) (nI_1 _) ?_
  refine j_sld (i := (6 * c + 1)) O hX hbl hbA (by omega) (by omega) dL_law_356 ?_
  refine j_callVF O [.int (xs (6 * c + 1))] (fun A1 => c_address X.2.1 D t A1 g1 p w ls s (xs (6 * c + 1)) hT) hTo rfl w357 w358 w359 w23 w360 1 rfl rfl rfl (by decide +kernel) ⟨(Nat.le_of_ble_eq_true rfl), (Nat.le_of_ble_eq_true rfl)⟩ rfl (Nat.le_of_ble_eq_true rfl) dL_law_357 ⟨by show 100 + 40 * c + 0 ≤ 600000; omega, by show 400000 + 3770 * c + 0 ≤ 7302250; omega⟩ (fun vw43 gw44 hpw45 => ?_)
  obtain ⟨rfl, w1, hT1⟩ := hpw45
  refine J.comm ?_
  refine j_aload_n O 2 dL_law_360 rfl rfl ?_
  refine j_aload_n O 0 dL_law_361 rfl rfl ?_
  refine j_iload_n O 3 dL_law_362 rfl rfl ?_
  refine j_iconst O (v := 1) dL_law_363 (by decide) ?_
  refine j_iadd O dL_law_364 ?_
  refine j_eqi (nI (6 * c + 1)) (nI_1 _) ?_
  refine j_sld (i := (6 * c + 1)) O hX hbl hbA (by omega) (by omega) dL_law_365 ?_
  refine j_callVF O [.int (xs (6 * c + 1))] (fun A1 => c_M_address X.2.1 D t A1 g2 u s V (xs (6 * c + 1)) hR hA) hM rfl w585 w586 w587 w28 w588 1 rfl rfl rfl (by decide +kernel) ⟨(Nat.le_of_ble_eq_true rfl), (Nat.le_of_ble_eq_true rfl)⟩ rfl (Nat.le_of_ble_eq_true rfl) dL_law_366 ⟨by show 100 + 40 * c + 0 + 0 ≤ 600000; omega, by show 400000 + 3770 * c + 0 + 0 ≤ 7302250; omega⟩ (fun vw46 gw47 hpw48 => ?_)
  obtain ⟨rfl, hR1⟩ := hpw48
  refine J.comm ?_
  refine j_lcmp O dL_law_369 ?_
  refine j_if_eq O 512 dL_law_370 (by decide) (fun c9 => ?_) (fun c9 => absurd (by unfold lg_cmp; simp) c9)
  refine J.widen (k' := 100 + 40 * (c + 1)) (n' := 400000 + 3770 * (c + 1)) (by omega) (by omega) ?_
  exact HK s gw44 gw47 w1 ls V hT1 hR1 hA (by omega) (by omega)
set_option maxRecDepth 100000 in
set_option maxHeartbeats 1000000 in
theorem law_row {X : CX} {D : va_G} {t : Nat → ClassId} {A : Nat → Prop} {b L : Nat} {xs : Nat → Int32} {c : Nat} {p u : Nat → Nat} {g1 g2 : GH} {w : GD} {ls : Nat} {s : AS} {V : List NV} (O : Ok X bL_law 4 "TwinTreesLaw" (zz D t A) room_1) (hX : va_X b L xs X.2.2.2.2.1 X.2.2.2.2.1.heap) (hbl : b < X.2.2.2.2.1.heap.size) (hbA : ¬ zA (zz D t A) b) (hL : L ≤ 3072) (hc : 6 * c + 6 ≤ L) (hT : TW t g1 p w ls s) (hR : RW t g2 u s V) (hA : aOK s) (hsn : s.2.1.length ≤ 1 + 12 * c) (hls : ls ≤ 2 * c) (HK : ∀ (s' : AS) (g1 g2 : GH) (w : GD) (ls : Nat) (V : List NV), TW t g1 p w ls s' → RW t g2 u s' V → aOK s' → s'.2.1.length ≤ 1 + 12 * (c + 1) → ls ≤ 2 * (c + 1) → J X 4 (zz D t A) (gPl g1 g2) (100 + 40 * (c + 1)) (400000 + 3770 * (c + 1)) 512 [(0, .ref b), (1, .ref (p 13)), (2, .ref (u 19)), (3, .int (nI (6 * c)))] []) : J X 4 (zz D t A) (gPl g1 g2) (100 + 40 * c) (400000 + 3770 * c) 375 [(0, .ref b), (1, .ref (p 13)), (2, .ref (u 19)), (3, .int (nI (6 * c)))] [] := by
  obtain ⟨hRT, hD, ⟨⟨oc, om, lm, mm, ta, co, si, hM⟩, -⟩, hpm, hne⟩ := id hR
  have hc512 : c < 512 := by omega
  have hTo := hT.1
  refine j_aload_n O 1 dL_law_375 rfl rfl ?_
  refine j_aload_n O 0 dL_law_376 rfl rfl ?_
  refine j_iload_n O 3 dL_law_377 rfl rfl ?_
  refine j_iconst O (v := 1) dL_law_378 (by decide) ?_
  refine j_iadd O dL_law_379 ?_
  refine j_eqi (nI (6 * c + 1)) (nI_1 _) ?_
  refine j_sld (i := (6 * c + 1)) O hX hbl hbA (by omega) (by omega) dL_law_380 ?_
  refine j_aload_n O 0 dL_law_381 rfl rfl ?_
  refine j_iload_n O 3 dL_law_382 rfl rfl ?_
  refine j_iconst O (v := 2) dL_law_383 (by decide) ?_
  refine j_iadd O dL_law_384 ?_
  refine j_eqi (nI (6 * c + 2)) (nI_add _ _) ?_
  refine j_sld (i := (6 * c + 2)) O hX hbl hbA (by omega) (by omega) dL_law_385 ?_
  refine j_callVF O [.int (xs (6 * c + 1)), .int (xs (6 * c + 2))] (fun A1 => c_row X.2.1 D t A1 g1 p w ls s (xs (6 * c + 1)) (xs (6 * c + 2)) hT) hTo rfl w372 w373 w374 w23 w375 2 rfl rfl rfl (by decide +kernel) ⟨(Nat.le_of_ble_eq_true rfl), (Nat.le_of_ble_eq_true rfl)⟩ rfl (Nat.le_of_ble_eq_true rfl) dL_law_386 ⟨by show 100 + 40 * c + 0 ≤ 600000; omega, by show 400000 + 3770 * c + 0 ≤ 7302250; omega⟩ (fun vw49 gw50 hpw51 => ?_)
  obtain ⟨rfl, e1⟩ := hpw51
  refine J.comm ?_
  refine j_aload_n O 2 dL_law_389 rfl rfl ?_
  refine j_aload_n O 0 dL_law_390 rfl rfl ?_
  refine j_iload_n O 3 dL_law_391 rfl rfl ?_
  refine j_iconst O (v := 1) dL_law_392 (by decide) ?_
  refine j_iadd O dL_law_393 ?_
  refine j_eqi (nI (6 * c + 1)) (nI_1 _) ?_
  refine j_sld (i := (6 * c + 1)) O hX hbl hbA (by omega) (by omega) dL_law_394 ?_
  refine j_aload_n O 0 dL_law_395 rfl rfl ?_
  refine j_iload_n O 3 dL_law_396 rfl rfl ?_
  refine j_iconst O (v := 2) dL_law_397 (by decide) ?_
  refine j_iadd O dL_law_398 ?_
  refine j_eqi (nI (6 * c + 2)) (nI_add _ _) ?_
  refine j_sld (i := (6 * c + 2)) O hX hbl hbA (by omega) (by omega) dL_law_399 ?_
  refine j_callVF O [.int (xs (6 * c + 1)), .int (xs (6 * c + 2))] (fun A1 => c_M_row X.2.1 D t A1 g2 u oc om (nI s.2.2.length) (nI V.length) (nI (szL V)) lm mm ta co si s (xs (6 * c + 1)) (xs (6 * c + 2)) hM hRT hA.1) hM rfl w597 w598 w599 w28 w600 2 rfl rfl rfl (by decide +kernel) ⟨(Nat.le_of_ble_eq_true rfl), (Nat.le_of_ble_eq_true rfl)⟩ rfl (Nat.le_of_ble_eq_true rfl) dL_law_400 ⟨by show 100 + 40 * c + 0 + 0 ≤ 600000; omega, by show 400000 + 3770 * c + 0 + 0 ≤ 7302250; omega⟩ (fun vw52 gw53 hpw54 => ?_)
  obtain ⟨rfl, e2⟩ := hpw54
  refine J.comm ?_
  refine j_lcmp O dL_law_403 ?_
  refine j_if_eq O 512 dL_law_404 (by decide) (fun c9 => ?_) (fun c9 => absurd (by unfold lg_cmp; simp) c9)
  refine J.widen (k' := 100 + 40 * (c + 1)) (n' := 400000 + 3770 * (c + 1)) (by omega) (by omega) ?_
  rw [e1, e2]
  exact HK s _ _ w ls V hT hR hA (by omega) (by omega)
set_option maxRecDepth 100000 in
set_option maxHeartbeats 1000000 in
theorem law_compare {X : CX} {D : va_G} {t : Nat → ClassId} {A : Nat → Prop} {b L : Nat} {xs : Nat → Int32} {c : Nat} {p u : Nat → Nat} {g1 g2 : GH} {w : GD} {ls : Nat} {s : AS} {V : List NV} (O : Ok X bL_law 4 "TwinTreesLaw" (zz D t A) room_1) (hX : va_X b L xs X.2.2.2.2.1 X.2.2.2.2.1.heap) (hbl : b < X.2.2.2.2.1.heap.size) (hbA : ¬ zA (zz D t A) b) (hL : L ≤ 3072) (hc : 6 * c + 6 ≤ L) (hT : TW t g1 p w ls s) (hR : RW t g2 u s V) (hA : aOK s) (hsn : s.2.1.length ≤ 1 + 12 * c) (hls : ls ≤ 2 * c) (HK : ∀ (s' : AS) (g1 g2 : GH) (w : GD) (ls : Nat) (V : List NV), TW t g1 p w ls s' → RW t g2 u s' V → aOK s' → s'.2.1.length ≤ 1 + 12 * (c + 1) → ls ≤ 2 * (c + 1) → J X 4 (zz D t A) (gPl g1 g2) (100 + 40 * (c + 1)) (400000 + 3770 * (c + 1)) 512 [(0, .ref b), (1, .ref (p 13)), (2, .ref (u 19)), (3, .int (nI (6 * c)))] []) : J X 4 (zz D t A) (gPl g1 g2) (100 + 40 * c) (400000 + 3770 * c) 409 [(0, .ref b), (1, .ref (p 13)), (2, .ref (u 19)), (3, .int (nI (6 * c)))] [] := by
  obtain ⟨hRT, hD, ⟨⟨oc, om, lm, mm, ta, co, si, hM⟩, -⟩, hpm, hne⟩ := id hR
  have hc512 : c < 512 := by omega
  have hTo := hT.1
  refine j_aload_n O 1 dL_law_409 rfl rfl ?_
  refine j_aload_n O 0 dL_law_410 rfl rfl ?_
  refine j_iload_n O 3 dL_law_411 rfl rfl ?_
  refine j_iconst O (v := 1) dL_law_412 (by decide) ?_
  refine j_iadd O dL_law_413 ?_
  refine j_eqi (nI (6 * c + 1)) (nI_1 _) ?_
  refine j_sld (i := (6 * c + 1)) O hX hbl hbA (by omega) (by omega) dL_law_414 ?_
  refine j_aload_n O 0 dL_law_415 rfl rfl ?_
  refine j_iload_n O 3 dL_law_416 rfl rfl ?_
  refine j_iconst O (v := 2) dL_law_417 (by decide) ?_
  refine j_iadd O dL_law_418 ?_
  refine j_eqi (nI (6 * c + 2)) (nI_add _ _) ?_
  refine j_sld (i := (6 * c + 2)) O hX hbl hbA (by omega) (by omega) dL_law_419 ?_
  refine j_callVF O [.int (xs (6 * c + 1)), .int (xs (6 * c + 2))] (fun A1 => c_compare X.2.1 D t A1 g1 p w ls s (xs (6 * c + 1)) (xs (6 * c + 2)) hT (by omega)) hTo rfl w379 w380 w381 w23 w382 2 rfl rfl rfl (by decide +kernel) ⟨(Nat.le_of_ble_eq_true rfl), (Nat.le_of_ble_eq_true rfl)⟩ rfl (Nat.le_of_ble_eq_true rfl) dL_law_420 ⟨by show 100 + 40 * c + 0 ≤ 600000; omega, by show 400000 + 3770 * c + 0 ≤ 7302250; omega⟩ (fun vw55 gw56 hpw57 => ?_)
  obtain ⟨rfl, w1, ls1, hl1, hT1⟩ := hpw57
  refine J.comm ?_
  refine j_aload_n O 2 dL_law_423 rfl rfl ?_
  refine j_aload_n O 0 dL_law_424 rfl rfl ?_
  refine j_iload_n O 3 dL_law_425 rfl rfl ?_
  refine j_iconst O (v := 1) dL_law_426 (by decide) ?_
  refine j_iadd O dL_law_427 ?_
  refine j_eqi (nI (6 * c + 1)) (nI_1 _) ?_
  refine j_sld (i := (6 * c + 1)) O hX hbl hbA (by omega) (by omega) dL_law_428 ?_
  refine j_aload_n O 0 dL_law_429 rfl rfl ?_
  refine j_iload_n O 3 dL_law_430 rfl rfl ?_
  refine j_iconst O (v := 2) dL_law_431 (by decide) ?_
  refine j_iadd O dL_law_432 ?_
  refine j_eqi (nI (6 * c + 2)) (nI_add _ _) ?_
  refine j_sld (i := (6 * c + 2)) O hX hbl hbA (by omega) (by omega) dL_law_433 ?_
  refine j_callVF O [.int (xs (6 * c + 1)), .int (xs (6 * c + 2))] (fun A1 => c_M_compare X.2.1 D t A1 g2 u oc om (nI s.2.2.length) (nI V.length) (nI (szL V)) lm mm ta co si s (xs (6 * c + 1)) (xs (6 * c + 2)) hM hRT hA.1 hD rfl hA.2.1 hne) hM rfl w601 w602 w603 w28 w604 2 rfl rfl rfl (by decide +kernel) ⟨(Nat.le_of_ble_eq_true rfl), (Nat.le_of_ble_eq_true rfl)⟩ rfl (Nat.le_of_ble_eq_true rfl) dL_law_434 ⟨by show 100 + 40 * c + 0 + 0 ≤ 600000; omega, by show 400000 + 3770 * c + 0 + 0 ≤ 7302250; omega⟩ (fun vw58 gw59 hpw60 => ?_)
  obtain ⟨rfl, hM1, hD1, kp1⟩ := hpw60
  refine J.comm ?_
  refine j_icmp_eq O 512 dL_law_437 (by decide) (fun c9 => ?_) (fun c9 => absurd rfl c9)
  refine J.widen (k' := 100 + 40 * (c + 1)) (n' := 400000 + 3770 * (c + 1)) (by omega) (by omega) ?_
  have hq := aOK_cmp hA (xs (6 * c + 1)) (xs (6 * c + 2))
  exact HK _ gw56 gw59 w1 ls1 V hT1 (hR.cmp hM1 hD1 kp1) hq.1 (by omega) (by omega)
set_option maxRecDepth 100000 in
set_option maxHeartbeats 1000000 in
theorem law_difference {X : CX} {D : va_G} {t : Nat → ClassId} {A : Nat → Prop} {b L : Nat} {xs : Nat → Int32} {c : Nat} {p u : Nat → Nat} {g1 g2 : GH} {w : GD} {ls : Nat} {s : AS} {V : List NV} (O : Ok X bL_law 4 "TwinTreesLaw" (zz D t A) room_1) (hX : va_X b L xs X.2.2.2.2.1 X.2.2.2.2.1.heap) (hbl : b < X.2.2.2.2.1.heap.size) (hbA : ¬ zA (zz D t A) b) (hL : L ≤ 3072) (hc : 6 * c + 6 ≤ L) (hT : TW t g1 p w ls s) (hR : RW t g2 u s V) (hA : aOK s) (hsn : s.2.1.length ≤ 1 + 12 * c) (hls : ls ≤ 2 * c) (HK : ∀ (s' : AS) (g1 g2 : GH) (w : GD) (ls : Nat) (V : List NV), TW t g1 p w ls s' → RW t g2 u s' V → aOK s' → s'.2.1.length ≤ 1 + 12 * (c + 1) → ls ≤ 2 * (c + 1) → J X 4 (zz D t A) (gPl g1 g2) (100 + 40 * (c + 1)) (400000 + 3770 * (c + 1)) 512 [(0, .ref b), (1, .ref (p 13)), (2, .ref (u 19)), (3, .int (nI (6 * c)))] []) : J X 4 (zz D t A) (gPl g1 g2) (100 + 40 * c) (400000 + 3770 * c) 442 [(0, .ref b), (1, .ref (p 13)), (2, .ref (u 19)), (3, .int (nI (6 * c)))] [] := by
  obtain ⟨hRT, hD, ⟨⟨oc, om, lm, mm, ta, co, si, hM⟩, -⟩, hpm, hne⟩ := id hR
  have hc512 : c < 512 := by omega
  have hTo := hT.1
  refine j_aload_n O 1 dL_law_442 rfl rfl ?_
  refine j_aload_n O 0 dL_law_443 rfl rfl ?_
  refine j_iload_n O 3 dL_law_444 rfl rfl ?_
  refine j_iconst O (v := 1) dL_law_445 (by decide) ?_
  refine j_iadd O dL_law_446 ?_
  refine j_eqi (nI (6 * c + 1)) (nI_1 _) ?_
  refine j_sld (i := (6 * c + 1)) O hX hbl hbA (by omega) (by omega) dL_law_447 ?_
  refine j_aload_n O 0 dL_law_448 rfl rfl ?_
  refine j_iload_n O 3 dL_law_449 rfl rfl ?_
  refine j_iconst O (v := 2) dL_law_450 (by decide) ?_
  refine j_iadd O dL_law_451 ?_
  refine j_eqi (nI (6 * c + 2)) (nI_add _ _) ?_
  refine j_sld (i := (6 * c + 2)) O hX hbl hbA (by omega) (by omega) dL_law_452 ?_
  refine j_callVF O [.int (xs (6 * c + 1)), .int (xs (6 * c + 2))] (fun A1 => c_difference X.2.1 D t A1 g1 p w ls s (xs (6 * c + 1)) (xs (6 * c + 2)) hT) hTo rfl w394 w395 w396 w23 w397 2 rfl rfl rfl (by decide +kernel) ⟨(Nat.le_of_ble_eq_true rfl), (Nat.le_of_ble_eq_true rfl)⟩ rfl (Nat.le_of_ble_eq_true rfl) dL_law_453 ⟨by show 100 + 40 * c + 0 ≤ 600000; omega, by show 400000 + 3770 * c + 0 ≤ 7302250; omega⟩ (fun vw61 gw62 hpw63 => ?_)
  obtain ⟨rfl, e1⟩ := hpw63
  refine J.comm ?_
  refine j_aload_n O 2 dL_law_456 rfl rfl ?_
  refine j_aload_n O 0 dL_law_457 rfl rfl ?_
  refine j_iload_n O 3 dL_law_458 rfl rfl ?_
  refine j_iconst O (v := 1) dL_law_459 (by decide) ?_
  refine j_iadd O dL_law_460 ?_
  refine j_eqi (nI (6 * c + 1)) (nI_1 _) ?_
  refine j_sld (i := (6 * c + 1)) O hX hbl hbA (by omega) (by omega) dL_law_461 ?_
  refine j_aload_n O 0 dL_law_462 rfl rfl ?_
  refine j_iload_n O 3 dL_law_463 rfl rfl ?_
  refine j_iconst O (v := 2) dL_law_464 (by decide) ?_
  refine j_iadd O dL_law_465 ?_
  refine j_eqi (nI (6 * c + 2)) (nI_add _ _) ?_
  refine j_sld (i := (6 * c + 2)) O hX hbl hbA (by omega) (by omega) dL_law_466 ?_
  refine j_callVF O [.int (xs (6 * c + 1)), .int (xs (6 * c + 2))] (fun A1 => c_M_difference X.2.1 D t A1 g2 u oc om (nI V.length) (nI (szL V)) lm mm ta co si s (xs (6 * c + 1)) (xs (6 * c + 2)) hM hD) hM rfl w605 w606 w607 w28 w608 2 rfl rfl rfl (by decide +kernel) ⟨(Nat.le_of_ble_eq_true rfl), (Nat.le_of_ble_eq_true rfl)⟩ rfl (Nat.le_of_ble_eq_true rfl) dL_law_467 ⟨by show 100 + 40 * c + 0 + 0 ≤ 600000; omega, by show 400000 + 3770 * c + 0 + 0 ≤ 7302250; omega⟩ (fun vw64 gw65 hpw66 => ?_)
  obtain ⟨rfl, e2⟩ := hpw66
  refine J.comm ?_
  refine j_lcmp O dL_law_470 ?_
  refine j_if_eq O 512 dL_law_471 (by decide) (fun c9 => ?_) (fun c9 => absurd (by unfold lg_cmp; simp) c9)
  refine J.widen (k' := 100 + 40 * (c + 1)) (n' := 400000 + 3770 * (c + 1)) (by omega) (by omega) ?_
  rw [e1, e2]
  exact HK s _ _ w ls V hT hR hA (by omega) (by omega)
set_option maxRecDepth 100000 in
set_option maxHeartbeats 1000000 in
theorem law_sweep {X : CX} {D : va_G} {t : Nat → ClassId} {A : Nat → Prop} {b L : Nat} {xs : Nat → Int32} {c : Nat} {p u : Nat → Nat} {g1 g2 : GH} {w : GD} {ls : Nat} {s : AS} {V : List NV} (O : Ok X bL_law 4 "TwinTreesLaw" (zz D t A) room_1) (hX : va_X b L xs X.2.2.2.2.1 X.2.2.2.2.1.heap) (hbl : b < X.2.2.2.2.1.heap.size) (hbA : ¬ zA (zz D t A) b) (hL : L ≤ 3072) (hc : 6 * c + 6 ≤ L) (hT : TW t g1 p w ls s) (hR : RW t g2 u s V) (hA : aOK s) (hsn : s.2.1.length ≤ 1 + 12 * c) (hls : ls ≤ 2 * c) (HK : ∀ (s' : AS) (g1 g2 : GH) (w : GD) (ls : Nat) (V : List NV), TW t g1 p w ls s' → RW t g2 u s' V → aOK s' → s'.2.1.length ≤ 1 + 12 * (c + 1) → ls ≤ 2 * (c + 1) → J X 4 (zz D t A) (gPl g1 g2) (100 + 40 * (c + 1)) (400000 + 3770 * (c + 1)) 512 [(0, .ref b), (1, .ref (p 13)), (2, .ref (u 19)), (3, .int (nI (6 * c)))] []) : J X 4 (zz D t A) (gPl g1 g2) (100 + 40 * c) (400000 + 3770 * c) 476 [(0, .ref b), (1, .ref (p 13)), (2, .ref (u 19)), (3, .int (nI (6 * c)))] [] := by
  obtain ⟨hRT, hD, ⟨⟨oc, om, lm, mm, ta, co, si, hM⟩, -⟩, hpm, hne⟩ := id hR
  have hc512 : c < 512 := by omega
  have hTo := hT.1
  refine j_aload_n O 1 dL_law_476 rfl rfl ?_
  refine j_callVF O [] (fun A1 => c_sweep X.2.1 D t A1 g1 p w ls s hT (by omega)) hTo rfl w398 w399 w400 w23 w401 0 rfl rfl rfl (by decide +kernel) ⟨(Nat.le_of_ble_eq_true rfl), (Nat.le_of_ble_eq_true rfl)⟩ rfl (Nat.le_of_ble_eq_true rfl) dL_law_477 ⟨by show 100 + 40 * c + 0 ≤ 600000; omega, by show 400000 + 3770 * c + 0 ≤ 7302250; omega⟩ (fun vw67 gw68 hpw69 => ?_)
  obtain ⟨rfl, w1, ls1, hl1, hT1⟩ := hpw69
  refine J.comm ?_
  refine j_aload_n O 2 dL_law_480 rfl rfl ?_
  refine j_callVF O [] (fun A1 => c_M_sweep X.2.1 D t A1 g2 u s V hR hA) hM rfl w609 w610 w611 w28 w612 0 rfl rfl rfl (by decide +kernel) ⟨(Nat.le_of_ble_eq_true rfl), (Nat.le_of_ble_eq_true rfl)⟩ rfl (Nat.le_of_ble_eq_true rfl) dL_law_481 ⟨by show 100 + 40 * c + 0 + 0 ≤ 600000; omega, by show 400000 + 3770 * c + 0 + 0 ≤ 7302250; omega⟩ (fun vw70 gw71 hpw72 => ?_)
  obtain ⟨rfl, V1, hR1⟩ := hpw72
  refine J.comm ?_
  refine j_icmp_eq O 512 dL_law_484 (by decide) (fun c9 => ?_) (fun c9 => absurd rfl c9)
  refine J.widen (k' := 100 + 40 * (c + 1)) (n' := 400000 + 3770 * (c + 1)) (by omega) (by omega) ?_
  have hq := aOK_sweep hA
  exact HK _ gw68 gw71 w1 ls1 V1 hT1 hR1 hq.1 (by omega) (by omega)
set_option maxRecDepth 100000 in
set_option maxHeartbeats 1000000 in
theorem law_count {X : CX} {D : va_G} {t : Nat → ClassId} {A : Nat → Prop} {b L : Nat} {xs : Nat → Int32} {c : Nat} {p u : Nat → Nat} {g1 g2 : GH} {w : GD} {ls : Nat} {s : AS} {V : List NV} (O : Ok X bL_law 4 "TwinTreesLaw" (zz D t A) room_1) (hX : va_X b L xs X.2.2.2.2.1 X.2.2.2.2.1.heap) (hbl : b < X.2.2.2.2.1.heap.size) (hbA : ¬ zA (zz D t A) b) (hL : L ≤ 3072) (hc : 6 * c + 6 ≤ L) (hT : TW t g1 p w ls s) (hR : RW t g2 u s V) (hA : aOK s) (hsn : s.2.1.length ≤ 1 + 12 * c) (hls : ls ≤ 2 * c) (HK : ∀ (s' : AS) (g1 g2 : GH) (w : GD) (ls : Nat) (V : List NV), TW t g1 p w ls s' → RW t g2 u s' V → aOK s' → s'.2.1.length ≤ 1 + 12 * (c + 1) → ls ≤ 2 * (c + 1) → J X 4 (zz D t A) (gPl g1 g2) (100 + 40 * (c + 1)) (400000 + 3770 * (c + 1)) 512 [(0, .ref b), (1, .ref (p 13)), (2, .ref (u 19)), (3, .int (nI (6 * c)))] []) : J X 4 (zz D t A) (gPl g1 g2) (100 + 40 * c) (400000 + 3770 * c) 489 [(0, .ref b), (1, .ref (p 13)), (2, .ref (u 19)), (3, .int (nI (6 * c)))] [] := by
  obtain ⟨hRT, hD, ⟨⟨oc, om, lm, mm, ta, co, si, hM⟩, -⟩, hpm, hne⟩ := id hR
  have hc512 : c < 512 := by omega
  have hTo := hT.1
  have hMc := hM
  rw [hpm.length_eq, szL_perm hpm] at hMc
  refine j_aload_n O 1 dL_law_489 rfl rfl ?_
  refine j_aload_n O 0 dL_law_490 rfl rfl ?_
  refine j_iload_n O 3 dL_law_491 rfl rfl ?_
  refine j_iconst O (v := 1) dL_law_492 (by decide) ?_
  refine j_iadd O dL_law_493 ?_
  refine j_eqi (nI (6 * c + 1)) (nI_1 _) ?_
  refine j_sld (i := (6 * c + 1)) O hX hbl hbA (by omega) (by omega) dL_law_494 ?_
  refine j_callVF O [.int (xs (6 * c + 1))] (fun A1 => c_count X.2.1 D t A1 g1 p w ls s (xs (6 * c + 1)) hT) hTo rfl w406 w407 w408 w23 w409 1 rfl rfl rfl (by decide +kernel) ⟨(Nat.le_of_ble_eq_true rfl), (Nat.le_of_ble_eq_true rfl)⟩ rfl (Nat.le_of_ble_eq_true rfl) dL_law_495 ⟨by show 100 + 40 * c + 0 ≤ 600000; omega, by show 400000 + 3770 * c + 0 ≤ 7302250; omega⟩ (fun vw73 gw74 hpw75 => ?_)
  obtain ⟨rfl, e1⟩ := hpw75
  refine J.comm ?_
  refine j_aload_n O 2 dL_law_498 rfl rfl ?_
  refine j_aload_n O 0 dL_law_499 rfl rfl ?_
  refine j_iload_n O 3 dL_law_500 rfl rfl ?_
  refine j_iconst O (v := 1) dL_law_501 (by decide) ?_
  refine j_iadd O dL_law_502 ?_
  refine j_eqi (nI (6 * c + 1)) (nI_1 _) ?_
  refine j_sld (i := (6 * c + 1)) O hX hbl hbA (by omega) (by omega) dL_law_503 ?_
  refine j_callVF O [.int (xs (6 * c + 1))] (fun A1 => c_M_count X.2.1 D t A1 g2 u oc om (nI s.2.2.length) (nI s.2.1.length) (nI (szL s.2.1)) lm mm ta co si s (xs (6 * c + 1)) hMc) hM rfl w616 w617 w618 w28 w619 1 rfl rfl rfl (by decide +kernel) ⟨(Nat.le_of_ble_eq_true rfl), (Nat.le_of_ble_eq_true rfl)⟩ rfl (Nat.le_of_ble_eq_true rfl) dL_law_504 ⟨by show 100 + 40 * c + 0 + 0 ≤ 600000; omega, by show 400000 + 3770 * c + 0 + 0 ≤ 7302250; omega⟩ (fun vw76 gw77 hpw78 => ?_)
  obtain ⟨rfl, e2⟩ := hpw78
  refine J.comm ?_
  refine j_icmp_eq O 512 dL_law_507 (by decide) (fun c9 => ?_) (fun c9 => absurd rfl c9)
  refine J.widen (k' := 100 + 40 * (c + 1)) (n' := 400000 + 3770 * (c + 1)) (by omega) (by omega) ?_
  rw [e1, e2]
  exact HK s _ _ w ls V hT hR hA (by omega) (by omega)
