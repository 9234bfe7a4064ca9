/-- the state of a new system -/
def s00 : AS := (fun _ => (1, []), [(0, [])], [])
def w00 : GD := (fun _ => none, fun _ => [], fun _ => (0, 0, 0, none), fun _ => False, fun _ => [], [])
theorem SW.w00 {t : Nat → ClassId} {g : GH} {sA bA : Nat} (h1 : gAt g sA (eSt bA none 0 0)) (h2 : gAt g bA (eNs t 1024 (fun _ => none))) : SW t g w00 sA bA (nI 0) (nI 0) :=
  ⟨fun a v hv => (by cases hv), h1, ⟨_, h2, fun i hi => rfl⟩, fun i hi => ⟨trivial, List.nodup_nil, fun a ha => (by cases ha)⟩, ⟨trivial, List.nodup_nil, fun a ha => (by cases ha)⟩, fun a b v ha hb hv => (by cases hv), ⟨fun a ha b hb => (by cases hb), fun a ha => (by cases ha)⟩, id, id, fun x hx => False.elim hx⟩
theorem stL_nil : stL (fun _ => []) = [] := by
  unfold stL
  generalize rgK = L
  induction L with
  | nil => rfl
  | cons a L ih => rw [List.flatMap_cons, ih]; rfl
set_option maxRecDepth 100000 in
set_option maxHeartbeats 1000000 in
theorem c_T_init (l : Launch) (D : va_G) (t : Nat → ClassId) (A : Nat → Prop) (g : GH) (T : Nat) (ha : gAt g T (.inr (0, [.null, .null, .null, .null, .null, .null, .null, .int 0]))) : Ct l yT_init sT_init { frames := 5, cells := 20, slots := 3800, locals := 160 } (zz D t A) [.ref T] g 20 3800 (fun v g' => v = none ∧ ∃ p w, p 13 = T ∧ TW t g' p w 0 s00) := by
  refine Ct.of (cc := bT_init) (maxL := 3) (ret := none) (by decide) (Nat.le_of_ble_eq_true rfl) (fun X hlX O M hNn => ?_)
  have hN := hNn rfl
  show J X 3 (zz D t A) g 0 0 0 [(0, .ref T)] []
  have kp0 : Kp [T] g g := Kp.rf
  refine j_aload_n O 0 dT_init_0 rfl rfl ?_
  refine j_objInit O w38 w39 w40 dT_init_1 (Nat.le_of_ble_eq_true rfl) (Nat.le_of_ble_eq_true rfl) ?_
  refine j_aload_n O 0 dT_init_4 rfl rfl ?_
  refine j_bipush O (v := 6) dT_init_5 (by decide) ?_
  refine j_newa (atype := .int) O w63 (.int) rfl 0 rfl rfl 6 (6, .inl (fun _ => 0)) (fun _ => rfl) (by decide) (by decide) (by decide) (Nat.le_of_ble_eq_true rfl) (Nat.le_of_ble_eq_true rfl) dT_init_7 (fun qw146 gw147 hqw148 ew149 => ?_)
  have hw150 := gNew_old (e' := .inl (t 0, 6, .inl (fun _ => 0))) ha hqw148
  rw [← ew149] at hw150
  have hw151 := gNew_self (g := g) (a := qw146) (e := .inl (t 0, 6, .inl (fun _ => 0)))
  rw [← ew149] at hw151
  refine j_putF O hN uwT hw150 rfl 0 (by decide) w192 rfl tT ftT fnT rfl rfl (.array .int) (by decide +kernel) rfl rfl (Nat.le_of_ble_eq_true rfl) [.ref qw146, .null, .null, .null, .null, .null, .null, .int 0] rfl dT_init_9 (fun gw152 ew153 => ?_)
  have hw154 := gUp_ne (e' := .inr (0, [.ref qw146, .null, .null, .null, .null, .null, .null, .int 0])) hw151 (Ne.symm (ha.nin hqw148))
  rw [← ew153] at hw154
  have hw155 := gUp_self (e' := .inr (0, [.ref qw146, .null, .null, .null, .null, .null, .null, .int 0])) hw150
  rw [← ew153] at hw155
  refine j_aload_n O 0 dT_init_12 rfl rfl ?_
  refine j_bipush O (v := 6) dT_init_13 (by decide) ?_
  refine j_newq O w41 (List.mem_of_getElem? (i := 4) rfl) 2 rfl 6 (by decide) (by decide) (by decide) (Nat.le_of_ble_eq_true rfl) (Nat.le_of_ble_eq_true rfl) dT_init_15 (fun qw156 gw157 hqw158 ew159 => ?_)
  have hw160 := gNew_old (e' := .inl (t 2, 6, .inr (.inr (.inr (.inr (fun _ => none)))))) hw155 hqw158
  rw [← ew159] at hw160
  have hw161 := gNew_old (e' := .inl (t 2, 6, .inr (.inr (.inr (.inr (fun _ => none)))))) hw154 hqw158
  rw [← ew159] at hw161
  have hw162 := gNew_self (g := gw152) (a := qw156) (e := .inl (t 2, 6, .inr (.inr (.inr (.inr (fun _ => none))))))
  rw [← ew159] at hw162
  refine j_putF O hN uwT hw160 rfl 1 (by decide) w193 rfl tT ftT fnT rfl rfl (.array (.object "TwinTrees$Node")) (by decide +kernel) rfl rfl (Nat.le_of_ble_eq_true rfl) [.ref qw146, .ref qw156, .null, .null, .null, .null, .null, .int 0] rfl dT_init_18 (fun gw163 ew164 => ?_)
  have hw165 := gUp_ne (e' := .inr (0, [.ref qw146, .ref qw156, .null, .null, .null, .null, .null, .int 0])) hw161 (Ne.symm (ha.nin hqw148))
  rw [← ew164] at hw165
  have hw166 := gUp_ne (e' := .inr (0, [.ref qw146, .ref qw156, .null, .null, .null, .null, .null, .int 0])) hw162 (Ne.symm (hw155.nin hqw158))
  rw [← ew164] at hw166
  have hw167 := gUp_self (e' := .inr (0, [.ref qw146, .ref qw156, .null, .null, .null, .null, .null, .int 0])) hw160
  rw [← ew164] at hw167
  refine j_aload_n O 0 dT_init_21 rfl rfl ?_
  refine j_new (ci := 5) O uwS tS ftS w42 w43 w24 rfl [.null, .null, .int 0, .int 0] (fun j hj => by rcases (show j = 0 ∨ j = 1 ∨ j = 2 ∨ j = 3 by omega) with rfl | rfl | rfl | rfl <;> rfl) (Nat.le_of_ble_eq_true rfl) (Nat.le_of_ble_eq_true rfl) dT_init_22 (fun qw168 gw169 hqw170 ew171 => ?_)
  have hw172 := gNew_old (e' := .inr (5, [.null, .null, .int 0, .int 0])) hw167 hqw170
  rw [← ew171] at hw172
  have hw173 := gNew_old (e' := .inr (5, [.null, .null, .int 0, .int 0])) hw165 hqw170
  rw [← ew171] at hw173
  have hw174 := gNew_old (e' := .inr (5, [.null, .null, .int 0, .int 0])) hw166 hqw170
  rw [← ew171] at hw174
  have hw175 := gNew_self (g := gw163) (a := qw168) (e := .inr (5, [.null, .null, .int 0, .int 0]))
  rw [← ew171] at hw175
  refine j_dup O dT_init_25 rfl ?_
  refine j_callIN O [] (c_Store_init X.2.1 D t A gw169 qw168 hw175) w45 0 rfl rfl rfl (List.mem_of_getElem? (i := 0) rfl) w24 w44 rfl (by decide +kernel) ⟨(Nat.le_of_ble_eq_true rfl), (Nat.le_of_ble_eq_true rfl)⟩ rfl (Nat.le_of_ble_eq_true rfl) dT_init_26 ⟨(Nat.le_of_ble_eq_true rfl), (Nat.le_of_ble_eq_true rfl)⟩ (fun vw176 gw177 hpw178 => ?_)
  obtain ⟨rfl, bA, hbn, hsA2, hbA2, hk_gw177⟩ := hpw178
  have hw179 := hk_gw177.2 T _ (one_ne (hw167.nin hqw170)) hw172
  have hw180 := hk_gw177.2 qw146 _ (one_ne (hw165.nin hqw170)) hw173
  have hw181 := hk_gw177.2 qw156 _ (one_ne (hw166.nin hqw170)) hw174
  refine j_putF O hN uwT hw179 rfl 2 (by decide) w194 rfl tT ftT fnT rfl rfl (.object "TwinTrees$Store") (by decide +kernel) rfl rfl (Nat.le_of_ble_eq_true rfl) [.ref qw146, .ref qw156, .ref qw168, .null, .null, .null, .null, .int 0] rfl dT_init_29 (fun gw182 ew183 => ?_)
  have hw184 := gUp_ne (e' := .inr (0, [.ref qw146, .ref qw156, .ref qw168, .null, .null, .null, .null, .int 0])) hw180 (Ne.symm (ha.nin hqw148))
  rw [← ew183] at hw184
  have hw185 := gUp_ne (e' := .inr (0, [.ref qw146, .ref qw156, .ref qw168, .null, .null, .null, .null, .int 0])) hw181 (Ne.symm (hw155.nin hqw158))
  rw [← ew183] at hw185
  have hw186 := gUp_ne (e' := .inr (0, [.ref qw146, .ref qw156, .ref qw168, .null, .null, .null, .null, .int 0])) hsA2 (Ne.symm (hw167.nin hqw170))
  rw [← ew183] at hw186
  have hw187 := gUp_ne (e' := .inr (0, [.ref qw146, .ref qw156, .ref qw168, .null, .null, .null, .null, .int 0])) hbA2 (Ne.symm (hw172.nin hbn))
  rw [← ew183] at hw187
  have hw188 := gUp_self (e' := .inr (0, [.ref qw146, .ref qw156, .ref qw168, .null, .null, .null, .null, .int 0])) hw179
  rw [← ew183] at hw188
  refine j_aload_n O 0 dT_init_32 rfl rfl ?_
  refine j_new (ci := 1) O uwD tD ftD w64 w65 w25 rfl [.null, .null, .null, .int 0] (fun j hj => by rcases (show j = 0 ∨ j = 1 ∨ j = 2 ∨ j = 3 by omega) with rfl | rfl | rfl | rfl <;> rfl) (Nat.le_of_ble_eq_true rfl) (Nat.le_of_ble_eq_true rfl) dT_init_33 (fun qw189 gw190 hqw191 ew192 => ?_)
  have hw193 := gNew_old (e' := .inr (1, [.null, .null, .null, .int 0])) hw188 hqw191
  rw [← ew192] at hw193
  have hw194 := gNew_old (e' := .inr (1, [.null, .null, .null, .int 0])) hw184 hqw191
  rw [← ew192] at hw194
  have hw195 := gNew_old (e' := .inr (1, [.null, .null, .null, .int 0])) hw185 hqw191
  rw [← ew192] at hw195
  have hw196 := gNew_old (e' := .inr (1, [.null, .null, .null, .int 0])) hw186 hqw191
  rw [← ew192] at hw196
  have hw197 := gNew_old (e' := .inr (1, [.null, .null, .null, .int 0])) hw187 hqw191
  rw [← ew192] at hw197
  have hw198 := gNew_self (g := gw182) (a := qw189) (e := .inr (1, [.null, .null, .null, .int 0]))
  rw [← ew192] at hw198
  refine j_dup O dT_init_36 rfl ?_
  refine j_callIN O [] (c_Df_init X.2.1 D t A gw190 qw189 hw198) w67 0 rfl rfl rfl (List.mem_of_getElem? (i := 1) rfl) w25 w66 rfl (by decide +kernel) ⟨(Nat.le_of_ble_eq_true rfl), (Nat.le_of_ble_eq_true rfl)⟩ rfl (Nat.le_of_ble_eq_true rfl) dT_init_37 ⟨(Nat.le_of_ble_eq_true rfl), (Nat.le_of_ble_eq_true rfl)⟩ (fun vw199 gw200 hpw201 => ?_)
  obtain ⟨rfl, kA, eA, uA, hkn, hen, hun, ne1, ne2, ne3, hdA2, hkA2, heA2, huA2, hk_gw200⟩ := hpw201
  have hw202 := hk_gw200.2 T _ (one_ne (hw188.nin hqw191)) hw193
  have hw203 := hk_gw200.2 qw146 _ (one_ne (hw184.nin hqw191)) hw194
  have hw204 := hk_gw200.2 qw156 _ (one_ne (hw185.nin hqw191)) hw195
  have hw205 := hk_gw200.2 qw168 _ (one_ne (hw186.nin hqw191)) hw196
  have hw206 := hk_gw200.2 bA _ (one_ne (hw187.nin hqw191)) hw197
  refine j_putF O hN uwT hw202 rfl 3 (by decide) w195 rfl tT ftT fnT rfl rfl (.object "TwinTrees$Differences") (by decide +kernel) rfl rfl (Nat.le_of_ble_eq_true rfl) [.ref qw146, .ref qw156, .ref qw168, .ref qw189, .null, .null, .null, .int 0] rfl dT_init_40 (fun gw207 ew208 => ?_)
  have hw209 := gUp_ne (e' := .inr (0, [.ref qw146, .ref qw156, .ref qw168, .ref qw189, .null, .null, .null, .int 0])) hw203 (Ne.symm (ha.nin hqw148))
  rw [← ew208] at hw209
  have hw210 := gUp_ne (e' := .inr (0, [.ref qw146, .ref qw156, .ref qw168, .ref qw189, .null, .null, .null, .int 0])) hw204 (Ne.symm (hw155.nin hqw158))
  rw [← ew208] at hw210
  have hw211 := gUp_ne (e' := .inr (0, [.ref qw146, .ref qw156, .ref qw168, .ref qw189, .null, .null, .null, .int 0])) hw205 (Ne.symm (hw167.nin hqw170))
  rw [← ew208] at hw211
  have hw212 := gUp_ne (e' := .inr (0, [.ref qw146, .ref qw156, .ref qw168, .ref qw189, .null, .null, .null, .int 0])) hw206 (Ne.symm (hw172.nin hbn))
  rw [← ew208] at hw212
  have hw213 := gUp_ne (e' := .inr (0, [.ref qw146, .ref qw156, .ref qw168, .ref qw189, .null, .null, .null, .int 0])) hdA2 (Ne.symm (hw188.nin hqw191))
  rw [← ew208] at hw213
  have hw214 := gUp_ne (e' := .inr (0, [.ref qw146, .ref qw156, .ref qw168, .ref qw189, .null, .null, .null, .int 0])) hkA2 (Ne.symm (hw193.nin hkn))
  rw [← ew208] at hw214
  have hw215 := gUp_ne (e' := .inr (0, [.ref qw146, .ref qw156, .ref qw168, .ref qw189, .null, .null, .null, .int 0])) heA2 (Ne.symm (hw193.nin hen))
  rw [← ew208] at hw215
  have hw216 := gUp_ne (e' := .inr (0, [.ref qw146, .ref qw156, .ref qw168, .ref qw189, .null, .null, .null, .int 0])) huA2 (Ne.symm (hw193.nin hun))
  rw [← ew208] at hw216
  have hw217 := gUp_self (e' := .inr (0, [.ref qw146, .ref qw156, .ref qw168, .ref qw189, .null, .null, .null, .int 0])) hw202
  rw [← ew208] at hw217
  refine j_aload_n O 0 dT_init_43 rfl rfl ?_
  refine j_new (ci := 4) O uwQ tQ ftQ w86 w87 w26 rfl [.null, .int 0] (fun j hj => by rcases (show j = 0 ∨ j = 1 by omega) with rfl | rfl <;> rfl) (Nat.le_of_ble_eq_true rfl) (Nat.le_of_ble_eq_true rfl) dT_init_44 (fun qw218 gw219 hqw220 ew221 => ?_)
  have hw222 := gNew_old (e' := .inr (4, [.null, .int 0])) hw217 hqw220
  rw [← ew221] at hw222
  have hw223 := gNew_old (e' := .inr (4, [.null, .int 0])) hw209 hqw220
  rw [← ew221] at hw223
  have hw224 := gNew_old (e' := .inr (4, [.null, .int 0])) hw210 hqw220
  rw [← ew221] at hw224
  have hw225 := gNew_old (e' := .inr (4, [.null, .int 0])) hw211 hqw220
  rw [← ew221] at hw225
  have hw226 := gNew_old (e' := .inr (4, [.null, .int 0])) hw212 hqw220
  rw [← ew221] at hw226
  have hw227 := gNew_old (e' := .inr (4, [.null, .int 0])) hw213 hqw220
  rw [← ew221] at hw227
  have hw228 := gNew_old (e' := .inr (4, [.null, .int 0])) hw214 hqw220
  rw [← ew221] at hw228
  have hw229 := gNew_old (e' := .inr (4, [.null, .int 0])) hw215 hqw220
  rw [← ew221] at hw229
  have hw230 := gNew_old (e' := .inr (4, [.null, .int 0])) hw216 hqw220
  rw [← ew221] at hw230
  have hw231 := gNew_self (g := gw207) (a := qw218) (e := .inr (4, [.null, .int 0]))
  rw [← ew221] at hw231
  refine j_dup O dT_init_47 rfl ?_
  refine j_callIN O [] (c_RL_init X.2.1 D t A gw219 qw218 hw231) w89 0 rfl rfl rfl (List.mem_of_getElem? (i := 2) rfl) w26 w88 rfl (by decide +kernel) ⟨(Nat.le_of_ble_eq_true rfl), (Nat.le_of_ble_eq_true rfl)⟩ rfl (Nat.le_of_ble_eq_true rfl) dT_init_48 ⟨(Nat.le_of_ble_eq_true rfl), (Nat.le_of_ble_eq_true rfl)⟩ (fun vw232 gw233 hpw234 => ?_)
  obtain ⟨rfl, bF, hbFn, hqF2, hbF2, hk_gw233⟩ := hpw234
  have hw235 := hk_gw233.2 T _ (one_ne (hw217.nin hqw220)) hw222
  have hw236 := hk_gw233.2 qw146 _ (one_ne (hw209.nin hqw220)) hw223
  have hw237 := hk_gw233.2 qw156 _ (one_ne (hw210.nin hqw220)) hw224
  have hw238 := hk_gw233.2 qw168 _ (one_ne (hw211.nin hqw220)) hw225
  have hw239 := hk_gw233.2 bA _ (one_ne (hw212.nin hqw220)) hw226
  have hw240 := hk_gw233.2 qw189 _ (one_ne (hw213.nin hqw220)) hw227
  have hw241 := hk_gw233.2 kA _ (one_ne (hw214.nin hqw220)) hw228
  have hw242 := hk_gw233.2 eA _ (one_ne (hw215.nin hqw220)) hw229
  have hw243 := hk_gw233.2 uA _ (one_ne (hw216.nin hqw220)) hw230
  refine j_putF O hN uwT hw235 rfl 4 (by decide) w196 rfl tT ftT fnT rfl rfl (.object "TwinTrees$RowList") (by decide +kernel) rfl rfl (Nat.le_of_ble_eq_true rfl) [.ref qw146, .ref qw156, .ref qw168, .ref qw189, .ref qw218, .null, .null, .int 0] rfl dT_init_51 (fun gw244 ew245 => ?_)
  have hw246 := gUp_ne (e' := .inr (0, [.ref qw146, .ref qw156, .ref qw168, .ref qw189, .ref qw218, .null, .null, .int 0])) hw236 (Ne.symm (ha.nin hqw148))
  rw [← ew245] at hw246
  have hw247 := gUp_ne (e' := .inr (0, [.ref qw146, .ref qw156, .ref qw168, .ref qw189, .ref qw218, .null, .null, .int 0])) hw237 (Ne.symm (hw155.nin hqw158))
  rw [← ew245] at hw247
  have hw248 := gUp_ne (e' := .inr (0, [.ref qw146, .ref qw156, .ref qw168, .ref qw189, .ref qw218, .null, .null, .int 0])) hw238 (Ne.symm (hw167.nin hqw170))
  rw [← ew245] at hw248
  have hw249 := gUp_ne (e' := .inr (0, [.ref qw146, .ref qw156, .ref qw168, .ref qw189, .ref qw218, .null, .null, .int 0])) hw239 (Ne.symm (hw172.nin hbn))
  rw [← ew245] at hw249
  have hw250 := gUp_ne (e' := .inr (0, [.ref qw146, .ref qw156, .ref qw168, .ref qw189, .ref qw218, .null, .null, .int 0])) hw240 (Ne.symm (hw188.nin hqw191))
  rw [← ew245] at hw250
  have hw251 := gUp_ne (e' := .inr (0, [.ref qw146, .ref qw156, .ref qw168, .ref qw189, .ref qw218, .null, .null, .int 0])) hw241 (Ne.symm (hw193.nin hkn))
  rw [← ew245] at hw251
  have hw252 := gUp_ne (e' := .inr (0, [.ref qw146, .ref qw156, .ref qw168, .ref qw189, .ref qw218, .null, .null, .int 0])) hw242 (Ne.symm (hw193.nin hen))
  rw [← ew245] at hw252
  have hw253 := gUp_ne (e' := .inr (0, [.ref qw146, .ref qw156, .ref qw168, .ref qw189, .ref qw218, .null, .null, .int 0])) hw243 (Ne.symm (hw193.nin hun))
  rw [← ew245] at hw253
  have hw254 := gUp_ne (e' := .inr (0, [.ref qw146, .ref qw156, .ref qw168, .ref qw189, .ref qw218, .null, .null, .int 0])) hqF2 (Ne.symm (hw217.nin hqw220))
  rw [← ew245] at hw254
  have hw255 := gUp_ne (e' := .inr (0, [.ref qw146, .ref qw156, .ref qw168, .ref qw189, .ref qw218, .null, .null, .int 0])) hbF2 (Ne.symm (hw222.nin hbFn))
  rw [← ew245] at hw255
  have hw256 := gUp_self (e' := .inr (0, [.ref qw146, .ref qw156, .ref qw168, .ref qw189, .ref qw218, .null, .null, .int 0])) hw235
  rw [← ew245] at hw256
  refine j_aload_n O 0 dT_init_54 rfl rfl ?_
  refine j_new (ci := 4) O uwQ tQ ftQ w86 w87 w26 rfl [.null, .int 0] (fun j hj => by rcases (show j = 0 ∨ j = 1 by omega) with rfl | rfl <;> rfl) (Nat.le_of_ble_eq_true rfl) (Nat.le_of_ble_eq_true rfl) dT_init_55 (fun qw257 gw258 hqw259 ew260 => ?_)
  have hw261 := gNew_old (e' := .inr (4, [.null, .int 0])) hw256 hqw259
  rw [← ew260] at hw261
  have hw262 := gNew_old (e' := .inr (4, [.null, .int 0])) hw246 hqw259
  rw [← ew260] at hw262
  have hw263 := gNew_old (e' := .inr (4, [.null, .int 0])) hw247 hqw259
  rw [← ew260] at hw263
  have hw264 := gNew_old (e' := .inr (4, [.null, .int 0])) hw248 hqw259
  rw [← ew260] at hw264
  have hw265 := gNew_old (e' := .inr (4, [.null, .int 0])) hw249 hqw259
  rw [← ew260] at hw265
  have hw266 := gNew_old (e' := .inr (4, [.null, .int 0])) hw250 hqw259
  rw [← ew260] at hw266
  have hw267 := gNew_old (e' := .inr (4, [.null, .int 0])) hw251 hqw259
  rw [← ew260] at hw267
  have hw268 := gNew_old (e' := .inr (4, [.null, .int 0])) hw252 hqw259
  rw [← ew260] at hw268
  have hw269 := gNew_old (e' := .inr (4, [.null, .int 0])) hw253 hqw259
  rw [← ew260] at hw269
  have hw270 := gNew_old (e' := .inr (4, [.null, .int 0])) hw254 hqw259
  rw [← ew260] at hw270
  have hw271 := gNew_old (e' := .inr (4, [.null, .int 0])) hw255 hqw259
  rw [← ew260] at hw271
  have hw272 := gNew_self (g := gw244) (a := qw257) (e := .inr (4, [.null, .int 0]))
  rw [← ew260] at hw272
  refine j_dup O dT_init_58 rfl ?_
  refine j_callIN O [] (c_RL_init X.2.1 D t A gw258 qw257 hw272) w89 0 rfl rfl rfl (List.mem_of_getElem? (i := 2) rfl) w26 w88 rfl (by decide +kernel) ⟨(Nat.le_of_ble_eq_true rfl), (Nat.le_of_ble_eq_true rfl)⟩ rfl (Nat.le_of_ble_eq_true rfl) dT_init_59 ⟨(Nat.le_of_ble_eq_true rfl), (Nat.le_of_ble_eq_true rfl)⟩ (fun vw273 gw274 hpw275 => ?_)
  obtain ⟨rfl, bE, hbEn, hqE2, hbE2, hk_gw274⟩ := hpw275
  have hw276 := hk_gw274.2 T _ (one_ne (hw256.nin hqw259)) hw261
  have hw277 := hk_gw274.2 qw146 _ (one_ne (hw246.nin hqw259)) hw262
  have hw278 := hk_gw274.2 qw156 _ (one_ne (hw247.nin hqw259)) hw263
  have hw279 := hk_gw274.2 qw168 _ (one_ne (hw248.nin hqw259)) hw264
  have hw280 := hk_gw274.2 bA _ (one_ne (hw249.nin hqw259)) hw265
  have hw281 := hk_gw274.2 qw189 _ (one_ne (hw250.nin hqw259)) hw266
  have hw282 := hk_gw274.2 kA _ (one_ne (hw251.nin hqw259)) hw267
  have hw283 := hk_gw274.2 eA _ (one_ne (hw252.nin hqw259)) hw268
  have hw284 := hk_gw274.2 uA _ (one_ne (hw253.nin hqw259)) hw269
  have hw285 := hk_gw274.2 qw218 _ (one_ne (hw254.nin hqw259)) hw270
  have hw286 := hk_gw274.2 bF _ (one_ne (hw255.nin hqw259)) hw271
  refine j_putF O hN uwT hw276 rfl 5 (by decide) w197 rfl tT ftT fnT rfl rfl (.object "TwinTrees$RowList") (by decide +kernel) rfl rfl (Nat.le_of_ble_eq_true rfl) [.ref qw146, .ref qw156, .ref qw168, .ref qw189, .ref qw218, .ref qw257, .null, .int 0] rfl dT_init_62 (fun gw287 ew288 => ?_)
  have hw289 := gUp_ne (e' := .inr (0, [.ref qw146, .ref qw156, .ref qw168, .ref qw189, .ref qw218, .ref qw257, .null, .int 0])) hw277 (Ne.symm (ha.nin hqw148))
  rw [← ew288] at hw289
  have hw290 := gUp_ne (e' := .inr (0, [.ref qw146, .ref qw156, .ref qw168, .ref qw189, .ref qw218, .ref qw257, .null, .int 0])) hw278 (Ne.symm (hw155.nin hqw158))
  rw [← ew288] at hw290
  have hw291 := gUp_ne (e' := .inr (0, [.ref qw146, .ref qw156, .ref qw168, .ref qw189, .ref qw218, .ref qw257, .null, .int 0])) hw279 (Ne.symm (hw167.nin hqw170))
  rw [← ew288] at hw291
  have hw292 := gUp_ne (e' := .inr (0, [.ref qw146, .ref qw156, .ref qw168, .ref qw189, .ref qw218, .ref qw257, .null, .int 0])) hw280 (Ne.symm (hw172.nin hbn))
  rw [← ew288] at hw292
  have hw293 := gUp_ne (e' := .inr (0, [.ref qw146, .ref qw156, .ref qw168, .ref qw189, .ref qw218, .ref qw257, .null, .int 0])) hw281 (Ne.symm (hw188.nin hqw191))
  rw [← ew288] at hw293
  have hw294 := gUp_ne (e' := .inr (0, [.ref qw146, .ref qw156, .ref qw168, .ref qw189, .ref qw218, .ref qw257, .null, .int 0])) hw282 (Ne.symm (hw193.nin hkn))
  rw [← ew288] at hw294
  have hw295 := gUp_ne (e' := .inr (0, [.ref qw146, .ref qw156, .ref qw168, .ref qw189, .ref qw218, .ref qw257, .null, .int 0])) hw283 (Ne.symm (hw193.nin hen))
  rw [← ew288] at hw295
  have hw296 := gUp_ne (e' := .inr (0, [.ref qw146, .ref qw156, .ref qw168, .ref qw189, .ref qw218, .ref qw257, .null, .int 0])) hw284 (Ne.symm (hw193.nin hun))
  rw [← ew288] at hw296
  have hw297 := gUp_ne (e' := .inr (0, [.ref qw146, .ref qw156, .ref qw168, .ref qw189, .ref qw218, .ref qw257, .null, .int 0])) hw285 (Ne.symm (hw217.nin hqw220))
  rw [← ew288] at hw297
  have hw298 := gUp_ne (e' := .inr (0, [.ref qw146, .ref qw156, .ref qw168, .ref qw189, .ref qw218, .ref qw257, .null, .int 0])) hw286 (Ne.symm (hw222.nin hbFn))
  rw [← ew288] at hw298
  have hw299 := gUp_ne (e' := .inr (0, [.ref qw146, .ref qw156, .ref qw168, .ref qw189, .ref qw218, .ref qw257, .null, .int 0])) hqE2 (Ne.symm (hw256.nin hqw259))
  rw [← ew288] at hw299
  have hw300 := gUp_ne (e' := .inr (0, [.ref qw146, .ref qw156, .ref qw168, .ref qw189, .ref qw218, .ref qw257, .null, .int 0])) hbE2 (Ne.symm (hw261.nin hbEn))
  rw [← ew288] at hw300
  have hw301 := gUp_self (e' := .inr (0, [.ref qw146, .ref qw156, .ref qw168, .ref qw189, .ref qw218, .ref qw257, .null, .int 0])) hw276
  rw [← ew288] at hw301
  refine j_aload_n O 0 dT_init_65 rfl rfl ?_
  refine j_sipush O (v := 300) dT_init_66 (by decide) ?_
  refine j_newq O w41 (List.mem_of_getElem? (i := 4) rfl) 2 rfl 300 (by decide) (by decide) (by decide) (Nat.le_of_ble_eq_true rfl) (Nat.le_of_ble_eq_true rfl) dT_init_69 (fun qw302 gw303 hqw304 ew305 => ?_)
  have hw306 := gNew_old (e' := .inl (t 2, 300, .inr (.inr (.inr (.inr (fun _ => none)))))) hw301 hqw304
  rw [← ew305] at hw306
  have hw307 := gNew_old (e' := .inl (t 2, 300, .inr (.inr (.inr (.inr (fun _ => none)))))) hw289 hqw304
  rw [← ew305] at hw307
  have hw308 := gNew_old (e' := .inl (t 2, 300, .inr (.inr (.inr (.inr (fun _ => none)))))) hw290 hqw304
  rw [← ew305] at hw308
  have hw309 := gNew_old (e' := .inl (t 2, 300, .inr (.inr (.inr (.inr (fun _ => none)))))) hw291 hqw304
  rw [← ew305] at hw309
  have hw310 := gNew_old (e' := .inl (t 2, 300, .inr (.inr (.inr (.inr (fun _ => none)))))) hw292 hqw304
  rw [← ew305] at hw310
  have hw311 := gNew_old (e' := .inl (t 2, 300, .inr (.inr (.inr (.inr (fun _ => none)))))) hw293 hqw304
  rw [← ew305] at hw311
  have hw312 := gNew_old (e' := .inl (t 2, 300, .inr (.inr (.inr (.inr (fun _ => none)))))) hw294 hqw304
  rw [← ew305] at hw312
  have hw313 := gNew_old (e' := .inl (t 2, 300, .inr (.inr (.inr (.inr (fun _ => none)))))) hw295 hqw304
  rw [← ew305] at hw313
  have hw314 := gNew_old (e' := .inl (t 2, 300, .inr (.inr (.inr (.inr (fun _ => none)))))) hw296 hqw304
  rw [← ew305] at hw314
  have hw315 := gNew_old (e' := .inl (t 2, 300, .inr (.inr (.inr (.inr (fun _ => none)))))) hw297 hqw304
  rw [← ew305] at hw315
  have hw316 := gNew_old (e' := .inl (t 2, 300, .inr (.inr (.inr (.inr (fun _ => none)))))) hw298 hqw304
  rw [← ew305] at hw316
  have hw317 := gNew_old (e' := .inl (t 2, 300, .inr (.inr (.inr (.inr (fun _ => none)))))) hw299 hqw304
  rw [← ew305] at hw317
  have hw318 := gNew_old (e' := .inl (t 2, 300, .inr (.inr (.inr (.inr (fun _ => none)))))) hw300 hqw304
  rw [← ew305] at hw318
  have hw319 := gNew_self (g := gw287) (a := qw302) (e := .inl (t 2, 300, .inr (.inr (.inr (.inr (fun _ => none))))))
  rw [← ew305] at hw319
  refine j_putF O hN uwT hw306 rfl 6 (by decide) w198 rfl tT ftT fnT rfl rfl (.array (.object "TwinTrees$Node")) (by decide +kernel) rfl rfl (Nat.le_of_ble_eq_true rfl) [.ref qw146, .ref qw156, .ref qw168, .ref qw189, .ref qw218, .ref qw257, .ref qw302, .int 0] rfl dT_init_72 (fun gw320 ew321 => ?_)
  have hw322 := gUp_ne (e' := .inr (0, [.ref qw146, .ref qw156, .ref qw168, .ref qw189, .ref qw218, .ref qw257, .ref qw302, .int 0])) hw307 (Ne.symm (ha.nin hqw148))
  rw [← ew321] at hw322
  have hw323 := gUp_ne (e' := .inr (0, [.ref qw146, .ref qw156, .ref qw168, .ref qw189, .ref qw218, .ref qw257, .ref qw302, .int 0])) hw308 (Ne.symm (hw155.nin hqw158))
  rw [← ew321] at hw323
  have hw324 := gUp_ne (e' := .inr (0, [.ref qw146, .ref qw156, .ref qw168, .ref qw189, .ref qw218, .ref qw257, .ref qw302, .int 0])) hw309 (Ne.symm (hw167.nin hqw170))
  rw [← ew321] at hw324
  have hw325 := gUp_ne (e' := .inr (0, [.ref qw146, .ref qw156, .ref qw168, .ref qw189, .ref qw218, .ref qw257, .ref qw302, .int 0])) hw310 (Ne.symm (hw172.nin hbn))
  rw [← ew321] at hw325
  have hw326 := gUp_ne (e' := .inr (0, [.ref qw146, .ref qw156, .ref qw168, .ref qw189, .ref qw218, .ref qw257, .ref qw302, .int 0])) hw311 (Ne.symm (hw188.nin hqw191))
  rw [← ew321] at hw326
  have hw327 := gUp_ne (e' := .inr (0, [.ref qw146, .ref qw156, .ref qw168, .ref qw189, .ref qw218, .ref qw257, .ref qw302, .int 0])) hw312 (Ne.symm (hw193.nin hkn))
  rw [← ew321] at hw327
  have hw328 := gUp_ne (e' := .inr (0, [.ref qw146, .ref qw156, .ref qw168, .ref qw189, .ref qw218, .ref qw257, .ref qw302, .int 0])) hw313 (Ne.symm (hw193.nin hen))
  rw [← ew321] at hw328
  have hw329 := gUp_ne (e' := .inr (0, [.ref qw146, .ref qw156, .ref qw168, .ref qw189, .ref qw218, .ref qw257, .ref qw302, .int 0])) hw314 (Ne.symm (hw193.nin hun))
  rw [← ew321] at hw329
  have hw330 := gUp_ne (e' := .inr (0, [.ref qw146, .ref qw156, .ref qw168, .ref qw189, .ref qw218, .ref qw257, .ref qw302, .int 0])) hw315 (Ne.symm (hw217.nin hqw220))
  rw [← ew321] at hw330
  have hw331 := gUp_ne (e' := .inr (0, [.ref qw146, .ref qw156, .ref qw168, .ref qw189, .ref qw218, .ref qw257, .ref qw302, .int 0])) hw316 (Ne.symm (hw222.nin hbFn))
  rw [← ew321] at hw331
  have hw332 := gUp_ne (e' := .inr (0, [.ref qw146, .ref qw156, .ref qw168, .ref qw189, .ref qw218, .ref qw257, .ref qw302, .int 0])) hw317 (Ne.symm (hw256.nin hqw259))
  rw [← ew321] at hw332
  have hw333 := gUp_ne (e' := .inr (0, [.ref qw146, .ref qw156, .ref qw168, .ref qw189, .ref qw218, .ref qw257, .ref qw302, .int 0])) hw318 (Ne.symm (hw261.nin hbEn))
  rw [← ew321] at hw333
  have hw334 := gUp_ne (e' := .inr (0, [.ref qw146, .ref qw156, .ref qw168, .ref qw189, .ref qw218, .ref qw257, .ref qw302, .int 0])) hw319 (Ne.symm (hw301.nin hqw304))
  rw [← ew321] at hw334
  have hw335 := gUp_self (e' := .inr (0, [.ref qw146, .ref qw156, .ref qw168, .ref qw189, .ref qw218, .ref qw257, .ref qw302, .int 0])) hw306
  rw [← ew321] at hw335
  refine j_aload_n O 0 dT_init_75 rfl rfl ?_
  refine j_iconst O (v := 0) dT_init_76 (by decide) ?_
  refine j_put O uwT hw335 rfl 7 (by decide) w199 rfl tT ftT fnT rfl (.int) (by decide +kernel) rfl rfl (Nat.le_of_ble_eq_true rfl) [.ref qw146, .ref qw156, .ref qw168, .ref qw189, .ref qw218, .ref qw257, .ref qw302, .int 0] rfl dT_init_77 (fun gw336 ew337 => ?_)
  have hw338 := gUp_ne (e' := .inr (0, [.ref qw146, .ref qw156, .ref qw168, .ref qw189, .ref qw218, .ref qw257, .ref qw302, .int 0])) hw322 (Ne.symm (ha.nin hqw148))
  rw [← ew337] at hw338
  have hw339 := gUp_ne (e' := .inr (0, [.ref qw146, .ref qw156, .ref qw168, .ref qw189, .ref qw218, .ref qw257, .ref qw302, .int 0])) hw323 (Ne.symm (hw155.nin hqw158))
  rw [← ew337] at hw339
  have hw340 := gUp_ne (e' := .inr (0, [.ref qw146, .ref qw156, .ref qw168, .ref qw189, .ref qw218, .ref qw257, .ref qw302, .int 0])) hw324 (Ne.symm (hw167.nin hqw170))
  rw [← ew337] at hw340
  have hw341 := gUp_ne (e' := .inr (0, [.ref qw146, .ref qw156, .ref qw168, .ref qw189, .ref qw218, .ref qw257, .ref qw302, .int 0])) hw325 (Ne.symm (hw172.nin hbn))
  rw [← ew337] at hw341
  have hw342 := gUp_ne (e' := .inr (0, [.ref qw146, .ref qw156, .ref qw168, .ref qw189, .ref qw218, .ref qw257, .ref qw302, .int 0])) hw326 (Ne.symm (hw188.nin hqw191))
  rw [← ew337] at hw342
  have hw343 := gUp_ne (e' := .inr (0, [.ref qw146, .ref qw156, .ref qw168, .ref qw189, .ref qw218, .ref qw257, .ref qw302, .int 0])) hw327 (Ne.symm (hw193.nin hkn))
  rw [← ew337] at hw343
  have hw344 := gUp_ne (e' := .inr (0, [.ref qw146, .ref qw156, .ref qw168, .ref qw189, .ref qw218, .ref qw257, .ref qw302, .int 0])) hw328 (Ne.symm (hw193.nin hen))
  rw [← ew337] at hw344
  have hw345 := gUp_ne (e' := .inr (0, [.ref qw146, .ref qw156, .ref qw168, .ref qw189, .ref qw218, .ref qw257, .ref qw302, .int 0])) hw329 (Ne.symm (hw193.nin hun))
  rw [← ew337] at hw345
  have hw346 := gUp_ne (e' := .inr (0, [.ref qw146, .ref qw156, .ref qw168, .ref qw189, .ref qw218, .ref qw257, .ref qw302, .int 0])) hw330 (Ne.symm (hw217.nin hqw220))
  rw [← ew337] at hw346
  have hw347 := gUp_ne (e' := .inr (0, [.ref qw146, .ref qw156, .ref qw168, .ref qw189, .ref qw218, .ref qw257, .ref qw302, .int 0])) hw331 (Ne.symm (hw222.nin hbFn))
  rw [← ew337] at hw347
  have hw348 := gUp_ne (e' := .inr (0, [.ref qw146, .ref qw156, .ref qw168, .ref qw189, .ref qw218, .ref qw257, .ref qw302, .int 0])) hw332 (Ne.symm (hw256.nin hqw259))
  rw [← ew337] at hw348
  have hw349 := gUp_ne (e' := .inr (0, [.ref qw146, .ref qw156, .ref qw168, .ref qw189, .ref qw218, .ref qw257, .ref qw302, .int 0])) hw333 (Ne.symm (hw261.nin hbEn))
  rw [← ew337] at hw349
  have hw350 := gUp_ne (e' := .inr (0, [.ref qw146, .ref qw156, .ref qw168, .ref qw189, .ref qw218, .ref qw257, .ref qw302, .int 0])) hw334 (Ne.symm (hw301.nin hqw304))
  rw [← ew337] at hw350
  have hw351 := gUp_self (e' := .inr (0, [.ref qw146, .ref qw156, .ref qw168, .ref qw189, .ref qw218, .ref qw257, .ref qw302, .int 0])) hw335
  rw [← ew337] at hw351
  refine j_aload_n O 0 dT_init_80 rfl rfl ?_
  refine j_get O uwT hw351 rfl 2 (by decide) w194 rfl rfl dT_init_81 ?_
  refine j_iconst O (v := 0) dT_init_84 (by decide) ?_
  refine j_newq O w103 (List.mem_of_getElem? (i := 5) rfl) 1 rfl 0 (by decide) (by decide) (by decide) (Nat.le_of_ble_eq_true rfl) (Nat.le_of_ble_eq_true rfl) dT_init_85 (fun qw352 gw353 hqw354 ew355 => ?_)
  have hw356 := gNew_old (e' := .inl (t 1, 0, .inr (.inr (.inr (.inr (fun _ => none)))))) hw351 hqw354
  rw [← ew355] at hw356
  have hw357 := gNew_old (e' := .inl (t 1, 0, .inr (.inr (.inr (.inr (fun _ => none)))))) hw338 hqw354
  rw [← ew355] at hw357
  have hw358 := gNew_old (e' := .inl (t 1, 0, .inr (.inr (.inr (.inr (fun _ => none)))))) hw339 hqw354
  rw [← ew355] at hw358
  have hw359 := gNew_old (e' := .inl (t 1, 0, .inr (.inr (.inr (.inr (fun _ => none)))))) hw340 hqw354
  rw [← ew355] at hw359
  have hw360 := gNew_old (e' := .inl (t 1, 0, .inr (.inr (.inr (.inr (fun _ => none)))))) hw341 hqw354
  rw [← ew355] at hw360
  have hw361 := gNew_old (e' := .inl (t 1, 0, .inr (.inr (.inr (.inr (fun _ => none)))))) hw342 hqw354
  rw [← ew355] at hw361
  have hw362 := gNew_old (e' := .inl (t 1, 0, .inr (.inr (.inr (.inr (fun _ => none)))))) hw343 hqw354
  rw [← ew355] at hw362
  have hw363 := gNew_old (e' := .inl (t 1, 0, .inr (.inr (.inr (.inr (fun _ => none)))))) hw344 hqw354
  rw [← ew355] at hw363
  have hw364 := gNew_old (e' := .inl (t 1, 0, .inr (.inr (.inr (.inr (fun _ => none)))))) hw345 hqw354
  rw [← ew355] at hw364
  have hw365 := gNew_old (e' := .inl (t 1, 0, .inr (.inr (.inr (.inr (fun _ => none)))))) hw346 hqw354
  rw [← ew355] at hw365
  have hw366 := gNew_old (e' := .inl (t 1, 0, .inr (.inr (.inr (.inr (fun _ => none)))))) hw347 hqw354
  rw [← ew355] at hw366
  have hw367 := gNew_old (e' := .inl (t 1, 0, .inr (.inr (.inr (.inr (fun _ => none)))))) hw348 hqw354
  rw [← ew355] at hw367
  have hw368 := gNew_old (e' := .inl (t 1, 0, .inr (.inr (.inr (.inr (fun _ => none)))))) hw349 hqw354
  rw [← ew355] at hw368
  have hw369 := gNew_old (e' := .inl (t 1, 0, .inr (.inr (.inr (.inr (fun _ => none)))))) hw350 hqw354
  rw [← ew355] at hw369
  have hw370 := gNew_self (g := gw336) (a := qw352) (e := .inl (t 1, 0, .inr (.inr (.inr (.inr (fun _ => none))))))
  rw [← ew355] at hw370
  refine j_iconst O (v := 0) dT_init_88 (by decide) ?_
  refine j_iconst O (v := 0) dT_init_89 (by decide) ?_
  have hS0 := SW.w00 hw359 hw360
  refine j_callV O [.ref qw352, .int (nI 0), .int (nI 0)] (c_leafOf_new X.2.1 D t A gw353 qw168 bA qw352 0 0 (nI 0) (nI 0) (fun _ => none) [] w00 hS0 hw370 (fun i hi => by cases hi) (fun r hr => by cases hr) (Nat.zero_le _) List.Pairwise.nil (Nat.le_refl _) (by decide) (fun a _ h => by cases h)) hw359 rfl w104 w105 w106 w24 w107 3 rfl rfl rfl (by decide +kernel) ⟨(Nat.le_of_ble_eq_true rfl), (Nat.le_of_ble_eq_true rfl)⟩ rfl (Nat.le_of_ble_eq_true rfl) dT_init_90 ⟨(Nat.le_of_ble_eq_true rfl), (Nat.le_of_ble_eq_true rfl)⟩ (fun vw371 gw372 hpw373 => ?_)
  obtain ⟨q, ra, ba, rfl, hqn, hran, hban, hS1, hk_gw372⟩ := hpw373
  have hw374 := hk_gw372.2 T _ (one_ne (hw167.nin hqw170)) hw356
  have hw375 := hk_gw372.2 qw146 _ (one_ne (hw165.nin hqw170)) hw357
  have hw376 := hk_gw372.2 qw156 _ (one_ne (hw166.nin hqw170)) hw358
  have hw377 := hk_gw372.2 bA _ (one_ne (Ne.symm (hw175.nin hbn))) hw360
  have hw378 := hk_gw372.2 qw189 _ (one_ne (Ne.symm (hw186.nin hqw191))) hw361
  have hw379 := hk_gw372.2 kA _ (one_ne (Ne.symm (hw196.nin hkn))) hw362
  have hw380 := hk_gw372.2 eA _ (one_ne (Ne.symm (hw196.nin hen))) hw363
  have hw381 := hk_gw372.2 uA _ (one_ne (Ne.symm (hw196.nin hun))) hw364
  have hw382 := hk_gw372.2 qw218 _ (one_ne (Ne.symm (hw211.nin hqw220))) hw365
  have hw383 := hk_gw372.2 bF _ (one_ne (Ne.symm (hw225.nin hbFn))) hw366
  have hw384 := hk_gw372.2 qw257 _ (one_ne (Ne.symm (hw248.nin hqw259))) hw367
  have hw385 := hk_gw372.2 bE _ (one_ne (Ne.symm (hw264.nin hbEn))) hw368
  have hw386 := hk_gw372.2 qw302 _ (one_ne (Ne.symm (hw291.nin hqw304))) hw369
  have hw387 := hk_gw372.2 qw352 _ (one_ne (Ne.symm (hw340.nin hqw354))) hw370
  obtain ⟨w1, ew1⟩ : ∃ w1, w1 = (wAdd w00 q (0, []) [] ra ba) := ⟨_, rfl⟩
  rw [← ew1] at hS1
  have hq1 : w1.1 q = some (0, []) := by rw [ew1]; exact va_up_self _ _ _
  have hpd1 : w1.2.2.2.2.2 = [q] := by rw [ew1]; rfl
  have hch1 : w1.2.2.2.2.1 = (fun _ => []) := by rw [ew1]; rfl
  have hx1 : ∀ x u, w1.1 x = some u → x = q ∧ (w1.2.2.1 x).2.2.1 = 0 := fun x u hu => by
    rw [ew1] at hu ⊢
    by_cases z : x = q
    · subst z
      refine ⟨rfl, ?_⟩
      show (va_up w00.2.2.1 x _ x).2.2.1 = 0
      rw [va_up_self]
    · have hu : va_up w00.1 q (some (0, [])) x = some u := hu
      rw [va_up_ne _ _ z] at hu; cases hu
  have hI1 : ∀ x, x ∈ gw353.1 → ¬ w1.2.2.2.1 x := fun x hx hi => by
    rw [ew1] at hi
    rcases hi with z | z | z
    · exact z
    · exact hran (z ▸ hx)
    · exact hban (z ▸ hx)
  have hn1 : ∀ x, x ∈ gw353.1 → w1.1 x = none := fun x hx => by
    cases hc : w1.1 x with
    | none => rfl
    | some u => exact absurd ((hx1 x u hc).1 ▸ hx) hqn
  have hz1 : szS w1.1 w1.2.2.2.2.2 = 0 := by
    rw [hpd1, (vals_full (fun b hb => by rw [List.mem_singleton.mp hb]; exact ⟨_, hq1⟩)).2]
    have e : vals w1.1 [q] = [(0, [])] := by simp [vals, hq1]
    rw [e]
    rfl
  refine j_astore_n O 1 [(1, .ref q), (0, .ref T)] dT_init_93 rfl (by decide) rfl ?_
  refine j_aload_n O 0 dT_init_94 rfl rfl ?_
  refine j_get O uwT hw374 rfl 2 (by decide) w194 rfl rfl dT_init_95 ?_
  refine j_callV O [] (c_keepPending X.2.1 D t A gw372 qw168 bA 0 0 w1 hS1 (by rw [hz1]; decide)) hS1.2.1 rfl w184 w185 w186 w24 w187 0 rfl rfl rfl (by decide +kernel) ⟨(Nat.le_of_ble_eq_true rfl), (Nat.le_of_ble_eq_true rfl)⟩ rfl (Nat.le_of_ble_eq_true rfl) dT_init_98 ⟨(Nat.le_of_ble_eq_true rfl), (Nat.le_of_ble_eq_true rfl)⟩ (fun vw388 gw389 hpw390 => ?_)
  have hkeep := hpw390
  rw [hz1, hpd1] at hkeep
  rcases hkeep with ⟨hbig, -⟩ | ⟨-, rfl, mu2, ch2, hS2, hm2, hp2, hk2⟩
  · exact absurd hbig (by decide)
  have hw391 := hk2.2 qw146 _ (two_ne (hw165.nin hqw170) (hw173.nin hbn)) (hn1 qw146 hw357.1) hw375
  have hw392 := hk2.2 qw156 _ (two_ne (hw166.nin hqw170) (hw174.nin hbn)) (hn1 qw156 hw358.1) hw376
  have hw393 := hk2.2 qw189 _ (two_ne (Ne.symm (hw186.nin hqw191)) (Ne.symm (hw187.nin hqw191))) (hn1 qw189 hw361.1) hw378
  have hw394 := hk2.2 kA _ (two_ne (Ne.symm (hw196.nin hkn)) (Ne.symm (hw197.nin hkn))) (hn1 kA hw362.1) hw379
  have hw395 := hk2.2 eA _ (two_ne (Ne.symm (hw196.nin hen)) (Ne.symm (hw197.nin hen))) (hn1 eA hw363.1) hw380
  have hw396 := hk2.2 uA _ (two_ne (Ne.symm (hw196.nin hun)) (Ne.symm (hw197.nin hun))) (hn1 uA hw364.1) hw381
  have hw397 := hk2.2 qw218 _ (two_ne (Ne.symm (hw211.nin hqw220)) (Ne.symm (hw212.nin hqw220))) (hn1 qw218 hw365.1) hw382
  have hw398 := hk2.2 bF _ (two_ne (Ne.symm (hw225.nin hbFn)) (Ne.symm (hw226.nin hbFn))) (hn1 bF hw366.1) hw383
  have hw399 := hk2.2 qw257 _ (two_ne (Ne.symm (hw248.nin hqw259)) (Ne.symm (hw249.nin hqw259))) (hn1 qw257 hw367.1) hw384
  have hw400 := hk2.2 bE _ (two_ne (Ne.symm (hw264.nin hbEn)) (Ne.symm (hw265.nin hbEn))) (hn1 bE hw368.1) hw385
  have hw401 := hk2.2 qw302 _ (two_ne (Ne.symm (hw291.nin hqw304)) (Ne.symm (hw292.nin hqw304))) (hn1 qw302 hw369.1) hw386
  have hw402 := hk2.2 T _ (two_ne (hw167.nin hqw170) (hw172.nin hbn)) (hn1 T hw356.1) hw374
  obtain ⟨qra, qba, hqc⟩ := hS2.1.cell (show (w1.1, w1.2.1, mu2, w1.2.2.2.1, ch2, ([] : List Nat)).1 q = some (0, []) from hq1)
  have kp2 : Kp [qw146, qw156] gw389 gw389 := Kp.rf
  refine j_pop O dT_init_101 rfl ?_
  refine j_iconst O (v := 0) dT_init_102 (by decide) ?_
  refine j_istore_n O 2 [(2, .int 0), (1, .ref q), (0, .ref T)] dT_init_103 rfl (by decide) rfl ?_
  refine j_iload_n O 2 dT_init_104 rfl rfl ?_
  refine j_bipush O (v := 6) dT_init_105 (by decide) ?_
  refine j_icmp_ge O 130 dT_init_107 (by decide) (fun c => absurd c (by decide)) (fun c => ?_)
  refine j_aload_n O 0 dT_init_110 rfl rfl ?_
  refine j_get O uwT hw402 rfl 0 (by decide) w192 rfl rfl dT_init_111 ?_
  refine j_iload_n O 2 dT_init_114 rfl rfl ?_
  refine j_iconst O (v := 1) dT_init_115 (by decide) ?_
  refine j_iast O hw391 0 rfl (by decide) (by decide) dT_init_116 (fun gw403 ew404 => ?_)
  have hw405 := gUp_ne (e' := .inl (t 0, 6, .inl (upd (fun _ => 0) 0 1))) hw402 (ha.nin hqw148)
  rw [← ew404] at hw405
  have hw406 := gUp_ne (e' := .inl (t 0, 6, .inl (upd (fun _ => 0) 0 1))) hw392 (Ne.symm (hw154.nin hqw158))
  rw [← ew404] at hw406
  have hw407 := gUp_self (e' := .inl (t 0, 6, .inl (upd (fun _ => 0) 0 1))) hw391
  rw [← ew404] at hw407
  have kpw408 := kp2.up (a := qw146) (e := .inl (t 0, 6, .inl (upd (fun _ => 0) 0 1))) (by simp)
  rw [← ew404] at kpw408
  refine j_aload_n O 0 dT_init_117 rfl rfl ?_
  refine j_get O uwT hw405 rfl 1 (by decide) w193 rfl rfl dT_init_118 ?_
  refine j_iload_n O 2 dT_init_121 rfl rfl ?_
  refine j_aload_n O 1 dT_init_122 rfl rfl ?_
  have hvw409 := kpw408.2 q _ (two_ne (fun z => hqn (z ▸ hw357.1)) (fun z => hqn (z ▸ hw358.1))) hqc
  refine j_aast (i := 0) O hw406 2 rfl hvw409 rfl (by decide) (by decide) dT_init_123 (fun gw410 ew411 => ?_)
  have hw412 := gUp_ne (e' := .inl (t 2, 6, .inr (.inr (.inr (.inr (va_up (fun _ => none) 0 (some q))))))) hw405 (hw155.nin hqw158)
  rw [← ew411] at hw412
  have hw413 := gUp_ne (e' := .inl (t 2, 6, .inr (.inr (.inr (.inr (va_up (fun _ => none) 0 (some q))))))) hw407 (hw154.nin hqw158)
  rw [← ew411] at hw413
  have hw414 := gUp_self (e' := .inl (t 2, 6, .inr (.inr (.inr (.inr (va_up (fun _ => none) 0 (some q))))))) hw406
  rw [← ew411] at hw414
  have kpw415 := kpw408.up (a := qw156) (e := .inl (t 2, 6, .inr (.inr (.inr (.inr (va_up (fun _ => none) 0 (some q))))))) (by simp)
  rw [← ew411] at kpw415
  refine j_iinc O (nI (0 + 1)) [(2, .int (nI (0 + 1))), (1, .ref q), (0, .ref T)] dT_init_124 rfl (nI_1 _) (by decide) rfl ?_
  refine j_goto O 104 dT_init_127 (by decide) ?_
  refine j_iload_n O 2 dT_init_104 rfl rfl ?_
  refine j_bipush O (v := 6) dT_init_105 (by decide) ?_
  refine j_icmp_ge O 130 dT_init_107 (by decide) (fun c => absurd c (by decide)) (fun c => ?_)
  refine j_aload_n O 0 dT_init_110 rfl rfl ?_
  refine j_get O uwT hw412 rfl 0 (by decide) w192 rfl rfl dT_init_111 ?_
  refine j_iload_n O 2 dT_init_114 rfl rfl ?_
  refine j_iconst O (v := 1) dT_init_115 (by decide) ?_
  refine j_iast O hw413 0 rfl (by decide) (by decide) dT_init_116 (fun gw416 ew417 => ?_)
  have hw418 := gUp_ne (e' := .inl (t 0, 6, .inl (upd (upd (fun _ => 0) 0 1) (0 + 1) 1))) hw412 (ha.nin hqw148)
  rw [← ew417] at hw418
  have hw419 := gUp_ne (e' := .inl (t 0, 6, .inl (upd (upd (fun _ => 0) 0 1) (0 + 1) 1))) hw414 (Ne.symm (hw154.nin hqw158))
  rw [← ew417] at hw419
  have hw420 := gUp_self (e' := .inl (t 0, 6, .inl (upd (upd (fun _ => 0) 0 1) (0 + 1) 1))) hw413
  rw [← ew417] at hw420
  have kpw421 := kpw415.up (a := qw146) (e := .inl (t 0, 6, .inl (upd (upd (fun _ => 0) 0 1) (0 + 1) 1))) (by simp)
  rw [← ew417] at kpw421
  refine j_aload_n O 0 dT_init_117 rfl rfl ?_
  refine j_get O uwT hw418 rfl 1 (by decide) w193 rfl rfl dT_init_118 ?_
  refine j_iload_n O 2 dT_init_121 rfl rfl ?_
  refine j_aload_n O 1 dT_init_122 rfl rfl ?_
  have hvw422 := kpw421.2 q _ (two_ne (fun z => hqn (z ▸ hw357.1)) (fun z => hqn (z ▸ hw358.1))) hqc
  refine j_aast O hw419 2 rfl hvw422 rfl (by decide) (by decide) dT_init_123 (fun gw423 ew424 => ?_)
  have hw425 := gUp_ne (e' := .inl (t 2, 6, .inr (.inr (.inr (.inr (va_up (va_up (fun _ => none) 0 (some q)) (0 + 1) (some q))))))) hw418 (hw155.nin hqw158)
  rw [← ew424] at hw425
  have hw426 := gUp_ne (e' := .inl (t 2, 6, .inr (.inr (.inr (.inr (va_up (va_up (fun _ => none) 0 (some q)) (0 + 1) (some q))))))) hw420 (hw154.nin hqw158)
  rw [← ew424] at hw426
  have hw427 := gUp_self (e' := .inl (t 2, 6, .inr (.inr (.inr (.inr (va_up (va_up (fun _ => none) 0 (some q)) (0 + 1) (some q))))))) hw419
  rw [← ew424] at hw427
  have kpw428 := kpw421.up (a := qw156) (e := .inl (t 2, 6, .inr (.inr (.inr (.inr (va_up (va_up (fun _ => none) 0 (some q)) (0 + 1) (some q))))))) (by simp)
  rw [← ew424] at kpw428
  refine j_iinc O (nI (0 + 1 + 1)) [(2, .int (nI (0 + 1 + 1))), (1, .ref q), (0, .ref T)] dT_init_124 rfl (nI_1 _) (by decide) rfl ?_
  refine j_goto O 104 dT_init_127 (by decide) ?_
  refine j_iload_n O 2 dT_init_104 rfl rfl ?_
  refine j_bipush O (v := 6) dT_init_105 (by decide) ?_
  refine j_icmp_ge O 130 dT_init_107 (by decide) (fun c => absurd c (by decide)) (fun c => ?_)
  refine j_aload_n O 0 dT_init_110 rfl rfl ?_
  refine j_get O uwT hw425 rfl 0 (by decide) w192 rfl rfl dT_init_111 ?_
  refine j_iload_n O 2 dT_init_114 rfl rfl ?_
  refine j_iconst O (v := 1) dT_init_115 (by decide) ?_
  refine j_iast O hw426 0 rfl (by decide) (by decide) dT_init_116 (fun gw429 ew430 => ?_)
  have hw431 := gUp_ne (e' := .inl (t 0, 6, .inl (upd (upd (upd (fun _ => 0) 0 1) (0 + 1) 1) (0 + 1 + 1) 1))) hw425 (ha.nin hqw148)
  rw [← ew430] at hw431
  have hw432 := gUp_ne (e' := .inl (t 0, 6, .inl (upd (upd (upd (fun _ => 0) 0 1) (0 + 1) 1) (0 + 1 + 1) 1))) hw427 (Ne.symm (hw154.nin hqw158))
  rw [← ew430] at hw432
  have hw433 := gUp_self (e' := .inl (t 0, 6, .inl (upd (upd (upd (fun _ => 0) 0 1) (0 + 1) 1) (0 + 1 + 1) 1))) hw426
  rw [← ew430] at hw433
  have kpw434 := kpw428.up (a := qw146) (e := .inl (t 0, 6, .inl (upd (upd (upd (fun _ => 0) 0 1) (0 + 1) 1) (0 + 1 + 1) 1))) (by simp)
  rw [← ew430] at kpw434
  refine j_aload_n O 0 dT_init_117 rfl rfl ?_
  refine j_get O uwT hw431 rfl 1 (by decide) w193 rfl rfl dT_init_118 ?_
  refine j_iload_n O 2 dT_init_121 rfl rfl ?_
  refine j_aload_n O 1 dT_init_122 rfl rfl ?_
  have hvw435 := kpw434.2 q _ (two_ne (fun z => hqn (z ▸ hw357.1)) (fun z => hqn (z ▸ hw358.1))) hqc
  refine j_aast O hw432 2 rfl hvw435 rfl (by decide) (by decide) dT_init_123 (fun gw436 ew437 => ?_)
  have hw438 := gUp_ne (e' := .inl (t 2, 6, .inr (.inr (.inr (.inr (va_up (va_up (va_up (fun _ => none) 0 (some q)) (0 + 1) (some q)) (0 + 1 + 1) (some q))))))) hw431 (hw155.nin hqw158)
  rw [← ew437] at hw438
  have hw439 := gUp_ne (e' := .inl (t 2, 6, .inr (.inr (.inr (.inr (va_up (va_up (va_up (fun _ => none) 0 (some q)) (0 + 1) (some q)) (0 + 1 + 1) (some q))))))) hw433 (hw154.nin hqw158)
  rw [← ew437] at hw439
  have hw440 := gUp_self (e' := .inl (t 2, 6, .inr (.inr (.inr (.inr (va_up (va_up (va_up (fun _ => none) 0 (some q)) (0 + 1) (some q)) (0 + 1 + 1) (some q))))))) hw432
  rw [← ew437] at hw440
  have kpw441 := kpw434.up (a := qw156) (e := .inl (t 2, 6, .inr (.inr (.inr (.inr (va_up (va_up (va_up (fun _ => none) 0 (some q)) (0 + 1) (some q)) (0 + 1 + 1) (some q))))))) (by simp)
  rw [← ew437] at kpw441
  refine j_iinc O (nI (0 + 1 + 1 + 1)) [(2, .int (nI (0 + 1 + 1 + 1))), (1, .ref q), (0, .ref T)] dT_init_124 rfl (nI_1 _) (by decide) rfl ?_
  refine j_goto O 104 dT_init_127 (by decide) ?_
  refine j_iload_n O 2 dT_init_104 rfl rfl ?_
  refine j_bipush O (v := 6) dT_init_105 (by decide) ?_
  refine j_icmp_ge O 130 dT_init_107 (by decide) (fun c => absurd c (by decide)) (fun c => ?_)
  refine j_aload_n O 0 dT_init_110 rfl rfl ?_
  refine j_get O uwT hw438 rfl 0 (by decide) w192 rfl rfl dT_init_111 ?_
  refine j_iload_n O 2 dT_init_114 rfl rfl ?_
  refine j_iconst O (v := 1) dT_init_115 (by decide) ?_
  refine j_iast O hw439 0 rfl (by decide) (by decide) dT_init_116 (fun gw442 ew443 => ?_)
  have hw444 := gUp_ne (e' := .inl (t 0, 6, .inl (upd (upd (upd (upd (fun _ => 0) 0 1) (0 + 1) 1) (0 + 1 + 1) 1) (0 + 1 + 1 + 1) 1))) hw438 (ha.nin hqw148)
  rw [← ew443] at hw444
  have hw445 := gUp_ne (e' := .inl (t 0, 6, .inl (upd (upd (upd (upd (fun _ => 0) 0 1) (0 + 1) 1) (0 + 1 + 1) 1) (0 + 1 + 1 + 1) 1))) hw440 (Ne.symm (hw154.nin hqw158))
  rw [← ew443] at hw445
  have hw446 := gUp_self (e' := .inl (t 0, 6, .inl (upd (upd (upd (upd (fun _ => 0) 0 1) (0 + 1) 1) (0 + 1 + 1) 1) (0 + 1 + 1 + 1) 1))) hw439
  rw [← ew443] at hw446
  have kpw447 := kpw441.up (a := qw146) (e := .inl (t 0, 6, .inl (upd (upd (upd (upd (fun _ => 0) 0 1) (0 + 1) 1) (0 + 1 + 1) 1) (0 + 1 + 1 + 1) 1))) (by simp)
  rw [← ew443] at kpw447
  refine j_aload_n O 0 dT_init_117 rfl rfl ?_
  refine j_get O uwT hw444 rfl 1 (by decide) w193 rfl rfl dT_init_118 ?_
  refine j_iload_n O 2 dT_init_121 rfl rfl ?_
  refine j_aload_n O 1 dT_init_122 rfl rfl ?_
  have hvw448 := kpw447.2 q _ (two_ne (fun z => hqn (z ▸ hw357.1)) (fun z => hqn (z ▸ hw358.1))) hqc
  refine j_aast O hw445 2 rfl hvw448 rfl (by decide) (by decide) dT_init_123 (fun gw449 ew450 => ?_)
  have hw451 := gUp_ne (e' := .inl (t 2, 6, .inr (.inr (.inr (.inr (va_up (va_up (va_up (va_up (fun _ => none) 0 (some q)) (0 + 1) (some q)) (0 + 1 + 1) (some q)) (0 + 1 + 1 + 1) (some q))))))) hw444 (hw155.nin hqw158)
  rw [← ew450] at hw451
  have hw452 := gUp_ne (e' := .inl (t 2, 6, .inr (.inr (.inr (.inr (va_up (va_up (va_up (va_up (fun _ => none) 0 (some q)) (0 + 1) (some q)) (0 + 1 + 1) (some q)) (0 + 1 + 1 + 1) (some q))))))) hw446 (hw154.nin hqw158)
  rw [← ew450] at hw452
  have hw453 := gUp_self (e' := .inl (t 2, 6, .inr (.inr (.inr (.inr (va_up (va_up (va_up (va_up (fun _ => none) 0 (some q)) (0 + 1) (some q)) (0 + 1 + 1) (some q)) (0 + 1 + 1 + 1) (some q))))))) hw445
  rw [← ew450] at hw453
  have kpw454 := kpw447.up (a := qw156) (e := .inl (t 2, 6, .inr (.inr (.inr (.inr (va_up (va_up (va_up (va_up (fun _ => none) 0 (some q)) (0 + 1) (some q)) (0 + 1 + 1) (some q)) (0 + 1 + 1 + 1) (some q))))))) (by simp)
  rw [← ew450] at kpw454
  refine j_iinc O (nI (0 + 1 + 1 + 1 + 1)) [(2, .int (nI (0 + 1 + 1 + 1 + 1))), (1, .ref q), (0, .ref T)] dT_init_124 rfl (nI_1 _) (by decide) rfl ?_
  refine j_goto O 104 dT_init_127 (by decide) ?_
  refine j_iload_n O 2 dT_init_104 rfl rfl ?_
  refine j_bipush O (v := 6) dT_init_105 (by decide) ?_
  refine j_icmp_ge O 130 dT_init_107 (by decide) (fun c => absurd c (by decide)) (fun c => ?_)
  refine j_aload_n O 0 dT_init_110 rfl rfl ?_
  refine j_get O uwT hw451 rfl 0 (by decide) w192 rfl rfl dT_init_111 ?_
  refine j_iload_n O 2 dT_init_114 rfl rfl ?_
  refine j_iconst O (v := 1) dT_init_115 (by decide) ?_
  refine j_iast O hw452 0 rfl (by decide) (by decide) dT_init_116 (fun gw455 ew456 => ?_)
  have hw457 := gUp_ne (e' := .inl (t 0, 6, .inl (upd (upd (upd (upd (upd (fun _ => 0) 0 1) (0 + 1) 1) (0 + 1 + 1) 1) (0 + 1 + 1 + 1) 1) (0 + 1 + 1 + 1 + 1) 1))) hw451 (ha.nin hqw148)
  rw [← ew456] at hw457
  have hw458 := gUp_ne (e' := .inl (t 0, 6, .inl (upd (upd (upd (upd (upd (fun _ => 0) 0 1) (0 + 1) 1) (0 + 1 + 1) 1) (0 + 1 + 1 + 1) 1) (0 + 1 + 1 + 1 + 1) 1))) hw453 (Ne.symm (hw154.nin hqw158))
  rw [← ew456] at hw458
  have hw459 := gUp_self (e' := .inl (t 0, 6, .inl (upd (upd (upd (upd (upd (fun _ => 0) 0 1) (0 + 1) 1) (0 + 1 + 1) 1) (0 + 1 + 1 + 1) 1) (0 + 1 + 1 + 1 + 1) 1))) hw452
  rw [← ew456] at hw459
  have kpw460 := kpw454.up (a := qw146) (e := .inl (t 0, 6, .inl (upd (upd (upd (upd (upd (fun _ => 0) 0 1) (0 + 1) 1) (0 + 1 + 1) 1) (0 + 1 + 1 + 1) 1) (0 + 1 + 1 + 1 + 1) 1))) (by simp)
  rw [← ew456] at kpw460
  refine j_aload_n O 0 dT_init_117 rfl rfl ?_
  refine j_get O uwT hw457 rfl 1 (by decide) w193 rfl rfl dT_init_118 ?_
  refine j_iload_n O 2 dT_init_121 rfl rfl ?_
  refine j_aload_n O 1 dT_init_122 rfl rfl ?_
  have hvw461 := kpw460.2 q _ (two_ne (fun z => hqn (z ▸ hw357.1)) (fun z => hqn (z ▸ hw358.1))) hqc
  refine j_aast O hw458 2 rfl hvw461 rfl (by decide) (by decide) dT_init_123 (fun gw462 ew463 => ?_)
  have hw464 := gUp_ne (e' := .inl (t 2, 6, .inr (.inr (.inr (.inr (va_up (va_up (va_up (va_up (va_up (fun _ => none) 0 (some q)) (0 + 1) (some q)) (0 + 1 + 1) (some q)) (0 + 1 + 1 + 1) (some q)) (0 + 1 + 1 + 1 + 1) (some q))))))) hw457 (hw155.nin hqw158)
  rw [← ew463] at hw464
  have hw465 := gUp_ne (e' := .inl (t 2, 6, .inr (.inr (.inr (.inr (va_up (va_up (va_up (va_up (va_up (fun _ => none) 0 (some q)) (0 + 1) (some q)) (0 + 1 + 1) (some q)) (0 + 1 + 1 + 1) (some q)) (0 + 1 + 1 + 1 + 1) (some q))))))) hw459 (hw154.nin hqw158)
  rw [← ew463] at hw465
  have hw466 := gUp_self (e' := .inl (t 2, 6, .inr (.inr (.inr (.inr (va_up (va_up (va_up (va_up (va_up (fun _ => none) 0 (some q)) (0 + 1) (some q)) (0 + 1 + 1) (some q)) (0 + 1 + 1 + 1) (some q)) (0 + 1 + 1 + 1 + 1) (some q))))))) hw458
  rw [← ew463] at hw466
  have kpw467 := kpw460.up (a := qw156) (e := .inl (t 2, 6, .inr (.inr (.inr (.inr (va_up (va_up (va_up (va_up (va_up (fun _ => none) 0 (some q)) (0 + 1) (some q)) (0 + 1 + 1) (some q)) (0 + 1 + 1 + 1) (some q)) (0 + 1 + 1 + 1 + 1) (some q))))))) (by simp)
  rw [← ew463] at kpw467
  refine j_iinc O (nI (0 + 1 + 1 + 1 + 1 + 1)) [(2, .int (nI (0 + 1 + 1 + 1 + 1 + 1))), (1, .ref q), (0, .ref T)] dT_init_124 rfl (nI_1 _) (by decide) rfl ?_
  refine j_goto O 104 dT_init_127 (by decide) ?_
  refine j_iload_n O 2 dT_init_104 rfl rfl ?_
  refine j_bipush O (v := 6) dT_init_105 (by decide) ?_
  refine j_icmp_ge O 130 dT_init_107 (by decide) (fun c => absurd c (by decide)) (fun c => ?_)
  refine j_aload_n O 0 dT_init_110 rfl rfl ?_
  refine j_get O uwT hw464 rfl 0 (by decide) w192 rfl rfl dT_init_111 ?_
  refine j_iload_n O 2 dT_init_114 rfl rfl ?_
  refine j_iconst O (v := 1) dT_init_115 (by decide) ?_
  refine j_iast O hw465 0 rfl (by decide) (by decide) dT_init_116 (fun gw468 ew469 => ?_)
  have hw470 := gUp_ne (e' := .inl (t 0, 6, .inl (upd (upd (upd (upd (upd (upd (fun _ => 0) 0 1) (0 + 1) 1) (0 + 1 + 1) 1) (0 + 1 + 1 + 1) 1) (0 + 1 + 1 + 1 + 1) 1) (0 + 1 + 1 + 1 + 1 + 1) 1))) hw464 (ha.nin hqw148)
  rw [← ew469] at hw470
  have hw471 := gUp_ne (e' := .inl (t 0, 6, .inl (upd (upd (upd (upd (upd (upd (fun _ => 0) 0 1) (0 + 1) 1) (0 + 1 + 1) 1) (0 + 1 + 1 + 1) 1) (0 + 1 + 1 + 1 + 1) 1) (0 + 1 + 1 + 1 + 1 + 1) 1))) hw466 (Ne.symm (hw154.nin hqw158))
  rw [← ew469] at hw471
  have hw472 := gUp_self (e' := .inl (t 0, 6, .inl (upd (upd (upd (upd (upd (upd (fun _ => 0) 0 1) (0 + 1) 1) (0 + 1 + 1) 1) (0 + 1 + 1 + 1) 1) (0 + 1 + 1 + 1 + 1) 1) (0 + 1 + 1 + 1 + 1 + 1) 1))) hw465
  rw [← ew469] at hw472
  have kpw473 := kpw467.up (a := qw146) (e := .inl (t 0, 6, .inl (upd (upd (upd (upd (upd (upd (fun _ => 0) 0 1) (0 + 1) 1) (0 + 1 + 1) 1) (0 + 1 + 1 + 1) 1) (0 + 1 + 1 + 1 + 1) 1) (0 + 1 + 1 + 1 + 1 + 1) 1))) (by simp)
  rw [← ew469] at kpw473
  refine j_aload_n O 0 dT_init_117 rfl rfl ?_
  refine j_get O uwT hw470 rfl 1 (by decide) w193 rfl rfl dT_init_118 ?_
  refine j_iload_n O 2 dT_init_121 rfl rfl ?_
  refine j_aload_n O 1 dT_init_122 rfl rfl ?_
  have hvw474 := kpw473.2 q _ (two_ne (fun z => hqn (z ▸ hw357.1)) (fun z => hqn (z ▸ hw358.1))) hqc
  refine j_aast O hw471 2 rfl hvw474 rfl (by decide) (by decide) dT_init_123 (fun gw475 ew476 => ?_)
  have hw477 := gUp_ne (e' := .inl (t 2, 6, .inr (.inr (.inr (.inr (va_up (va_up (va_up (va_up (va_up (va_up (fun _ => none) 0 (some q)) (0 + 1) (some q)) (0 + 1 + 1) (some q)) (0 + 1 + 1 + 1) (some q)) (0 + 1 + 1 + 1 + 1) (some q)) (0 + 1 + 1 + 1 + 1 + 1) (some q))))))) hw470 (hw155.nin hqw158)
  rw [← ew476] at hw477
  have hw478 := gUp_ne (e' := .inl (t 2, 6, .inr (.inr (.inr (.inr (va_up (va_up (va_up (va_up (va_up (va_up (fun _ => none) 0 (some q)) (0 + 1) (some q)) (0 + 1 + 1) (some q)) (0 + 1 + 1 + 1) (some q)) (0 + 1 + 1 + 1 + 1) (some q)) (0 + 1 + 1 + 1 + 1 + 1) (some q))))))) hw472 (hw154.nin hqw158)
  rw [← ew476] at hw478
  have hw479 := gUp_self (e' := .inl (t 2, 6, .inr (.inr (.inr (.inr (va_up (va_up (va_up (va_up (va_up (va_up (fun _ => none) 0 (some q)) (0 + 1) (some q)) (0 + 1 + 1) (some q)) (0 + 1 + 1 + 1) (some q)) (0 + 1 + 1 + 1 + 1) (some q)) (0 + 1 + 1 + 1 + 1 + 1) (some q))))))) hw471
  rw [← ew476] at hw479
  have kpw480 := kpw473.up (a := qw156) (e := .inl (t 2, 6, .inr (.inr (.inr (.inr (va_up (va_up (va_up (va_up (va_up (va_up (fun _ => none) 0 (some q)) (0 + 1) (some q)) (0 + 1 + 1) (some q)) (0 + 1 + 1 + 1) (some q)) (0 + 1 + 1 + 1 + 1) (some q)) (0 + 1 + 1 + 1 + 1 + 1) (some q))))))) (by simp)
  rw [← ew476] at kpw480
  refine j_iinc O (nI (0 + 1 + 1 + 1 + 1 + 1 + 1)) [(2, .int (nI (0 + 1 + 1 + 1 + 1 + 1 + 1))), (1, .ref q), (0, .ref T)] dT_init_124 rfl (nI_1 _) (by decide) rfl ?_
  refine j_goto O 104 dT_init_127 (by decide) ?_
  refine j_iload_n O 2 dT_init_104 rfl rfl ?_
  refine j_bipush O (v := 6) dT_init_105 (by decide) ?_
  refine j_icmp_ge O 130 dT_init_107 (by decide) (fun c => ?_) (fun c => absurd (by decide) c)
  have hmm0 : qw146 ∉ [qw156, qw168, bA, qw189, kA, eA, uA, qw218, bF, qw257, bE, qw302, T] := by
    simp only [List.mem_cons, List.not_mem_nil, or_false, not_or]
    exact ⟨(hw154.nin hqw158), (hw165.nin hqw170), (hw173.nin hbn), (hw184.nin hqw191), (hw194.nin hkn), (hw194.nin hen), (hw194.nin hun), (hw209.nin hqw220), (hw223.nin hbFn), (hw246.nin hqw259), (hw262.nin hbEn), (hw289.nin hqw304), (Ne.symm (ha.nin hqw148))⟩
  have hmm1 : qw156 ∉ [qw168, bA, qw189, kA, eA, uA, qw218, bF, qw257, bE, qw302, T] := by
    simp only [List.mem_cons, List.not_mem_nil, or_false, not_or]
    exact ⟨(hw166.nin hqw170), (hw174.nin hbn), (hw185.nin hqw191), (hw195.nin hkn), (hw195.nin hen), (hw195.nin hun), (hw210.nin hqw220), (hw224.nin hbFn), (hw247.nin hqw259), (hw263.nin hbEn), (hw290.nin hqw304), (Ne.symm (hw155.nin hqw158))⟩
  have hmm2 : qw168 ∉ [bA, qw189, kA, eA, uA, qw218, bF, qw257, bE, qw302, T] := by
    simp only [List.mem_cons, List.not_mem_nil, or_false, not_or]
    exact ⟨(hw175.nin hbn), (hw186.nin hqw191), (hw196.nin hkn), (hw196.nin hen), (hw196.nin hun), (hw211.nin hqw220), (hw225.nin hbFn), (hw248.nin hqw259), (hw264.nin hbEn), (hw291.nin hqw304), (Ne.symm (hw167.nin hqw170))⟩
  have hmm3 : bA ∉ [qw189, kA, eA, uA, qw218, bF, qw257, bE, qw302, T] := by
    simp only [List.mem_cons, List.not_mem_nil, or_false, not_or]
    exact ⟨(hw187.nin hqw191), (hw197.nin hkn), (hw197.nin hen), (hw197.nin hun), (hw212.nin hqw220), (hw226.nin hbFn), (hw249.nin hqw259), (hw265.nin hbEn), (hw292.nin hqw304), (Ne.symm (hw172.nin hbn))⟩
  have hmm4 : qw189 ∉ [kA, eA, uA, qw218, bF, qw257, bE, qw302, T] := by
    simp only [List.mem_cons, List.not_mem_nil, or_false, not_or]
    exact ⟨(hw198.nin hkn), (hw198.nin hen), (hw198.nin hun), (hw213.nin hqw220), (hw227.nin hbFn), (hw250.nin hqw259), (hw266.nin hbEn), (hw293.nin hqw304), (Ne.symm (hw188.nin hqw191))⟩
  have hmm5 : kA ∉ [eA, uA, qw218, bF, qw257, bE, qw302, T] := by
    simp only [List.mem_cons, List.not_mem_nil, or_false, not_or]
    exact ⟨ne1, ne2, (hw214.nin hqw220), (hw228.nin hbFn), (hw251.nin hqw259), (hw267.nin hbEn), (hw294.nin hqw304), (Ne.symm (hw193.nin hkn))⟩
  have hmm6 : eA ∉ [uA, qw218, bF, qw257, bE, qw302, T] := by
    simp only [List.mem_cons, List.not_mem_nil, or_false, not_or]
    exact ⟨ne3, (hw215.nin hqw220), (hw229.nin hbFn), (hw252.nin hqw259), (hw268.nin hbEn), (hw295.nin hqw304), (Ne.symm (hw193.nin hen))⟩
  have hmm7 : uA ∉ [qw218, bF, qw257, bE, qw302, T] := by
    simp only [List.mem_cons, List.not_mem_nil, or_false, not_or]
    exact ⟨(hw216.nin hqw220), (hw230.nin hbFn), (hw253.nin hqw259), (hw269.nin hbEn), (hw296.nin hqw304), (Ne.symm (hw193.nin hun))⟩
  have hmm8 : qw218 ∉ [bF, qw257, bE, qw302, T] := by
    simp only [List.mem_cons, List.not_mem_nil, or_false, not_or]
    exact ⟨(hw231.nin hbFn), (hw254.nin hqw259), (hw270.nin hbEn), (hw297.nin hqw304), (Ne.symm (hw217.nin hqw220))⟩
  have hmm9 : bF ∉ [qw257, bE, qw302, T] := by
    simp only [List.mem_cons, List.not_mem_nil, or_false, not_or]
    exact ⟨(hw255.nin hqw259), (hw271.nin hbEn), (hw298.nin hqw304), (Ne.symm (hw222.nin hbFn))⟩
  have hmm10 : qw257 ∉ [bE, qw302, T] := by
    simp only [List.mem_cons, List.not_mem_nil, or_false, not_or]
    exact ⟨(hw272.nin hbEn), (hw299.nin hqw304), (Ne.symm (hw256.nin hqw259))⟩
  have hmm11 : bE ∉ [qw302, T] := by
    simp only [List.mem_cons, List.not_mem_nil, or_false, not_or]
    exact ⟨(hw300.nin hqw304), (Ne.symm (hw261.nin hbEn))⟩
  have hmm12 : qw302 ∉ [T] := by
    simp only [List.mem_cons, List.not_mem_nil, or_false, not_or]
    exact (Ne.symm (hw301.nin hqw304))
  have hnd : [qw146, qw156, qw168, bA, qw189, kA, eA, uA, qw218, bF, qw257, bE, qw302, T].Nodup := List.nodup_cons.mpr ⟨hmm0, List.nodup_cons.mpr ⟨hmm1, List.nodup_cons.mpr ⟨hmm2, List.nodup_cons.mpr ⟨hmm3, List.nodup_cons.mpr ⟨hmm4, List.nodup_cons.mpr ⟨hmm5, List.nodup_cons.mpr ⟨hmm6, List.nodup_cons.mpr ⟨hmm7, List.nodup_cons.mpr ⟨hmm8, List.nodup_cons.mpr ⟨hmm9, List.nodup_cons.mpr ⟨hmm10, List.nodup_cons.mpr ⟨hmm11, List.nodup_cons.mpr ⟨hmm12, List.nodup_cons.mpr ⟨(by simp), List.nodup_nil⟩⟩⟩⟩⟩⟩⟩⟩⟩⟩⟩⟩⟩⟩
  obtain ⟨p, ep⟩ : ∃ p : Nat → Nat, p = fun i => ([qw146, qw156, qw168, bA, qw189, kA, eA, uA, qw218, bF, qw257, bE, qw302, T] : List Nat).getD i 0 := ⟨_, rfl⟩
  have hpi : ∀ i (hi : i < 14), p i = ([qw146, qw156, qw168, bA, qw189, kA, eA, uA, qw218, bF, qw257, bE, qw302, T] : List Nat)[i]'hi := fun i hi => by rw [ep]; simp [List.getD, hi]
  have hpne : ∀ i j, i < 14 → j < 14 → i ≠ j → p i ≠ p j := fun i j hi hj hij e => by
    rw [hpi i hi, hpi j hj] at e
    have hpw := List.pairwise_iff_getElem.mp hnd
    rcases Nat.lt_or_gt_of_ne hij with z | z
    · exact hpw i j hi hj z e
    · exact hpw j i hj hi z e.symm
  have hmg : ∀ x ∈ ([qw146, qw156, qw168, bA, qw189, kA, eA, uA, qw218, bF, qw257, bE, qw302, T] : List Nat), x ∈ gw353.1 := by
    intro x hx
    simp only [List.mem_cons, List.not_mem_nil, or_false] at hx
    rcases hx with z | z | z | z | z | z | z | z | z | z | z | z | z | z
    · rw [z]; exact hw357.1
    · rw [z]; exact hw358.1
    · rw [z]; exact hw359.1
    · rw [z]; exact hw360.1
    · rw [z]; exact hw361.1
    · rw [z]; exact hw362.1
    · rw [z]; exact hw363.1
    · rw [z]; exact hw364.1
    · rw [z]; exact hw365.1
    · rw [z]; exact hw366.1
    · rw [z]; exact hw367.1
    · rw [z]; exact hw368.1
    · rw [z]; exact hw369.1
    · rw [z]; exact hw356.1
  have hpm : ∀ i, i < 14 → p i ∈ gw353.1 := fun i hi => hmg _ (by rw [hpi i hi]; exact List.getElem_mem _)
  obtain ⟨e0, e1, e2, e3, e4, e5, e6, e7, e8, e9, e10, e11, e12, e13⟩ : p 0 = qw146 ∧ p 1 = qw156 ∧ p 2 = qw168 ∧ p 3 = bA ∧ p 4 = qw189 ∧ p 5 = kA ∧ p 6 = eA ∧ p 7 = uA ∧ p 8 = qw218 ∧ p 9 = bF ∧ p 10 = qw257 ∧ p 11 = bE ∧ p 12 = qw302 ∧ p 13 = T := by rw [ep]; exact ⟨rfl, rfl, rfl, rfl, rfl, rfl, rfl, rfl, rfl, rfl, rfl, rfl, rfl, rfl⟩
  have hS3 : SW t gw475 (w1.1, w1.2.1, mu2, w1.2.2.2.1, ch2, []) qw168 bA (nI 1) (nI 0) := by
    refine SW.kp (w := (w1.1, w1.2.1, mu2, w1.2.2.2.1, ch2, [])) hS2 kpw480.1 (fun y e hy he => kpw480.2 y e ?_ he)
    have hy : w1.2.2.2.1 y ∨ (∃ v, w1.1 y = some v) ∨ y = qw168 ∨ y = bA := hy
    rcases hy with z | ⟨u, z⟩ | z | z
    · exact two_ne (fun q => hI1 _ hw357.1 (q ▸ z)) (fun q => hI1 _ hw358.1 (q ▸ z))
    · have := (hx1 y u z).1
      exact two_ne (fun q => hqn (this ▸ q ▸ hw357.1)) (fun q => hqn (this ▸ q ▸ hw358.1))
    · rw [z]; exact two_ne (Ne.symm (hw165.nin hqw170)) (Ne.symm (hw166.nin hqw170))
    · rw [z]; exact two_ne (Ne.symm (hw173.nin hbn)) (Ne.symm (hw174.nin hbn))
  have hvv : (vals w1.1 (stL ch2)).Perm [(0, [])] := by
    refine (hp2.filterMap w1.1).trans ?_
    rw [hch1, stL_nil, List.nil_append]
    have e : [q].filterMap w1.1 = [(0, [])] := by simp [hq1]
    rw [e]
  have hqS : inS ch2 q := by
    rw [← stL_in, hp2.mem_iff]
    exact List.mem_append_right _ (List.mem_singleton.mpr rfl)
  have h6 : ∀ i, i < 6 → i = 0 ∨ i = 1 ∨ i = 2 ∨ i = 3 ∨ i = 4 ∨ i = 5 := fun i hi => by omega
  have hTW : TW t gw475 p (w1.1, w1.2.1, mu2, w1.2.2.2.1, ch2, []) 0 s00 := by
    unfold TW
    rw [e0, e1, e2, e3, e4, e5, e6, e7, e8, e9, e10, e11, e12, e13]
    refine ⟨hw477, ⟨_, hw478, fun i hi => ?_⟩, ⟨_, hw479, fun i hi => ⟨q, ?_, hq1, hqS⟩⟩, hS3, ⟨rfl, hvv, Nat.zero_le _, by decide⟩, ⟨_, _, _, (kpw480.2 qw189 _ (two_ne (Ne.symm (hw184.nin hqw191)) (Ne.symm (hw185.nin hqw191))) hw393), (kpw480.2 kA _ (two_ne (Ne.symm (hw194.nin hkn)) (Ne.symm (hw195.nin hkn))) hw394), (kpw480.2 eA _ (two_ne (Ne.symm (hw194.nin hen)) (Ne.symm (hw195.nin hen))) hw395), (kpw480.2 uA _ (two_ne (Ne.symm (hw194.nin hun)) (Ne.symm (hw195.nin hun))) hw396), fun i hi => (by cases hi), Nat.zero_le _⟩, ⟨_, _, (kpw480.2 qw218 _ (two_ne (Ne.symm (hw209.nin hqw220)) (Ne.symm (hw210.nin hqw220))) hw397), (kpw480.2 bF _ (two_ne (Ne.symm (hw223.nin hbFn)) (Ne.symm (hw224.nin hbFn))) hw398)⟩, ⟨_, _, (kpw480.2 qw257 _ (two_ne (Ne.symm (hw246.nin hqw259)) (Ne.symm (hw247.nin hqw259))) hw399), (kpw480.2 bE _ (two_ne (Ne.symm (hw262.nin hbEn)) (Ne.symm (hw263.nin hbEn))) hw400)⟩, ⟨_, (kpw480.2 qw302 _ (two_ne (Ne.symm (hw289.nin hqw304)) (Ne.symm (hw290.nin hqw304))) hw401)⟩, hpne, fun i hi => hI1 _ (hpm i hi), fun x u hu => ⟨0, Nat.le_refl _, (hm2 x).2.2.trans (hx1 x u hu).2⟩, fun i hi => ⟨Nat.le_refl _, (by show 1 ≤ 6; decide), fun r hr => (by cases hr), List.Pairwise.nil, Nat.zero_le _⟩⟩
    · rcases h6 i hi with rfl | rfl | rfl | rfl | rfl | rfl <;> rfl
    · rcases h6 i hi with rfl | rfl | rfl | rfl | rfl | rfl <;> rfl
  exact j_vret O M (Nat.le_of_ble_eq_true rfl) (Nat.le_of_ble_eq_true rfl) ⟨rfl, p, _, e13, hTW⟩ dT_init_130
