set_option maxRecDepth 100000 in
set_option maxHeartbeats 1000000 in
theorem note10 {X : CX} {D : va_G} {t : Nat → ClassId} {A : Nat → Prop} {rm : Room} {g : GH} {k0 n0 : Nat} {u : Nat → Nat} {oc om df nn us lm mm ta co si bi : Int32} {s : AS} {i j a b n : Nat} {f6 f7 f8 : Nat → Int32} (O : Ok X bM_compare 10 "TwinTreesModel" (zz D t A) rm) (hM : gAt g (u 19) (eM u oc om df nn us lm mm ta co si)) (hRT : RT t g u s.1) (i6 : i < 6) (j6 : j < 6) (ha : a < (s.1 i).2.length) (ha3 : (s.1 i).2.length ≤ 300) (hb3 : (s.1 j).2.length ≤ 300) (hne : ∀ i j, i < 32 → j < 32 → i ≠ j → u i ≠ u j) (h6 : gAt g (u 6) (eI t 600 f6)) (h7 : gAt g (u 7) (eI t 600 f7)) (h8 : gAt g (u 8) (eI t 600 f8)) (hn : n < 600) (HK : ∀ g1 : GH, gAt g1 (u 6) (eI t 600 (upd f6 n (s.1 i).2[a].1)) → gAt g1 (u 7) (eI t 600 (upd f7 n 1)) → gAt g1 (u 8) (eI t 600 (upd f8 n bi)) → Kp [u 6, u 7, u 8] g g1 → J X 10 (zz D t A) g1 k0 n0 325 [(0, .ref (u 19)), (1, .int (nI i)), (2, .int (nI j)), (3, .int (nI a)), (4, .int (nI b)), (5, .int (nI (n + 1))), (6, .int 1), (7, .int 0)] []) :  J X 10 (zz D t A) g k0 n0 250 [(0, .ref (u 19)), (1, .int (nI i)), (2, .int (nI j)), (3, .int (nI a)), (4, .int (nI b)), (5, .int (nI n)), (6, .int 1), (7, .int 0), (8, .int bi)] [] := by
  obtain ⟨-, -, ⟨fK, hK, hKv⟩, -, hrow⟩ := id hRT
  obtain ⟨fk, fc, hk, -, htab⟩ := hrow i i6
  obtain ⟨gk, gc, hk2, -, htab2⟩ := hrow j j6
  have hKi := hKv i i6
  have hKj := hKv j j6
  have kp0 : Kp [u 6, u 7, u 8] g g := Kp.rf
  refine j_aload_n O 0 dM_compare_250 rfl rfl ?_
  refine j_get O uwM hM rfl 8 (by decide) w455 rfl rfl dM_compare_251 ?_
  refine j_iload O dM_compare_254 rfl ?_
  refine j_iload O dM_compare_256 rfl ?_
  refine j_if_eq O 272 dM_compare_258 (by decide) (fun c => absurd c (by decide)) (fun c => ?_)
  refine j_aload_n O 0 dM_compare_261 rfl rfl ?_
  refine j_get O uwM hM rfl 2 (by decide) w449 rfl rfl dM_compare_262 ?_
  refine j_iload_n O 1 dM_compare_265 rfl rfl ?_
  refine j_aaldA O hK 4 rfl (by omega) (by omega) dM_compare_266 ?_
  refine j_some (u (20 + i)) hKi ?_
  refine j_iload_n O 3 dM_compare_267 rfl rfl ?_
  refine j_iald O hk 0 rfl (by omega) (by omega) dM_compare_268 ?_
  refine j_eqi ((s.1 i).2[a].1) (htab a ha).1 ?_
  refine j_goto O 281 dM_compare_269 (by decide) ?_
  refine j_iast O h6 0 rfl hn (by decide) dM_compare_281 (fun gw193 ew194 => ?_)
  have hw195 := gUp_ne (e' := .inl (t 0, 600, .inl (upd f6 n ((s.1 i).2[a].1)))) hM (hM.ne h6 (by simp))
  rw [← ew194] at hw195
  have hw196 := gUp_ne (e' := .inl (t 0, 600, .inl (upd f6 n ((s.1 i).2[a].1)))) hK (hK.ne h6 (by simp))
  rw [← ew194] at hw196
  have hw197 := gUp_ne (e' := .inl (t 0, 600, .inl (upd f6 n ((s.1 i).2[a].1)))) h7 (Ne.symm (hne 6 7 (by omega) (by omega) (by omega)))
  rw [← ew194] at hw197
  have hw198 := gUp_ne (e' := .inl (t 0, 600, .inl (upd f6 n ((s.1 i).2[a].1)))) h8 (Ne.symm (hne 6 8 (by omega) (by omega) (by omega)))
  rw [← ew194] at hw198
  have hw199 := gUp_ne (e' := .inl (t 0, 600, .inl (upd f6 n ((s.1 i).2[a].1)))) hk (hk.ne h6 (by simp))
  rw [← ew194] at hw199
  have hw200 := gUp_self (e' := .inl (t 0, 600, .inl (upd f6 n ((s.1 i).2[a].1)))) h6
  rw [← ew194] at hw200
  have kpw201 := kp0.up (a := (u 6)) (e := .inl (t 0, 600, .inl (upd f6 n ((s.1 i).2[a].1)))) (by simp)
  rw [← ew194] at kpw201
  refine j_aload_n O 0 dM_compare_282 rfl rfl ?_
  refine j_get O uwM hw195 rfl 9 (by decide) w456 rfl rfl dM_compare_283 ?_
  refine j_iload O dM_compare_286 rfl ?_
  refine j_iload O dM_compare_288 rfl ?_
  refine j_if_eq O 302 dM_compare_290 (by decide) (fun c => absurd c (by decide)) (fun c => ?_)
  refine j_iload O dM_compare_293 rfl ?_
  refine j_if_eq O 302 dM_compare_295 (by decide) (fun c => ?_) (fun c => absurd rfl c)
  refine j_iload O dM_compare_302 rfl ?_
  refine j_if_eq O 311 dM_compare_304 (by decide) (fun c => absurd c (by decide)) (fun c => ?_)
  refine j_iconst O (v := 1) dM_compare_307 (by decide) ?_
  refine j_goto O 312 dM_compare_308 (by decide) ?_
  refine j_iast O hw197 0 rfl hn (by decide) dM_compare_312 (fun gw202 ew203 => ?_)
  have hw204 := gUp_ne (e' := .inl (t 0, 600, .inl (upd f7 n 1))) hw195 (hw195.ne hw197 (by simp))
  rw [← ew203] at hw204
  have hw205 := gUp_ne (e' := .inl (t 0, 600, .inl (upd f7 n 1))) hw196 (hw196.ne hw197 (by simp))
  rw [← ew203] at hw205
  have hw206 := gUp_ne (e' := .inl (t 0, 600, .inl (upd f7 n 1))) hw200 (hne 6 7 (by omega) (by omega) (by omega))
  rw [← ew203] at hw206
  have hw207 := gUp_ne (e' := .inl (t 0, 600, .inl (upd f7 n 1))) hw198 (Ne.symm (hne 7 8 (by omega) (by omega) (by omega)))
  rw [← ew203] at hw207
  have hw208 := gUp_ne (e' := .inl (t 0, 600, .inl (upd f7 n 1))) hw199 (hw199.ne hw197 (by simp))
  rw [← ew203] at hw208
  have hw209 := gUp_self (e' := .inl (t 0, 600, .inl (upd f7 n 1))) hw197
  rw [← ew203] at hw209
  have kpw210 := kpw201.up (a := (u 7)) (e := .inl (t 0, 600, .inl (upd f7 n 1))) (by simp)
  rw [← ew203] at kpw210
  refine j_aload_n O 0 dM_compare_313 rfl rfl ?_
  refine j_get O uwM hw204 rfl 10 (by decide) w457 rfl rfl dM_compare_314 ?_
  refine j_iload O dM_compare_317 rfl ?_
  refine j_iload O dM_compare_319 rfl ?_
  refine j_iast O hw207 0 rfl hn (by decide) dM_compare_321 (fun gw211 ew212 => ?_)
  have hw213 := gUp_ne (e' := .inl (t 0, 600, .inl (upd f8 n bi))) hw204 (hw204.ne hw207 (by simp))
  rw [← ew212] at hw213
  have hw214 := gUp_ne (e' := .inl (t 0, 600, .inl (upd f8 n bi))) hw205 (hw205.ne hw207 (by simp))
  rw [← ew212] at hw214
  have hw215 := gUp_ne (e' := .inl (t 0, 600, .inl (upd f8 n bi))) hw206 (hne 6 8 (by omega) (by omega) (by omega))
  rw [← ew212] at hw215
  have hw216 := gUp_ne (e' := .inl (t 0, 600, .inl (upd f8 n bi))) hw209 (hne 7 8 (by omega) (by omega) (by omega))
  rw [← ew212] at hw216
  have hw217 := gUp_ne (e' := .inl (t 0, 600, .inl (upd f8 n bi))) hw208 (hw208.ne hw207 (by simp))
  rw [← ew212] at hw217
  have hw218 := gUp_self (e' := .inl (t 0, 600, .inl (upd f8 n bi))) hw207
  rw [← ew212] at hw218
  have kpw219 := kpw210.up (a := (u 8)) (e := .inl (t 0, 600, .inl (upd f8 n bi))) (by simp)
  rw [← ew212] at kpw219
  refine j_iinc O (nI (n + 1)) [(5, .int (nI (n + 1))), (0, .ref (u 19)), (1, .int (nI i)), (2, .int (nI j)), (3, .int (nI a)), (4, .int (nI b)), (6, .int 1), (7, .int 0), (8, .int bi)] dM_compare_322 rfl (nI_1 _) (by decide) rfl ?_
  refine J.pk [1, 2, 3, 4, 5, 0, 6, 7] rfl ?_
  exact HK gw211 hw215 hw216 hw218 kpw219
set_option maxRecDepth 100000 in
set_option maxHeartbeats 1000000 in
theorem note01 {X : CX} {D : va_G} {t : Nat → ClassId} {A : Nat → Prop} {rm : Room} {g : GH} {k0 n0 : Nat} {u : Nat → Nat} {oc om df nn us lm mm ta co si bi : Int32} {s : AS} {i j a b n : Nat} {f6 f7 f8 : Nat → Int32} (O : Ok X bM_compare 10 "TwinTreesModel" (zz D t A) rm) (hM : gAt g (u 19) (eM u oc om df nn us lm mm ta co si)) (hRT : RT t g u s.1) (i6 : i < 6) (j6 : j < 6) (hb : b < (s.1 j).2.length) (ha3 : (s.1 i).2.length ≤ 300) (hb3 : (s.1 j).2.length ≤ 300) (hne : ∀ i j, i < 32 → j < 32 → i ≠ j → u i ≠ u j) (h6 : gAt g (u 6) (eI t 600 f6)) (h7 : gAt g (u 7) (eI t 600 f7)) (h8 : gAt g (u 8) (eI t 600 f8)) (hn : n < 600) (HK : ∀ g1 : GH, gAt g1 (u 6) (eI t 600 (upd f6 n (s.1 j).2[b].1)) → gAt g1 (u 7) (eI t 600 (upd f7 n 0)) → gAt g1 (u 8) (eI t 600 (upd f8 n bi)) → Kp [u 6, u 7, u 8] g g1 → J X 10 (zz D t A) g1 k0 n0 325 [(0, .ref (u 19)), (1, .int (nI i)), (2, .int (nI j)), (3, .int (nI a)), (4, .int (nI b)), (5, .int (nI (n + 1))), (6, .int 0), (7, .int 1)] []) :  J X 10 (zz D t A) g k0 n0 250 [(0, .ref (u 19)), (1, .int (nI i)), (2, .int (nI j)), (3, .int (nI a)), (4, .int (nI b)), (5, .int (nI n)), (6, .int 0), (7, .int 1), (8, .int bi)] [] := by
  obtain ⟨-, -, ⟨fK, hK, hKv⟩, -, hrow⟩ := id hRT
  obtain ⟨fk, fc, hk, -, htab⟩ := hrow i i6
  obtain ⟨gk, gc, hk2, -, htab2⟩ := hrow j j6
  have hKi := hKv i i6
  have hKj := hKv j j6
  have kp0 : Kp [u 6, u 7, u 8] g g := Kp.rf
  refine j_aload_n O 0 dM_compare_250 rfl rfl ?_
  refine j_get O uwM hM rfl 8 (by decide) w455 rfl rfl dM_compare_251 ?_
  refine j_iload O dM_compare_254 rfl ?_
  refine j_iload O dM_compare_256 rfl ?_
  refine j_if_eq O 272 dM_compare_258 (by decide) (fun c => ?_) (fun c => absurd rfl c)
  refine j_aload_n O 0 dM_compare_272 rfl rfl ?_
  refine j_get O uwM hM rfl 2 (by decide) w449 rfl rfl dM_compare_273 ?_
  refine j_iload_n O 2 dM_compare_276 rfl rfl ?_
  refine j_aaldA O hK 4 rfl (by omega) (by omega) dM_compare_277 ?_
  refine j_some (u (20 + j)) hKj ?_
  refine j_iload O dM_compare_278 rfl ?_
  refine j_iald O hk2 0 rfl (by omega) (by omega) dM_compare_280 ?_
  refine j_eqi ((s.1 j).2[b].1) (htab2 b hb).1 ?_
  refine j_iast O h6 0 rfl hn (by decide) dM_compare_281 (fun gw220 ew221 => ?_)
  have hw222 := gUp_ne (e' := .inl (t 0, 600, .inl (upd f6 n ((s.1 j).2[b].1)))) hM (hM.ne h6 (by simp))
  rw [← ew221] at hw222
  have hw223 := gUp_ne (e' := .inl (t 0, 600, .inl (upd f6 n ((s.1 j).2[b].1)))) hK (hK.ne h6 (by simp))
  rw [← ew221] at hw223
  have hw224 := gUp_ne (e' := .inl (t 0, 600, .inl (upd f6 n ((s.1 j).2[b].1)))) h7 (Ne.symm (hne 6 7 (by omega) (by omega) (by omega)))
  rw [← ew221] at hw224
  have hw225 := gUp_ne (e' := .inl (t 0, 600, .inl (upd f6 n ((s.1 j).2[b].1)))) h8 (Ne.symm (hne 6 8 (by omega) (by omega) (by omega)))
  rw [← ew221] at hw225
  have hw226 := gUp_ne (e' := .inl (t 0, 600, .inl (upd f6 n ((s.1 j).2[b].1)))) hk2 (hk2.ne h6 (by simp))
  rw [← ew221] at hw226
  have hw227 := gUp_self (e' := .inl (t 0, 600, .inl (upd f6 n ((s.1 j).2[b].1)))) h6
  rw [← ew221] at hw227
  have kpw228 := kp0.up (a := (u 6)) (e := .inl (t 0, 600, .inl (upd f6 n ((s.1 j).2[b].1)))) (by simp)
  rw [← ew221] at kpw228
  refine j_aload_n O 0 dM_compare_282 rfl rfl ?_
  refine j_get O uwM hw222 rfl 9 (by decide) w456 rfl rfl dM_compare_283 ?_
  refine j_iload O dM_compare_286 rfl ?_
  refine j_iload O dM_compare_288 rfl ?_
  refine j_if_eq O 302 dM_compare_290 (by decide) (fun c => ?_) (fun c => absurd rfl c)
  refine j_iload O dM_compare_302 rfl ?_
  refine j_if_eq O 311 dM_compare_304 (by decide) (fun c => ?_) (fun c => absurd rfl c)
  refine j_iconst O (v := 0) dM_compare_311 (by decide) ?_
  refine j_iast O hw224 0 rfl hn (by decide) dM_compare_312 (fun gw229 ew230 => ?_)
  have hw231 := gUp_ne (e' := .inl (t 0, 600, .inl (upd f7 n 0))) hw222 (hw222.ne hw224 (by simp))
  rw [← ew230] at hw231
  have hw232 := gUp_ne (e' := .inl (t 0, 600, .inl (upd f7 n 0))) hw223 (hw223.ne hw224 (by simp))
  rw [← ew230] at hw232
  have hw233 := gUp_ne (e' := .inl (t 0, 600, .inl (upd f7 n 0))) hw227 (hne 6 7 (by omega) (by omega) (by omega))
  rw [← ew230] at hw233
  have hw234 := gUp_ne (e' := .inl (t 0, 600, .inl (upd f7 n 0))) hw225 (Ne.symm (hne 7 8 (by omega) (by omega) (by omega)))
  rw [← ew230] at hw234
  have hw235 := gUp_ne (e' := .inl (t 0, 600, .inl (upd f7 n 0))) hw226 (hw226.ne hw224 (by simp))
  rw [← ew230] at hw235
  have hw236 := gUp_self (e' := .inl (t 0, 600, .inl (upd f7 n 0))) hw224
  rw [← ew230] at hw236
  have kpw237 := kpw228.up (a := (u 7)) (e := .inl (t 0, 600, .inl (upd f7 n 0))) (by simp)
  rw [← ew230] at kpw237
  refine j_aload_n O 0 dM_compare_313 rfl rfl ?_
  refine j_get O uwM hw231 rfl 10 (by decide) w457 rfl rfl dM_compare_314 ?_
  refine j_iload O dM_compare_317 rfl ?_
  refine j_iload O dM_compare_319 rfl ?_
  refine j_iast O hw234 0 rfl hn (by decide) dM_compare_321 (fun gw238 ew239 => ?_)
  have hw240 := gUp_ne (e' := .inl (t 0, 600, .inl (upd f8 n bi))) hw231 (hw231.ne hw234 (by simp))
  rw [← ew239] at hw240
  have hw241 := gUp_ne (e' := .inl (t 0, 600, .inl (upd f8 n bi))) hw232 (hw232.ne hw234 (by simp))
  rw [← ew239] at hw241
  have hw242 := gUp_ne (e' := .inl (t 0, 600, .inl (upd f8 n bi))) hw233 (hne 6 8 (by omega) (by omega) (by omega))
  rw [← ew239] at hw242
  have hw243 := gUp_ne (e' := .inl (t 0, 600, .inl (upd f8 n bi))) hw236 (hne 7 8 (by omega) (by omega) (by omega))
  rw [← ew239] at hw243
  have hw244 := gUp_ne (e' := .inl (t 0, 600, .inl (upd f8 n bi))) hw235 (hw235.ne hw234 (by simp))
  rw [← ew239] at hw244
  have hw245 := gUp_self (e' := .inl (t 0, 600, .inl (upd f8 n bi))) hw234
  rw [← ew239] at hw245
  have kpw246 := kpw237.up (a := (u 8)) (e := .inl (t 0, 600, .inl (upd f8 n bi))) (by simp)
  rw [← ew239] at kpw246
  refine j_iinc O (nI (n + 1)) [(5, .int (nI (n + 1))), (0, .ref (u 19)), (1, .int (nI i)), (2, .int (nI j)), (3, .int (nI a)), (4, .int (nI b)), (6, .int 0), (7, .int 1), (8, .int bi)] dM_compare_322 rfl (nI_1 _) (by decide) rfl ?_
  refine J.pk [1, 2, 3, 4, 5, 0, 6, 7] rfl ?_
  exact HK gw238 hw242 hw243 hw245 kpw246
set_option maxRecDepth 100000 in
set_option maxHeartbeats 1000000 in
theorem note11 {X : CX} {D : va_G} {t : Nat → ClassId} {A : Nat → Prop} {rm : Room} {g : GH} {k0 n0 : Nat} {u : Nat → Nat} {oc om df nn us lm mm ta co si bi : Int32} {s : AS} {i j a b n : Nat} {f6 f7 f8 : Nat → Int32} (O : Ok X bM_compare 10 "TwinTreesModel" (zz D t A) rm) (hM : gAt g (u 19) (eM u oc om df nn us lm mm ta co si)) (hRT : RT t g u s.1) (i6 : i < 6) (j6 : j < 6) (ha : a < (s.1 i).2.length) (ha3 : (s.1 i).2.length ≤ 300) (hb3 : (s.1 j).2.length ≤ 300) (hne : ∀ i j, i < 32 → j < 32 → i ≠ j → u i ≠ u j) (h6 : gAt g (u 6) (eI t 600 f6)) (h7 : gAt g (u 7) (eI t 600 f7)) (h8 : gAt g (u 8) (eI t 600 f8)) (hn : n < 600) (HK : ∀ g1 : GH, gAt g1 (u 6) (eI t 600 (upd f6 n (s.1 i).2[a].1)) → gAt g1 (u 7) (eI t 600 (upd f7 n 2)) → gAt g1 (u 8) (eI t 600 (upd f8 n bi)) → Kp [u 6, u 7, u 8] g g1 → J X 10 (zz D t A) g1 k0 n0 325 [(0, .ref (u 19)), (1, .int (nI i)), (2, .int (nI j)), (3, .int (nI a)), (4, .int (nI b)), (5, .int (nI (n + 1))), (6, .int 1), (7, .int 1)] []) :  J X 10 (zz D t A) g k0 n0 250 [(0, .ref (u 19)), (1, .int (nI i)), (2, .int (nI j)), (3, .int (nI a)), (4, .int (nI b)), (5, .int (nI n)), (6, .int 1), (7, .int 1), (8, .int bi)] [] := by
  obtain ⟨-, -, ⟨fK, hK, hKv⟩, -, hrow⟩ := id hRT
  obtain ⟨fk, fc, hk, -, htab⟩ := hrow i i6
  obtain ⟨gk, gc, hk2, -, htab2⟩ := hrow j j6
  have hKi := hKv i i6
  have hKj := hKv j j6
  have kp0 : Kp [u 6, u 7, u 8] g g := Kp.rf
  refine j_aload_n O 0 dM_compare_250 rfl rfl ?_
  refine j_get O uwM hM rfl 8 (by decide) w455 rfl rfl dM_compare_251 ?_
  refine j_iload O dM_compare_254 rfl ?_
  refine j_iload O dM_compare_256 rfl ?_
  refine j_if_eq O 272 dM_compare_258 (by decide) (fun c => absurd c (by decide)) (fun c => ?_)
  refine j_aload_n O 0 dM_compare_261 rfl rfl ?_
  refine j_get O uwM hM rfl 2 (by decide) w449 rfl rfl dM_compare_262 ?_
  refine j_iload_n O 1 dM_compare_265 rfl rfl ?_
  refine j_aaldA O hK 4 rfl (by omega) (by omega) dM_compare_266 ?_
  refine j_some (u (20 + i)) hKi ?_
  refine j_iload_n O 3 dM_compare_267 rfl rfl ?_
  refine j_iald O hk 0 rfl (by omega) (by omega) dM_compare_268 ?_
  refine j_eqi ((s.1 i).2[a].1) (htab a ha).1 ?_
  refine j_goto O 281 dM_compare_269 (by decide) ?_
  refine j_iast O h6 0 rfl hn (by decide) dM_compare_281 (fun gw247 ew248 => ?_)
  have hw249 := gUp_ne (e' := .inl (t 0, 600, .inl (upd f6 n ((s.1 i).2[a].1)))) hM (hM.ne h6 (by simp))
  rw [← ew248] at hw249
  have hw250 := gUp_ne (e' := .inl (t 0, 600, .inl (upd f6 n ((s.1 i).2[a].1)))) hK (hK.ne h6 (by simp))
  rw [← ew248] at hw250
  have hw251 := gUp_ne (e' := .inl (t 0, 600, .inl (upd f6 n ((s.1 i).2[a].1)))) h7 (Ne.symm (hne 6 7 (by omega) (by omega) (by omega)))
  rw [← ew248] at hw251
  have hw252 := gUp_ne (e' := .inl (t 0, 600, .inl (upd f6 n ((s.1 i).2[a].1)))) h8 (Ne.symm (hne 6 8 (by omega) (by omega) (by omega)))
  rw [← ew248] at hw252
  have hw253 := gUp_ne (e' := .inl (t 0, 600, .inl (upd f6 n ((s.1 i).2[a].1)))) hk (hk.ne h6 (by simp))
  rw [← ew248] at hw253
  have hw254 := gUp_self (e' := .inl (t 0, 600, .inl (upd f6 n ((s.1 i).2[a].1)))) h6
  rw [← ew248] at hw254
  have kpw255 := kp0.up (a := (u 6)) (e := .inl (t 0, 600, .inl (upd f6 n ((s.1 i).2[a].1)))) (by simp)
  rw [← ew248] at kpw255
  refine j_aload_n O 0 dM_compare_282 rfl rfl ?_
  refine j_get O uwM hw249 rfl 9 (by decide) w456 rfl rfl dM_compare_283 ?_
  refine j_iload O dM_compare_286 rfl ?_
  refine j_iload O dM_compare_288 rfl ?_
  refine j_if_eq O 302 dM_compare_290 (by decide) (fun c => absurd c (by decide)) (fun c => ?_)
  refine j_iload O dM_compare_293 rfl ?_
  refine j_if_eq O 302 dM_compare_295 (by decide) (fun c => absurd c (by decide)) (fun c => ?_)
  refine j_iconst O (v := 2) dM_compare_298 (by decide) ?_
  refine j_goto O 312 dM_compare_299 (by decide) ?_
  refine j_iast O hw251 0 rfl hn (by decide) dM_compare_312 (fun gw256 ew257 => ?_)
  have hw258 := gUp_ne (e' := .inl (t 0, 600, .inl (upd f7 n 2))) hw249 (hw249.ne hw251 (by simp))
  rw [← ew257] at hw258
  have hw259 := gUp_ne (e' := .inl (t 0, 600, .inl (upd f7 n 2))) hw250 (hw250.ne hw251 (by simp))
  rw [← ew257] at hw259
  have hw260 := gUp_ne (e' := .inl (t 0, 600, .inl (upd f7 n 2))) hw254 (hne 6 7 (by omega) (by omega) (by omega))
  rw [← ew257] at hw260
  have hw261 := gUp_ne (e' := .inl (t 0, 600, .inl (upd f7 n 2))) hw252 (Ne.symm (hne 7 8 (by omega) (by omega) (by omega)))
  rw [← ew257] at hw261
  have hw262 := gUp_ne (e' := .inl (t 0, 600, .inl (upd f7 n 2))) hw253 (hw253.ne hw251 (by simp))
  rw [← ew257] at hw262
  have hw263 := gUp_self (e' := .inl (t 0, 600, .inl (upd f7 n 2))) hw251
  rw [← ew257] at hw263
  have kpw264 := kpw255.up (a := (u 7)) (e := .inl (t 0, 600, .inl (upd f7 n 2))) (by simp)
  rw [← ew257] at kpw264
  refine j_aload_n O 0 dM_compare_313 rfl rfl ?_
  refine j_get O uwM hw258 rfl 10 (by decide) w457 rfl rfl dM_compare_314 ?_
  refine j_iload O dM_compare_317 rfl ?_
  refine j_iload O dM_compare_319 rfl ?_
  refine j_iast O hw261 0 rfl hn (by decide) dM_compare_321 (fun gw265 ew266 => ?_)
  have hw267 := gUp_ne (e' := .inl (t 0, 600, .inl (upd f8 n bi))) hw258 (hw258.ne hw261 (by simp))
  rw [← ew266] at hw267
  have hw268 := gUp_ne (e' := .inl (t 0, 600, .inl (upd f8 n bi))) hw259 (hw259.ne hw261 (by simp))
  rw [← ew266] at hw268
  have hw269 := gUp_ne (e' := .inl (t 0, 600, .inl (upd f8 n bi))) hw260 (hne 6 8 (by omega) (by omega) (by omega))
  rw [← ew266] at hw269
  have hw270 := gUp_ne (e' := .inl (t 0, 600, .inl (upd f8 n bi))) hw263 (hne 7 8 (by omega) (by omega) (by omega))
  rw [← ew266] at hw270
  have hw271 := gUp_ne (e' := .inl (t 0, 600, .inl (upd f8 n bi))) hw262 (hw262.ne hw261 (by simp))
  rw [← ew266] at hw271
  have hw272 := gUp_self (e' := .inl (t 0, 600, .inl (upd f8 n bi))) hw261
  rw [← ew266] at hw272
  have kpw273 := kpw264.up (a := (u 8)) (e := .inl (t 0, 600, .inl (upd f8 n bi))) (by simp)
  rw [← ew266] at kpw273
  refine j_iinc O (nI (n + 1)) [(5, .int (nI (n + 1))), (0, .ref (u 19)), (1, .int (nI i)), (2, .int (nI j)), (3, .int (nI a)), (4, .int (nI b)), (6, .int 1), (7, .int 1), (8, .int bi)] dM_compare_322 rfl (nI_1 _) (by decide) rfl ?_
  refine J.pk [1, 2, 3, 4, 5, 0, 6, 7] rfl ?_
  exact HK gw265 hw269 hw270 hw272 kpw273
