set_option maxRecDepth 100000 in
set_option maxHeartbeats 1000000 in
theorem keep_tail {X : CX} {D : va_G} {t : Nat → ClassId} {A : Nat → Prop} {rm : Room} {g : GH} {u : Nat → Nat} {oc om df ta si rw0 : Int32} {Ls : List ME} {h w j k : Nat} {c : List Int64} {fv fl : Nat → Int32} {g0 : GH} {n : Nat} {Ls' : List ME} (O : Ok X bM_keep 5 "TwinTreesModel" (zz D t A) rm) (M : Om X (zz D t A) (some .boolean) 0 0 (fun v g' => (v = some (.int 0) ∧ (h, w, c) ∉ Ls ∧ (60000 < siz Ls + c.length ∨ Ls.length = 60000) ∧ g' = g0) ∨ ∃ (n : Nat) (Ls' : List ME) (si' : Int32), v = some (.int 1) ∧ ((Ls' = Ls ∧ ∃ hn : n < Ls.length, Ls[n] = (h, w, c)) ∨ ((h, w, c) ∉ Ls ∧ n = Ls.length ∧ Ls' = Ls ++ [(h, w, c)])) ∧ RS t g' u Ls' ∧ gAt g' (u 19) (eM u oc om df (nI Ls'.length) (nI (siz Ls')) (nI (j + 1)) 0 ta (nI (k + 1)) si') ∧ gAt g' (u 16) (eI t 301 (upd fv j (nI n))) ∧ gAt g' (u 17) (eI t 301 (upd fl j rw0)) ∧ Kp [u 9, u 10, u 11, u 12, u 13, u 14, u 15, u 16, u 17, u 19] g0 g')) (hM : gAt g (u 19) (eM u oc om df (nI Ls'.length) (nI (siz Ls')) (nI j) (nI c.length) ta (nI k) si)) (hR : RS t g u Ls') (hne : ∀ i j, i < 32 → j < 32 → i ≠ j → u i ≠ u j) (hv : gAt g (u 16) (eI t 301 fv)) (hl : gAt g (u 17) (eI t 301 fl)) (hj : j < 301) (hn : n < 60000) (kp0 : Kp [u 9, u 10, u 11, u 12, u 13, u 14, u 15, u 16, u 17, u 19] g0 g) (hL : (Ls' = Ls ∧ ∃ hn : n < Ls.length, Ls[n] = (h, w, c)) ∨ ((h, w, c) ∉ Ls ∧ n = Ls.length ∧ Ls' = Ls ++ [(h, w, c)])) :  J X 5 (zz D t A) g 0 0 8 [(0, .ref (u 19)), (1, .int (nI h)), (2, .int (nI w)), (3, .int rw0), (4, .int (nI n))] [] := by
  have kq0 : Kp [u 16, u 17, u 19] g g := Kp.rf
  refine j_iload O dM_keep_8 rfl ?_
  refine j_if_ge O 15 dM_keep_10 (by decide) (fun c0 => ?_) (fun c0 => absurd (nI_le (a := 0) (Nat.zero_le _) (by omega)) c0)
  refine j_aload_n O 0 dM_keep_15 rfl rfl ?_
  refine j_dup O dM_keep_16 rfl ?_
  refine j_get O uwM hM rfl 27 (by decide) w474 rfl rfl dM_keep_17 ?_
  refine j_iconst O (v := 1) dM_keep_20 (by decide) ?_
  refine j_iadd O dM_keep_21 ?_
  refine j_eqi (nI (k + 1)) (nI_1 _) ?_
  refine j_put O uwM hM rfl 27 (by decide) w474 rfl tM ftM fnM rfl (.int) (by decide +kernel) rfl rfl (Nat.le_of_ble_eq_true rfl) [.ref (u 0), .ref (u 1), .ref (u 2), .ref (u 3), .int oc, .int om, .ref (u 4), .ref (u 5), .ref (u 6), .ref (u 7), .ref (u 8), .int df, .ref (u 9), .ref (u 10), .ref (u 11), .ref (u 12), .ref (u 13), .ref (u 14), .ref (u 15), .int (nI Ls'.length), .int (nI (siz Ls')), .ref (u 16), .ref (u 17), .int (nI j), .ref (u 18), .int (nI c.length), .int ta, .int (nI (k + 1)), .int si] rfl dM_keep_22 (fun gw212 ew213 => ?_)
  have hw214 := gUp_ne (e' := .inr (6, [.ref (u 0), .ref (u 1), .ref (u 2), .ref (u 3), .int oc, .int om, .ref (u 4), .ref (u 5), .ref (u 6), .ref (u 7), .ref (u 8), .int df, .ref (u 9), .ref (u 10), .ref (u 11), .ref (u 12), .ref (u 13), .ref (u 14), .ref (u 15), .int (nI Ls'.length), .int (nI (siz Ls')), .ref (u 16), .ref (u 17), .int (nI j), .ref (u 18), .int (nI c.length), .int ta, .int (nI (k + 1)), .int si])) hv (hv.ne hM (by simp))
  rw [← ew213] at hw214
  have hw215 := gUp_ne (e' := .inr (6, [.ref (u 0), .ref (u 1), .ref (u 2), .ref (u 3), .int oc, .int om, .ref (u 4), .ref (u 5), .ref (u 6), .ref (u 7), .ref (u 8), .int df, .ref (u 9), .ref (u 10), .ref (u 11), .ref (u 12), .ref (u 13), .ref (u 14), .ref (u 15), .int (nI Ls'.length), .int (nI (siz Ls')), .ref (u 16), .ref (u 17), .int (nI j), .ref (u 18), .int (nI c.length), .int ta, .int (nI (k + 1)), .int si])) hl (hl.ne hM (by simp))
  rw [← ew213] at hw215
  have hw216 := gUp_self (e' := .inr (6, [.ref (u 0), .ref (u 1), .ref (u 2), .ref (u 3), .int oc, .int om, .ref (u 4), .ref (u 5), .ref (u 6), .ref (u 7), .ref (u 8), .int df, .ref (u 9), .ref (u 10), .ref (u 11), .ref (u 12), .ref (u 13), .ref (u 14), .ref (u 15), .int (nI Ls'.length), .int (nI (siz Ls')), .ref (u 16), .ref (u 17), .int (nI j), .ref (u 18), .int (nI c.length), .int ta, .int (nI (k + 1)), .int si])) hM
  rw [← ew213] at hw216
  have kpw217 := kp0.up (a := (u 19)) (e := .inr (6, [.ref (u 0), .ref (u 1), .ref (u 2), .ref (u 3), .int oc, .int om, .ref (u 4), .ref (u 5), .ref (u 6), .ref (u 7), .ref (u 8), .int df, .ref (u 9), .ref (u 10), .ref (u 11), .ref (u 12), .ref (u 13), .ref (u 14), .ref (u 15), .int (nI Ls'.length), .int (nI (siz Ls')), .ref (u 16), .ref (u 17), .int (nI j), .ref (u 18), .int (nI c.length), .int ta, .int (nI (k + 1)), .int si])) (by simp)
  rw [← ew213] at kpw217
  have kq1 := kq0.up (a := (u 19)) (e := .inr (6, [.ref (u 0), .ref (u 1), .ref (u 2), .ref (u 3), .int oc, .int om, .ref (u 4), .ref (u 5), .ref (u 6), .ref (u 7), .ref (u 8), .int df, .ref (u 9), .ref (u 10), .ref (u 11), .ref (u 12), .ref (u 13), .ref (u 14), .ref (u 15), .int (nI Ls'.length), .int (nI (siz Ls')), .ref (u 16), .ref (u 17), .int (nI j), .ref (u 18), .int (nI c.length), .int ta, .int (nI (k + 1)), .int si])) (by simp)
  rw [← ew213] at kq1
  refine j_aload_n O 0 dM_keep_25 rfl rfl ?_
  refine j_dup O dM_keep_26 rfl ?_
  refine j_get O uwM hw216 rfl 28 (by decide) w475 rfl rfl dM_keep_27 ?_
  refine j_aload_n O 0 dM_keep_30 rfl rfl ?_
  refine j_get O uwM hw216 rfl 25 (by decide) w472 rfl rfl dM_keep_31 ?_
  refine j_iadd O dM_keep_34 ?_
  refine j_put O uwM hw216 rfl 28 (by decide) w475 rfl tM ftM fnM rfl (.int) (by decide +kernel) rfl rfl (Nat.le_of_ble_eq_true rfl) [.ref (u 0), .ref (u 1), .ref (u 2), .ref (u 3), .int oc, .int om, .ref (u 4), .ref (u 5), .ref (u 6), .ref (u 7), .ref (u 8), .int df, .ref (u 9), .ref (u 10), .ref (u 11), .ref (u 12), .ref (u 13), .ref (u 14), .ref (u 15), .int (nI Ls'.length), .int (nI (siz Ls')), .ref (u 16), .ref (u 17), .int (nI j), .ref (u 18), .int (nI c.length), .int ta, .int (nI (k + 1)), .int (si + (nI c.length))] rfl dM_keep_35 (fun gw218 ew219 => ?_)
  have hw220 := gUp_ne (e' := .inr (6, [.ref (u 0), .ref (u 1), .ref (u 2), .ref (u 3), .int oc, .int om, .ref (u 4), .ref (u 5), .ref (u 6), .ref (u 7), .ref (u 8), .int df, .ref (u 9), .ref (u 10), .ref (u 11), .ref (u 12), .ref (u 13), .ref (u 14), .ref (u 15), .int (nI Ls'.length), .int (nI (siz Ls')), .ref (u 16), .ref (u 17), .int (nI j), .ref (u 18), .int (nI c.length), .int ta, .int (nI (k + 1)), .int (si + (nI c.length))])) hw214 (hw214.ne hw216 (by simp))
  rw [← ew219] at hw220
  have hw221 := gUp_ne (e' := .inr (6, [.ref (u 0), .ref (u 1), .ref (u 2), .ref (u 3), .int oc, .int om, .ref (u 4), .ref (u 5), .ref (u 6), .ref (u 7), .ref (u 8), .int df, .ref (u 9), .ref (u 10), .ref (u 11), .ref (u 12), .ref (u 13), .ref (u 14), .ref (u 15), .int (nI Ls'.length), .int (nI (siz Ls')), .ref (u 16), .ref (u 17), .int (nI j), .ref (u 18), .int (nI c.length), .int ta, .int (nI (k + 1)), .int (si + (nI c.length))])) hw215 (hw215.ne hw216 (by simp))
  rw [← ew219] at hw221
  have hw222 := gUp_self (e' := .inr (6, [.ref (u 0), .ref (u 1), .ref (u 2), .ref (u 3), .int oc, .int om, .ref (u 4), .ref (u 5), .ref (u 6), .ref (u 7), .ref (u 8), .int df, .ref (u 9), .ref (u 10), .ref (u 11), .ref (u 12), .ref (u 13), .ref (u 14), .ref (u 15), .int (nI Ls'.length), .int (nI (siz Ls')), .ref (u 16), .ref (u 17), .int (nI j), .ref (u 18), .int (nI c.length), .int ta, .int (nI (k + 1)), .int (si + (nI c.length))])) hw216
  rw [← ew219] at hw222
  have kpw223 := kpw217.up (a := (u 19)) (e := .inr (6, [.ref (u 0), .ref (u 1), .ref (u 2), .ref (u 3), .int oc, .int om, .ref (u 4), .ref (u 5), .ref (u 6), .ref (u 7), .ref (u 8), .int df, .ref (u 9), .ref (u 10), .ref (u 11), .ref (u 12), .ref (u 13), .ref (u 14), .ref (u 15), .int (nI Ls'.length), .int (nI (siz Ls')), .ref (u 16), .ref (u 17), .int (nI j), .ref (u 18), .int (nI c.length), .int ta, .int (nI (k + 1)), .int (si + (nI c.length))])) (by simp)
  rw [← ew219] at kpw223
  have kq2 := kq1.up (a := (u 19)) (e := .inr (6, [.ref (u 0), .ref (u 1), .ref (u 2), .ref (u 3), .int oc, .int om, .ref (u 4), .ref (u 5), .ref (u 6), .ref (u 7), .ref (u 8), .int df, .ref (u 9), .ref (u 10), .ref (u 11), .ref (u 12), .ref (u 13), .ref (u 14), .ref (u 15), .int (nI Ls'.length), .int (nI (siz Ls')), .ref (u 16), .ref (u 17), .int (nI j), .ref (u 18), .int (nI c.length), .int ta, .int (nI (k + 1)), .int (si + (nI c.length))])) (by simp)
  rw [← ew219] at kq2
  refine j_aload_n O 0 dM_keep_38 rfl rfl ?_
  refine j_get O uwM hw222 rfl 21 (by decide) w468 rfl rfl dM_keep_39 ?_
  refine j_aload_n O 0 dM_keep_42 rfl rfl ?_
  refine j_get O uwM hw222 rfl 23 (by decide) w470 rfl rfl dM_keep_43 ?_
  refine j_iload O dM_keep_46 rfl ?_
  refine j_iast O hw220 0 rfl hj (by decide) dM_keep_48 (fun gw224 ew225 => ?_)
  have hw226 := gUp_ne (e' := .inl (t 0, 301, .inl (upd fv j (nI n)))) hw222 (hw222.ne hw220 (by simp))
  rw [← ew225] at hw226
  have hw227 := gUp_ne (e' := .inl (t 0, 301, .inl (upd fv j (nI n)))) hw221 (Ne.symm (hne 16 17 (by omega) (by omega) (by omega)))
  rw [← ew225] at hw227
  have hw228 := gUp_self (e' := .inl (t 0, 301, .inl (upd fv j (nI n)))) hw220
  rw [← ew225] at hw228
  have kpw229 := kpw223.up (a := (u 16)) (e := .inl (t 0, 301, .inl (upd fv j (nI n)))) (by simp)
  rw [← ew225] at kpw229
  have kq3 := kq2.up (a := (u 16)) (e := .inl (t 0, 301, .inl (upd fv j (nI n)))) (by simp)
  rw [← ew225] at kq3
  refine j_aload_n O 0 dM_keep_49 rfl rfl ?_
  refine j_get O uwM hw226 rfl 22 (by decide) w469 rfl rfl dM_keep_50 ?_
  refine j_aload_n O 0 dM_keep_53 rfl rfl ?_
  refine j_get O uwM hw226 rfl 23 (by decide) w470 rfl rfl dM_keep_54 ?_
  refine j_iload_n O 3 dM_keep_57 rfl rfl ?_
  refine j_iast O hw227 0 rfl hj (by decide) dM_keep_58 (fun gw230 ew231 => ?_)
  have hw232 := gUp_ne (e' := .inl (t 0, 301, .inl (upd fl j rw0))) hw226 (hw226.ne hw227 (by simp))
  rw [← ew231] at hw232
  have hw233 := gUp_ne (e' := .inl (t 0, 301, .inl (upd fl j rw0))) hw228 (hne 16 17 (by omega) (by omega) (by omega))
  rw [← ew231] at hw233
  have hw234 := gUp_self (e' := .inl (t 0, 301, .inl (upd fl j rw0))) hw227
  rw [← ew231] at hw234
  have kpw235 := kpw229.up (a := (u 17)) (e := .inl (t 0, 301, .inl (upd fl j rw0))) (by simp)
  rw [← ew231] at kpw235
  have kq4 := kq3.up (a := (u 17)) (e := .inl (t 0, 301, .inl (upd fl j rw0))) (by simp)
  rw [← ew231] at kq4
  refine j_aload_n O 0 dM_keep_59 rfl rfl ?_
  refine j_dup O dM_keep_60 rfl ?_
  refine j_get O uwM hw232 rfl 23 (by decide) w470 rfl rfl dM_keep_61 ?_
  refine j_iconst O (v := 1) dM_keep_64 (by decide) ?_
  refine j_iadd O dM_keep_65 ?_
  refine j_eqi (nI (j + 1)) (nI_1 _) ?_
  refine j_put O uwM hw232 rfl 23 (by decide) w470 rfl tM ftM fnM rfl (.int) (by decide +kernel) rfl rfl (Nat.le_of_ble_eq_true rfl) [.ref (u 0), .ref (u 1), .ref (u 2), .ref (u 3), .int oc, .int om, .ref (u 4), .ref (u 5), .ref (u 6), .ref (u 7), .ref (u 8), .int df, .ref (u 9), .ref (u 10), .ref (u 11), .ref (u 12), .ref (u 13), .ref (u 14), .ref (u 15), .int (nI Ls'.length), .int (nI (siz Ls')), .ref (u 16), .ref (u 17), .int (nI (j + 1)), .ref (u 18), .int (nI c.length), .int ta, .int (nI (k + 1)), .int (si + (nI c.length))] rfl dM_keep_66 (fun gw236 ew237 => ?_)
  have hw238 := gUp_ne (e' := .inr (6, [.ref (u 0), .ref (u 1), .ref (u 2), .ref (u 3), .int oc, .int om, .ref (u 4), .ref (u 5), .ref (u 6), .ref (u 7), .ref (u 8), .int df, .ref (u 9), .ref (u 10), .ref (u 11), .ref (u 12), .ref (u 13), .ref (u 14), .ref (u 15), .int (nI Ls'.length), .int (nI (siz Ls')), .ref (u 16), .ref (u 17), .int (nI (j + 1)), .ref (u 18), .int (nI c.length), .int ta, .int (nI (k + 1)), .int (si + (nI c.length))])) hw233 (hw233.ne hw232 (by simp))
  rw [← ew237] at hw238
  have hw239 := gUp_ne (e' := .inr (6, [.ref (u 0), .ref (u 1), .ref (u 2), .ref (u 3), .int oc, .int om, .ref (u 4), .ref (u 5), .ref (u 6), .ref (u 7), .ref (u 8), .int df, .ref (u 9), .ref (u 10), .ref (u 11), .ref (u 12), .ref (u 13), .ref (u 14), .ref (u 15), .int (nI Ls'.length), .int (nI (siz Ls')), .ref (u 16), .ref (u 17), .int (nI (j + 1)), .ref (u 18), .int (nI c.length), .int ta, .int (nI (k + 1)), .int (si + (nI c.length))])) hw234 (hw234.ne hw232 (by simp))
  rw [← ew237] at hw239
  have hw240 := gUp_self (e' := .inr (6, [.ref (u 0), .ref (u 1), .ref (u 2), .ref (u 3), .int oc, .int om, .ref (u 4), .ref (u 5), .ref (u 6), .ref (u 7), .ref (u 8), .int df, .ref (u 9), .ref (u 10), .ref (u 11), .ref (u 12), .ref (u 13), .ref (u 14), .ref (u 15), .int (nI Ls'.length), .int (nI (siz Ls')), .ref (u 16), .ref (u 17), .int (nI (j + 1)), .ref (u 18), .int (nI c.length), .int ta, .int (nI (k + 1)), .int (si + (nI c.length))])) hw232
  rw [← ew237] at hw240
  have kpw241 := kpw235.up (a := (u 19)) (e := .inr (6, [.ref (u 0), .ref (u 1), .ref (u 2), .ref (u 3), .int oc, .int om, .ref (u 4), .ref (u 5), .ref (u 6), .ref (u 7), .ref (u 8), .int df, .ref (u 9), .ref (u 10), .ref (u 11), .ref (u 12), .ref (u 13), .ref (u 14), .ref (u 15), .int (nI Ls'.length), .int (nI (siz Ls')), .ref (u 16), .ref (u 17), .int (nI (j + 1)), .ref (u 18), .int (nI c.length), .int ta, .int (nI (k + 1)), .int (si + (nI c.length))])) (by simp)
  rw [← ew237] at kpw241
  have kq5 := kq4.up (a := (u 19)) (e := .inr (6, [.ref (u 0), .ref (u 1), .ref (u 2), .ref (u 3), .int oc, .int om, .ref (u 4), .ref (u 5), .ref (u 6), .ref (u 7), .ref (u 8), .int df, .ref (u 9), .ref (u 10), .ref (u 11), .ref (u 12), .ref (u 13), .ref (u 14), .ref (u 15), .int (nI Ls'.length), .int (nI (siz Ls')), .ref (u 16), .ref (u 17), .int (nI (j + 1)), .ref (u 18), .int (nI c.length), .int ta, .int (nI (k + 1)), .int (si + (nI c.length))])) (by simp)
  rw [← ew237] at kq5
  refine j_aload_n O 0 dM_keep_69 rfl rfl ?_
  refine j_iconst O (v := 0) dM_keep_70 (by decide) ?_
  refine j_put O uwM hw240 rfl 25 (by decide) w472 rfl tM ftM fnM rfl (.int) (by decide +kernel) rfl rfl (Nat.le_of_ble_eq_true rfl) [.ref (u 0), .ref (u 1), .ref (u 2), .ref (u 3), .int oc, .int om, .ref (u 4), .ref (u 5), .ref (u 6), .ref (u 7), .ref (u 8), .int df, .ref (u 9), .ref (u 10), .ref (u 11), .ref (u 12), .ref (u 13), .ref (u 14), .ref (u 15), .int (nI Ls'.length), .int (nI (siz Ls')), .ref (u 16), .ref (u 17), .int (nI (j + 1)), .ref (u 18), .int 0, .int ta, .int (nI (k + 1)), .int (si + (nI c.length))] rfl dM_keep_71 (fun gw242 ew243 => ?_)
  have hw244 := gUp_ne (e' := .inr (6, [.ref (u 0), .ref (u 1), .ref (u 2), .ref (u 3), .int oc, .int om, .ref (u 4), .ref (u 5), .ref (u 6), .ref (u 7), .ref (u 8), .int df, .ref (u 9), .ref (u 10), .ref (u 11), .ref (u 12), .ref (u 13), .ref (u 14), .ref (u 15), .int (nI Ls'.length), .int (nI (siz Ls')), .ref (u 16), .ref (u 17), .int (nI (j + 1)), .ref (u 18), .int 0, .int ta, .int (nI (k + 1)), .int (si + (nI c.length))])) hw238 (hw238.ne hw240 (by simp))
  rw [← ew243] at hw244
  have hw245 := gUp_ne (e' := .inr (6, [.ref (u 0), .ref (u 1), .ref (u 2), .ref (u 3), .int oc, .int om, .ref (u 4), .ref (u 5), .ref (u 6), .ref (u 7), .ref (u 8), .int df, .ref (u 9), .ref (u 10), .ref (u 11), .ref (u 12), .ref (u 13), .ref (u 14), .ref (u 15), .int (nI Ls'.length), .int (nI (siz Ls')), .ref (u 16), .ref (u 17), .int (nI (j + 1)), .ref (u 18), .int 0, .int ta, .int (nI (k + 1)), .int (si + (nI c.length))])) hw239 (hw239.ne hw240 (by simp))
  rw [← ew243] at hw245
  have hw246 := gUp_self (e' := .inr (6, [.ref (u 0), .ref (u 1), .ref (u 2), .ref (u 3), .int oc, .int om, .ref (u 4), .ref (u 5), .ref (u 6), .ref (u 7), .ref (u 8), .int df, .ref (u 9), .ref (u 10), .ref (u 11), .ref (u 12), .ref (u 13), .ref (u 14), .ref (u 15), .int (nI Ls'.length), .int (nI (siz Ls')), .ref (u 16), .ref (u 17), .int (nI (j + 1)), .ref (u 18), .int 0, .int ta, .int (nI (k + 1)), .int (si + (nI c.length))])) hw240
  rw [← ew243] at hw246
  have kpw247 := kpw241.up (a := (u 19)) (e := .inr (6, [.ref (u 0), .ref (u 1), .ref (u 2), .ref (u 3), .int oc, .int om, .ref (u 4), .ref (u 5), .ref (u 6), .ref (u 7), .ref (u 8), .int df, .ref (u 9), .ref (u 10), .ref (u 11), .ref (u 12), .ref (u 13), .ref (u 14), .ref (u 15), .int (nI Ls'.length), .int (nI (siz Ls')), .ref (u 16), .ref (u 17), .int (nI (j + 1)), .ref (u 18), .int 0, .int ta, .int (nI (k + 1)), .int (si + (nI c.length))])) (by simp)
  rw [← ew243] at kpw247
  have kq6 := kq5.up (a := (u 19)) (e := .inr (6, [.ref (u 0), .ref (u 1), .ref (u 2), .ref (u 3), .int oc, .int om, .ref (u 4), .ref (u 5), .ref (u 6), .ref (u 7), .ref (u 8), .int df, .ref (u 9), .ref (u 10), .ref (u 11), .ref (u 12), .ref (u 13), .ref (u 14), .ref (u 15), .int (nI Ls'.length), .int (nI (siz Ls')), .ref (u 16), .ref (u 17), .int (nI (j + 1)), .ref (u 18), .int 0, .int ta, .int (nI (k + 1)), .int (si + (nI c.length))])) (by simp)
  rw [← ew243] at kq6
  refine j_iconst O (v := 1) dM_keep_74 (by decide) ?_
  have hR2 : RS t gw242 u Ls' := hR.keep (fun i e h1 h2 q => by
    have n19 := hne i 19 (by omega) (by omega) (by omega)
    have n16 := hne i 16 (by omega) (by omega) (by omega)
    have n17 := hne i 17 (by omega) (by omega) (by omega)
    exact kq6.2 _ _ (by simp [n19, n16, n17]) q)
  exact j_zret O (by decide) M (Nat.le_of_ble_eq_true rfl) (Nat.le_of_ble_eq_true rfl) (Or.inr ⟨n, Ls', _, rfl, hL, hR2, hw246, hw244, hw245, kpw247⟩) dM_keep_75
set_option maxRecDepth 100000 in
set_option maxHeartbeats 1000000 in
theorem c_M_keep (l : Launch) (D : va_G) (t : Nat → ClassId) (A : Nat → Prop) (g : GH) (u : Nat → Nat) (oc om df ta si rw0 : Int32) (Ls : List ME) (h w j k : Nat) (c : List Int64) (fm : Nat → Int64) (fv fl : Nat → Int32) (hM : gAt g (u 19) (eM u oc om df (nI Ls.length) (nI (siz Ls)) (nI j) (nI c.length) ta (nI k) si)) (hm : gAt g (u 18) (eL t 2100 fm)) (hfm : ∀ k (hk : k < c.length), fm k = c[k]) (he : eOK (h, w, c)) (hR : RS t g u Ls) (hne : ∀ i j, i < 32 → j < 32 → i ≠ j → u i ≠ u j) (hv : gAt g (u 16) (eI t 301 fv)) (hl : gAt g (u 17) (eI t 301 fl)) (hj : j < 301) : Ct l yM_keep sM_keep { frames := 2, cells := 0, slots := 0, locals := 140 } (zz D t A) [.ref (u 19), .int (nI h), .int (nI w), .int rw0] g 0 0 (fun v g' => (v = some (.int 0) ∧ (h, w, c) ∉ Ls ∧ (60000 < siz Ls + c.length ∨ Ls.length = 60000) ∧ g' = g) ∨ ∃ (n : Nat) (Ls' : List ME) (si' : Int32), v = some (.int 1) ∧ ((Ls' = Ls ∧ ∃ hn : n < Ls.length, Ls[n] = (h, w, c)) ∨ ((h, w, c) ∉ Ls ∧ n = Ls.length ∧ Ls' = Ls ++ [(h, w, c)])) ∧ RS t g' u Ls' ∧ gAt g' (u 19) (eM u oc om df (nI Ls'.length) (nI (siz Ls')) (nI (j + 1)) 0 ta (nI (k + 1)) si') ∧ gAt g' (u 16) (eI t 301 (upd fv j (nI n))) ∧ gAt g' (u 17) (eI t 301 (upd fl j rw0)) ∧ Kp [u 9, u 10, u 11, u 12, u 13, u 14, u 15, u 16, u 17, u 19] g g') := by
  refine Ct.of (cc := bM_keep) (maxL := 5) (ret := (some .boolean)) (by decide) (Nat.le_of_ble_eq_true rfl) (fun X hlX O M hNn => ?_)
  show J X 5 (zz D t A) g 0 0 0 [(0, .ref (u 19)), (1, .int (nI h)), (2, .int (nI w)), (3, .int rw0)] []
  have hl6 := hR.2.1
  refine j_aload_n O 0 dM_keep_0 rfl rfl ?_
  refine j_iload_n O 1 dM_keep_1 rfl rfl ?_
  refine j_iload_n O 2 dM_keep_2 rfl rfl ?_
  refine j_callV O [.int (nI h), .int (nI w)] (c_M_node X.2.1 D t A g u oc om df (nI j) ta (nI k) si Ls h w c fm hM hm hfm he hR hne) hM rfl w433 w434 w12 w28 w435 2 rfl rfl rfl (by decide +kernel) ⟨(Nat.le_of_ble_eq_true rfl), (Nat.le_of_ble_eq_true rfl)⟩ rfl (Nat.le_of_ble_eq_true rfl) dM_keep_3 ⟨(Nat.le_of_ble_eq_true rfl), (Nat.le_of_ble_eq_true rfl)⟩ (fun vw1 gw2 hpw3 => ?_)
  have hpost := hpw3
  rcases hpost with ⟨n, hn, he1, rfl, hg⟩ | ⟨hno, hbig, rfl, hg⟩ | ⟨hno, rfl, hR1, hM1, kp1⟩
  · have hg := hg.symm
    subst hg
    refine j_istore O [(4, .int (nI n)), (0, .ref (u 19)), (1, .int (nI h)), (2, .int (nI w)), (3, .int rw0)] dM_keep_6 (by decide) rfl ?_
    refine J.pk [1, 2, 3, 4, 0] rfl ?_
    exact keep_tail O M hM hR hne hv hl hj (by omega) Kp.rf (Or.inl ⟨rfl, hn, he1⟩)
  · have hg := hg.symm
    subst hg
    refine j_istore O [(4, .int (-2)), (0, .ref (u 19)), (1, .int (nI h)), (2, .int (nI w)), (3, .int rw0)] dM_keep_6 (by decide) rfl ?_
    refine j_iload O dM_keep_8 rfl ?_
    refine j_if_ge O 15 dM_keep_10 (by decide) (fun c0 => absurd c0 (by decide)) (fun c0 => ?_)
    refine j_iconst O (v := 0) dM_keep_13 (by decide) ?_
    exact j_zret O (by decide) M (Nat.le_of_ble_eq_true rfl) (Nat.le_of_ble_eq_true rfl) (Or.inl ⟨rfl, hno, hbig, rfl⟩) dM_keep_14
  · have hv1 := kp1.2 _ _ (fun z => by
      simp only [sU, List.map_cons, List.map_nil, List.mem_cons, List.not_mem_nil, or_false] at z
      rcases z with z | z | z | z | z | z | z | z
      all_goals exact absurd z (hne _ _ (by omega) (by omega) (by omega))) hv
    have hl1 := kp1.2 _ _ (fun z => by
      simp only [sU, List.map_cons, List.map_nil, List.mem_cons, List.not_mem_nil, or_false] at z
      rcases z with z | z | z | z | z | z | z | z
      all_goals exact absurd z (hne _ _ (by omega) (by omega) (by omega))) hl
    have hL1 : (Ls ++ [(h, w, c)]).length = Ls.length + 1 := by simp
    have hS1 : siz (Ls ++ [(h, w, c)]) = siz Ls + c.length := by rw [siz_app, siz_one]
    have hl7 := hR1.2.1
    rw [← hL1, ← hS1] at hM1
    rw [hL1] at hl7
    refine j_istore O [(4, .int (nI Ls.length)), (0, .ref (u 19)), (1, .int (nI h)), (2, .int (nI w)), (3, .int rw0)] dM_keep_6 (by decide) rfl ?_
    refine J.pk [1, 2, 3, 4, 0] rfl ?_
    exact keep_tail O M hM1 hR1 hne hv1 hl1 hj (by omega) (kp1.mono (fun x hx => by
      simp only [sU, List.map_cons, List.map_nil, List.mem_cons, List.not_mem_nil, or_false] at hx ⊢
      rcases hx with z | z | z | z | z | z | z | z <;> simp [z])) (Or.inr ⟨hno, rfl, rfl⟩)
