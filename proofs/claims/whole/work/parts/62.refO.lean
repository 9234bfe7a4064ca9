set_option maxRecDepth 100000 in
set_option maxHeartbeats 1000000 in
theorem back_loop {X : CX} {D : va_G} {t : Nat → ClassId} {A : Nat → Prop} {rm : Room} {g : GH} {u : Nat → Nat} {oc om df lm ta co si : Int32} {Tk : List ME} {to : Nat} (O : Ok X bM_back 2 "TwinTreesModel" (zz D t A) rm) (M : Om X (zz D t A) none 0 0 (fun v g' => v = none ∧ RS t g' u Tk ∧ (∃ mm', gAt g' (u 19) (eM u oc om df (nI to) (nI (siz Tk)) lm mm' ta co si)) ∧ (∃ fm', gAt g' (u 18) (eL t 2100 fm')) ∧ Kp [u 9, u 10, u 11, u 12, u 13, u 14, u 15, u 19, u 18] g g')) (hne : ∀ i j, i < 32 → j < 32 → i ≠ j → u i ≠ u j) (hrm : 1 ≤ rm.frames ∧ 100 ≤ rm.locals) : ∀ (n : Nat) (Ls : List ME) (g1 : GH) (mm : Int32) (fm : Nat → Int64), Ls.length = to + n → Ls.take to = Tk → gAt g1 (u 19) (eM u oc om df (nI Ls.length) (nI (siz Ls)) lm mm ta co si) → gAt g1 (u 18) (eL t 2100 fm) → RS t g1 u Ls → Kp [u 9, u 10, u 11, u 12, u 13, u 14, u 15, u 19, u 18] g g1 → J X 2 (zz D t A) g1 0 0 0 [(0, .ref (u 19)), (1, .int (nI to))] [] := by
  intro n
  induction n with
  | zero =>
    intro Ls g1 mm fm hl ht hM hm hR kp0
    have hl6 := hR.2.1
    have eT : Ls = Tk := by rw [← ht, List.take_of_length_le (by omega)]
    subst eT
    rw [hl] at hM
    refine j_aload_n O 0 dM_back_0 rfl rfl ?_
    refine j_get O uwM hM rfl 19 (by decide) w466 rfl rfl dM_back_1 ?_
    refine j_iload_n O 1 dM_back_4 rfl rfl ?_
    refine j_icmp_le O 110 dM_back_5 (by decide) (fun c => ?_) (fun c => absurd (nI_le (Nat.le_refl _) (by omega)) c)
    exact j_vret O M (Nat.le_of_ble_eq_true rfl) (Nat.le_of_ble_eq_true rfl) ⟨rfl, hR, ⟨_, hM⟩, ⟨_, hm⟩, kp0⟩ dM_back_110
  | succ n ih =>
    intro Ls g1 mm fm hl ht hM hm hR kp0
    obtain ⟨K, e, rfl⟩ : ∃ K e, Ls = K ++ [e] := ⟨Ls.dropLast, Ls.getLast (by intro q; rw [q] at hl; simp at hl), (List.dropLast_concat_getLast _).symm⟩
    obtain ⟨⟨fh, fb, fl, fw, fc, fp, fB, a1, a2, a3, a4, a5, a6, a7, a8⟩, hl6, hs6, hok⟩ := id hR
    rw [List.length_append, List.length_singleton] at hl hl6
    rw [siz_app, siz_one] at hs6
    rw [List.length_append, List.length_singleton, siz_app, siz_one] at hM
    obtain ⟨b1, b2, b3, b4, b5, b6⟩ := a8.1 K.length (by simp)
    have eg : (K ++ [e])[K.length]'(by simp) = e := by simp
    have et : (K ++ [e]).take K.length = K := by simp
    rw [et] at b2 b6
    simp only [eg] at b1 b3 b4 b5 b6
    obtain ⟨e1, e2, e3⟩ := hok e (by simp)
    have hbl := hsN_lt e
    refine j_aload_n O 0 dM_back_0 rfl rfl ?_
    refine j_get O uwM hM rfl 19 (by decide) w466 rfl rfl dM_back_1 ?_
    refine j_iload_n O 1 dM_back_4 rfl rfl ?_
    refine j_icmp_le O 110 dM_back_5 (by decide) (fun c => absurd c (nI_ge (by omega) (by omega))) (fun c => ?_)
    refine j_aload_n O 0 dM_back_8 rfl rfl ?_
    refine j_dup O dM_back_9 rfl ?_
    refine j_get O uwM hM rfl 19 (by decide) w466 rfl rfl dM_back_10 ?_
    refine j_iconst O (v := 1) dM_back_13 (by decide) ?_
    refine j_isub O dM_back_14 ?_
    refine j_eqi (nI (K.length + 1 - 1)) (pk_sub (b := 1) (by omega)) ?_
    refine j_eqi (nI K.length) (by rw [Nat.add_sub_cancel]) ?_
    refine j_put O uwM hM rfl 19 (by decide) w466 rfl tM ftM fnM rfl (.int) (by decide +kernel) rfl rfl (Nat.le_of_ble_eq_true rfl) [.ref (u 0), .ref (u 1), .ref (u 2), .ref (u 3), .int oc, .int om, .ref (u 4), .ref (u 5), .ref (u 6), .ref (u 7), .ref (u 8), .int df, .ref (u 9), .ref (u 10), .ref (u 11), .ref (u 12), .ref (u 13), .ref (u 14), .ref (u 15), .int (nI K.length), .int (nI (siz K + e.2.2.length)), .ref (u 16), .ref (u 17), .int lm, .ref (u 18), .int mm, .int ta, .int co, .int si] rfl dM_back_15 (fun gw212 ew213 => ?_)
    have hw214 := gUp_ne (e' := .inr (6, [.ref (u 0), .ref (u 1), .ref (u 2), .ref (u 3), .int oc, .int om, .ref (u 4), .ref (u 5), .ref (u 6), .ref (u 7), .ref (u 8), .int df, .ref (u 9), .ref (u 10), .ref (u 11), .ref (u 12), .ref (u 13), .ref (u 14), .ref (u 15), .int (nI K.length), .int (nI (siz K + e.2.2.length)), .ref (u 16), .ref (u 17), .int lm, .ref (u 18), .int mm, .int ta, .int co, .int si])) hm (hm.ne hM (by simp))
    rw [← ew213] at hw214
    have hw215 := gUp_ne (e' := .inr (6, [.ref (u 0), .ref (u 1), .ref (u 2), .ref (u 3), .int oc, .int om, .ref (u 4), .ref (u 5), .ref (u 6), .ref (u 7), .ref (u 8), .int df, .ref (u 9), .ref (u 10), .ref (u 11), .ref (u 12), .ref (u 13), .ref (u 14), .ref (u 15), .int (nI K.length), .int (nI (siz K + e.2.2.length)), .ref (u 16), .ref (u 17), .int lm, .ref (u 18), .int mm, .int ta, .int co, .int si])) a1 (a1.ne hM (by simp))
    rw [← ew213] at hw215
    have hw216 := gUp_ne (e' := .inr (6, [.ref (u 0), .ref (u 1), .ref (u 2), .ref (u 3), .int oc, .int om, .ref (u 4), .ref (u 5), .ref (u 6), .ref (u 7), .ref (u 8), .int df, .ref (u 9), .ref (u 10), .ref (u 11), .ref (u 12), .ref (u 13), .ref (u 14), .ref (u 15), .int (nI K.length), .int (nI (siz K + e.2.2.length)), .ref (u 16), .ref (u 17), .int lm, .ref (u 18), .int mm, .int ta, .int co, .int si])) a2 (a2.ne hM (by simp))
    rw [← ew213] at hw216
    have hw217 := gUp_ne (e' := .inr (6, [.ref (u 0), .ref (u 1), .ref (u 2), .ref (u 3), .int oc, .int om, .ref (u 4), .ref (u 5), .ref (u 6), .ref (u 7), .ref (u 8), .int df, .ref (u 9), .ref (u 10), .ref (u 11), .ref (u 12), .ref (u 13), .ref (u 14), .ref (u 15), .int (nI K.length), .int (nI (siz K + e.2.2.length)), .ref (u 16), .ref (u 17), .int lm, .ref (u 18), .int mm, .int ta, .int co, .int si])) a3 (a3.ne hM (by simp))
    rw [← ew213] at hw217
    have hw218 := gUp_ne (e' := .inr (6, [.ref (u 0), .ref (u 1), .ref (u 2), .ref (u 3), .int oc, .int om, .ref (u 4), .ref (u 5), .ref (u 6), .ref (u 7), .ref (u 8), .int df, .ref (u 9), .ref (u 10), .ref (u 11), .ref (u 12), .ref (u 13), .ref (u 14), .ref (u 15), .int (nI K.length), .int (nI (siz K + e.2.2.length)), .ref (u 16), .ref (u 17), .int lm, .ref (u 18), .int mm, .int ta, .int co, .int si])) a4 (a4.ne hM (by simp))
    rw [← ew213] at hw218
    have hw219 := gUp_ne (e' := .inr (6, [.ref (u 0), .ref (u 1), .ref (u 2), .ref (u 3), .int oc, .int om, .ref (u 4), .ref (u 5), .ref (u 6), .ref (u 7), .ref (u 8), .int df, .ref (u 9), .ref (u 10), .ref (u 11), .ref (u 12), .ref (u 13), .ref (u 14), .ref (u 15), .int (nI K.length), .int (nI (siz K + e.2.2.length)), .ref (u 16), .ref (u 17), .int lm, .ref (u 18), .int mm, .int ta, .int co, .int si])) a5 (a5.ne hM (by simp))
    rw [← ew213] at hw219
    have hw220 := gUp_ne (e' := .inr (6, [.ref (u 0), .ref (u 1), .ref (u 2), .ref (u 3), .int oc, .int om, .ref (u 4), .ref (u 5), .ref (u 6), .ref (u 7), .ref (u 8), .int df, .ref (u 9), .ref (u 10), .ref (u 11), .ref (u 12), .ref (u 13), .ref (u 14), .ref (u 15), .int (nI K.length), .int (nI (siz K + e.2.2.length)), .ref (u 16), .ref (u 17), .int lm, .ref (u 18), .int mm, .int ta, .int co, .int si])) a6 (a6.ne hM (by simp))
    rw [← ew213] at hw220
    have hw221 := gUp_ne (e' := .inr (6, [.ref (u 0), .ref (u 1), .ref (u 2), .ref (u 3), .int oc, .int om, .ref (u 4), .ref (u 5), .ref (u 6), .ref (u 7), .ref (u 8), .int df, .ref (u 9), .ref (u 10), .ref (u 11), .ref (u 12), .ref (u 13), .ref (u 14), .ref (u 15), .int (nI K.length), .int (nI (siz K + e.2.2.length)), .ref (u 16), .ref (u 17), .int lm, .ref (u 18), .int mm, .int ta, .int co, .int si])) a7 (a7.ne hM (by simp))
    rw [← ew213] at hw221
    have hw222 := gUp_self (e' := .inr (6, [.ref (u 0), .ref (u 1), .ref (u 2), .ref (u 3), .int oc, .int om, .ref (u 4), .ref (u 5), .ref (u 6), .ref (u 7), .ref (u 8), .int df, .ref (u 9), .ref (u 10), .ref (u 11), .ref (u 12), .ref (u 13), .ref (u 14), .ref (u 15), .int (nI K.length), .int (nI (siz K + e.2.2.length)), .ref (u 16), .ref (u 17), .int lm, .ref (u 18), .int mm, .int ta, .int co, .int si])) hM
    rw [← ew213] at hw222
    have kpw223 := kp0.up (a := (u 19)) (e := .inr (6, [.ref (u 0), .ref (u 1), .ref (u 2), .ref (u 3), .int oc, .int om, .ref (u 4), .ref (u 5), .ref (u 6), .ref (u 7), .ref (u 8), .int df, .ref (u 9), .ref (u 10), .ref (u 11), .ref (u 12), .ref (u 13), .ref (u 14), .ref (u 15), .int (nI K.length), .int (nI (siz K + e.2.2.length)), .ref (u 16), .ref (u 17), .int lm, .ref (u 18), .int mm, .int ta, .int co, .int si])) (by simp)
    rw [← ew213] at kpw223
    refine j_aload_n O 0 dM_back_18 rfl rfl ?_
    refine j_aload_n O 0 dM_back_19 rfl rfl ?_
    refine j_get O uwM hw222 rfl 14 (by decide) w461 rfl rfl dM_back_20 ?_
    refine j_aload_n O 0 dM_back_23 rfl rfl ?_
    refine j_get O uwM hw222 rfl 19 (by decide) w466 rfl rfl dM_back_24 ?_
    refine j_iald O hw217 0 rfl (by omega) (by omega) dM_back_27 ?_
    refine j_eqi (nI e.2.2.length) b3 ?_
    refine j_put O uwM hw222 rfl 25 (by decide) w472 rfl tM ftM fnM rfl (.int) (by decide +kernel) rfl rfl (Nat.le_of_ble_eq_true rfl) [.ref (u 0), .ref (u 1), .ref (u 2), .ref (u 3), .int oc, .int om, .ref (u 4), .ref (u 5), .ref (u 6), .ref (u 7), .ref (u 8), .int df, .ref (u 9), .ref (u 10), .ref (u 11), .ref (u 12), .ref (u 13), .ref (u 14), .ref (u 15), .int (nI K.length), .int (nI (siz K + e.2.2.length)), .ref (u 16), .ref (u 17), .int lm, .ref (u 18), .int (nI e.2.2.length), .int ta, .int co, .int si] rfl dM_back_28 (fun gw224 ew225 => ?_)
    have hw226 := gUp_ne (e' := .inr (6, [.ref (u 0), .ref (u 1), .ref (u 2), .ref (u 3), .int oc, .int om, .ref (u 4), .ref (u 5), .ref (u 6), .ref (u 7), .ref (u 8), .int df, .ref (u 9), .ref (u 10), .ref (u 11), .ref (u 12), .ref (u 13), .ref (u 14), .ref (u 15), .int (nI K.length), .int (nI (siz K + e.2.2.length)), .ref (u 16), .ref (u 17), .int lm, .ref (u 18), .int (nI e.2.2.length), .int ta, .int co, .int si])) hw214 (hw214.ne hw222 (by simp))
    rw [← ew225] at hw226
    have hw227 := gUp_ne (e' := .inr (6, [.ref (u 0), .ref (u 1), .ref (u 2), .ref (u 3), .int oc, .int om, .ref (u 4), .ref (u 5), .ref (u 6), .ref (u 7), .ref (u 8), .int df, .ref (u 9), .ref (u 10), .ref (u 11), .ref (u 12), .ref (u 13), .ref (u 14), .ref (u 15), .int (nI K.length), .int (nI (siz K + e.2.2.length)), .ref (u 16), .ref (u 17), .int lm, .ref (u 18), .int (nI e.2.2.length), .int ta, .int co, .int si])) hw215 (hw215.ne hw222 (by simp))
    rw [← ew225] at hw227
    have hw228 := gUp_ne (e' := .inr (6, [.ref (u 0), .ref (u 1), .ref (u 2), .ref (u 3), .int oc, .int om, .ref (u 4), .ref (u 5), .ref (u 6), .ref (u 7), .ref (u 8), .int df, .ref (u 9), .ref (u 10), .ref (u 11), .ref (u 12), .ref (u 13), .ref (u 14), .ref (u 15), .int (nI K.length), .int (nI (siz K + e.2.2.length)), .ref (u 16), .ref (u 17), .int lm, .ref (u 18), .int (nI e.2.2.length), .int ta, .int co, .int si])) hw216 (hw216.ne hw222 (by simp))
    rw [← ew225] at hw228
    have hw229 := gUp_ne (e' := .inr (6, [.ref (u 0), .ref (u 1), .ref (u 2), .ref (u 3), .int oc, .int om, .ref (u 4), .ref (u 5), .ref (u 6), .ref (u 7), .ref (u 8), .int df, .ref (u 9), .ref (u 10), .ref (u 11), .ref (u 12), .ref (u 13), .ref (u 14), .ref (u 15), .int (nI K.length), .int (nI (siz K + e.2.2.length)), .ref (u 16), .ref (u 17), .int lm, .ref (u 18), .int (nI e.2.2.length), .int ta, .int co, .int si])) hw217 (hw217.ne hw222 (by simp))
    rw [← ew225] at hw229
    have hw230 := gUp_ne (e' := .inr (6, [.ref (u 0), .ref (u 1), .ref (u 2), .ref (u 3), .int oc, .int om, .ref (u 4), .ref (u 5), .ref (u 6), .ref (u 7), .ref (u 8), .int df, .ref (u 9), .ref (u 10), .ref (u 11), .ref (u 12), .ref (u 13), .ref (u 14), .ref (u 15), .int (nI K.length), .int (nI (siz K + e.2.2.length)), .ref (u 16), .ref (u 17), .int lm, .ref (u 18), .int (nI e.2.2.length), .int ta, .int co, .int si])) hw218 (hw218.ne hw222 (by simp))
    rw [← ew225] at hw230
    have hw231 := gUp_ne (e' := .inr (6, [.ref (u 0), .ref (u 1), .ref (u 2), .ref (u 3), .int oc, .int om, .ref (u 4), .ref (u 5), .ref (u 6), .ref (u 7), .ref (u 8), .int df, .ref (u 9), .ref (u 10), .ref (u 11), .ref (u 12), .ref (u 13), .ref (u 14), .ref (u 15), .int (nI K.length), .int (nI (siz K + e.2.2.length)), .ref (u 16), .ref (u 17), .int lm, .ref (u 18), .int (nI e.2.2.length), .int ta, .int co, .int si])) hw219 (hw219.ne hw222 (by simp))
    rw [← ew225] at hw231
    have hw232 := gUp_ne (e' := .inr (6, [.ref (u 0), .ref (u 1), .ref (u 2), .ref (u 3), .int oc, .int om, .ref (u 4), .ref (u 5), .ref (u 6), .ref (u 7), .ref (u 8), .int df, .ref (u 9), .ref (u 10), .ref (u 11), .ref (u 12), .ref (u 13), .ref (u 14), .ref (u 15), .int (nI K.length), .int (nI (siz K + e.2.2.length)), .ref (u 16), .ref (u 17), .int lm, .ref (u 18), .int (nI e.2.2.length), .int ta, .int co, .int si])) hw220 (hw220.ne hw222 (by simp))
    rw [← ew225] at hw232
    have hw233 := gUp_ne (e' := .inr (6, [.ref (u 0), .ref (u 1), .ref (u 2), .ref (u 3), .int oc, .int om, .ref (u 4), .ref (u 5), .ref (u 6), .ref (u 7), .ref (u 8), .int df, .ref (u 9), .ref (u 10), .ref (u 11), .ref (u 12), .ref (u 13), .ref (u 14), .ref (u 15), .int (nI K.length), .int (nI (siz K + e.2.2.length)), .ref (u 16), .ref (u 17), .int lm, .ref (u 18), .int (nI e.2.2.length), .int ta, .int co, .int si])) hw221 (hw221.ne hw222 (by simp))
    rw [← ew225] at hw233
    have hw234 := gUp_self (e' := .inr (6, [.ref (u 0), .ref (u 1), .ref (u 2), .ref (u 3), .int oc, .int om, .ref (u 4), .ref (u 5), .ref (u 6), .ref (u 7), .ref (u 8), .int df, .ref (u 9), .ref (u 10), .ref (u 11), .ref (u 12), .ref (u 13), .ref (u 14), .ref (u 15), .int (nI K.length), .int (nI (siz K + e.2.2.length)), .ref (u 16), .ref (u 17), .int lm, .ref (u 18), .int (nI e.2.2.length), .int ta, .int co, .int si])) hw222
    rw [← ew225] at hw234
    have kpw235 := kpw223.up (a := (u 19)) (e := .inr (6, [.ref (u 0), .ref (u 1), .ref (u 2), .ref (u 3), .int oc, .int om, .ref (u 4), .ref (u 5), .ref (u 6), .ref (u 7), .ref (u 8), .int df, .ref (u 9), .ref (u 10), .ref (u 11), .ref (u 12), .ref (u 13), .ref (u 14), .ref (u 15), .int (nI K.length), .int (nI (siz K + e.2.2.length)), .ref (u 16), .ref (u 17), .int lm, .ref (u 18), .int (nI e.2.2.length), .int ta, .int co, .int si])) (by simp)
    rw [← ew225] at kpw235
    refine j_aload_n O 0 dM_back_31 rfl rfl ?_
    refine j_get O uwM hw234 rfl 17 (by decide) w464 rfl rfl dM_back_32 ?_
    refine j_aload_n O 0 dM_back_35 rfl rfl ?_
    refine j_get O uwM hw234 rfl 13 (by decide) w460 rfl rfl dM_back_36 ?_
    refine j_aload_n O 0 dM_back_39 rfl rfl ?_
    refine j_get O uwM hw234 rfl 19 (by decide) w466 rfl rfl dM_back_40 ?_
    refine j_iald O hw228 0 rfl (by omega) (by omega) dM_back_43 ?_
    refine j_eqi (nI (siz K)) b2 ?_
    refine j_aload_n O 0 dM_back_44 rfl rfl ?_
    refine j_get O uwM hw234 rfl 24 (by decide) w471 rfl rfl dM_back_45 ?_
    refine j_iconst O (v := 0) dM_back_48 (by decide) ?_
    refine j_aload_n O 0 dM_back_49 rfl rfl ?_
    refine j_get O uwM hw234 rfl 25 (by decide) w472 rfl rfl dM_back_50 ?_
    refine j_copyl O w444 w446 w445 w30 hw232 hw226 3 3 rfl rfl (i := (siz K)) (j := 0) (m := e.2.2.length) (by omega) (by omega) (by decide) (by decide) hrm.1 (by show _ + (_ + 11) ≤ _; exact Nat.le_trans (Nat.le_of_ble_eq_true rfl) hrm.2) dM_back_53 (fun gw236 ew237 => ?_)
    have hw238 := gUp_ne (e' := .inl (t 3, 2100, .inr (.inl (va_cpy fp fm (siz K) 0 e.2.2.length)))) hw234 (hw234.ne hw226 (by simp))
    rw [← ew237] at hw238
    have hw239 := gUp_ne (e' := .inl (t 3, 2100, .inr (.inl (va_cpy fp fm (siz K) 0 e.2.2.length)))) hw227 (hw227.ne hw226 (by simp))
    rw [← ew237] at hw239
    have hw240 := gUp_ne (e' := .inl (t 3, 2100, .inr (.inl (va_cpy fp fm (siz K) 0 e.2.2.length)))) hw228 (hw228.ne hw226 (by simp))
    rw [← ew237] at hw240
    have hw241 := gUp_ne (e' := .inl (t 3, 2100, .inr (.inl (va_cpy fp fm (siz K) 0 e.2.2.length)))) hw229 (hw229.ne hw226 (by simp))
    rw [← ew237] at hw241
    have hw242 := gUp_ne (e' := .inl (t 3, 2100, .inr (.inl (va_cpy fp fm (siz K) 0 e.2.2.length)))) hw230 (hw230.ne hw226 (by simp))
    rw [← ew237] at hw242
    have hw243 := gUp_ne (e' := .inl (t 3, 2100, .inr (.inl (va_cpy fp fm (siz K) 0 e.2.2.length)))) hw231 (hw231.ne hw226 (by simp))
    rw [← ew237] at hw243
    have hw244 := gUp_ne (e' := .inl (t 3, 2100, .inr (.inl (va_cpy fp fm (siz K) 0 e.2.2.length)))) hw232 (hw232.ne hw226 (by simp))
    rw [← ew237] at hw244
    have hw245 := gUp_ne (e' := .inl (t 3, 2100, .inr (.inl (va_cpy fp fm (siz K) 0 e.2.2.length)))) hw233 (hw233.ne hw226 (by simp))
    rw [← ew237] at hw245
    have hw246 := gUp_self (e' := .inl (t 3, 2100, .inr (.inl (va_cpy fp fm (siz K) 0 e.2.2.length)))) hw226
    rw [← ew237] at hw246
    have kpw247 := kpw235.up (a := (u 18)) (e := .inl (t 3, 2100, .inr (.inl (va_cpy fp fm (siz K) 0 e.2.2.length)))) (by simp)
    rw [← ew237] at kpw247
    refine j_aload_n O 0 dM_back_56 rfl rfl ?_
    refine j_get O uwM hw238 rfl 18 (by decide) w465 rfl rfl dM_back_57 ?_
    refine j_aload_n O 0 dM_back_60 rfl rfl ?_
    refine j_aload_n O 0 dM_back_61 rfl rfl ?_
    refine j_get O uwM hw238 rfl 12 (by decide) w459 rfl rfl dM_back_62 ?_
    refine j_aload_n O 0 dM_back_65 rfl rfl ?_
    refine j_get O uwM hw238 rfl 19 (by decide) w466 rfl rfl dM_back_66 ?_
    refine j_iald O hw239 0 rfl (by omega) (by omega) dM_back_69 ?_
    refine j_eqi (nI e.1) b1 ?_
    refine j_aload_n O 0 dM_back_70 rfl rfl ?_
    refine j_get O uwM hw238 rfl 15 (by decide) w462 rfl rfl dM_back_71 ?_
    refine j_aload_n O 0 dM_back_74 rfl rfl ?_
    refine j_get O uwM hw238 rfl 19 (by decide) w466 rfl rfl dM_back_75 ?_
    refine j_iald O hw242 0 rfl (by omega) (by omega) dM_back_78 ?_
    refine j_eqi (nI e.2.1) b4 ?_
    have ehs : hsh (nI e.1) (nI e.2.1) (va_cpy fp fm (siz K) 0 e.2.2.length) e.2.2.length = nI (hsN e) := by
      rw [← hsN_nI]
      exact hsh_congr (fun k hk => by rw [cpy_from hk, b6 k hk]; simp [List.getD, hk])
    refine j_callV O [.int (nI e.1), .int (nI e.2.1)] (c_M_hash X.2.1 D t A gw236 u oc om df (nI K.length) (nI (siz K + e.2.2.length)) lm ta co si e.2.2.length (nI e.1) (nI e.2.1) (va_cpy fp fm (siz K) 0 e.2.2.length) hw238 hw246 e3) hw238 rfl w436 w437 w13 w28 w438 2 rfl rfl rfl (by decide +kernel) ⟨hrm.1, by show 8 + (6 + 11) + 0 ≤ _; omega⟩ rfl (Nat.le_of_ble_eq_true rfl) dM_back_79 ⟨Nat.zero_le _, Nat.zero_le _⟩ (fun vw248 gw249 hpw250 => ?_)
    obtain ⟨rfl, hgw251⟩ := hpw250
    have hgw251 := hgw251.symm
    subst hgw251
    refine j_eqi (nI (hsN e)) ehs ?_
    refine j_aload_n O 0 dM_back_82 rfl rfl ?_
    refine j_get O uwM hw238 rfl 16 (by decide) w463 rfl rfl dM_back_83 ?_
    refine j_aload_n O 0 dM_back_86 rfl rfl ?_
    refine j_get O uwM hw238 rfl 19 (by decide) w466 rfl rfl dM_back_87 ?_
    refine j_iald O hw243 0 rfl (by omega) (by omega) dM_back_90 ?_
    refine j_iconst O (v := 1) dM_back_91 (by decide) ?_
    refine j_iadd O dM_back_92 ?_
    refine j_iast O hw245 0 rfl hbl (by decide) dM_back_93 (fun gw252 ew253 => ?_)
    have hw254 := gUp_ne (e' := .inl (t 0, 4096, .inl (upd fB (hsN e) ((fc K.length) + 1)))) hw238 (hw238.ne hw245 (by simp))
    rw [← ew253] at hw254
    have hw255 := gUp_ne (e' := .inl (t 0, 4096, .inl (upd fB (hsN e) ((fc K.length) + 1)))) hw246 (hw246.ne hw245 (by simp))
    rw [← ew253] at hw255
    have hw256 := gUp_ne (e' := .inl (t 0, 4096, .inl (upd fB (hsN e) ((fc K.length) + 1)))) hw239 (hw239.ne hw245 (by simp))
    rw [← ew253] at hw256
    have hw257 := gUp_ne (e' := .inl (t 0, 4096, .inl (upd fB (hsN e) ((fc K.length) + 1)))) hw240 (hw240.ne hw245 (by simp))
    rw [← ew253] at hw257
    have hw258 := gUp_ne (e' := .inl (t 0, 4096, .inl (upd fB (hsN e) ((fc K.length) + 1)))) hw241 (hw241.ne hw245 (by simp))
    rw [← ew253] at hw258
    have hw259 := gUp_ne (e' := .inl (t 0, 4096, .inl (upd fB (hsN e) ((fc K.length) + 1)))) hw242 (hw242.ne hw245 (by simp))
    rw [← ew253] at hw259
    have hw260 := gUp_ne (e' := .inl (t 0, 4096, .inl (upd fB (hsN e) ((fc K.length) + 1)))) hw243 (hw243.ne hw245 (by simp))
    rw [← ew253] at hw260
    have hw261 := gUp_ne (e' := .inl (t 0, 4096, .inl (upd fB (hsN e) ((fc K.length) + 1)))) hw244 (hw244.ne hw245 (by simp))
    rw [← ew253] at hw261
    have hw262 := gUp_self (e' := .inl (t 0, 4096, .inl (upd fB (hsN e) ((fc K.length) + 1)))) hw245
    rw [← ew253] at hw262
    have kpw263 := kpw247.up (a := (u 15)) (e := .inl (t 0, 4096, .inl (upd fB (hsN e) ((fc K.length) + 1)))) (by simp)
    rw [← ew253] at kpw263
    refine j_aload_n O 0 dM_back_94 rfl rfl ?_
    refine j_aload_n O 0 dM_back_95 rfl rfl ?_
    refine j_get O uwM hw254 rfl 13 (by decide) w460 rfl rfl dM_back_96 ?_
    refine j_aload_n O 0 dM_back_99 rfl rfl ?_
    refine j_get O uwM hw254 rfl 19 (by decide) w466 rfl rfl dM_back_100 ?_
    refine j_iald O hw257 0 rfl (by omega) (by omega) dM_back_103 ?_
    refine j_eqi (nI (siz K)) b2 ?_
    refine j_put O uwM hw254 rfl 20 (by decide) w467 rfl tM ftM fnM rfl (.int) (by decide +kernel) rfl rfl (Nat.le_of_ble_eq_true rfl) [.ref (u 0), .ref (u 1), .ref (u 2), .ref (u 3), .int oc, .int om, .ref (u 4), .ref (u 5), .ref (u 6), .ref (u 7), .ref (u 8), .int df, .ref (u 9), .ref (u 10), .ref (u 11), .ref (u 12), .ref (u 13), .ref (u 14), .ref (u 15), .int (nI K.length), .int (nI (siz K)), .ref (u 16), .ref (u 17), .int lm, .ref (u 18), .int (nI e.2.2.length), .int ta, .int co, .int si] rfl dM_back_104 (fun gw264 ew265 => ?_)
    have hw266 := gUp_ne (e' := .inr (6, [.ref (u 0), .ref (u 1), .ref (u 2), .ref (u 3), .int oc, .int om, .ref (u 4), .ref (u 5), .ref (u 6), .ref (u 7), .ref (u 8), .int df, .ref (u 9), .ref (u 10), .ref (u 11), .ref (u 12), .ref (u 13), .ref (u 14), .ref (u 15), .int (nI K.length), .int (nI (siz K)), .ref (u 16), .ref (u 17), .int lm, .ref (u 18), .int (nI e.2.2.length), .int ta, .int co, .int si])) hw255 (hw255.ne hw254 (by simp))
    rw [← ew265] at hw266
    have hw267 := gUp_ne (e' := .inr (6, [.ref (u 0), .ref (u 1), .ref (u 2), .ref (u 3), .int oc, .int om, .ref (u 4), .ref (u 5), .ref (u 6), .ref (u 7), .ref (u 8), .int df, .ref (u 9), .ref (u 10), .ref (u 11), .ref (u 12), .ref (u 13), .ref (u 14), .ref (u 15), .int (nI K.length), .int (nI (siz K)), .ref (u 16), .ref (u 17), .int lm, .ref (u 18), .int (nI e.2.2.length), .int ta, .int co, .int si])) hw256 (hw256.ne hw254 (by simp))
    rw [← ew265] at hw267
    have hw268 := gUp_ne (e' := .inr (6, [.ref (u 0), .ref (u 1), .ref (u 2), .ref (u 3), .int oc, .int om, .ref (u 4), .ref (u 5), .ref (u 6), .ref (u 7), .ref (u 8), .int df, .ref (u 9), .ref (u 10), .ref (u 11), .ref (u 12), .ref (u 13), .ref (u 14), .ref (u 15), .int (nI K.length), .int (nI (siz K)), .ref (u 16), .ref (u 17), .int lm, .ref (u 18), .int (nI e.2.2.length), .int ta, .int co, .int si])) hw257 (hw257.ne hw254 (by simp))
    rw [← ew265] at hw268
    have hw269 := gUp_ne (e' := .inr (6, [.ref (u 0), .ref (u 1), .ref (u 2), .ref (u 3), .int oc, .int om, .ref (u 4), .ref (u 5), .ref (u 6), .ref (u 7), .ref (u 8), .int df, .ref (u 9), .ref (u 10), .ref (u 11), .ref (u 12), .ref (u 13), .ref (u 14), .ref (u 15), .int (nI K.length), .int (nI (siz K)), .ref (u 16), .ref (u 17), .int lm, .ref (u 18), .int (nI e.2.2.length), .int ta, .int co, .int si])) hw258 (hw258.ne hw254 (by simp))
    rw [← ew265] at hw269
    have hw270 := gUp_ne (e' := .inr (6, [.ref (u 0), .ref (u 1), .ref (u 2), .ref (u 3), .int oc, .int om, .ref (u 4), .ref (u 5), .ref (u 6), .ref (u 7), .ref (u 8), .int df, .ref (u 9), .ref (u 10), .ref (u 11), .ref (u 12), .ref (u 13), .ref (u 14), .ref (u 15), .int (nI K.length), .int (nI (siz K)), .ref (u 16), .ref (u 17), .int lm, .ref (u 18), .int (nI e.2.2.length), .int ta, .int co, .int si])) hw259 (hw259.ne hw254 (by simp))
    rw [← ew265] at hw270
    have hw271 := gUp_ne (e' := .inr (6, [.ref (u 0), .ref (u 1), .ref (u 2), .ref (u 3), .int oc, .int om, .ref (u 4), .ref (u 5), .ref (u 6), .ref (u 7), .ref (u 8), .int df, .ref (u 9), .ref (u 10), .ref (u 11), .ref (u 12), .ref (u 13), .ref (u 14), .ref (u 15), .int (nI K.length), .int (nI (siz K)), .ref (u 16), .ref (u 17), .int lm, .ref (u 18), .int (nI e.2.2.length), .int ta, .int co, .int si])) hw260 (hw260.ne hw254 (by simp))
    rw [← ew265] at hw271
    have hw272 := gUp_ne (e' := .inr (6, [.ref (u 0), .ref (u 1), .ref (u 2), .ref (u 3), .int oc, .int om, .ref (u 4), .ref (u 5), .ref (u 6), .ref (u 7), .ref (u 8), .int df, .ref (u 9), .ref (u 10), .ref (u 11), .ref (u 12), .ref (u 13), .ref (u 14), .ref (u 15), .int (nI K.length), .int (nI (siz K)), .ref (u 16), .ref (u 17), .int lm, .ref (u 18), .int (nI e.2.2.length), .int ta, .int co, .int si])) hw261 (hw261.ne hw254 (by simp))
    rw [← ew265] at hw272
    have hw273 := gUp_ne (e' := .inr (6, [.ref (u 0), .ref (u 1), .ref (u 2), .ref (u 3), .int oc, .int om, .ref (u 4), .ref (u 5), .ref (u 6), .ref (u 7), .ref (u 8), .int df, .ref (u 9), .ref (u 10), .ref (u 11), .ref (u 12), .ref (u 13), .ref (u 14), .ref (u 15), .int (nI K.length), .int (nI (siz K)), .ref (u 16), .ref (u 17), .int lm, .ref (u 18), .int (nI e.2.2.length), .int ta, .int co, .int si])) hw262 (hw262.ne hw254 (by simp))
    rw [← ew265] at hw273
    have hw274 := gUp_self (e' := .inr (6, [.ref (u 0), .ref (u 1), .ref (u 2), .ref (u 3), .int oc, .int om, .ref (u 4), .ref (u 5), .ref (u 6), .ref (u 7), .ref (u 8), .int df, .ref (u 9), .ref (u 10), .ref (u 11), .ref (u 12), .ref (u 13), .ref (u 14), .ref (u 15), .int (nI K.length), .int (nI (siz K)), .ref (u 16), .ref (u 17), .int lm, .ref (u 18), .int (nI e.2.2.length), .int ta, .int co, .int si])) hw254
    rw [← ew265] at hw274
    have kpw275 := kpw263.up (a := (u 19)) (e := .inr (6, [.ref (u 0), .ref (u 1), .ref (u 2), .ref (u 3), .int oc, .int om, .ref (u 4), .ref (u 5), .ref (u 6), .ref (u 7), .ref (u 8), .int df, .ref (u 9), .ref (u 10), .ref (u 11), .ref (u 12), .ref (u 13), .ref (u 14), .ref (u 15), .int (nI K.length), .int (nI (siz K)), .ref (u 16), .ref (u 17), .int lm, .ref (u 18), .int (nI e.2.2.length), .int ta, .int co, .int si])) (by simp)
    rw [← ew265] at kpw275
    refine j_goto O 0 dM_back_107 (by decide) ?_
    refine J.pk [0, 1] rfl ?_
    have hR2 : RS t gw264 u K := ⟨⟨_, _, _, _, _, _, _, hw267, hw268, hw269, hw270, hw271, hw272, hw273, a8.cut⟩, by omega, by omega, fun x hx => hok x (List.mem_append_left _ hx)⟩
    exact ih K gw264 _ _ (by omega) (by rw [← ht]; exact (List.take_append_of_le_length (by omega)).symm) hw274 hw266 hR2 kpw275
set_option maxRecDepth 100000 in
set_option maxHeartbeats 1000000 in
theorem c_M_back (l : Launch) (D : va_G) (t : Nat → ClassId) (A : Nat → Prop) (g : GH) (u : Nat → Nat) (oc om df lm mm ta co si : Int32) (Ls Tk : List ME) (to : Nat) (fm : Nat → Int64) (hM : gAt g (u 19) (eM u oc om df (nI Ls.length) (nI (siz Ls)) lm mm ta co si)) (hm : gAt g (u 18) (eL t 2100 fm)) (hR : RS t g u Ls) (hto : to ≤ Ls.length) (htk : Ls.take to = Tk) (hne : ∀ i j, i < 32 → j < 32 → i ≠ j → u i ≠ u j) : Ct l yM_back sM_back { frames := 1, cells := 0, slots := 0, locals := 100 } (zz D t A) [.ref (u 19), .int (nI to)] g 0 0 (fun v g' => v = none ∧ RS t g' u Tk ∧ (∃ mm', gAt g' (u 19) (eM u oc om df (nI to) (nI (siz Tk)) lm mm' ta co si)) ∧ (∃ fm', gAt g' (u 18) (eL t 2100 fm')) ∧ Kp [u 9, u 10, u 11, u 12, u 13, u 14, u 15, u 19, u 18] g g') := by
  refine Ct.of (cc := bM_back) (maxL := 2) (ret := none) (by decide) (Nat.le_of_ble_eq_true rfl) (fun X hlX O M hNn => ?_)
  show J X 2 (zz D t A) g 0 0 0 [(0, .ref (u 19)), (1, .int (nI to))] []
  exact back_loop O M hne ⟨(Nat.le_of_ble_eq_true rfl), (Nat.le_of_ble_eq_true rfl)⟩ (Ls.length - to) Ls g mm fm (by omega) htk hM hm hR Kp.rf
