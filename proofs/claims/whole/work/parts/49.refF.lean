theorem cpy_in {α : Type} {f g : Nat → α} {m k : Nat} (h : k < m) : va_cpy f g 0 0 m k = f k := by
  unfold va_cpy
  rw [if_pos ⟨Nat.zero_le _, by omega⟩]
  congr 1
  omega
/-- what the first rows of a table's arrays hold, copied -/
theorem tabOK.cpy {fk fk' : Nat → Int32} {fc fc' : Nat → Int64} {w : Nat} {rs : List RV} (h : tabOK fk fc w rs) (hw : w ≤ 6) : tabOK (va_cpy fk fk' 0 0 rs.length) (va_cpy fc fc' 0 0 (6 * rs.length)) w rs := by
  intro r hr
  refine ⟨by rw [cpy_in hr]; exact (h r hr).1, fun c hc => ?_⟩
  rw [cpy_in (by omega)]
  exact (h r hr).2 c hc
set_option maxRecDepth 100000 in
set_option maxHeartbeats 1000000 in
theorem c_M_remember (l : Launch) (D : va_G) (t : Nat → ClassId) (A : Nat → Prop) (g : GH) (u : Nat → Nat) (oc om df nn us lm mm ta co si : Int32) (tb : TB) (i : Nat) (fo : Nat → Int32) (fp : Nat → Int64) (hM : gAt g (u 19) (eM u oc om df nn us lm mm ta co si)) (hRT : RT t g u tb) (i6 : i < 6) (htk : tOK (tb i)) (ho : gAt g (u 4) (eI t 301 fo)) (hp : gAt g (u 5) (eL t 1806 fp)) (hne : ∀ i j, i < 32 → j < 32 → i ≠ j → u i ≠ u j) : Ct l yM_remember sM_remember { frames := 1, cells := 0, slots := 0, locals := 60 } (zz D t A) [.ref (u 19), .int (nI i)] g 0 0 (fun v g' => v = none ∧ gAt g' (u 19) (eM u (nI (tb i).1) (nI (tb i).2.length) df nn us lm mm ta co si) ∧ (∃ fo' fp', gAt g' (u 4) (eI t 301 fo') ∧ gAt g' (u 5) (eL t 1806 fp') ∧ tabOK fo' fp' (tb i).1 (tb i).2) ∧ Kp [u 19, u 4, u 5] g g') := by
  refine Ct.of (cc := bM_remember) (maxL := 2) (ret := none) (by decide) (Nat.le_of_ble_eq_true rfl) (fun X hlX O M hNn => ?_)
  show J X 2 (zz D t A) g 0 0 0 [(0, .ref (u 19)), (1, .int (nI i))] []
  obtain ⟨⟨fC, hC, hCv⟩, ⟨fN, hNn0, hNv⟩, ⟨fK, hK, hKv⟩, ⟨fL, hL, hLv⟩, hrow⟩ := id hRT
  obtain ⟨fk, fc, hk, hc, htab⟩ := hrow i i6
  obtain ⟨t1, t2, t3, t4, t5⟩ := htk
  have hNi := hNv i i6
  have hCi := hCv i i6
  have hKi := hKv i i6
  have hLi := hLv i i6
  have kp0 : Kp [u 19, u 4, u 5] g g := Kp.rf
  refine j_aload_n O 0 dM_remember_0 rfl rfl ?_
  refine j_aload_n O 0 dM_remember_1 rfl rfl ?_
  refine j_get O uwM hM rfl 0 (by decide) w447 rfl rfl dM_remember_2 ?_
  refine j_iload_n O 1 dM_remember_5 rfl rfl ?_
  refine j_iald O hC 0 rfl (by omega) (by omega) dM_remember_6 ?_
  refine j_eqi (nI (tb i).1) hCi ?_
  refine j_put O uwM hM rfl 4 (by decide) w451 rfl tM ftM fnM rfl (.int) (by decide +kernel) rfl rfl (Nat.le_of_ble_eq_true rfl) [.ref (u 0), .ref (u 1), .ref (u 2), .ref (u 3), .int (nI (tb i).1), .int om, .ref (u 4), .ref (u 5), .ref (u 6), .ref (u 7), .ref (u 8), .int df, .ref (u 9), .ref (u 10), .ref (u 11), .ref (u 12), .ref (u 13), .ref (u 14), .ref (u 15), .int nn, .int us, .ref (u 16), .ref (u 17), .int lm, .ref (u 18), .int mm, .int ta, .int co, .int si] rfl dM_remember_7 (fun gw49 ew50 => ?_)
  have hw51 := gUp_ne (e' := .inr (6, [.ref (u 0), .ref (u 1), .ref (u 2), .ref (u 3), .int (nI (tb i).1), .int om, .ref (u 4), .ref (u 5), .ref (u 6), .ref (u 7), .ref (u 8), .int df, .ref (u 9), .ref (u 10), .ref (u 11), .ref (u 12), .ref (u 13), .ref (u 14), .ref (u 15), .int nn, .int us, .ref (u 16), .ref (u 17), .int lm, .ref (u 18), .int mm, .int ta, .int co, .int si])) hC (hC.ne hM (by simp))
  rw [← ew50] at hw51
  have hw52 := gUp_ne (e' := .inr (6, [.ref (u 0), .ref (u 1), .ref (u 2), .ref (u 3), .int (nI (tb i).1), .int om, .ref (u 4), .ref (u 5), .ref (u 6), .ref (u 7), .ref (u 8), .int df, .ref (u 9), .ref (u 10), .ref (u 11), .ref (u 12), .ref (u 13), .ref (u 14), .ref (u 15), .int nn, .int us, .ref (u 16), .ref (u 17), .int lm, .ref (u 18), .int mm, .int ta, .int co, .int si])) hNn0 (hNn0.ne hM (by simp))
  rw [← ew50] at hw52
  have hw53 := gUp_ne (e' := .inr (6, [.ref (u 0), .ref (u 1), .ref (u 2), .ref (u 3), .int (nI (tb i).1), .int om, .ref (u 4), .ref (u 5), .ref (u 6), .ref (u 7), .ref (u 8), .int df, .ref (u 9), .ref (u 10), .ref (u 11), .ref (u 12), .ref (u 13), .ref (u 14), .ref (u 15), .int nn, .int us, .ref (u 16), .ref (u 17), .int lm, .ref (u 18), .int mm, .int ta, .int co, .int si])) hK (hK.ne hM (by simp))
  rw [← ew50] at hw53
  have hw54 := gUp_ne (e' := .inr (6, [.ref (u 0), .ref (u 1), .ref (u 2), .ref (u 3), .int (nI (tb i).1), .int om, .ref (u 4), .ref (u 5), .ref (u 6), .ref (u 7), .ref (u 8), .int df, .ref (u 9), .ref (u 10), .ref (u 11), .ref (u 12), .ref (u 13), .ref (u 14), .ref (u 15), .int nn, .int us, .ref (u 16), .ref (u 17), .int lm, .ref (u 18), .int mm, .int ta, .int co, .int si])) hL (hL.ne hM (by simp))
  rw [← ew50] at hw54
  have hw55 := gUp_ne (e' := .inr (6, [.ref (u 0), .ref (u 1), .ref (u 2), .ref (u 3), .int (nI (tb i).1), .int om, .ref (u 4), .ref (u 5), .ref (u 6), .ref (u 7), .ref (u 8), .int df, .ref (u 9), .ref (u 10), .ref (u 11), .ref (u 12), .ref (u 13), .ref (u 14), .ref (u 15), .int nn, .int us, .ref (u 16), .ref (u 17), .int lm, .ref (u 18), .int mm, .int ta, .int co, .int si])) hk (hk.ne hM (by simp))
  rw [← ew50] at hw55
  have hw56 := gUp_ne (e' := .inr (6, [.ref (u 0), .ref (u 1), .ref (u 2), .ref (u 3), .int (nI (tb i).1), .int om, .ref (u 4), .ref (u 5), .ref (u 6), .ref (u 7), .ref (u 8), .int df, .ref (u 9), .ref (u 10), .ref (u 11), .ref (u 12), .ref (u 13), .ref (u 14), .ref (u 15), .int nn, .int us, .ref (u 16), .ref (u 17), .int lm, .ref (u 18), .int mm, .int ta, .int co, .int si])) hc (hc.ne hM (by simp))
  rw [← ew50] at hw56
  have hw57 := gUp_ne (e' := .inr (6, [.ref (u 0), .ref (u 1), .ref (u 2), .ref (u 3), .int (nI (tb i).1), .int om, .ref (u 4), .ref (u 5), .ref (u 6), .ref (u 7), .ref (u 8), .int df, .ref (u 9), .ref (u 10), .ref (u 11), .ref (u 12), .ref (u 13), .ref (u 14), .ref (u 15), .int nn, .int us, .ref (u 16), .ref (u 17), .int lm, .ref (u 18), .int mm, .int ta, .int co, .int si])) ho (ho.ne hM (by simp))
  rw [← ew50] at hw57
  have hw58 := gUp_ne (e' := .inr (6, [.ref (u 0), .ref (u 1), .ref (u 2), .ref (u 3), .int (nI (tb i).1), .int om, .ref (u 4), .ref (u 5), .ref (u 6), .ref (u 7), .ref (u 8), .int df, .ref (u 9), .ref (u 10), .ref (u 11), .ref (u 12), .ref (u 13), .ref (u 14), .ref (u 15), .int nn, .int us, .ref (u 16), .ref (u 17), .int lm, .ref (u 18), .int mm, .int ta, .int co, .int si])) hp (hp.ne hM (by simp))
  rw [← ew50] at hw58
  have hw59 := gUp_self (e' := .inr (6, [.ref (u 0), .ref (u 1), .ref (u 2), .ref (u 3), .int (nI (tb i).1), .int om, .ref (u 4), .ref (u 5), .ref (u 6), .ref (u 7), .ref (u 8), .int df, .ref (u 9), .ref (u 10), .ref (u 11), .ref (u 12), .ref (u 13), .ref (u 14), .ref (u 15), .int nn, .int us, .ref (u 16), .ref (u 17), .int lm, .ref (u 18), .int mm, .int ta, .int co, .int si])) hM
  rw [← ew50] at hw59
  have kpw60 := kp0.up (a := (u 19)) (e := .inr (6, [.ref (u 0), .ref (u 1), .ref (u 2), .ref (u 3), .int (nI (tb i).1), .int om, .ref (u 4), .ref (u 5), .ref (u 6), .ref (u 7), .ref (u 8), .int df, .ref (u 9), .ref (u 10), .ref (u 11), .ref (u 12), .ref (u 13), .ref (u 14), .ref (u 15), .int nn, .int us, .ref (u 16), .ref (u 17), .int lm, .ref (u 18), .int mm, .int ta, .int co, .int si])) (by simp)
  rw [← ew50] at kpw60
  refine j_aload_n O 0 dM_remember_10 rfl rfl ?_
  refine j_aload_n O 0 dM_remember_11 rfl rfl ?_
  refine j_get O uwM hw59 rfl 1 (by decide) w448 rfl rfl dM_remember_12 ?_
  refine j_iload_n O 1 dM_remember_15 rfl rfl ?_
  refine j_iald O hw52 0 rfl (by omega) (by omega) dM_remember_16 ?_
  refine j_eqi (nI (tb i).2.length) hNi ?_
  refine j_put O uwM hw59 rfl 5 (by decide) w452 rfl tM ftM fnM rfl (.int) (by decide +kernel) rfl rfl (Nat.le_of_ble_eq_true rfl) [.ref (u 0), .ref (u 1), .ref (u 2), .ref (u 3), .int (nI (tb i).1), .int (nI (tb i).2.length), .ref (u 4), .ref (u 5), .ref (u 6), .ref (u 7), .ref (u 8), .int df, .ref (u 9), .ref (u 10), .ref (u 11), .ref (u 12), .ref (u 13), .ref (u 14), .ref (u 15), .int nn, .int us, .ref (u 16), .ref (u 17), .int lm, .ref (u 18), .int mm, .int ta, .int co, .int si] rfl dM_remember_17 (fun gw61 ew62 => ?_)
  have hw63 := gUp_ne (e' := .inr (6, [.ref (u 0), .ref (u 1), .ref (u 2), .ref (u 3), .int (nI (tb i).1), .int (nI (tb i).2.length), .ref (u 4), .ref (u 5), .ref (u 6), .ref (u 7), .ref (u 8), .int df, .ref (u 9), .ref (u 10), .ref (u 11), .ref (u 12), .ref (u 13), .ref (u 14), .ref (u 15), .int nn, .int us, .ref (u 16), .ref (u 17), .int lm, .ref (u 18), .int mm, .int ta, .int co, .int si])) hw51 (hw51.ne hw59 (by simp))
  rw [← ew62] at hw63
  have hw64 := gUp_ne (e' := .inr (6, [.ref (u 0), .ref (u 1), .ref (u 2), .ref (u 3), .int (nI (tb i).1), .int (nI (tb i).2.length), .ref (u 4), .ref (u 5), .ref (u 6), .ref (u 7), .ref (u 8), .int df, .ref (u 9), .ref (u 10), .ref (u 11), .ref (u 12), .ref (u 13), .ref (u 14), .ref (u 15), .int nn, .int us, .ref (u 16), .ref (u 17), .int lm, .ref (u 18), .int mm, .int ta, .int co, .int si])) hw52 (hw52.ne hw59 (by simp))
  rw [← ew62] at hw64
  have hw65 := gUp_ne (e' := .inr (6, [.ref (u 0), .ref (u 1), .ref (u 2), .ref (u 3), .int (nI (tb i).1), .int (nI (tb i).2.length), .ref (u 4), .ref (u 5), .ref (u 6), .ref (u 7), .ref (u 8), .int df, .ref (u 9), .ref (u 10), .ref (u 11), .ref (u 12), .ref (u 13), .ref (u 14), .ref (u 15), .int nn, .int us, .ref (u 16), .ref (u 17), .int lm, .ref (u 18), .int mm, .int ta, .int co, .int si])) hw53 (hw53.ne hw59 (by simp))
  rw [← ew62] at hw65
  have hw66 := gUp_ne (e' := .inr (6, [.ref (u 0), .ref (u 1), .ref (u 2), .ref (u 3), .int (nI (tb i).1), .int (nI (tb i).2.length), .ref (u 4), .ref (u 5), .ref (u 6), .ref (u 7), .ref (u 8), .int df, .ref (u 9), .ref (u 10), .ref (u 11), .ref (u 12), .ref (u 13), .ref (u 14), .ref (u 15), .int nn, .int us, .ref (u 16), .ref (u 17), .int lm, .ref (u 18), .int mm, .int ta, .int co, .int si])) hw54 (hw54.ne hw59 (by simp))
  rw [← ew62] at hw66
  have hw67 := gUp_ne (e' := .inr (6, [.ref (u 0), .ref (u 1), .ref (u 2), .ref (u 3), .int (nI (tb i).1), .int (nI (tb i).2.length), .ref (u 4), .ref (u 5), .ref (u 6), .ref (u 7), .ref (u 8), .int df, .ref (u 9), .ref (u 10), .ref (u 11), .ref (u 12), .ref (u 13), .ref (u 14), .ref (u 15), .int nn, .int us, .ref (u 16), .ref (u 17), .int lm, .ref (u 18), .int mm, .int ta, .int co, .int si])) hw55 (hw55.ne hw59 (by simp))
  rw [← ew62] at hw67
  have hw68 := gUp_ne (e' := .inr (6, [.ref (u 0), .ref (u 1), .ref (u 2), .ref (u 3), .int (nI (tb i).1), .int (nI (tb i).2.length), .ref (u 4), .ref (u 5), .ref (u 6), .ref (u 7), .ref (u 8), .int df, .ref (u 9), .ref (u 10), .ref (u 11), .ref (u 12), .ref (u 13), .ref (u 14), .ref (u 15), .int nn, .int us, .ref (u 16), .ref (u 17), .int lm, .ref (u 18), .int mm, .int ta, .int co, .int si])) hw56 (hw56.ne hw59 (by simp))
  rw [← ew62] at hw68
  have hw69 := gUp_ne (e' := .inr (6, [.ref (u 0), .ref (u 1), .ref (u 2), .ref (u 3), .int (nI (tb i).1), .int (nI (tb i).2.length), .ref (u 4), .ref (u 5), .ref (u 6), .ref (u 7), .ref (u 8), .int df, .ref (u 9), .ref (u 10), .ref (u 11), .ref (u 12), .ref (u 13), .ref (u 14), .ref (u 15), .int nn, .int us, .ref (u 16), .ref (u 17), .int lm, .ref (u 18), .int mm, .int ta, .int co, .int si])) hw57 (hw57.ne hw59 (by simp))
  rw [← ew62] at hw69
  have hw70 := gUp_ne (e' := .inr (6, [.ref (u 0), .ref (u 1), .ref (u 2), .ref (u 3), .int (nI (tb i).1), .int (nI (tb i).2.length), .ref (u 4), .ref (u 5), .ref (u 6), .ref (u 7), .ref (u 8), .int df, .ref (u 9), .ref (u 10), .ref (u 11), .ref (u 12), .ref (u 13), .ref (u 14), .ref (u 15), .int nn, .int us, .ref (u 16), .ref (u 17), .int lm, .ref (u 18), .int mm, .int ta, .int co, .int si])) hw58 (hw58.ne hw59 (by simp))
  rw [← ew62] at hw70
  have hw71 := gUp_self (e' := .inr (6, [.ref (u 0), .ref (u 1), .ref (u 2), .ref (u 3), .int (nI (tb i).1), .int (nI (tb i).2.length), .ref (u 4), .ref (u 5), .ref (u 6), .ref (u 7), .ref (u 8), .int df, .ref (u 9), .ref (u 10), .ref (u 11), .ref (u 12), .ref (u 13), .ref (u 14), .ref (u 15), .int nn, .int us, .ref (u 16), .ref (u 17), .int lm, .ref (u 18), .int mm, .int ta, .int co, .int si])) hw59
  rw [← ew62] at hw71
  have kpw72 := kpw60.up (a := (u 19)) (e := .inr (6, [.ref (u 0), .ref (u 1), .ref (u 2), .ref (u 3), .int (nI (tb i).1), .int (nI (tb i).2.length), .ref (u 4), .ref (u 5), .ref (u 6), .ref (u 7), .ref (u 8), .int df, .ref (u 9), .ref (u 10), .ref (u 11), .ref (u 12), .ref (u 13), .ref (u 14), .ref (u 15), .int nn, .int us, .ref (u 16), .ref (u 17), .int lm, .ref (u 18), .int mm, .int ta, .int co, .int si])) (by simp)
  rw [← ew62] at kpw72
  refine j_aload_n O 0 dM_remember_20 rfl rfl ?_
  refine j_get O uwM hw71 rfl 2 (by decide) w449 rfl rfl dM_remember_21 ?_
  refine j_iload_n O 1 dM_remember_24 rfl rfl ?_
  refine j_aaldA O hw65 4 rfl (by omega) (by omega) dM_remember_25 ?_
  refine j_some (u (20 + i)) hKi ?_
  refine j_iconst O (v := 0) dM_remember_26 (by decide) ?_
  refine j_aload_n O 0 dM_remember_27 rfl rfl ?_
  refine j_get O uwM hw71 rfl 6 (by decide) w453 rfl rfl dM_remember_28 ?_
  refine j_iconst O (v := 0) dM_remember_31 (by decide) ?_
  refine j_aload_n O 0 dM_remember_32 rfl rfl ?_
  refine j_get O uwM hw71 rfl 1 (by decide) w448 rfl rfl dM_remember_33 ?_
  refine j_iload_n O 1 dM_remember_36 rfl rfl ?_
  refine j_iald O hw64 0 rfl (by omega) (by omega) dM_remember_37 ?_
  refine j_eqi (nI (tb i).2.length) hNi ?_
  refine j_copyi O w444 w446 w445 w30 hw67 hw69 0 0 rfl rfl (i := 0) (j := 0) (m := (tb i).2.length) (by omega) (by omega) (by decide) (by decide) (Nat.le_of_ble_eq_true rfl) (Nat.le_of_ble_eq_true rfl) dM_remember_38 (fun gw73 ew74 => ?_)
  have hw75 := gUp_ne (e' := .inl (t 0, 301, .inl (va_cpy fk fo 0 0 ((tb i).2.length)))) hw71 (hw71.ne hw69 (by simp))
  rw [← ew74] at hw75
  have hw76 := gUp_ne (e' := .inl (t 0, 301, .inl (va_cpy fk fo 0 0 ((tb i).2.length)))) hw63 (hw63.ne hw69 (by simp))
  rw [← ew74] at hw76
  have hw77 := gUp_ne (e' := .inl (t 0, 301, .inl (va_cpy fk fo 0 0 ((tb i).2.length)))) hw64 (hw64.ne hw69 (by simp))
  rw [← ew74] at hw77
  have hw78 := gUp_ne (e' := .inl (t 0, 301, .inl (va_cpy fk fo 0 0 ((tb i).2.length)))) hw65 (hw65.ne hw69 (by simp))
  rw [← ew74] at hw78
  have hw79 := gUp_ne (e' := .inl (t 0, 301, .inl (va_cpy fk fo 0 0 ((tb i).2.length)))) hw66 (hw66.ne hw69 (by simp))
  rw [← ew74] at hw79
  have hw80 := gUp_ne (e' := .inl (t 0, 301, .inl (va_cpy fk fo 0 0 ((tb i).2.length)))) hw67 (hne (20 + i) 4 (by omega) (by omega) (by omega))
  rw [← ew74] at hw80
  have hw81 := gUp_ne (e' := .inl (t 0, 301, .inl (va_cpy fk fo 0 0 ((tb i).2.length)))) hw68 (hw68.ne hw69 (by simp))
  rw [← ew74] at hw81
  have hw82 := gUp_ne (e' := .inl (t 0, 301, .inl (va_cpy fk fo 0 0 ((tb i).2.length)))) hw70 (hw70.ne hw69 (by simp))
  rw [← ew74] at hw82
  have hw83 := gUp_self (e' := .inl (t 0, 301, .inl (va_cpy fk fo 0 0 ((tb i).2.length)))) hw69
  rw [← ew74] at hw83
  have kpw84 := kpw72.up (a := (u 4)) (e := .inl (t 0, 301, .inl (va_cpy fk fo 0 0 ((tb i).2.length)))) (by simp)
  rw [← ew74] at kpw84
  refine j_aload_n O 0 dM_remember_41 rfl rfl ?_
  refine j_get O uwM hw75 rfl 3 (by decide) w450 rfl rfl dM_remember_42 ?_
  refine j_iload_n O 1 dM_remember_45 rfl rfl ?_
  refine j_aaldA O hw79 5 rfl (by omega) (by omega) dM_remember_46 ?_
  refine j_some (u (26 + i)) hLi ?_
  refine j_iconst O (v := 0) dM_remember_47 (by decide) ?_
  refine j_aload_n O 0 dM_remember_48 rfl rfl ?_
  refine j_get O uwM hw75 rfl 7 (by decide) w454 rfl rfl dM_remember_49 ?_
  refine j_iconst O (v := 0) dM_remember_52 (by decide) ?_
  refine j_bipush O (v := 6) dM_remember_53 (by decide) ?_
  refine j_aload_n O 0 dM_remember_55 rfl rfl ?_
  refine j_get O uwM hw75 rfl 1 (by decide) w448 rfl rfl dM_remember_56 ?_
  refine j_iload_n O 1 dM_remember_59 rfl rfl ?_
  refine j_iald O hw77 0 rfl (by omega) (by omega) dM_remember_60 ?_
  refine j_eqi (nI (tb i).2.length) hNi ?_
  refine j_imul O dM_remember_61 ?_
  refine j_eqi (nI (6 * (tb i).2.length)) (pk_mul 6 _) ?_
  refine j_copyl O w444 w446 w445 w30 hw81 hw82 3 3 rfl rfl (i := 0) (j := 0) (m := (6 * (tb i).2.length)) (by omega) (by omega) (by decide) (by decide) (Nat.le_of_ble_eq_true rfl) (Nat.le_of_ble_eq_true rfl) dM_remember_62 (fun gw85 ew86 => ?_)
  have hw87 := gUp_ne (e' := .inl (t 3, 1806, .inr (.inl (va_cpy fc fp 0 0 (6 * (tb i).2.length))))) hw75 (hw75.ne hw82 (by simp))
  rw [← ew86] at hw87
  have hw88 := gUp_ne (e' := .inl (t 3, 1806, .inr (.inl (va_cpy fc fp 0 0 (6 * (tb i).2.length))))) hw76 (hw76.ne hw82 (by simp))
  rw [← ew86] at hw88
  have hw89 := gUp_ne (e' := .inl (t 3, 1806, .inr (.inl (va_cpy fc fp 0 0 (6 * (tb i).2.length))))) hw77 (hw77.ne hw82 (by simp))
  rw [← ew86] at hw89
  have hw90 := gUp_ne (e' := .inl (t 3, 1806, .inr (.inl (va_cpy fc fp 0 0 (6 * (tb i).2.length))))) hw78 (hw78.ne hw82 (by simp))
  rw [← ew86] at hw90
  have hw91 := gUp_ne (e' := .inl (t 3, 1806, .inr (.inl (va_cpy fc fp 0 0 (6 * (tb i).2.length))))) hw79 (hw79.ne hw82 (by simp))
  rw [← ew86] at hw91
  have hw92 := gUp_ne (e' := .inl (t 3, 1806, .inr (.inl (va_cpy fc fp 0 0 (6 * (tb i).2.length))))) hw80 (hw80.ne hw82 (by simp))
  rw [← ew86] at hw92
  have hw93 := gUp_ne (e' := .inl (t 3, 1806, .inr (.inl (va_cpy fc fp 0 0 (6 * (tb i).2.length))))) hw81 (hne (26 + i) 5 (by omega) (by omega) (by omega))
  rw [← ew86] at hw93
  have hw94 := gUp_ne (e' := .inl (t 3, 1806, .inr (.inl (va_cpy fc fp 0 0 (6 * (tb i).2.length))))) hw83 (hw83.ne hw82 (by simp))
  rw [← ew86] at hw94
  have hw95 := gUp_self (e' := .inl (t 3, 1806, .inr (.inl (va_cpy fc fp 0 0 (6 * (tb i).2.length))))) hw82
  rw [← ew86] at hw95
  have kpw96 := kpw84.up (a := (u 5)) (e := .inl (t 3, 1806, .inr (.inl (va_cpy fc fp 0 0 (6 * (tb i).2.length))))) (by simp)
  rw [← ew86] at kpw96
  exact j_vret O M (Nat.le_of_ble_eq_true rfl) (Nat.le_of_ble_eq_true rfl) ⟨rfl, hw87, ⟨_, _, hw94, hw95, htab.cpy t2⟩, kpw96⟩ dM_remember_65
