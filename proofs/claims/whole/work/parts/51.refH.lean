set_option maxRecDepth 100000 in
set_option maxHeartbeats 1000000 in
theorem move_loop {X : CX} {D : va_G} {t : Nat → ClassId} {A : Nat → Prop} {rm : Room} {g : GH} {k0 n0 : Nat} {u : Nat → Nat} {oc om df nn us lm mm ta co si : Int32} {i fr to : Nat} {fL : Nat → Option Nat} {fc : Nat → Int64} (O : Ok X bM_move 5 "TwinTreesModel" (zz D t A) rm) (hM : gAt g (u 19) (eM u oc om df nn us lm mm ta co si)) (hL : gAt g (u 3) (eLL t 6 fL)) (hLi : fL i = some (u (26 + i))) (i6 : i < 6) (hfr : fr ≤ 300) (hto : to ≤ 300) (hft : fr ≠ to) (hc : gAt g (u (26 + i)) (eL t 1806 fc)) (HK : ∀ (g1 : GH) (f1 : Nat → Int64), gAt g1 (u (26 + i)) (eL t 1806 f1) → (∀ j, j < 6 → f1 (6 * to + j) = fc (6 * fr + j)) → (∀ k, (k < 6 * to ∨ 6 * to + 6 ≤ k) → f1 k = fc k) → Kp [u (26 + i)] g g1 → J X 5 (zz D t A) g1 k0 n0 60 [(0, .ref (u 19)), (1, .int (nI i)), (2, .int (nI fr)), (3, .int (nI to))] []) : ∀ (n c : Nat) (g1 : GH) (f1 : Nat → Int64), c + n = 6 → gAt g1 (u (26 + i)) (eL t 1806 f1) → (∀ j, j < c → f1 (6 * to + j) = fc (6 * fr + j)) → (∀ k, (k < 6 * to ∨ 6 * to + c ≤ k) → f1 k = fc k) → Kp [u (26 + i)] g g1 → J X 5 (zz D t A) g1 k0 n0 19 [(0, .ref (u 19)), (1, .int (nI i)), (2, .int (nI fr)), (3, .int (nI to)), (4, .int (nI c))] [] := by
  intro n
  induction n with
  | zero =>
    intro c g1 f1 hn h1 h2 h3 kp
    have e : c = 6 := by omega
    subst e
    refine j_iload O dM_move_19 rfl ?_
    refine j_bipush O (v := 6) dM_move_21 (by decide) ?_
    refine j_icmp_ge O 60 dM_move_23 (by decide) (fun c => ?_) (fun c => absurd (by decide) c)
    refine J.pk [0, 1, 2, 3] rfl ?_
    exact HK g1 f1 h1 h2 h3 kp
  | succ n ih =>
    intro c g1 f1 hn h1 h2 h3 kp
    have hM1 := kp.2 _ _ (one_ne (hM.ne hc (by simp))) hM
    have hL1 := kp.2 _ _ (one_ne (hL.ne hc (by simp))) hL
    refine j_iload O dM_move_19 rfl ?_
    refine j_bipush O (v := 6) dM_move_21 (by decide) ?_
    refine j_icmp_ge O 60 dM_move_23 (by decide) (fun cc => absurd cc (nI_ge (b := 6) (by omega) (by decide))) (fun cc => ?_)
    refine j_aload_n O 0 dM_move_26 rfl rfl ?_
    refine j_get O uwM hM1 rfl 3 (by decide) w450 rfl rfl dM_move_27 ?_
    refine j_iload_n O 1 dM_move_30 rfl rfl ?_
    refine j_aaldA O hL1 5 rfl (by omega) (by omega) dM_move_31 ?_
    refine j_some (u (26 + i)) hLi ?_
    refine j_bipush O (v := 6) dM_move_32 (by decide) ?_
    refine j_iload_n O 3 dM_move_34 rfl rfl ?_
    refine j_imul O dM_move_35 ?_
    refine j_eqi (nI (6 * to)) (pk_mul 6 _) ?_
    refine j_iload O dM_move_36 rfl ?_
    refine j_iadd O dM_move_38 ?_
    refine j_eqi (nI (6 * to + c)) (nI_add _ _) ?_
    refine j_aload_n O 0 dM_move_39 rfl rfl ?_
    refine j_get O uwM hM1 rfl 3 (by decide) w450 rfl rfl dM_move_40 ?_
    refine j_iload_n O 1 dM_move_43 rfl rfl ?_
    refine j_aaldA O hL1 5 rfl (by omega) (by omega) dM_move_44 ?_
    refine j_some (u (26 + i)) hLi ?_
    refine j_bipush O (v := 6) dM_move_45 (by decide) ?_
    refine j_iload_n O 2 dM_move_47 rfl rfl ?_
    refine j_imul O dM_move_48 ?_
    refine j_eqi (nI (6 * fr)) (pk_mul 6 _) ?_
    refine j_iload O dM_move_49 rfl ?_
    refine j_iadd O dM_move_51 ?_
    refine j_eqi (nI (6 * fr + c)) (nI_add _ _) ?_
    refine j_lald O h1 3 rfl (by omega) (by omega) dM_move_52 ?_
    refine j_last O h1 3 rfl (by omega) (by decide) dM_move_53 (fun gw193 ew194 => ?_)
    have hw195 := gUp_ne (e' := .inl (t 3, 1806, .inr (.inl (vp_updL f1 (6 * to + c) (f1 (6 * fr + c)))))) hM1 (hM1.ne h1 (by simp))
    rw [← ew194] at hw195
    have hw196 := gUp_ne (e' := .inl (t 3, 1806, .inr (.inl (vp_updL f1 (6 * to + c) (f1 (6 * fr + c)))))) hL1 (hL1.ne h1 (by simp))
    rw [← ew194] at hw196
    have hw197 := gUp_self (e' := .inl (t 3, 1806, .inr (.inl (vp_updL f1 (6 * to + c) (f1 (6 * fr + c)))))) h1
    rw [← ew194] at hw197
    have kpw198 := kp.up (a := (u (26 + i))) (e := .inl (t 3, 1806, .inr (.inl (vp_updL f1 (6 * to + c) (f1 (6 * fr + c)))))) (by simp)
    rw [← ew194] at kpw198
    refine j_iinc O (nI (c + 1)) [(4, .int (nI (c + 1))), (0, .ref (u 19)), (1, .int (nI i)), (2, .int (nI fr)), (3, .int (nI to))] dM_move_54 rfl (nI_1 _) (by decide) rfl ?_
    refine j_goto O 19 dM_move_57 (by decide) ?_
    refine J.pk [1, 2, 3, 4, 0] rfl ?_
    exact ih (c + 1) gw193 _ (by omega) hw197 (fun j hj => by
      show vp_updL f1 (6 * to + c) (f1 (6 * fr + c)) (6 * to + j) = _
      unfold vp_updL
      by_cases z : j = c
      · subst z
        rw [if_pos rfl]
        exact h3 _ (by omega)
      · rw [if_neg (by omega)]
        exact h2 j (by omega)) (fun k hk => by
      show vp_updL f1 (6 * to + c) (f1 (6 * fr + c)) k = _
      unfold vp_updL
      rw [if_neg (by omega)]
      exact h3 k (by omega)) kpw198
set_option maxRecDepth 100000 in
set_option maxHeartbeats 1000000 in
theorem c_M_move (l : Launch) (D : va_G) (t : Nat → ClassId) (A : Nat → Prop) (g : GH) (u : Nat → Nat) (oc om df nn us lm mm ta co si : Int32) (i fr to : Nat) (fK fL : Nat → Option Nat) (fk : Nat → Int32) (fc : Nat → Int64) (hM : gAt g (u 19) (eM u oc om df nn us lm mm ta co si)) (hL : gAt g (u 3) (eLL t 6 fL)) (hLi : fL i = some (u (26 + i))) (i6 : i < 6) (hfr : fr ≤ 300) (hto : to ≤ 300) (hft : fr ≠ to) (hK : gAt g (u 2) (eII t 6 fK)) (hKi : fK i = some (u (20 + i))) (hk : gAt g (u (20 + i)) (eI t 301 fk)) (hc : gAt g (u (26 + i)) (eL t 1806 fc)) (h23 : u 2 ≠ u 3) : Ct l yM_move sM_move { frames := 0, cells := 0, slots := 0, locals := 0 } (zz D t A) [.ref (u 19), .int (nI i), .int (nI fr), .int (nI to)] g 0 0 (fun v g' => v = none ∧ gAt g' (u (20 + i)) (eI t 301 (upd fk to (fk fr))) ∧ (∃ f1, gAt g' (u (26 + i)) (eL t 1806 f1) ∧ (∀ j, j < 6 → f1 (6 * to + j) = fc (6 * fr + j)) ∧ ∀ k, (k < 6 * to ∨ 6 * to + 6 ≤ k) → f1 k = fc k) ∧ Kp [u (20 + i), u (26 + i)] g g') := by
  refine Ct.of (cc := bM_move) (maxL := 5) (ret := none) (by decide) (Nat.le_of_ble_eq_true rfl) (fun X hlX O M hNn => ?_)
  show J X 5 (zz D t A) g 0 0 0 [(0, .ref (u 19)), (1, .int (nI i)), (2, .int (nI fr)), (3, .int (nI to))] []
  have kp0 : Kp [u (20 + i)] g g := Kp.rf
  refine j_aload_n O 0 dM_move_0 rfl rfl ?_
  refine j_get O uwM hM rfl 2 (by decide) w449 rfl rfl dM_move_1 ?_
  refine j_iload_n O 1 dM_move_4 rfl rfl ?_
  refine j_aaldA O hK 4 rfl (by omega) (by omega) dM_move_5 ?_
  refine j_some (u (20 + i)) hKi ?_
  refine j_iload_n O 3 dM_move_6 rfl rfl ?_
  refine j_aload_n O 0 dM_move_7 rfl rfl ?_
  refine j_get O uwM hM rfl 2 (by decide) w449 rfl rfl dM_move_8 ?_
  refine j_iload_n O 1 dM_move_11 rfl rfl ?_
  refine j_aaldA O hK 4 rfl (by omega) (by omega) dM_move_12 ?_
  refine j_some (u (20 + i)) hKi ?_
  refine j_iload_n O 2 dM_move_13 rfl rfl ?_
  refine j_iald O hk 0 rfl (by omega) (by omega) dM_move_14 ?_
  refine j_iast O hk 0 rfl (by omega) (by decide) dM_move_15 (fun gw199 ew200 => ?_)
  have hw201 := gUp_ne (e' := .inl (t 0, 301, .inl (upd fk to (fk fr)))) hM (hM.ne hk (by simp))
  rw [← ew200] at hw201
  have hw202 := gUp_ne (e' := .inl (t 0, 301, .inl (upd fk to (fk fr)))) hK (hK.ne hk (by simp))
  rw [← ew200] at hw202
  have hw203 := gUp_ne (e' := .inl (t 0, 301, .inl (upd fk to (fk fr)))) hL (hL.ne hk (by simp))
  rw [← ew200] at hw203
  have hw204 := gUp_ne (e' := .inl (t 0, 301, .inl (upd fk to (fk fr)))) hc (hc.ne hk (by simp))
  rw [← ew200] at hw204
  have hw205 := gUp_self (e' := .inl (t 0, 301, .inl (upd fk to (fk fr)))) hk
  rw [← ew200] at hw205
  have kpw206 := kp0.up (a := (u (20 + i))) (e := .inl (t 0, 301, .inl (upd fk to (fk fr)))) (by simp)
  rw [← ew200] at kpw206
  refine j_iconst O (v := 0) dM_move_16 (by decide) ?_
  refine j_istore O [(4, .int 0), (0, .ref (u 19)), (1, .int (nI i)), (2, .int (nI fr)), (3, .int (nI to))] dM_move_17 (by decide) rfl ?_
  refine J.pk [1, 2, 3, 4, 0] rfl ?_
  refine move_loop (k0 := 0) (n0 := 0) O hw201 hw203 hLi i6 hfr hto hft hw204 (fun g2 f2 h1 h2 h3 kp2 => ?_) 6 0 gw199 fc rfl hw204 (fun j hj => by omega) (fun k _ => rfl) Kp.rf
  have hk2 := kp2.2 _ _ (one_ne (hw205.ne hw204 (by simp))) hw205
  exact j_vret O M (Nat.le_of_ble_eq_true rfl) (Nat.le_of_ble_eq_true rfl) ⟨rfl, hk2, ⟨f2, h1, h2, h3⟩, (kpw206.mono (fun x hx => by rw [List.mem_singleton.mp hx]; simp)).tr (kp2.mono (fun x hx => by rw [List.mem_singleton.mp hx]; simp))⟩ dM_move_60
