def isRow (g : GH) (x : Nat) : Prop := ∃ (k : Int32) (c : Nat) (nu lv pr : Int32), gAt g x (eRow k c nu lv pr)
theorem rowAt.isRow {t : Nat → ClassId} {g : GH} {a : Nat} {r : RV} (h : rowAt t g a r) : isRow g a := by
  obtain ⟨c, f, ha, -, -⟩ := h
  exact ⟨_, _, _, _, _, ha⟩
theorem isRow.upA {t : Nat → ClassId} {g : GH} {x b n : Nat} {f f' : Nat → Option Nat} (h : isRow g x) (hb : gAt g b (eRs t n f)) : isRow (gUp g b (eRs t n f')) x := by
  obtain ⟨k, c, nu, lv, pr, hx⟩ := h
  exact ⟨k, c, nu, lv, pr, gUp_ne hx (hx.ne hb (by simp))⟩
/-- rows by references, from place o on -/
def rowsIn (t : Nat → ClassId) (g : GH) (f : Nat → Option Nat) (o : Nat) (rs : List RV) : Prop := ∀ i (h : i < rs.length), ∃ a, f (o + i) = some a ∧ rowAt t g a rs[i]
/-- how many rows at the front have a lesser key -/
def plc (key : Int32) : List RV → Nat
  | [] => 0
  | r :: rs => if r.1 < key then plc key rs + 1 else 0
theorem plc_of (key : Int32) : ∀ (rs : List RV) (i : Nat), i ≤ rs.length → (∀ j (h : j < rs.length), j < i → rs[j].1 < key) → (∀ h : i < rs.length, ¬ rs[i].1 < key) → plc key rs = i
  | [], i, h, _, _ => by simp at h; subst h; rfl
  | r :: rs, 0, _, _, h3 => by rw [plc, if_neg (show ¬ r.1 < key from h3 (by simp))]
  | r :: rs, i + 1, h1, h2, h3 => by
    rw [plc, if_pos (show r.1 < key from h2 0 (by simp) (by omega)), plc_of key rs i (by simp at h1; omega) (fun j h q => h2 (j + 1) (by simp; omega) (by omega)) (fun h => h3 (by simp; omega))]
theorem plc_le (key : Int32) : ∀ rs : List RV, plc key rs ≤ rs.length
  | [] => Nat.le_refl _
  | r :: rs => by
    rw [plc]
    split
    · simp [plc_le key rs]
    · exact Nat.zero_le _
set_option maxRecDepth 100000 in
set_option maxHeartbeats 4000000 in
theorem c_RL_init (l : Launch) (D : va_G) (t : Nat → ClassId) (A : Nat → Prop) (g : GH) (a : Nat) (ha : gAt g a (.inr (4, [.null, .int 0]))) : Ct l yQ_init sQ_init { frames := 1, cells := 1, slots := 300, locals := 20 } (zz D t A) [.ref a] g 1 300 (fun v g' => v = none ∧ ∃ b, b ∉ g.1 ∧ gAt g' a (eRL b 0) ∧ gAt g' b (eRs t 300 (fun _ => none)) ∧ Kp [a] g g') := by
  refine Ct.of (cc := bQ_init) (maxL := 1) (ret := none) (by decide) (Nat.le_of_ble_eq_true rfl) (fun X hl O M hN => ?_)
  have hN := hN rfl
  show J X 1 (zz D t A) g 0 0 0 [(0, .ref a)] []
  have kp0 : Kp [a] g g := Kp.rf
  refine j_aload_n O 0 dQ_init_0 rfl rfl ?_
  refine j_objInit O w90 w39 w40 dQ_init_1 (Nat.le_of_ble_eq_true rfl) (Nat.le_of_ble_eq_true rfl) ?_
  refine j_aload_n O 0 dQ_init_4 rfl rfl ?_
  refine j_sipush O (v := 300) dQ_init_5 (by decide) ?_
  refine j_newq O w91 (List.mem_of_getElem? (i := 5) rfl) 1 rfl 300 (by decide) (by decide) (by decide) (Nat.le_of_ble_eq_true rfl) (Nat.le_of_ble_eq_true rfl) dQ_init_8 (fun q1 g2 hq3 e4 => ?_)
  have h5 := gNew_old (e' := .inl (t 1, 300, .inr (.inr (.inr (.inr (fun _ => none)))))) ha hq3
  rw [← e4] at h5
  have h6 := gNew_self (g := g) (a := q1) (e := .inl (t 1, 300, .inr (.inr (.inr (.inr (fun _ => none))))))
  rw [← e4] at h6
  have kp7 := kp0.new (e := .inl (t 1, 300, .inr (.inr (.inr (.inr (fun _ => none)))))) hq3
  rw [← e4] at kp7
  refine j_putF O hN uwQ h5 rfl 0 (by decide) w92 rfl tQ ftQ fnQ rfl rfl (.array (.object "TwinTrees$Row")) (by decide +kernel) rfl rfl (Nat.le_of_ble_eq_true rfl) [.ref q1, .int 0] rfl dQ_init_11 (fun g8 e9 => ?_)
  have h10 := gUp_ne (e' := .inr (4, [.ref q1, .int 0])) h6 (Ne.symm (ha.nin hq3))
  rw [← e9] at h10
  have h11 := gUp_self (e' := .inr (4, [.ref q1, .int 0])) h5
  rw [← e9] at h11
  have kp12 := kp7.up (a := a) (e := .inr (4, [.ref q1, .int 0])) (by simp)
  rw [← e9] at kp12
  refine j_aload_n O 0 dQ_init_14 rfl rfl ?_
  refine j_iconst O (v := 0) dQ_init_15 (by decide) ?_
  refine j_put O uwQ h11 rfl 1 (by decide) w95 rfl tQ ftQ fnQ rfl (.int) (by decide +kernel) rfl rfl (Nat.le_of_ble_eq_true rfl) [.ref q1, .int 0] rfl dQ_init_16 (fun g13 e14 => ?_)
  have h15 := gUp_ne (e' := .inr (4, [.ref q1, .int 0])) h10 (Ne.symm (ha.nin hq3))
  rw [← e14] at h15
  have h16 := gUp_self (e' := .inr (4, [.ref q1, .int 0])) h11
  rw [← e14] at h16
  have kp17 := kp12.up (a := a) (e := .inr (4, [.ref q1, .int 0])) (by simp)
  rw [← e14] at kp17
  exact j_vret O M (Nat.le_of_ble_eq_true rfl) (Nat.le_of_ble_eq_true rfl) ⟨rfl, q1, (kp0.nin hq3), h16, h15, kp17⟩ dQ_init_19
set_option maxRecDepth 100000 in
set_option maxHeartbeats 4000000 in
theorem c_append (l : Launch) (D : va_G) (t : Nat → ClassId) (A : Nat → Prop) (g : GH) (q x b len : Nat) (f : Nat → Option Nat) (hq : gAt g q (eRL b (nI len))) (hb : gAt g b (eRs t 300 f)) (hx : isRow g x) (hl : len < 300) : Ct l yQ_append sQ_append { frames := 0, cells := 0, slots := 0, locals := 0 } (zz D t A) [.ref q, .ref x] g 0 0 (fun v g' => v = none ∧ gAt g' q (eRL b (nI (len + 1))) ∧ gAt g' b (eRs t 300 (va_up f len (some x))) ∧ Kp [q, b] g g') := by
  obtain ⟨rk, rc, rn, rl, rp, hx⟩ := hx
  refine Ct.of (cc := bQ_append) (maxL := 2) (ret := none) (by decide) (Nat.le_of_ble_eq_true rfl) (fun X hlx O M hN => ?_)
  show J X 2 (zz D t A) g 0 0 0 [(0, .ref q), (1, .ref x)] []
  have kp0 : Kp [q, b] g g := Kp.rf
  refine j_aload_n O 0 dQ_append_0 rfl rfl ?_
  refine j_get O uwQ hq rfl 1 (by decide) w95 rfl rfl dQ_append_1 ?_
  refine j_sipush O (v := 300) dQ_append_4 (by decide) ?_
  refine j_icmp_ge O 30 dQ_append_7 (by decide) (fun c1 => ?_) (fun c1 => ?_)
  · exact absurd c1 (nI_ge (b := 300) hl (by omega))
  · refine j_aload_n O 0 dQ_append_10 rfl rfl ?_
    refine j_get O uwQ hq rfl 0 (by decide) w92 rfl rfl dQ_append_11 ?_
    refine j_aload_n O 0 dQ_append_14 rfl rfl ?_
    refine j_get O uwQ hq rfl 1 (by decide) w95 rfl rfl dQ_append_15 ?_
    refine j_aload_n O 1 dQ_append_18 rfl rfl ?_
    refine j_aast O hb 1 rfl hx rfl hl (by omega) dQ_append_19 (fun g18 e19 => ?_)
    have h20 := gUp_ne (e' := .inl (t 1, 300, .inr (.inr (.inr (.inr (va_up f len (some x))))))) hq (hq.ne hb (by simp))
    rw [← e19] at h20
    have h21 := gUp_ne (e' := .inl (t 1, 300, .inr (.inr (.inr (.inr (va_up f len (some x))))))) hx (hx.ne hb (by simp))
    rw [← e19] at h21
    have h22 := gUp_self (e' := .inl (t 1, 300, .inr (.inr (.inr (.inr (va_up f len (some x))))))) hb
    rw [← e19] at h22
    have kp23 := kp0.up (a := b) (e := .inl (t 1, 300, .inr (.inr (.inr (.inr (va_up f len (some x))))))) (by simp)
    rw [← e19] at kp23
    refine j_aload_n O 0 dQ_append_20 rfl rfl ?_
    refine j_dup O dQ_append_21 rfl ?_
    refine j_get O uwQ h20 rfl 1 (by decide) w95 rfl rfl dQ_append_22 ?_
    refine j_iconst O (v := 1) dQ_append_25 (by decide) ?_
    refine j_iadd O dQ_append_26 ?_
    refine j_eqi (nI (len + 1)) (nI_1 _) ?_
    refine j_put O uwQ h20 rfl 1 (by decide) w95 rfl tQ ftQ fnQ rfl (.int) (by decide +kernel) rfl rfl (Nat.le_of_ble_eq_true rfl) [.ref b, .int (nI (len + 1))] rfl dQ_append_27 (fun g24 e25 => ?_)
    have h26 := gUp_ne (e' := .inr (4, [.ref b, .int (nI (len + 1))])) h22 (h22.ne h20 (by simp))
    rw [← e25] at h26
    have h27 := gUp_ne (e' := .inr (4, [.ref b, .int (nI (len + 1))])) h21 (h21.ne h20 (by simp))
    rw [← e25] at h27
    have h28 := gUp_self (e' := .inr (4, [.ref b, .int (nI (len + 1))])) h20
    rw [← e25] at h28
    have kp29 := kp23.up (a := q) (e := .inr (4, [.ref b, .int (nI (len + 1))])) (by simp)
    rw [← e25] at kp29
    exact j_vret O M (Nat.le_of_ble_eq_true rfl) (Nat.le_of_ble_eq_true rfl) ⟨rfl, h28, h26, kp29⟩ dQ_append_30
set_option maxRecDepth 100000 in
set_option maxHeartbeats 4000000 in
theorem placeOf_loop {X : CX} {D : va_G} {t : Nat → ClassId} {A : Nat → Prop} {rm : Room} {g : GH} {q b : Nat} {f : Nat → Option Nat} {rs : List RV} {key : Int32} (O : Ok X bQ_placeOf 3 "TwinTrees$RowList" (zz D t A) rm) (M : Om X (zz D t A) (some .int) 0 0 (fun v g' => v = some (.int (nI (plc key rs))) ∧ g' = g)) (hq : gAt g q (eRL b (nI rs.length))) (hb : gAt g b (eRs t 300 f)) (hr : rowsIn t g f 0 rs) (hl : rs.length ≤ 300) : ∀ (k i : Nat), i + k = rs.length → (∀ j (h : j < rs.length), j < i → rs[j].1 < key) → J X 3 (zz D t A) g 0 0 2 [(0, .ref q), (1, .int key), (2, .int (nI i))] [] := by
  intro k
  induction k with
  | zero =>
    intro i hi hlow
    have hp : plc key rs = i := plc_of key rs i (by omega) hlow (fun h => by omega)
    rw [hp] at M
    have hi : i = rs.length := by omega
    subst hi
    refine j_iload_n O 2 dQ_placeOf_2 rfl rfl ?_
    refine j_aload_n O 0 dQ_placeOf_3 rfl rfl ?_
    refine j_get O uwQ hq rfl 1 (by decide) w95 rfl rfl dQ_placeOf_4 ?_
    refine j_icmp_ge O 29 dQ_placeOf_7 (by decide) (fun c1 => ?_) (fun c1 => ?_)
    · refine j_iload_n O 2 dQ_placeOf_29 rfl rfl ?_
      exact j_iret O M (Nat.le_of_ble_eq_true rfl) (Nat.le_of_ble_eq_true rfl) ⟨rfl, rfl⟩ dQ_placeOf_30
    · exact absurd (nI_le (Nat.le_refl _) (by omega)) c1
  | succ k ih =>
    intro i hi hlow
    have hi1 : i < rs.length := by omega
    obtain ⟨x, hfx, hx⟩ := hr i hi1
    rw [Nat.zero_add] at hfx
    obtain ⟨c, fc, hxc, -, -⟩ := hx
    refine j_iload_n O 2 dQ_placeOf_2 rfl rfl ?_
    refine j_aload_n O 0 dQ_placeOf_3 rfl rfl ?_
    refine j_get O uwQ hq rfl 1 (by decide) w95 rfl rfl dQ_placeOf_4 ?_
    refine j_icmp_ge O 29 dQ_placeOf_7 (by decide) (fun c1 => ?_) (fun c1 => ?_)
    · exact absurd c1 (nI_ge hi1 (by omega))
    · refine j_aload_n O 0 dQ_placeOf_10 rfl rfl ?_
      refine j_get O uwQ hq rfl 0 (by decide) w92 rfl rfl dQ_placeOf_11 ?_
      refine j_iload_n O 2 dQ_placeOf_14 rfl rfl ?_
      refine j_aald O hb 1 rfl (by omega) (by omega) dQ_placeOf_15 ?_
      refine j_some x hfx ?_
      refine j_get O uwR hxc rfl 0 (by decide) w287 rfl rfl dQ_placeOf_16 ?_
      refine j_iload_n O 1 dQ_placeOf_19 rfl rfl ?_
      refine j_icmp_ge O 29 dQ_placeOf_20 (by decide) (fun c2 => ?_) (fun c2 => ?_)
      · refine j_iload_n O 2 dQ_placeOf_29 rfl rfl ?_
        have hp : plc key rs = i := plc_of key rs i (by omega) hlow (fun h => Int32.not_lt.mpr c2)
        rw [hp] at M
        exact j_iret O M (Nat.le_of_ble_eq_true rfl) (Nat.le_of_ble_eq_true rfl) ⟨rfl, rfl⟩ dQ_placeOf_30
      · refine j_iinc O (nI (i + 1)) [(2, .int (nI (i + 1))), (0, .ref q), (1, .int key)] dQ_placeOf_23 rfl (nI_1 _) (by decide) rfl ?_
        refine j_goto O 2 dQ_placeOf_26 (by decide) ?_
        refine J.pk [1, 2, 0] rfl ?_
        refine ih (i + 1) (by omega) (fun j h q => ?_)
        rcases Nat.lt_or_ge j i with z | z
        · exact hlow j h z
        · have hj : j = i := by omega
          subst hj
          exact Int32.not_le.mp c2
set_option maxRecDepth 100000 in
set_option maxHeartbeats 4000000 in
theorem c_placeOf (l : Launch) (D : va_G) (t : Nat → ClassId) (A : Nat → Prop) (g : GH) (q b : Nat) (f : Nat → Option Nat) (rs : List RV) (key : Int32) (hq : gAt g q (eRL b (nI rs.length))) (hb : gAt g b (eRs t 300 f)) (hr : rowsIn t g f 0 rs) (hl : rs.length ≤ 300) : Ct l yQ_placeOf sQ_placeOf { frames := 0, cells := 0, slots := 0, locals := 0 } (zz D t A) [.ref q, .int key] g 0 0 (fun v g' => v = some (.int (nI (plc key rs))) ∧ g' = g) := by
  refine Ct.of (cc := bQ_placeOf) (maxL := 3) (ret := (some .int)) (by decide) (Nat.le_of_ble_eq_true rfl) (fun X hlx O M hN => ?_)
  show J X 3 (zz D t A) g 0 0 0 [(0, .ref q), (1, .int key)] []
  refine j_iconst O (v := 0) dQ_placeOf_0 (by decide) ?_
  refine j_istore_n O 2 [(2, .int 0), (0, .ref q), (1, .int key)] dQ_placeOf_1 rfl (by decide) rfl ?_
  refine J.pk [1, 2, 0] rfl ?_
  exact placeOf_loop O M hq hb hr hl _ 0 (Nat.zero_add _) (fun j h q => by omega)
set_option maxRecDepth 100000 in
set_option maxHeartbeats 4000000 in
theorem c_hasKeyAt (l : Launch) (D : va_G) (t : Nat → ClassId) (A : Nat → Prop) (g : GH) (q b p : Nat) (f : Nat → Option Nat) (rs : List RV) (key : Int32) (hp : p ≤ rs.length) (hq : gAt g q (eRL b (nI rs.length))) (hb : gAt g b (eRs t 300 f)) (hr : rowsIn t g f 0 rs) (hl : rs.length ≤ 300) : Ct l yQ_hasKeyAt sQ_hasKeyAt { frames := 0, cells := 0, slots := 0, locals := 0 } (zz D t A) [.ref q, .int (nI p), .int key] g 0 0 (fun v g' => v = some (.int (if ∃ h : p < rs.length, rs[p].1 = key then 1 else 0)) ∧ g' = g) := by
  refine Ct.of (cc := bQ_hasKeyAt) (maxL := 3) (ret := (some .boolean)) (by decide) (Nat.le_of_ble_eq_true rfl) (fun X hlx O M hN => ?_)
  show J X 3 (zz D t A) g 0 0 0 [(0, .ref q), (1, .int (nI p)), (2, .int key)] []
  refine j_iload_n O 1 dQ_hasKeyAt_0 rfl rfl ?_
  refine j_aload_n O 0 dQ_hasKeyAt_1 rfl rfl ?_
  refine j_get O uwQ hq rfl 1 (by decide) w95 rfl rfl dQ_hasKeyAt_2 ?_
  refine j_icmp_ge O 25 dQ_hasKeyAt_5 (by decide) (fun c1 => ?_) (fun c1 => ?_)
  · refine j_iconst O (v := 0) dQ_hasKeyAt_25 (by decide) ?_
    exact j_zret O (by decide) M (Nat.le_of_ble_eq_true rfl) (Nat.le_of_ble_eq_true rfl) ⟨by rw [if_neg (fun q => absurd c1 (nI_ge q.choose (by omega)))], rfl⟩ dQ_hasKeyAt_26
  · have hp1 : p < rs.length := by
      rcases Nat.lt_or_ge p rs.length with z | z
      · exact z
      · exact absurd (nI_le z (by omega)) c1
    obtain ⟨x, hfx, hx⟩ := hr p hp1
    rw [Nat.zero_add] at hfx
    obtain ⟨c, fc, hxc, -, -⟩ := hx
    refine j_aload_n O 0 dQ_hasKeyAt_8 rfl rfl ?_
    refine j_get O uwQ hq rfl 0 (by decide) w92 rfl rfl dQ_hasKeyAt_9 ?_
    refine j_iload_n O 1 dQ_hasKeyAt_12 rfl rfl ?_
    refine j_aald O hb 1 rfl (by omega) (by omega) dQ_hasKeyAt_13 ?_
    refine j_some x hfx ?_
    refine j_get O uwR hxc rfl 0 (by decide) w287 rfl rfl dQ_hasKeyAt_14 ?_
    refine j_iload_n O 2 dQ_hasKeyAt_17 rfl rfl ?_
    refine j_icmp_ne O 25 dQ_hasKeyAt_18 (by decide) (fun c2 => ?_) (fun c2 => ?_)
    · refine j_iconst O (v := 0) dQ_hasKeyAt_25 (by decide) ?_
      exact j_zret O (by decide) M (Nat.le_of_ble_eq_true rfl) (Nat.le_of_ble_eq_true rfl) ⟨by rw [if_neg (fun q => c2 q.choose_spec)], rfl⟩ dQ_hasKeyAt_26
    · refine j_iconst O (v := 1) dQ_hasKeyAt_21 (by decide) ?_
      refine j_goto O 26 dQ_hasKeyAt_22 (by decide) ?_
      exact j_zret O (by decide) M (Nat.le_of_ble_eq_true rfl) (Nat.le_of_ble_eq_true rfl) ⟨by rw [if_pos ⟨hp1, c2⟩], rfl⟩ dQ_hasKeyAt_26
set_option maxRecDepth 100000 in
set_option maxHeartbeats 4000000 in
theorem insertAt_loop {X : CX} {D : va_G} {t : Nat → ClassId} {A : Nat → Prop} {rm : Room} {g : GH} {q b p x len : Nat} {f : Nat → Option Nat} (O : Ok X bQ_insertAt 4 "TwinTrees$RowList" (zz D t A) rm) (M : Om X (zz D t A) none 0 0 (fun v g' => v = none ∧ gAt g' q (eRL b (nI (len + 1))) ∧ ∃ f', gAt g' b (eRs t 300 f') ∧ (∀ j, j < p → f' j = f j) ∧ f' p = some x ∧ (∀ j, p < j → j ≤ len → f' j = f (j - 1)) ∧ Kp [q, b] g g')) (hx0 : ∀ j, j < len → ∃ y, f j = some y) (hpl : p ≤ len) (hl : len < 300) : ∀ (k : Nat) (g1 : GH) (fc : Nat → Option Nat), p + k ≤ len → gAt g1 q (eRL b (nI len)) → gAt g1 b (eRs t 300 fc) → isRow g1 x → (∀ j, j < len → ∀ y, f j = some y → isRow g1 y) → (∀ j, j < p + k → fc j = f j) → (∀ j, p + k < j → j ≤ len → fc j = f (j - 1)) → Kp [q, b] g g1 → J X 4 (zz D t A) g1 0 0 5 [(0, .ref q), (1, .int (nI p)), (2, .ref x), (3, .int (nI (p + k)))] [] := by
  intro k
  induction k with
  | zero =>
    intro g1 fc hk hq hb hx hrw h1 h2 kp0
    obtain ⟨rk, rc, rn, rl, rp, hx⟩ := hx
    rw [Nat.add_zero] at *
    refine j_iload_n O 3 dQ_insertAt_5 rfl rfl ?_
    refine j_iload_n O 1 dQ_insertAt_6 rfl rfl ?_
    refine j_icmp_le O 30 dQ_insertAt_7 (by decide) (fun c1 => ?_) (fun c1 => ?_)
    · refine j_aload_n O 0 dQ_insertAt_30 rfl rfl ?_
      refine j_get O uwQ hq rfl 0 (by decide) w92 rfl rfl dQ_insertAt_31 ?_
      refine j_iload_n O 1 dQ_insertAt_34 rfl rfl ?_
      refine j_aload_n O 2 dQ_insertAt_35 rfl rfl ?_
      refine j_aast O hb 1 rfl hx rfl (by omega) (by omega) dQ_insertAt_36 (fun g30 e31 => ?_)
      have h32 := gUp_ne (e' := .inl (t 1, 300, .inr (.inr (.inr (.inr (va_up fc p (some x))))))) hq (hq.ne hb (by simp))
      rw [← e31] at h32
      have h33 := gUp_ne (e' := .inl (t 1, 300, .inr (.inr (.inr (.inr (va_up fc p (some x))))))) hx (hx.ne hb (by simp))
      rw [← e31] at h33
      have h34 := gUp_self (e' := .inl (t 1, 300, .inr (.inr (.inr (.inr (va_up fc p (some x))))))) hb
      rw [← e31] at h34
      have kp35 := kp0.up (a := b) (e := .inl (t 1, 300, .inr (.inr (.inr (.inr (va_up fc p (some x))))))) (by simp)
      rw [← e31] at kp35
      refine j_aload_n O 0 dQ_insertAt_37 rfl rfl ?_
      refine j_dup O dQ_insertAt_38 rfl ?_
      refine j_get O uwQ h32 rfl 1 (by decide) w95 rfl rfl dQ_insertAt_39 ?_
      refine j_iconst O (v := 1) dQ_insertAt_42 (by decide) ?_
      refine j_iadd O dQ_insertAt_43 ?_
      refine j_eqi (nI (len + 1)) (nI_1 _) ?_
      refine j_put O uwQ h32 rfl 1 (by decide) w95 rfl tQ ftQ fnQ rfl (.int) (by decide +kernel) rfl rfl (Nat.le_of_ble_eq_true rfl) [.ref b, .int (nI (len + 1))] rfl dQ_insertAt_44 (fun g36 e37 => ?_)
      have h38 := gUp_ne (e' := .inr (4, [.ref b, .int (nI (len + 1))])) h34 (h34.ne h32 (by simp))
      rw [← e37] at h38
      have h39 := gUp_ne (e' := .inr (4, [.ref b, .int (nI (len + 1))])) h33 (h33.ne h32 (by simp))
      rw [← e37] at h39
      have h40 := gUp_self (e' := .inr (4, [.ref b, .int (nI (len + 1))])) h32
      rw [← e37] at h40
      have kp41 := kp35.up (a := q) (e := .inr (4, [.ref b, .int (nI (len + 1))])) (by simp)
      rw [← e37] at kp41
      exact j_vret O M (Nat.le_of_ble_eq_true rfl) (Nat.le_of_ble_eq_true rfl) ⟨rfl, h40, _, h38, fun j hj => by rw [va_up_ne _ _ (by omega)]; exact h1 j hj, va_up_self _ _ _, fun j h3 h4 => by rw [va_up_ne _ _ (by omega)]; exact h2 j h3 h4, kp41⟩ dQ_insertAt_47
    · exact absurd (nI_le (Nat.le_refl _) (by omega)) c1
  | succ k ih =>
    intro g1 fc hk hq hb hx hrw h1 h2 kp0
    obtain ⟨y, hy⟩ := hx0 (p + k) (by omega)
    obtain ⟨rk, rc, rn, rl, rp, hyc⟩ := hrw (p + k) (by omega) y hy
    have hfy : fc (p + (k + 1) - 1) = some y := by rw [show p + (k + 1) - 1 = p + k by omega, h1 (p + k) (by omega)]; exact hy
    refine j_iload_n O 3 dQ_insertAt_5 rfl rfl ?_
    refine j_iload_n O 1 dQ_insertAt_6 rfl rfl ?_
    refine j_icmp_le O 30 dQ_insertAt_7 (by decide) (fun c1 => ?_) (fun c1 => ?_)
    · exact absurd c1 (nI_ge (by omega) (by omega))
    · refine j_aload_n O 0 dQ_insertAt_10 rfl rfl ?_
      refine j_get O uwQ hq rfl 0 (by decide) w92 rfl rfl dQ_insertAt_11 ?_
      refine j_iload_n O 3 dQ_insertAt_14 rfl rfl ?_
      refine j_aload_n O 0 dQ_insertAt_15 rfl rfl ?_
      refine j_get O uwQ hq rfl 0 (by decide) w92 rfl rfl dQ_insertAt_16 ?_
      refine j_iload_n O 3 dQ_insertAt_19 rfl rfl ?_
      refine j_iconst O (v := 1) dQ_insertAt_20 (by decide) ?_
      refine j_isub O dQ_insertAt_21 ?_
      refine j_eqi (nI (p + (k + 1) - 1)) (pk_sub (b := 1) (by omega)) ?_
      refine j_aald O hb 1 rfl (by omega) (by omega) dQ_insertAt_22 ?_
      refine j_some y hfy ?_
      refine j_aast O hb 1 rfl hyc rfl (by omega) (by omega) dQ_insertAt_23 (fun g42 e43 => ?_)
      have h44 := gUp_ne (e' := .inl (t 1, 300, .inr (.inr (.inr (.inr (va_up fc (p + (k + 1)) (some y))))))) hq (hq.ne hb (by simp))
      rw [← e43] at h44
      have h45 := gUp_ne (e' := .inl (t 1, 300, .inr (.inr (.inr (.inr (va_up fc (p + (k + 1)) (some y))))))) hyc (hyc.ne hb (by simp))
      rw [← e43] at h45
      have h46 := gUp_self (e' := .inl (t 1, 300, .inr (.inr (.inr (.inr (va_up fc (p + (k + 1)) (some y))))))) hb
      rw [← e43] at h46
      have kp47 := kp0.up (a := b) (e := .inl (t 1, 300, .inr (.inr (.inr (.inr (va_up fc (p + (k + 1)) (some y))))))) (by simp)
      rw [← e43] at kp47
      have e0 := e43
      refine j_iinc O (nI (p + (k + 1) - 1)) [(3, .int (nI (p + (k + 1) - 1))), (0, .ref q), (1, .int (nI p)), (2, .ref x)] dQ_insertAt_24 rfl (sb_m1 (by omega)) (by decide) rfl ?_
      refine j_goto O 5 dQ_insertAt_27 (by decide) ?_
      refine J.pk [1, 2, 3, 0] rfl ?_
      have ek : p + (k + 1) - 1 = p + k := by omega
      rw [ek]
      refine ih _ _ (by omega) h44 h46 (by rw [e0]; exact hx.upA hb) (fun j hj z hz => by rw [e0]; exact (hrw j hj z hz).upA hb) (fun j hj => ?_) (fun j h3 h4 => ?_) kp47
      · rw [va_up_ne _ _ (by omega)]; exact h1 j (by omega)
      · rcases Nat.lt_or_ge (p + (k + 1)) j with z | z
        · rw [va_up_ne _ _ (by omega)]; exact h2 j z h4
        · have hj : j = p + (k + 1) := by omega
          rw [hj, va_up_self, ek]; exact hy.symm
set_option maxRecDepth 100000 in
set_option maxHeartbeats 4000000 in
theorem c_insertAt (l : Launch) (D : va_G) (t : Nat → ClassId) (A : Nat → Prop) (g : GH) (q b p x len : Nat) (f : Nat → Option Nat) (hq : gAt g q (eRL b (nI len))) (hb : gAt g b (eRs t 300 f)) (hx : isRow g x) (hrw : ∀ j, j < len → ∃ y, f j = some y ∧ isRow g y) (hpl : p ≤ len) (hl : len < 300) : Ct l yQ_insertAt sQ_insertAt { frames := 0, cells := 0, slots := 0, locals := 0 } (zz D t A) [.ref q, .int (nI p), .ref x] g 0 0 (fun v g' => v = none ∧ gAt g' q (eRL b (nI (len + 1))) ∧ ∃ f', gAt g' b (eRs t 300 f') ∧ (∀ j, j < p → f' j = f j) ∧ f' p = some x ∧ (∀ j, p < j → j ≤ len → f' j = f (j - 1)) ∧ Kp [q, b] g g') := by
  refine Ct.of (cc := bQ_insertAt) (maxL := 4) (ret := none) (by decide) (Nat.le_of_ble_eq_true rfl) (fun X hlx O M hN => ?_)
  show J X 4 (zz D t A) g 0 0 0 [(0, .ref q), (1, .int (nI p)), (2, .ref x)] []
  refine j_aload_n O 0 dQ_insertAt_0 rfl rfl ?_
  refine j_get O uwQ hq rfl 1 (by decide) w95 rfl rfl dQ_insertAt_1 ?_
  refine j_istore_n O 3 [(3, .int (nI len)), (0, .ref q), (1, .int (nI p)), (2, .ref x)] dQ_insertAt_4 rfl (by decide) rfl ?_
  refine J.pk [1, 2, 3, 0] rfl ?_
  have ek : len = p + (len - p) := by omega
  have K := insertAt_loop O M (fun j hj => (hrw j hj).elim (fun y h => ⟨y, h.1⟩)) hpl hl (len - p) g f (by omega) hq hb hx (fun j hj y hy => by
    obtain ⟨z, h1, h2⟩ := hrw j hj
    rw [hy] at h1
    cases h1
    exact h2) (fun j _ => rfl) (fun j h1 h2 => by omega) Kp.rf
  rw [← ek] at K
  exact K
set_option maxRecDepth 100000 in
set_option maxHeartbeats 4000000 in
theorem takeAt_loop {X : CX} {D : va_G} {t : Nat → ClassId} {A : Nat → Prop} {rm : Room} {g : GH} {q b p len : Nat} {f : Nat → Option Nat} (O : Ok X bQ_takeAt 3 "TwinTrees$RowList" (zz D t A) rm) (M : Om X (zz D t A) none 0 0 (fun v g' => v = none ∧ gAt g' q (eRL b (nI len)) ∧ ∃ f', gAt g' b (eRs t 300 f') ∧ (∀ j, j < p → f' j = f j) ∧ (∀ j, p ≤ j → j < len → f' j = f (j + 1)) ∧ Kp [q, b] g g')) (hx0 : ∀ j, j ≤ len → ∃ y, f j = some y) (hl : len < 300) : ∀ (k i : Nat) (g1 : GH) (fc : Nat → Option Nat), i + k = len → p ≤ i → gAt g1 q (eRL b (nI len)) → gAt g1 b (eRs t 300 fc) → (∀ j, j ≤ len → ∀ y, f j = some y → isRow g1 y) → (∀ j, j < p → fc j = f j) → (∀ j, p ≤ j → j < i → fc j = f (j + 1)) → (∀ j, i ≤ j → fc j = f j) → Kp [q, b] g g1 → J X 3 (zz D t A) g1 0 0 12 [(0, .ref q), (1, .int (nI p)), (2, .int (nI i))] [] := by
  intro k
  induction k with
  | zero =>
    intro i g1 fc hk hpi hq hb hrw h1 h2 h3 kp0
    have hi : i = len := by omega
    subst hi
    refine j_iload_n O 2 dQ_takeAt_12 rfl rfl ?_
    refine j_aload_n O 0 dQ_takeAt_13 rfl rfl ?_
    refine j_get O uwQ hq rfl 1 (by decide) w95 rfl rfl dQ_takeAt_14 ?_
    refine j_icmp_ge O 40 dQ_takeAt_17 (by decide) (fun c1 => ?_) (fun c1 => ?_)
    · exact j_vret O M (Nat.le_of_ble_eq_true rfl) (Nat.le_of_ble_eq_true rfl) ⟨rfl, hq, fc, hb, h1, h2, kp0⟩ dQ_takeAt_40
    · exact absurd (nI_le (Nat.le_refl _) (by omega)) c1
  | succ k ih =>
    intro i g1 fc hk hpi hq hb hrw h1 h2 h3 kp0
    obtain ⟨y, hy⟩ := hx0 (i + 1) (by omega)
    obtain ⟨rk, rc, rn, rl, rp, hyc⟩ := hrw (i + 1) (by omega) y hy
    have hfy : fc (i + 1) = some y := by rw [h3 (i + 1) (by omega)]; exact hy
    refine j_iload_n O 2 dQ_takeAt_12 rfl rfl ?_
    refine j_aload_n O 0 dQ_takeAt_13 rfl rfl ?_
    refine j_get O uwQ hq rfl 1 (by decide) w95 rfl rfl dQ_takeAt_14 ?_
    refine j_icmp_ge O 40 dQ_takeAt_17 (by decide) (fun c1 => ?_) (fun c1 => ?_)
    · exact absurd c1 (nI_ge (by omega) (by omega))
    · refine j_aload_n O 0 dQ_takeAt_20 rfl rfl ?_
      refine j_get O uwQ hq rfl 0 (by decide) w92 rfl rfl dQ_takeAt_21 ?_
      refine j_iload_n O 2 dQ_takeAt_24 rfl rfl ?_
      refine j_aload_n O 0 dQ_takeAt_25 rfl rfl ?_
      refine j_get O uwQ hq rfl 0 (by decide) w92 rfl rfl dQ_takeAt_26 ?_
      refine j_iload_n O 2 dQ_takeAt_29 rfl rfl ?_
      refine j_iconst O (v := 1) dQ_takeAt_30 (by decide) ?_
      refine j_iadd O dQ_takeAt_31 ?_
      refine j_eqi (nI (i + 1)) (nI_1 _) ?_
      refine j_aald O hb 1 rfl (by omega) (by omega) dQ_takeAt_32 ?_
      refine j_some y hfy ?_
      refine j_aast O hb 1 rfl hyc rfl (by omega) (by omega) dQ_takeAt_33 (fun g48 e49 => ?_)
      have h50 := gUp_ne (e' := .inl (t 1, 300, .inr (.inr (.inr (.inr (va_up fc i (some y))))))) hq (hq.ne hb (by simp))
      rw [← e49] at h50
      have h51 := gUp_ne (e' := .inl (t 1, 300, .inr (.inr (.inr (.inr (va_up fc i (some y))))))) hyc (hyc.ne hb (by simp))
      rw [← e49] at h51
      have h52 := gUp_self (e' := .inl (t 1, 300, .inr (.inr (.inr (.inr (va_up fc i (some y))))))) hb
      rw [← e49] at h52
      have kp53 := kp0.up (a := b) (e := .inl (t 1, 300, .inr (.inr (.inr (.inr (va_up fc i (some y))))))) (by simp)
      rw [← e49] at kp53
      have e0 := e49
      refine j_iinc O (nI (i + 1)) [(2, .int (nI (i + 1))), (0, .ref q), (1, .int (nI p))] dQ_takeAt_34 rfl (nI_1 _) (by decide) rfl ?_
      refine j_goto O 12 dQ_takeAt_37 (by decide) ?_
      refine J.pk [1, 2, 0] rfl ?_
      refine ih (i + 1) _ _ (by omega) (by omega) h50 h52 (fun j hj z hz => by rw [e0]; exact (hrw j hj z hz).upA hb) (fun j hj => ?_) (fun j h4 h5 => ?_) (fun j hj => ?_) kp53
      · rw [va_up_ne _ _ (by omega)]; exact h1 j hj
      · rcases Nat.lt_or_ge j i with z | z
        · rw [va_up_ne _ _ (by omega)]; exact h2 j h4 z
        · have hj : j = i := by omega
          rw [hj, va_up_self]; exact hy.symm
      · rw [va_up_ne _ _ (by omega)]; exact h3 j (by omega)
set_option maxRecDepth 100000 in
set_option maxHeartbeats 4000000 in
theorem c_takeAt (l : Launch) (D : va_G) (t : Nat → ClassId) (A : Nat → Prop) (g : GH) (q b p len : Nat) (f : Nat → Option Nat) (hq : gAt g q (eRL b (nI (len + 1)))) (hb : gAt g b (eRs t 300 f)) (hrw : ∀ j, j ≤ len → ∃ y, f j = some y ∧ isRow g y) (hpl : p ≤ len) (hl : len < 300) : Ct l yQ_takeAt sQ_takeAt { frames := 0, cells := 0, slots := 0, locals := 0 } (zz D t A) [.ref q, .int (nI p)] g 0 0 (fun v g' => v = none ∧ gAt g' q (eRL b (nI len)) ∧ ∃ f', gAt g' b (eRs t 300 f') ∧ (∀ j, j < p → f' j = f j) ∧ (∀ j, p ≤ j → j < len → f' j = f (j + 1)) ∧ Kp [q, b] g g') := by
  refine Ct.of (cc := bQ_takeAt) (maxL := 3) (ret := none) (by decide) (Nat.le_of_ble_eq_true rfl) (fun X hlx O M hN => ?_)
  show J X 3 (zz D t A) g 0 0 0 [(0, .ref q), (1, .int (nI p))] []
  have kp0 : Kp [q, b] g g := Kp.rf
  refine j_aload_n O 0 dQ_takeAt_0 rfl rfl ?_
  refine j_dup O dQ_takeAt_1 rfl ?_
  refine j_get O uwQ hq rfl 1 (by decide) w95 rfl rfl dQ_takeAt_2 ?_
  refine j_iconst O (v := 1) dQ_takeAt_5 (by decide) ?_
  refine j_isub O dQ_takeAt_6 ?_
  refine j_eqi (nI (len + 1 - 1)) (pk_sub (b := 1) (by omega)) ?_
  refine j_eqi (nI len) (by rw [show len + 1 - 1 = len by omega]) ?_
  refine j_put O uwQ hq rfl 1 (by decide) w95 rfl tQ ftQ fnQ rfl (.int) (by decide +kernel) rfl rfl (Nat.le_of_ble_eq_true rfl) [.ref b, .int (nI len)] rfl dQ_takeAt_7 (fun g54 e55 => ?_)
  have h56 := gUp_ne (e' := .inr (4, [.ref b, .int (nI len)])) hb (hb.ne hq (by simp))
  rw [← e55] at h56
  have h57 := gUp_self (e' := .inr (4, [.ref b, .int (nI len)])) hq
  rw [← e55] at h57
  have kp58 := kp0.up (a := q) (e := .inr (4, [.ref b, .int (nI len)])) (by simp)
  rw [← e55] at kp58
  refine j_iload_n O 1 dQ_takeAt_10 rfl rfl ?_
  refine j_istore_n O 2 [(2, .int (nI p)), (0, .ref q), (1, .int (nI p))] dQ_takeAt_11 rfl (by decide) rfl ?_
  refine J.pk [1, 2, 0] rfl ?_
  exact takeAt_loop O M (fun j hj => (hrw j hj).elim (fun y h => ⟨y, h.1⟩)) hl (len - p) p _ f (by omega) (Nat.le_refl _) h57 h56 (fun j hj y hy => by
    obtain ⟨z, h1, h2⟩ := hrw j hj
    rw [hy] at h1
    cases h1
    obtain ⟨a1, a2, a3, a4, a5, h3⟩ := h2
    rw [e55]
    exact ⟨a1, a2, a3, a4, a5, gUp_ne h3 (h3.ne hq (by simp))⟩) (fun j _ => rfl) (fun j h1 h2 => by omega) (fun j _ => rfl) kp58
