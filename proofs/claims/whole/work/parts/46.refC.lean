section JR7
variable {X : CX} {cc : ByteArray} {nL : Nat} {own : String} {Z : ZZ} {rm : Room} {g : GH} {k n pc : Nat} {lv : List (Nat × Value)} {st : List Value}
/-- an element of an array of arrays -/
theorem j_aaldA (O : Ok X cc nL own Z rm) {a : Nat} {cA : ClassId} {E : FieldType} {N : Nat} {f : Nat → Option Nat} (ha : gAt g a (.inl (cA, N, .inr (.inr (.inr (.inr f)))))) (t0 : Nat) (ht : Z.2.2.1[t0]? = some (cA, .array E)) {i : Nat} (hi : i < N) (hN : N < 2 ^ 31) (d : decode cc pc = .ok (.aaload, 1)) (kk : J X nL Z g k n (pc + 1) lv (va_rf (f i) :: st)) : J X nL Z g k n pc lv (.int (nI i) :: .ref a :: st) := by
  intro H locs ls a0 b h
  obtain ⟨q, hq⟩ := ha.k
  have hin := vp_in_nI hi hN
  have ec : (nI i).toNatClampNeg = i := nI_clamp (by omega)
  exact W.aald (v := va_rf (f i)) (ty := .array E) O.1.1 O.1.2.1 (a0.1 q _ hq) ((O.2.1.2 t0 _ ht).1 N (fun j => va_rf (f j))) rfl (fun q => by cases q) (by show ¬ (_ < 0 ∨ (arrV _ _ _).slots.size ≤ _); rw [arrV_size]; exact hin) (by show (arrV _ _ _).slots[_]? = _; rw [ec, arrV_read _ _ hi]) rfl rfl d (kk H locs ls a0 b h)
end JR7
/-! the reference's world: u names its cells (0 columns .. 18 made in the order of the fields, 19 the object, 20 .. 25 the keys, 26 .. 31 the cells of a table) -/
abbrev eII (t : Nat → ClassId) (n : Nat) (f : Nat → Option Nat) : va_E := .inl (t 4, n, .inr (.inr (.inr (.inr f))))
abbrev eLL (t : Nat → ClassId) (n : Nat) (f : Nat → Option Nat) : va_E := .inl (t 5, n, .inr (.inr (.inr (.inr f))))
abbrev eM (u : Nat → Nat) (oc om df nn us lm mm ta co si : Int32) : va_E := .inr (6, [.ref (u 0), .ref (u 1), .ref (u 2), .ref (u 3), .int oc, .int om, .ref (u 4), .ref (u 5), .ref (u 6), .ref (u 7), .ref (u 8), .int df, .ref (u 9), .ref (u 10), .ref (u 11), .ref (u 12), .ref (u 13), .ref (u 14), .ref (u 15), .int nn, .int us, .ref (u 16), .ref (u 17), .int lm, .ref (u 18), .int mm, .int ta, .int co, .int si])
/-- a cell as the reference keeps it -/
def cv (r : RV) (c : Nat) : Int64 := if bitN r.2.2 c then -9223372036854775808 else (r.2.1.getD c 0).toInt64
def tabOK (fk : Nat → Int32) (fc : Nat → Int64) (w : Nat) (rs : List RV) : Prop := ∀ r (h : r < rs.length), fk r = rs[r].1 ∧ ∀ c, c < w → fc (6 * r + c) = cv rs[r] c
/-- the tables' arrays -/
def RT (t : Nat → ClassId) (g : GH) (u : Nat → Nat) (tb : TB) : Prop :=
  (∃ f, gAt g (u 0) (eI t 6 f) ∧ ∀ i, i < 6 → f i = nI (tb i).1) ∧ (∃ f, gAt g (u 1) (eI t 6 f) ∧ ∀ i, i < 6 → f i = nI (tb i).2.length) ∧
  (∃ f, gAt g (u 2) (eII t 6 f) ∧ ∀ i, i < 6 → f i = some (u (20 + i))) ∧ (∃ f, gAt g (u 3) (eLL t 6 f) ∧ ∀ i, i < 6 → f i = some (u (26 + i))) ∧
  ∀ i, i < 6 → ∃ fk fc, gAt g (u (20 + i)) (eI t 301 fk) ∧ gAt g (u (26 + i)) (eL t 1806 fc) ∧ tabOK fk fc (tb i).1 (tb i).2
set_option maxRecDepth 100000 in
set_option maxHeartbeats 1000000 in
theorem M_place_loop {X : CX} {D : va_G} {t : Nat → ClassId} {A : Nat → Prop} {rm : Room} {g : GH} {u : Nat → Nat} {oc om df nn us lm mm ta co si key : Int32} {tb : TB} {i : Nat} (O : Ok X bM_placeOf 4 "TwinTreesModel" (zz D t A) rm) (M : Om X (zz D t A) (some .int) 0 0 (fun v g' => v = some (.int (nI (plc key (tb i).2))) ∧ g' = g)) (hM : gAt g (u 19) (eM u oc om df nn us lm mm ta co si)) (hRT : RT t g u tb) (i6 : i < 6) (hl3 : (tb i).2.length ≤ 300) : ∀ (n at0 : Nat), at0 + n = (tb i).2.length → (∀ j (h : j < (tb i).2.length), j < at0 → (tb i).2[j].1 < key) → J X 4 (zz D t A) g 0 0 2 [(0, .ref (u 19)), (1, .int (nI i)), (2, .int key), (3, .int (nI at0))] [] := by
  obtain ⟨⟨fC, hC, hCv⟩, ⟨fN, hNn0, hNv⟩, ⟨fK, hK, hKv⟩, ⟨fL, hL, hLv⟩, hrow⟩ := id hRT
  obtain ⟨fk, fc, hk, hc, htab⟩ := hrow i i6
  have hNi := hNv i i6
  have hKi := hKv i i6
  intro n
  induction n with
  | zero =>
    intro at0 hn hlow
    have e : at0 = (tb i).2.length := by omega
    subst e
    have ep := plc_of key (tb i).2 _ (Nat.le_refl _) hlow (fun h => absurd h (by omega))
    rw [ep] at M
    refine j_iload_n O 3 dM_placeOf_2 rfl rfl ?_
    refine j_aload_n O 0 dM_placeOf_3 rfl rfl ?_
    refine j_get O uwM hM rfl 1 (by decide) w448 rfl rfl dM_placeOf_4 ?_
    refine j_iload_n O 1 dM_placeOf_7 rfl rfl ?_
    refine j_iald O hNn0 0 rfl (by omega) (by omega) dM_placeOf_8 ?_
    refine j_eqi (nI (tb i).2.length) hNi ?_
    refine j_icmp_ge O 30 dM_placeOf_9 (by decide) (fun c => ?_) (fun c => absurd (nI_le (Nat.le_refl _) (by omega)) c)
    refine j_iload_n O 3 dM_placeOf_30 rfl rfl ?_
    exact j_iret O M (Nat.le_of_ble_eq_true rfl) (Nat.le_of_ble_eq_true rfl) ⟨rfl, rfl⟩ dM_placeOf_31
  | succ n ih =>
    intro at0 hn hlow
    have hlt : at0 < (tb i).2.length := by omega
    have hkv := (htab at0 hlt).1
    refine j_iload_n O 3 dM_placeOf_2 rfl rfl ?_
    refine j_aload_n O 0 dM_placeOf_3 rfl rfl ?_
    refine j_get O uwM hM rfl 1 (by decide) w448 rfl rfl dM_placeOf_4 ?_
    refine j_iload_n O 1 dM_placeOf_7 rfl rfl ?_
    refine j_iald O hNn0 0 rfl (by omega) (by omega) dM_placeOf_8 ?_
    refine j_eqi (nI (tb i).2.length) hNi ?_
    refine j_icmp_ge O 30 dM_placeOf_9 (by decide) (fun c => absurd c (nI_ge hlt (by omega))) (fun c => ?_)
    refine j_aload_n O 0 dM_placeOf_12 rfl rfl ?_
    refine j_get O uwM hM rfl 2 (by decide) w449 rfl rfl dM_placeOf_13 ?_
    refine j_iload_n O 1 dM_placeOf_16 rfl rfl ?_
    refine j_aaldA O hK 4 rfl (by omega) (by omega) dM_placeOf_17 ?_
    refine j_some (u (20 + i)) hKi ?_
    refine j_iload_n O 3 dM_placeOf_18 rfl rfl ?_
    refine j_iald O hk 0 rfl (by omega) (by omega) dM_placeOf_19 ?_
    refine j_eqi ((tb i).2[at0].1) hkv ?_
    refine j_iload_n O 2 dM_placeOf_20 rfl rfl ?_
    refine j_icmp_ge O 30 dM_placeOf_21 (by decide) (fun c1 => ?_) (fun c1 => ?_)
    · have ep := plc_of key (tb i).2 at0 (by omega) hlow (fun h z => absurd (Int32.lt_iff_toInt_lt.mp z) (by have := Int32.le_iff_toInt_le.mp c1; omega))
      rw [ep] at M
      refine j_iload_n O 3 dM_placeOf_30 rfl rfl ?_
      exact j_iret O M (Nat.le_of_ble_eq_true rfl) (Nat.le_of_ble_eq_true rfl) ⟨rfl, rfl⟩ dM_placeOf_31
    · refine j_iinc O (nI (at0 + 1)) [(3, .int (nI (at0 + 1))), (0, .ref (u 19)), (1, .int (nI i)), (2, .int key)] dM_placeOf_24 rfl (nI_1 _) (by decide) rfl ?_
      refine j_goto O 2 dM_placeOf_27 (by decide) ?_
      refine J.pk [1, 2, 3, 0] rfl ?_
      exact ih (at0 + 1) (by omega) (fun j h hj => by
        rcases Nat.lt_or_ge j at0 with z | z
        · exact hlow j h z
        · have e : j = at0 := by omega
          subst e
          exact Int32.lt_iff_toInt_lt.mpr (by have q : ¬ key.toInt ≤ (tb i).2[j].1.toInt := fun q => c1 (Int32.le_iff_toInt_le.mpr q); omega))
set_option maxRecDepth 100000 in
set_option maxHeartbeats 1000000 in
theorem c_M_placeOf (l : Launch) (D : va_G) (t : Nat → ClassId) (A : Nat → Prop) (g : GH) (u : Nat → Nat) (oc om df nn us lm mm ta co si : Int32) (tb : TB) (i : Nat) (key : Int32) (hM : gAt g (u 19) (eM u oc om df nn us lm mm ta co si)) (hRT : RT t g u tb) (i6 : i < 6) (hl3 : (tb i).2.length ≤ 300) : Ct l yM_placeOf sM_placeOf { frames := 0, cells := 0, slots := 0, locals := 0 } (zz D t A) [.ref (u 19), .int (nI i), .int key] g 0 0 (fun v g' => v = some (.int (nI (plc key (tb i).2))) ∧ g' = g) := by
  refine Ct.of (cc := bM_placeOf) (maxL := 4) (ret := (some .int)) (by decide) (Nat.le_of_ble_eq_true rfl) (fun X hlX O M hNn => ?_)
  show J X 4 (zz D t A) g 0 0 0 [(0, .ref (u 19)), (1, .int (nI i)), (2, .int key)] []
  refine j_iconst O (v := 0) dM_placeOf_0 (by decide) ?_
  refine j_istore_n O 3 [(3, .int 0), (0, .ref (u 19)), (1, .int (nI i)), (2, .int key)] dM_placeOf_1 rfl (by decide) rfl ?_
  refine J.pk [1, 2, 3, 0] rfl ?_
  exact M_place_loop O M hM hRT i6 hl3 (tb i).2.length 0 (by omega) (fun j h hj => by omega)
set_option maxRecDepth 100000 in
set_option maxHeartbeats 1000000 in
theorem c_M_find (l : Launch) (D : va_G) (t : Nat → ClassId) (A : Nat → Prop) (g : GH) (u : Nat → Nat) (oc om df nn us lm mm ta co si : Int32) (tb : TB) (i : Nat) (key : Int32) (hM : gAt g (u 19) (eM u oc om df nn us lm mm ta co si)) (hRT : RT t g u tb) (i6 : i < 6) (hl3 : (tb i).2.length ≤ 300) : Ct l yM_find sM_find { frames := 1, cells := 0, slots := 0, locals := 40 } (zz D t A) [.ref (u 19), .int (nI i), .int key] g 0 0 (fun v g' => v = some (.int (if ∃ h : plc key (tb i).2 < (tb i).2.length, (tb i).2[plc key (tb i).2].1 = key then nI (plc key (tb i).2) else -1)) ∧ g' = g) := by
  refine Ct.of (cc := bM_find) (maxL := 4) (ret := (some .int)) (by decide) (Nat.le_of_ble_eq_true rfl) (fun X hlX O M hNn => ?_)
  show J X 4 (zz D t A) g 0 0 0 [(0, .ref (u 19)), (1, .int (nI i)), (2, .int key)] []
  obtain ⟨⟨fC, hC, hCv⟩, ⟨fN, hNn0, hNv⟩, ⟨fK, hK, hKv⟩, ⟨fL, hL, hLv⟩, hrow⟩ := id hRT
  obtain ⟨fk, fc, hk, hc, htab⟩ := hrow i i6
  have hNi := hNv i i6
  have hKi := hKv i i6
  have hple := plc_le key (tb i).2
  refine j_aload_n O 0 dM_find_0 rfl rfl ?_
  refine j_iload_n O 1 dM_find_1 rfl rfl ?_
  refine j_iload_n O 2 dM_find_2 rfl rfl ?_
  refine j_callV O [.int (nI i), .int key] (c_M_placeOf X.2.1 D t A g u oc om df nn us lm mm ta co si tb i key hM hRT i6 hl3) hM rfl w559 w560 w19 w28 w561 2 rfl rfl rfl (by decide +kernel) ⟨(Nat.le_of_ble_eq_true rfl), (Nat.le_of_ble_eq_true rfl)⟩ rfl (Nat.le_of_ble_eq_true rfl) dM_find_3 ⟨(Nat.le_of_ble_eq_true rfl), (Nat.le_of_ble_eq_true rfl)⟩ (fun vw5 gw6 hpw7 => ?_)
  obtain ⟨rfl, hgw8⟩ := hpw7
  have hgw8 := hgw8.symm
  subst hgw8
  refine j_istore_n O 3 [(3, .int (nI (plc key (tb i).2))), (0, .ref (u 19)), (1, .int (nI i)), (2, .int key)] dM_find_6 rfl (by decide) rfl ?_
  refine j_iload_n O 3 dM_find_7 rfl rfl ?_
  refine j_aload_n O 0 dM_find_8 rfl rfl ?_
  refine j_get O uwM hM rfl 1 (by decide) w448 rfl rfl dM_find_9 ?_
  refine j_iload_n O 1 dM_find_12 rfl rfl ?_
  refine j_iald O hNn0 0 rfl (by omega) (by omega) dM_find_13 ?_
  refine j_eqi (nI (tb i).2.length) hNi ?_
  refine j_icmp_ge O 33 dM_find_14 (by decide) (fun c1 => ?_) (fun c1 => ?_)
  · have hno : ¬ ∃ h : plc key (tb i).2 < (tb i).2.length, (tb i).2[plc key (tb i).2].1 = key := fun ⟨h, _⟩ => absurd c1 (nI_ge h (by omega))
    rw [if_neg hno] at M
    refine j_iconst O (v := -1) dM_find_33 (by decide) ?_
    exact j_iret O M (Nat.le_of_ble_eq_true rfl) (Nat.le_of_ble_eq_true rfl) ⟨rfl, rfl⟩ dM_find_34
  · have hlt : plc key (tb i).2 < (tb i).2.length := by
      rcases Nat.lt_or_ge (plc key (tb i).2) (tb i).2.length with z | z
      · exact z
      · exact absurd (nI_le z (by omega)) c1
    have hkv := (htab _ hlt).1
    refine j_aload_n O 0 dM_find_17 rfl rfl ?_
    refine j_get O uwM hM rfl 2 (by decide) w449 rfl rfl dM_find_18 ?_
    refine j_iload_n O 1 dM_find_21 rfl rfl ?_
    refine j_aaldA O hK 4 rfl (by omega) (by omega) dM_find_22 ?_
    refine j_some (u (20 + i)) hKi ?_
    refine j_iload_n O 3 dM_find_23 rfl rfl ?_
    refine j_iald O hk 0 rfl (by omega) (by omega) dM_find_24 ?_
    refine j_eqi ((tb i).2[plc key (tb i).2].1) hkv ?_
    refine j_iload_n O 2 dM_find_25 rfl rfl ?_
    refine j_icmp_ne O 33 dM_find_26 (by decide) (fun c2 => ?_) (fun c2 => ?_)
    · have hno : ¬ ∃ h : plc key (tb i).2 < (tb i).2.length, (tb i).2[plc key (tb i).2].1 = key := fun ⟨_, h⟩ => c2 h
      rw [if_neg hno] at M
      refine j_iconst O (v := -1) dM_find_33 (by decide) ?_
      exact j_iret O M (Nat.le_of_ble_eq_true rfl) (Nat.le_of_ble_eq_true rfl) ⟨rfl, rfl⟩ dM_find_34
    · have hyes : ∃ h : plc key (tb i).2 < (tb i).2.length, (tb i).2[plc key (tb i).2].1 = key := ⟨hlt, c2⟩
      rw [if_pos hyes] at M
      refine j_iload_n O 3 dM_find_29 rfl rfl ?_
      refine j_goto O 34 dM_find_30 (by decide) ?_
      exact j_iret O M (Nat.le_of_ble_eq_true rfl) (Nat.le_of_ble_eq_true rfl) ⟨rfl, rfl⟩ dM_find_34
