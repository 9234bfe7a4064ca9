/-! the reference's hash and its look at one node -/
def hX (h w : Int32) (f : Nat → Int64) : Nat → Int64
  | 0 => 31 * h.toInt64 + w.toInt64
  | n + 1 => hX h w f n * 1000003 + f n
def hsh (h w : Int32) (f : Nat → Int64) (m : Nat) : Int32 := (hX h w f m ^^^ ((hX h w f m).toUInt64 >>> ((29 : Int32).toInt64.toUInt64 &&& Int64.toUInt64 63)).toInt64).toInt32 &&& 4095
theorem hX_congr {h w : Int32} {f f' : Nat → Int64} : ∀ m, (∀ k, k < m → f k = f' k) → hX h w f m = hX h w f' m
  | 0, _ => rfl
  | m + 1, e => by rw [hX, hX, hX_congr m (fun k hk => e k (by omega)), e m (by omega)]
theorem hsh_congr {h w : Int32} {f f' : Nat → Int64} {m : Nat} (e : ∀ k, k < m → f k = f' k) : hsh h w f m = hsh h w f' m := by
  unfold hsh
  rw [hX_congr m e]
theorem hsh_lt (h w : Int32) (f : Nat → Int64) (m : Nat) : ∃ b, b < 4096 ∧ hsh h w f m = nI b := by
  refine ⟨(hsh h w f m).toBitVec.toNat, ?_, ?_⟩
  · unfold hsh
    generalize (hX h w f m ^^^ _).toInt32 = z
    show (z.toBitVec &&& 4095#32).toNat < 4096
    rw [BitVec.toNat_and]
    have : z.toBitVec.toNat &&& (4095#32).toNat ≤ (4095#32).toNat := Nat.and_le_right
    have e : (4095#32).toNat = 4095 := rfl
    omega
  · apply Int32.toBitVec_inj.mp
    apply BitVec.eq_of_toNat_eq
    rw [pk_tn (hsh h w f m).toBitVec.isLt]
set_option maxRecDepth 100000 in
set_option maxHeartbeats 1000000 in
theorem hash_loop {X : CX} {D : va_G} {t : Nat → ClassId} {A : Nat → Prop} {rm : Room} {g : GH} {u : Nat → Nat} {oc om df nn us lm ta co si : Int32} {m : Nat} {h w : Int32} {fm : Nat → Int64} (O : Ok X bM_hash 6 "TwinTreesModel" (zz D t A) rm) (M : Om X (zz D t A) (some .int) 0 0 (fun v g' => v = some (.int (hsh h w fm m)) ∧ g' = g)) (hM : gAt g (u 19) (eM u oc om df nn us lm (nI m) ta co si)) (hm : gAt g (u 18) (eL t 2100 fm)) (hm2 : m ≤ 2100) : ∀ (n k : Nat), k + n = m → J X 6 (zz D t A) g 0 0 13 [(0, .ref (u 19)), (3, .long (hX h w fm k)), (5, .int (nI k))] [] := by
  intro n
  induction n with
  | zero =>
    intro k hk
    have e : k = m := by omega
    subst e
    refine j_iload O dM_hash_13 rfl ?_
    refine j_aload_n O 0 dM_hash_15 rfl rfl ?_
    refine j_get O uwM hM rfl 25 (by decide) w472 rfl rfl dM_hash_16 ?_
    refine j_icmp_ge O 42 dM_hash_19 (by decide) (fun c => ?_) (fun c => absurd (nI_le (Nat.le_refl _) (by omega)) c)
    refine j_lload_n O 3 dM_hash_42 rfl rfl ?_
    refine j_lload_n O 3 dM_hash_43 rfl rfl ?_
    refine j_bipush O (v := 29) dM_hash_44 (by decide) ?_
    refine j_lushr O dM_hash_46 ?_
    refine j_lxor O dM_hash_47 ?_
    refine j_l2i O dM_hash_48 ?_
    refine j_sipush O (v := 4095) dM_hash_49 (by decide) ?_
    refine j_iand O dM_hash_52 ?_
    exact j_iret O M (Nat.le_of_ble_eq_true rfl) (Nat.le_of_ble_eq_true rfl) ⟨rfl, rfl⟩ dM_hash_53
  | succ n ih =>
    intro k hk
    refine j_iload O dM_hash_13 rfl ?_
    refine j_aload_n O 0 dM_hash_15 rfl rfl ?_
    refine j_get O uwM hM rfl 25 (by decide) w472 rfl rfl dM_hash_16 ?_
    refine j_icmp_ge O 42 dM_hash_19 (by decide) (fun c => absurd c (nI_ge (by omega) (by omega))) (fun c => ?_)
    refine j_lload_n O 3 dM_hash_22 rfl rfl ?_
    refine j_ldc2 O 1000003 w440 dM_hash_23 ?_
    refine j_lmul O dM_hash_26 ?_
    refine j_aload_n O 0 dM_hash_27 rfl rfl ?_
    refine j_get O uwM hM rfl 24 (by decide) w471 rfl rfl dM_hash_28 ?_
    refine j_iload O dM_hash_31 rfl ?_
    refine j_lald O hm 3 rfl (by omega) (by omega) dM_hash_33 ?_
    refine j_ladd O dM_hash_34 ?_
    refine j_lstore_n O 3 [(3, .long (((hX h w fm k) * 1000003) + (fm k))), (0, .ref (u 19)), (5, .int (nI k))] dM_hash_35 rfl (by decide) rfl ?_
    refine j_iinc O (nI (k + 1)) [(5, .int (nI (k + 1))), (3, .long (((hX h w fm k) * 1000003) + (fm k))), (0, .ref (u 19))] dM_hash_36 rfl (nI_1 _) (by decide) rfl ?_
    refine j_goto O 13 dM_hash_39 (by decide) ?_
    refine J.pk [2, 1, 0] rfl ?_
    exact ih (k + 1) (by omega)
set_option maxRecDepth 100000 in
set_option maxHeartbeats 1000000 in
theorem c_M_hash (l : Launch) (D : va_G) (t : Nat → ClassId) (A : Nat → Prop) (g : GH) (u : Nat → Nat) (oc om df nn us lm ta co si : Int32) (m : Nat) (h w : Int32) (fm : Nat → Int64) (hM : gAt g (u 19) (eM u oc om df nn us lm (nI m) ta co si)) (hm : gAt g (u 18) (eL t 2100 fm)) (hm2 : m ≤ 2100) : Ct l yM_hash sM_hash { frames := 0, cells := 0, slots := 0, locals := 0 } (zz D t A) [.ref (u 19), .int h, .int w] g 0 0 (fun v g' => v = some (.int (hsh h w fm m)) ∧ g' = g) := by
  refine Ct.of (cc := bM_hash) (maxL := 6) (ret := (some .int)) (by decide) (Nat.le_of_ble_eq_true rfl) (fun X hlX O M hNn => ?_)
  show J X 6 (zz D t A) g 0 0 0 [(0, .ref (u 19)), (1, .int h), (2, .int w)] []
  refine j_ldc2 O 31 w439 dM_hash_0 ?_
  refine j_iload_n O 1 dM_hash_3 rfl rfl ?_
  refine j_i2l O dM_hash_4 ?_
  refine j_lmul O dM_hash_5 ?_
  refine j_iload_n O 2 dM_hash_6 rfl rfl ?_
  refine j_i2l O dM_hash_7 ?_
  refine j_ladd O dM_hash_8 ?_
  refine j_lstore_n O 3 [(3, .long ((31 * h.toInt64) + w.toInt64)), (0, .ref (u 19)), (1, .int h), (2, .int w)] dM_hash_9 rfl (by decide) rfl ?_
  refine j_iconst O (v := 0) dM_hash_10 (by decide) ?_
  refine j_istore O [(5, .int 0), (3, .long ((31 * h.toInt64) + w.toInt64)), (0, .ref (u 19)), (1, .int h), (2, .int w)] dM_hash_11 (by decide) rfl ?_
  refine J.pk [2, 1, 0] rfl ?_
  exact hash_loop O M hM hm hm2 m 0 (by omega)
set_option maxRecDepth 100000 in
set_option maxHeartbeats 1000000 in
theorem isMade_loop {X : CX} {D : va_G} {t : Nat → ClassId} {A : Nat → Prop} {rm : Room} {g : GH} {u : Nat → Nat} {oc om df nn us lm ta co si : Int32} {m : Nat} {h w : Int32} {fm fp : Nat → Int64} {fh fb fl fw : Nat → Int32} {n0 b : Nat} (O : Ok X bM_isMade 5 "TwinTreesModel" (zz D t A) rm) (M : Om X (zz D t A) (some .boolean) 0 0 (fun v g' => ∃ z : Int32, v = some (.int z) ∧ ((z = 1 ∧ (fh n0 = h ∧ fw n0 = w ∧ fl n0 = nI m ∧ ∀ k, k < m → fp (b + k) = fm k)) ∨ (z = 0 ∧ ¬ (fh n0 = h ∧ fw n0 = w ∧ fl n0 = nI m ∧ ∀ k, k < m → fp (b + k) = fm k))) ∧ g' = g)) (hM : gAt g (u 19) (eM u oc om df nn us lm (nI m) ta co si)) (hm : gAt g (u 18) (eL t 2100 fm)) (hm2 : m ≤ 2100) (hh : gAt g (u 9) (eI t 60000 fh)) (hb : gAt g (u 10) (eI t 60000 fb)) (hl : gAt g (u 11) (eI t 60000 fl)) (hw : gAt g (u 12) (eI t 60000 fw)) (hp : gAt g (u 14) (eL t 60000 fp)) (hn : n0 < 60000) (hbn : fb n0 = nI b) (hbm : fl n0 = nI m → b + m ≤ 60000) (e1 : fh n0 = h) (e2 : fw n0 = w) (e3 : fl n0 = nI m) : ∀ (n k : Nat), k + n = m → (∀ j, j < k → fp (b + j) = fm j) → J X 5 (zz D t A) g 0 0 38 [(0, .ref (u 19)), (1, .int (nI n0)), (4, .int (nI k))] [] := by
  intro n
  induction n with
  | zero =>
    intro k hk hj
    have e : k = m := by omega
    subst e
    refine j_iload O dM_isMade_38 rfl ?_
    refine j_aload_n O 0 dM_isMade_40 rfl rfl ?_
    refine j_get O uwM hM rfl 25 (by decide) w472 rfl rfl dM_isMade_41 ?_
    refine j_icmp_ge O 80 dM_isMade_44 (by decide) (fun c => ?_) (fun c => absurd (nI_le (Nat.le_refl _) (by omega)) c)
    refine j_iconst O (v := 1) dM_isMade_80 (by decide) ?_
    exact j_zret O (by decide) M (Nat.le_of_ble_eq_true rfl) (Nat.le_of_ble_eq_true rfl) ⟨1, rfl, Or.inl ⟨rfl, e1, e2, e3, hj⟩, rfl⟩ dM_isMade_81
  | succ n ih =>
    intro k hk hj
    have hbm2 := hbm e3
    refine j_iload O dM_isMade_38 rfl ?_
    refine j_aload_n O 0 dM_isMade_40 rfl rfl ?_
    refine j_get O uwM hM rfl 25 (by decide) w472 rfl rfl dM_isMade_41 ?_
    refine j_icmp_ge O 80 dM_isMade_44 (by decide) (fun c => absurd c (nI_ge (by omega) (by omega))) (fun c => ?_)
    refine j_aload_n O 0 dM_isMade_47 rfl rfl ?_
    refine j_get O uwM hM rfl 17 (by decide) w464 rfl rfl dM_isMade_48 ?_
    refine j_aload_n O 0 dM_isMade_51 rfl rfl ?_
    refine j_get O uwM hM rfl 13 (by decide) w460 rfl rfl dM_isMade_52 ?_
    refine j_iload_n O 1 dM_isMade_55 rfl rfl ?_
    refine j_iald O hb 0 rfl (by omega) (by omega) dM_isMade_56 ?_
    refine j_eqi (nI b) hbn ?_
    refine j_iload O dM_isMade_57 rfl ?_
    refine j_iadd O dM_isMade_59 ?_
    refine j_eqi (nI (b + k)) (nI_add _ _) ?_
    refine j_lald O hp 3 rfl (by omega) (by omega) dM_isMade_60 ?_
    refine j_aload_n O 0 dM_isMade_61 rfl rfl ?_
    refine j_get O uwM hM rfl 24 (by decide) w471 rfl rfl dM_isMade_62 ?_
    refine j_iload O dM_isMade_65 rfl ?_
    refine j_lald O hm 3 rfl (by omega) (by omega) dM_isMade_67 ?_
    refine j_lcmp O dM_isMade_68 ?_
    refine j_if_eq O 74 dM_isMade_69 (by decide) (fun c1 => ?_) (fun c1 => ?_)
    · have heq : fp (b + k) = fm k := by
        unfold lg_cmp at c1
        split at c1
        · exact absurd c1 (by decide)
        · split at c1
          · next z => exact z
          · exact absurd c1 (by decide)
      refine j_iinc O (nI (k + 1)) [(4, .int (nI (k + 1))), (0, .ref (u 19)), (1, .int (nI n0))] dM_isMade_74 rfl (nI_1 _) (by decide) rfl ?_
      refine j_goto O 38 dM_isMade_77 (by decide) ?_
      refine J.pk [1, 2, 0] rfl ?_
      exact ih (k + 1) (by omega) (fun j hj2 => by
        rcases Nat.lt_or_ge j k with z | z
        · exact hj j z
        · have e : j = k := by omega
          rw [e]; exact heq)
    · have hne : ¬ fp (b + k) = fm k := fun z => c1 (by rw [z]; unfold lg_cmp; simp)
      refine j_iconst O (v := 0) dM_isMade_72 (by decide) ?_
      exact j_zret O (by decide) M (Nat.le_of_ble_eq_true rfl) (Nat.le_of_ble_eq_true rfl) ⟨0, rfl, Or.inr ⟨rfl, fun q => hne (q.2.2.2 k (by omega))⟩, rfl⟩ dM_isMade_73
set_option maxRecDepth 100000 in
set_option maxHeartbeats 1000000 in
theorem c_M_isMade (l : Launch) (D : va_G) (t : Nat → ClassId) (A : Nat → Prop) (g : GH) (u : Nat → Nat) (oc om df nn us lm ta co si : Int32) (m : Nat) (h w : Int32) (fm fp : Nat → Int64) (fh fb fl fw : Nat → Int32) (n0 b : Nat) (hM : gAt g (u 19) (eM u oc om df nn us lm (nI m) ta co si)) (hm : gAt g (u 18) (eL t 2100 fm)) (hm2 : m ≤ 2100) (hh : gAt g (u 9) (eI t 60000 fh)) (hb : gAt g (u 10) (eI t 60000 fb)) (hl : gAt g (u 11) (eI t 60000 fl)) (hw : gAt g (u 12) (eI t 60000 fw)) (hp : gAt g (u 14) (eL t 60000 fp)) (hn : n0 < 60000) (hbn : fb n0 = nI b) (hbm : fl n0 = nI m → b + m ≤ 60000) : Ct l yM_isMade sM_isMade { frames := 0, cells := 0, slots := 0, locals := 0 } (zz D t A) [.ref (u 19), .int (nI n0), .int h, .int w] g 0 0 (fun v g' => ∃ z : Int32, v = some (.int z) ∧ ((z = 1 ∧ (fh n0 = h ∧ fw n0 = w ∧ fl n0 = nI m ∧ ∀ k, k < m → fp (b + k) = fm k)) ∨ (z = 0 ∧ ¬ (fh n0 = h ∧ fw n0 = w ∧ fl n0 = nI m ∧ ∀ k, k < m → fp (b + k) = fm k))) ∧ g' = g) := by
  refine Ct.of (cc := bM_isMade) (maxL := 5) (ret := (some .boolean)) (by decide) (Nat.le_of_ble_eq_true rfl) (fun X hlX O M hNn => ?_)
  show J X 5 (zz D t A) g 0 0 0 [(0, .ref (u 19)), (1, .int (nI n0)), (2, .int h), (3, .int w)] []
  refine j_aload_n O 0 dM_isMade_0 rfl rfl ?_
  refine j_get O uwM hM rfl 12 (by decide) w459 rfl rfl dM_isMade_1 ?_
  refine j_iload_n O 1 dM_isMade_4 rfl rfl ?_
  refine j_iald O hh 0 rfl (by omega) (by omega) dM_isMade_5 ?_
  refine j_iload_n O 2 dM_isMade_6 rfl rfl ?_
  refine j_icmp_ne O 33 dM_isMade_7 (by decide) (fun c1 => ?_) (fun c1 => ?_)
  · refine j_iconst O (v := 0) dM_isMade_33 (by decide) ?_
    exact j_zret O (by decide) M (Nat.le_of_ble_eq_true rfl) (Nat.le_of_ble_eq_true rfl) ⟨0, rfl, Or.inr ⟨rfl, fun q => c1 q.1⟩, rfl⟩ dM_isMade_34
  · refine j_aload_n O 0 dM_isMade_10 rfl rfl ?_
    refine j_get O uwM hM rfl 15 (by decide) w462 rfl rfl dM_isMade_11 ?_
    refine j_iload_n O 1 dM_isMade_14 rfl rfl ?_
    refine j_iald O hw 0 rfl (by omega) (by omega) dM_isMade_15 ?_
    refine j_iload_n O 3 dM_isMade_16 rfl rfl ?_
    refine j_icmp_ne O 33 dM_isMade_17 (by decide) (fun c2 => ?_) (fun c2 => ?_)
    · refine j_iconst O (v := 0) dM_isMade_33 (by decide) ?_
      exact j_zret O (by decide) M (Nat.le_of_ble_eq_true rfl) (Nat.le_of_ble_eq_true rfl) ⟨0, rfl, Or.inr ⟨rfl, fun q => c2 q.2.1⟩, rfl⟩ dM_isMade_34
    · refine j_aload_n O 0 dM_isMade_20 rfl rfl ?_
      refine j_get O uwM hM rfl 14 (by decide) w461 rfl rfl dM_isMade_21 ?_
      refine j_iload_n O 1 dM_isMade_24 rfl rfl ?_
      refine j_iald O hl 0 rfl (by omega) (by omega) dM_isMade_25 ?_
      refine j_aload_n O 0 dM_isMade_26 rfl rfl ?_
      refine j_get O uwM hM rfl 25 (by decide) w472 rfl rfl dM_isMade_27 ?_
      refine j_icmp_eq O 35 dM_isMade_30 (by decide) (fun c3 => ?_) (fun c3 => ?_)
      · refine j_iconst O (v := 0) dM_isMade_35 (by decide) ?_
        refine j_istore O [(4, .int 0), (0, .ref (u 19)), (1, .int (nI n0)), (2, .int h), (3, .int w)] dM_isMade_36 (by decide) rfl ?_
        refine J.pk [1, 2, 0] rfl ?_
        exact isMade_loop O M hM hm hm2 hh hb hl hw hp hn hbn hbm c1 c2 c3 m 0 (by omega) (fun j hj => by omega)
      · refine j_iconst O (v := 0) dM_isMade_33 (by decide) ?_
        exact j_zret O (by decide) M (Nat.le_of_ble_eq_true rfl) (Nat.le_of_ble_eq_true rfl) ⟨0, rfl, Or.inr ⟨rfl, fun q => c3 q.2.2.1⟩, rfl⟩ dM_isMade_34
