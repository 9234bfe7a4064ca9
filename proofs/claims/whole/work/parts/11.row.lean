/-- a fold over an array's first places -/
def prG (f : Nat → Int32) (b : Int32) : Nat → Int32
  | 0 => b
  | i + 1 => prG f b i * 31 + f i
theorem prG_fold (f : Nat → Int32) (b : Int32) : ∀ (cs : List Int32), (∀ i (h : i < cs.length), f i = cs[i]) → prG f b cs.length = cs.foldl (fun m c => m * 31 + c) b := by
  intro cs
  have key : ∀ n, n ≤ cs.length → (∀ i (h : i < cs.length), f i = cs[i]) → prG f b n = (cs.take n).foldl (fun m c => m * 31 + c) b := by
    intro n
    induction n with
    | zero => intro _ _; rfl
    | succ n ih =>
      intro hn hf
      rw [prG, ih (by omega) hf, hf n (by omega), List.take_succ_eq_append_getElem (by omega), List.foldl_append]
      rfl
  intro hf
  rw [key cs.length (Nat.le_refl _) hf, List.take_length]
/-- a row at an address -/
def rowAt (t : Nat → ClassId) (g : GH) (a : Nat) (r : RV) : Prop := ∃ (c : Nat) (f : Nat → Int32), gAt g a (eRow r.1 c r.2.2 (nI (lvl r.1)) (prt r)) ∧ gAt g c (eI t r.2.1.length f) ∧ ∀ i (h : i < r.2.1.length), f i = r.2.1[i]
set_option maxRecDepth 100000 in
set_option maxHeartbeats 4000000 in
theorem Row_init_loop {X : CX} {D : va_G} {t : Nat → ClassId} {A : Nat → Prop} {rm : Room} {g : GH} {a c n : Nat} {f : Nat → Int32} {b key nu lev : Int32} {P : Option Value → GH → Prop} (O : Ok X bR_init 9 "TwinTrees$Row" (zz D t A) rm) (M : Om X (zz D t A) none 0 0 (fun v g' => P v g')) (hN : On X) (ha : gAt g a (.inr (3, [.int key, .ref c, .int nu, .int lev, .int 0]))) (hc : gAt g c (eI t n f)) (hn : n < 2 ^ 31) (hP : P none (gUp g a (eRow key c nu lev (prG f b n)))) : ∀ (k i : Nat), i + k = n → J X 9 (zz D t A) g 0 0 46 [(0, .ref a), (4, .int (prG f b i)), (5, .ref c), (6, .int (nI n)), (7, .int (nI i))] [] := by
  intro k
  induction k with
  | zero =>
    intro i hi
    have hi : i = n := by omega
    subst hi
    refine j_iload O dR_init_46 rfl ?_
    refine j_iload O dR_init_48 rfl ?_
    refine j_icmp_ge O 76 dR_init_50 (by decide) (fun c1 => ?_) (fun c1 => ?_)
    · refine j_aload_n O 0 dR_init_76 rfl rfl ?_
      refine j_iload O dR_init_77 rfl ?_
      refine j_putF O hN uwR ha rfl 4 (by decide) w296 rfl tR ftR fnR rfl rfl (.int) (by decide +kernel) rfl rfl (Nat.le_of_ble_eq_true rfl) [.int key, .ref c, .int nu, .int lev, .int (prG f b i)] rfl dR_init_79 (fun g1 e2 => ?_)
      have h3 := gUp_ne (e' := .inr (3, [.int key, .ref c, .int nu, .int lev, .int (prG f b i)])) hc (hc.ne ha (by simp))
      rw [← e2] at h3
      have h4 := gUp_self (e' := .inr (3, [.int key, .ref c, .int nu, .int lev, .int (prG f b i)])) ha
      rw [← e2] at h4
      exact j_vret O M (Nat.le_of_ble_eq_true rfl) (Nat.le_of_ble_eq_true rfl) (by rw [e2]; exact hP) dR_init_82
    · exact absurd (nI_le (Nat.le_refl _) (by omega)) c1
  | succ k ih =>
    intro i hi
    refine j_iload O dR_init_46 rfl ?_
    refine j_iload O dR_init_48 rfl ?_
    refine j_icmp_ge O 76 dR_init_50 (by decide) (fun c1 => ?_) (fun c1 => ?_)
    · exact absurd c1 (nI_ge (by omega) (by omega))
    · refine j_aload O dR_init_53 rfl ?_
      refine j_iload O dR_init_55 rfl ?_
      refine j_iald O hc 0 rfl (by omega) (by omega) dR_init_57 ?_
      refine j_istore O [(8, .int (f i)), (0, .ref a), (4, .int (prG f b i)), (5, .ref c), (6, .int (nI n)), (7, .int (nI i))] dR_init_58 (by decide) rfl ?_
      refine j_iload O dR_init_60 rfl ?_
      refine j_bipush O (v := 31) dR_init_62 (by decide) ?_
      refine j_imul O dR_init_64 ?_
      refine j_iload O dR_init_65 rfl ?_
      refine j_iadd O dR_init_67 ?_
      refine j_istore O [(4, .int (((prG f b i) * 31) + (f i))), (8, .int (f i)), (0, .ref a), (5, .ref c), (6, .int (nI n)), (7, .int (nI i))] dR_init_68 (by decide) rfl ?_
      refine j_iinc O (nI (i + 1)) [(7, .int (nI (i + 1))), (4, .int (((prG f b i) * 31) + (f i))), (8, .int (f i)), (0, .ref a), (5, .ref c), (6, .int (nI n))] dR_init_70 rfl (nI_1 _) (by decide) rfl ?_
      refine j_goto O 46 dR_init_73 (by decide) ?_
      refine J.pk [3, 1, 4, 5, 0] rfl ?_
      exact ih (i + 1) (by omega)
set_option maxRecDepth 100000 in
set_option maxHeartbeats 4000000 in
theorem c_Row_init (l : Launch) (D : va_G) (t : Nat → ClassId) (A : Nat → Prop) (g : GH) (a c n : Nat) (f : Nat → Int32) (key nu : Int32) (hn : n < 2 ^ 31) (ha : gAt g a (.inr (3, [.int 0, .null, .int 0, .int 0, .int 0]))) (hc : gAt g c (eI t n f)) : Ct l yR_init sR_init { frames := 1, cells := 0, slots := 0, locals := 30 } (zz D t A) [.ref a, .int key, .ref c, .int nu] g 0 0 (fun v g' => v = none ∧ g' = gUp g a (eRow key c nu (nI (lvl key)) (prG f (key * 31 + nu) n))) := by
  refine Ct.of (cc := bR_init) (maxL := 9) (ret := none) (by decide) (Nat.le_of_ble_eq_true rfl) (fun X hl O M hN => ?_)
  have hN := hN rfl
  show J X 9 (zz D t A) g 0 0 0 [(0, .ref a), (1, .int key), (2, .ref c), (3, .int nu)] []
  refine j_aload_n O 0 dR_init_0 rfl rfl ?_
  refine j_objInit O w279 w39 w40 dR_init_1 (Nat.le_of_ble_eq_true rfl) (Nat.le_of_ble_eq_true rfl) ?_
  refine j_aload_n O 0 dR_init_4 rfl rfl ?_
  refine j_iload_n O 1 dR_init_5 rfl rfl ?_
  refine j_putF O hN uwR ha rfl 0 (by decide) w284 rfl tR ftR fnR rfl rfl (.int) (by decide +kernel) rfl rfl (Nat.le_of_ble_eq_true rfl) [.int key, .null, .int 0, .int 0, .int 0] rfl dR_init_6 (fun g5 e6 => ?_)
  have h7 := gUp_ne (e' := .inr (3, [.int key, .null, .int 0, .int 0, .int 0])) hc (hc.ne ha (by simp))
  rw [← e6] at h7
  have h8 := gUp_self (e' := .inr (3, [.int key, .null, .int 0, .int 0, .int 0])) ha
  rw [← e6] at h8
  refine j_aload_n O 0 dR_init_9 rfl rfl ?_
  refine j_aload_n O 2 dR_init_10 rfl rfl ?_
  refine j_putF O hN uwR h8 rfl 1 (by decide) w289 rfl tR ftR fnR rfl rfl (.array .int) (by decide +kernel) rfl rfl (Nat.le_of_ble_eq_true rfl) [.int key, .ref c, .int 0, .int 0, .int 0] rfl dR_init_11 (fun g9 e10 => ?_)
  have h11 := gUp_ne (e' := .inr (3, [.int key, .ref c, .int 0, .int 0, .int 0])) h7 (h7.ne h8 (by simp))
  rw [← e10] at h11
  have h12 := gUp_self (e' := .inr (3, [.int key, .ref c, .int 0, .int 0, .int 0])) h8
  rw [← e10] at h12
  refine j_aload_n O 0 dR_init_14 rfl rfl ?_
  refine j_iload_n O 3 dR_init_15 rfl rfl ?_
  refine j_putF O hN uwR h12 rfl 2 (by decide) w292 rfl tR ftR fnR rfl rfl (.int) (by decide +kernel) rfl rfl (Nat.le_of_ble_eq_true rfl) [.int key, .ref c, .int nu, .int 0, .int 0] rfl dR_init_16 (fun g13 e14 => ?_)
  have h15 := gUp_ne (e' := .inr (3, [.int key, .ref c, .int nu, .int 0, .int 0])) h11 (h11.ne h12 (by simp))
  rw [← e14] at h15
  have h16 := gUp_self (e' := .inr (3, [.int key, .ref c, .int nu, .int 0, .int 0])) h12
  rw [← e14] at h16
  refine j_aload_n O 0 dR_init_19 rfl rfl ?_
  refine j_iload_n O 1 dR_init_20 rfl rfl ?_
  refine j_callSN O [.int key] (c_levelOf X.2.1 D t A g13 key) w281 1 rfl rfl rfl (List.mem_of_getElem? (i := 3) rfl) w23 w280 (by decide +kernel) ⟨(Nat.le_of_ble_eq_true rfl), (Nat.le_of_ble_eq_true rfl)⟩ rfl (Nat.le_of_ble_eq_true rfl) dR_init_21 ⟨(Nat.le_of_ble_eq_true rfl), (Nat.le_of_ble_eq_true rfl)⟩ (fun v17 g18 hp19 => ?_)
  obtain ⟨rfl, hg20⟩ := hp19
  have hg20 := hg20.symm
  subst hg20
  refine j_putF O hN uwR h16 rfl 3 (by decide) w293 rfl tR ftR fnR rfl rfl (.int) (by decide +kernel) rfl rfl (Nat.le_of_ble_eq_true rfl) [.int key, .ref c, .int nu, .int (nI (lvl key)), .int 0] rfl dR_init_24 (fun g21 e22 => ?_)
  have h23 := gUp_ne (e' := .inr (3, [.int key, .ref c, .int nu, .int (nI (lvl key)), .int 0])) h15 (h15.ne h16 (by simp))
  rw [← e22] at h23
  have h24 := gUp_self (e' := .inr (3, [.int key, .ref c, .int nu, .int (nI (lvl key)), .int 0])) h16
  rw [← e22] at h24
  refine j_iload_n O 1 dR_init_27 rfl rfl ?_
  refine j_bipush O (v := 31) dR_init_28 (by decide) ?_
  refine j_imul O dR_init_30 ?_
  refine j_iload_n O 3 dR_init_31 rfl rfl ?_
  refine j_iadd O dR_init_32 ?_
  refine j_istore O [(4, .int ((key * 31) + nu)), (0, .ref a), (1, .int key), (2, .ref c), (3, .int nu)] dR_init_33 (by decide) rfl ?_
  refine j_aload_n O 2 dR_init_35 rfl rfl ?_
  refine j_astore O [(5, .ref c), (4, .int ((key * 31) + nu)), (0, .ref a), (1, .int key), (2, .ref c), (3, .int nu)] dR_init_36 (by decide) rfl ?_
  refine j_aload O dR_init_38 rfl ?_
  refine j_alen O h23 0 rfl dR_init_40 ?_
  refine j_istore O [(6, .int (nI n)), (5, .ref c), (4, .int ((key * 31) + nu)), (0, .ref a), (1, .int key), (2, .ref c), (3, .int nu)] dR_init_41 (by decide) rfl ?_
  refine j_iconst O (v := 0) dR_init_43 (by decide) ?_
  refine j_istore O [(7, .int 0), (6, .int (nI n)), (5, .ref c), (4, .int ((key * 31) + nu)), (0, .ref a), (1, .int key), (2, .ref c), (3, .int nu)] dR_init_44 (by decide) rfl ?_
  refine J.pk [4, 3, 2, 1, 0] rfl ?_
  refine Row_init_loop O M hN h24 h23 hn ⟨rfl, ?_⟩ n 0 (by omega)
  rw [e22, e14, e10, e6, gUp_up, gUp_up, gUp_up, gUp_up]
theorem bitN_01 (m j : Int32) : (if ush m j &&& 1 = 0 then (0 : Int32) else 1) = 0 ∨ (if ush m j &&& 1 = 0 then (0 : Int32) else 1) = 1 := by split <;> simp
set_option maxRecDepth 100000 in
set_option maxHeartbeats 4000000 in
theorem c_isNull (l : Launch) (D : va_G) (t : Nat → ClassId) (A : Nat → Prop) (g : GH) (a : Nat) (j : Int32) (r : RV) (ha : rowAt t g a r) : Ct l yR_isNull sR_isNull { frames := 0, cells := 0, slots := 0, locals := 0 } (zz D t A) [.ref a, .int j] g 0 0 (fun v g' => v = some (.int (if ush r.2.2 j &&& 1 = 0 then 0 else 1)) ∧ g' = g) := by
  obtain ⟨c, f, ha, hc, hf⟩ := ha
  refine Ct.of (cc := bR_isNull) (maxL := 2) (ret := (some .boolean)) (by decide) (Nat.le_of_ble_eq_true rfl) (fun X hl O M hN => ?_)
  show J X 2 (zz D t A) g 0 0 0 [(0, .ref a), (1, .int j)] []
  refine j_aload_n O 0 dR_isNull_0 rfl rfl ?_
  refine j_get O uwR ha rfl 2 (by decide) w292 rfl rfl dR_isNull_1 ?_
  refine j_iload_n O 1 dR_isNull_4 rfl rfl ?_
  refine j_iushr O dR_isNull_5 ?_
  refine j_iconst O (v := 1) dR_isNull_6 (by decide) ?_
  refine j_iand O dR_isNull_7 ?_
  refine j_if_eq O 15 dR_isNull_8 (by decide) (fun c1 => ?_) (fun c1 => ?_)
  · refine j_iconst O (v := 0) dR_isNull_15 (by decide) ?_
    exact j_zret O (by decide) M (Nat.le_of_ble_eq_true rfl) (Nat.le_of_ble_eq_true rfl) ⟨by rw [if_pos c1], rfl⟩ dR_isNull_16
  · refine j_iconst O (v := 1) dR_isNull_11 (by decide) ?_
    refine j_goto O 16 dR_isNull_12 (by decide) ?_
    exact j_zret O (by decide) M (Nat.le_of_ble_eq_true rfl) (Nat.le_of_ble_eq_true rfl) ⟨by rw [if_neg c1], rfl⟩ dR_isNull_16
/-- the columns in which two rows differ, bit by bit, up to column i -/
def unG (f1 f2 : Nat → Int32) (b : Int32) : Nat → Int32
  | 0 => b
  | i + 1 => if f1 i = f2 i then unG f1 f2 b i else unG f1 f2 b i ||| ((1 : Int32) <<< (nI i &&& 31))
def unl (r s : RV) : Int32 := unG (fun i => r.2.1.getD i 0) (fun i => s.2.1.getD i 0) (r.2.2 ^^^ s.2.2) (min r.2.1.length s.2.1.length)
theorem unG_congr {f1 f2 h1 h2 : Nat → Int32} {b : Int32} : ∀ n : Nat, (∀ i, i < n → f1 i = h1 i ∧ f2 i = h2 i) → unG f1 f2 b n = unG h1 h2 b n
  | 0, _ => rfl
  | n + 1, h => by
    rw [unG, unG, unG_congr n (fun i hi => h i (by omega)), (h n (by omega)).1, (h n (by omega)).2]
set_option maxRecDepth 100000 in
set_option maxHeartbeats 4000000 in
theorem unlike_loop {X : CX} {D : va_G} {t : Nat → ClassId} {A : Nat → Prop} {rm : Room} {g : GH} {a b ca cb n1 n2 : Nat} {f1 f2 : Nat → Int32} {u0 : Int32} {r s : RV} (O : Ok X bR_unlikeCells 4 "TwinTrees$Row" (zz D t A) rm) (M : Om X (zz D t A) (some .int) 0 0 (fun v g' => v = some (.int (unG f1 f2 u0 (min n1 n2))) ∧ g' = g)) (ha : gAt g a (eRow r.1 ca r.2.2 (nI (lvl r.1)) (prt r))) (hca : gAt g ca (eI t n1 f1)) (hb : gAt g b (eRow s.1 cb s.2.2 (nI (lvl s.1)) (prt s))) (hcb : gAt g cb (eI t n2 f2)) (h1 : n1 < 2 ^ 31) (h2 : n2 < 2 ^ 31) : ∀ (k i : Nat), i + k = min n1 n2 → J X 4 (zz D t A) g 0 0 12 [(0, .ref a), (1, .ref b), (2, .int (unG f1 f2 u0 i)), (3, .int (nI i))] [] := by
  intro k
  induction k with
  | zero =>
    intro i hi
    refine j_iload_n O 3 dR_unlikeCells_12 rfl rfl ?_
    refine j_aload_n O 0 dR_unlikeCells_13 rfl rfl ?_
    refine j_get O uwR ha rfl 1 (by decide) w289 rfl rfl dR_unlikeCells_14 ?_
    refine j_alen O hca 0 rfl dR_unlikeCells_17 ?_
    refine j_icmp_ge O 57 dR_unlikeCells_18 (by decide) (fun c1 => ?_) (fun c1 => ?_)
    · refine j_iload_n O 2 dR_unlikeCells_57 rfl rfl ?_
      have he : i = min n1 n2 := by omega
      subst he
      exact j_iret O M (Nat.le_of_ble_eq_true rfl) (Nat.le_of_ble_eq_true rfl) ⟨rfl, rfl⟩ dR_unlikeCells_58
    · refine j_iload_n O 3 dR_unlikeCells_21 rfl rfl ?_
      refine j_aload_n O 1 dR_unlikeCells_22 rfl rfl ?_
      refine j_get O uwR hb rfl 1 (by decide) w289 rfl rfl dR_unlikeCells_23 ?_
      refine j_alen O hcb 0 rfl dR_unlikeCells_26 ?_
      refine j_icmp_ge O 57 dR_unlikeCells_27 (by decide) (fun c2 => ?_) (fun c2 => ?_)
      · refine j_iload_n O 2 dR_unlikeCells_57 rfl rfl ?_
        have he : i = min n1 n2 := by omega
        subst he
        exact j_iret O M (Nat.le_of_ble_eq_true rfl) (Nat.le_of_ble_eq_true rfl) ⟨rfl, rfl⟩ dR_unlikeCells_58
      · have q1 : i < n1 := by
          rcases Nat.lt_or_ge i n1 with q | q
          · exact q
          · exact absurd (nI_le q (by omega)) c1
        have q2 : i < n2 := by
          rcases Nat.lt_or_ge i n2 with q | q
          · exact q
          · exact absurd (nI_le q (by omega)) c2
        omega
  | succ k ih =>
    intro i hi
    have hi1 : i < n1 := by omega
    have hi2 : i < n2 := by omega
    refine j_iload_n O 3 dR_unlikeCells_12 rfl rfl ?_
    refine j_aload_n O 0 dR_unlikeCells_13 rfl rfl ?_
    refine j_get O uwR ha rfl 1 (by decide) w289 rfl rfl dR_unlikeCells_14 ?_
    refine j_alen O hca 0 rfl dR_unlikeCells_17 ?_
    refine j_icmp_ge O 57 dR_unlikeCells_18 (by decide) (fun c1 => ?_) (fun c1 => ?_)
    · exact absurd c1 (nI_ge hi1 h1)
    · refine j_iload_n O 3 dR_unlikeCells_21 rfl rfl ?_
      refine j_aload_n O 1 dR_unlikeCells_22 rfl rfl ?_
      refine j_get O uwR hb rfl 1 (by decide) w289 rfl rfl dR_unlikeCells_23 ?_
      refine j_alen O hcb 0 rfl dR_unlikeCells_26 ?_
      refine j_icmp_ge O 57 dR_unlikeCells_27 (by decide) (fun c2 => ?_) (fun c2 => ?_)
      · exact absurd c2 (nI_ge hi2 h2)
      · refine j_aload_n O 0 dR_unlikeCells_30 rfl rfl ?_
        refine j_get O uwR ha rfl 1 (by decide) w289 rfl rfl dR_unlikeCells_31 ?_
        refine j_iload_n O 3 dR_unlikeCells_34 rfl rfl ?_
        refine j_iald O hca 0 rfl (by omega) (by omega) dR_unlikeCells_35 ?_
        refine j_aload_n O 1 dR_unlikeCells_36 rfl rfl ?_
        refine j_get O uwR hb rfl 1 (by decide) w289 rfl rfl dR_unlikeCells_37 ?_
        refine j_iload_n O 3 dR_unlikeCells_40 rfl rfl ?_
        refine j_iald O hcb 0 rfl (by omega) (by omega) dR_unlikeCells_41 ?_
        refine j_icmp_eq O 51 dR_unlikeCells_42 (by decide) (fun c3 => ?_) (fun c3 => ?_)
        · refine j_iinc O (nI (i + 1)) [(3, .int (nI (i + 1))), (0, .ref a), (1, .ref b), (2, .int (unG f1 f2 u0 i))] dR_unlikeCells_51 rfl (nI_1 _) (by decide) rfl ?_
          refine j_goto O 12 dR_unlikeCells_54 (by decide) ?_
          refine J.pk [1, 2, 3, 0] rfl ?_
          have e : unG f1 f2 u0 i = unG f1 f2 u0 (i + 1) := by rw [unG, if_pos c3]
          rw [e]
          exact ih (i + 1) (by omega)
        · refine j_iload_n O 2 dR_unlikeCells_45 rfl rfl ?_
          refine j_iconst O (v := 1) dR_unlikeCells_46 (by decide) ?_
          refine j_iload_n O 3 dR_unlikeCells_47 rfl rfl ?_
          refine j_ishl O dR_unlikeCells_48 ?_
          refine j_ior O dR_unlikeCells_49 ?_
          refine j_istore_n O 2 [(2, .int ((unG f1 f2 u0 i) ||| ((1 : Int32) <<< ((nI i) &&& 31)))), (0, .ref a), (1, .ref b), (3, .int (nI i))] dR_unlikeCells_50 rfl (by decide) rfl ?_
          refine j_iinc O (nI (i + 1)) [(3, .int (nI (i + 1))), (2, .int ((unG f1 f2 u0 i) ||| ((1 : Int32) <<< ((nI i) &&& 31)))), (0, .ref a), (1, .ref b)] dR_unlikeCells_51 rfl (nI_1 _) (by decide) rfl ?_
          refine j_goto O 12 dR_unlikeCells_54 (by decide) ?_
          refine J.pk [2, 3, 1, 0] rfl ?_
          have e : unG f1 f2 u0 i ||| ((1 : Int32) <<< (nI i &&& 31)) = unG f1 f2 u0 (i + 1) := by rw [unG, if_neg c3]
          rw [e]
          exact ih (i + 1) (by omega)
set_option maxRecDepth 100000 in
set_option maxHeartbeats 4000000 in
theorem c_unlikeCells (l : Launch) (D : va_G) (t : Nat → ClassId) (A : Nat → Prop) (g : GH) (a b : Nat) (r s : RV) (ha : rowAt t g a r) (hb : rowAt t g b s) (h1 : r.2.1.length < 2 ^ 31) (h2 : s.2.1.length < 2 ^ 31) : Ct l yR_unlikeCells sR_unlikeCells { frames := 0, cells := 0, slots := 0, locals := 0 } (zz D t A) [.ref a, .ref b] g 0 0 (fun v g' => v = some (.int (unl r s)) ∧ g' = g) := by
  obtain ⟨ca, f1, ha, hca, hf1⟩ := ha
  obtain ⟨cb, f2, hb, hcb, hf2⟩ := hb
  have hu : unl r s = unG f1 f2 (r.2.2 ^^^ s.2.2) (min r.2.1.length s.2.1.length) := by
    refine unG_congr _ (fun i hi => ⟨?_, ?_⟩)
    · rw [hf1 i (by omega)]; simp [List.getD, List.getElem?_eq_getElem (show i < r.2.1.length by omega)]
    · rw [hf2 i (by omega)]; simp [List.getD, List.getElem?_eq_getElem (show i < s.2.1.length by omega)]
  rw [hu]
  refine Ct.of (cc := bR_unlikeCells) (maxL := 4) (ret := (some .int)) (by decide) (Nat.le_of_ble_eq_true rfl) (fun X hl O M hN => ?_)
  show J X 4 (zz D t A) g 0 0 0 [(0, .ref a), (1, .ref b)] []
  refine j_aload_n O 0 dR_unlikeCells_0 rfl rfl ?_
  refine j_get O uwR ha rfl 2 (by decide) w292 rfl rfl dR_unlikeCells_1 ?_
  refine j_aload_n O 1 dR_unlikeCells_4 rfl rfl ?_
  refine j_get O uwR hb rfl 2 (by decide) w292 rfl rfl dR_unlikeCells_5 ?_
  refine j_ixor O dR_unlikeCells_8 ?_
  refine j_istore_n O 2 [(2, .int (r.2.2 ^^^ s.2.2)), (0, .ref a), (1, .ref b)] dR_unlikeCells_9 rfl (by decide) rfl ?_
  refine j_iconst O (v := 0) dR_unlikeCells_10 (by decide) ?_
  refine j_istore_n O 3 [(3, .int 0), (2, .int (r.2.2 ^^^ s.2.2)), (0, .ref a), (1, .ref b)] dR_unlikeCells_11 rfl (by decide) rfl ?_
  refine J.pk [2, 3, 1, 0] rfl ?_
  exact unlike_loop O M ha hca hb hcb h1 h2 _ 0 (Nat.zero_add _)
