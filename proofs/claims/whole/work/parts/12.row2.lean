theorem rowAt_of {t : Nat → ClassId} {g : GH} {a c : Nat} {k nu : Int32} {cs : List Int32} {f : Nat → Int32} (ha : gAt g a (eRow k c nu (nI (lvl k)) (prG f (k * 31 + nu) cs.length))) (hc : gAt g c (eI t cs.length f)) (hf : ∀ i (h : i < cs.length), f i = cs[i]) : rowAt t g a (k, cs, nu) := by
  rw [prG_fold f _ cs hf] at ha
  exact ⟨c, f, ha, hc, hf⟩
/-- a row whose cells are all among I -/
def rowI (t : Nat → ClassId) (g : GH) (I : Nat → Prop) (a : Nat) (r : RV) : Prop := ∃ (c : Nat) (f : Nat → Int32), I a ∧ I c ∧ gAt g a (eRow r.1 c r.2.2 (nI (lvl r.1)) (prt r)) ∧ gAt g c (eI t r.2.1.length f) ∧ ∀ i (h : i < r.2.1.length), f i = r.2.1[i]
theorem rowI.at {t : Nat → ClassId} {g : GH} {I : Nat → Prop} {a : Nat} {r : RV} (h : rowI t g I a r) : rowAt t g a r := by
  obtain ⟨c, f, -, -, h1, h2, h3⟩ := h
  exact ⟨c, f, h1, h2, h3⟩
theorem rowI.keep {t : Nat → ClassId} {g g' : GH} {I I' : Nat → Prop} {a : Nat} {r : RV} (h : rowI t g I a r) (hI : ∀ x, I x → I' x) (hk : ∀ (x : Nat) (e : va_E), I x → gAt g x e → gAt g' x e) : rowI t g' I' a r := by
  obtain ⟨c, f, i1, i2, h1, h2, h3⟩ := h
  exact ⟨c, f, hI _ i1, hI _ i2, hk _ _ i1 h1, hk _ _ i2 h2, h3⟩
theorem rowI_of {t : Nat → ClassId} {g : GH} {I : Nat → Prop} {a c : Nat} {k nu : Int32} {cs : List Int32} {f : Nat → Int32} (i1 : I a) (i2 : I c) (ha : gAt g a (eRow k c nu (nI (lvl k)) (prG f (k * 31 + nu) cs.length))) (hc : gAt g c (eI t cs.length f)) (hf : ∀ i (h : i < cs.length), f i = cs[i]) : rowI t g I a (k, cs, nu) := by
  rw [prG_fold f _ cs hf] at ha
  exact ⟨c, f, i1, i2, ha, hc, hf⟩
theorem rowAt.keep {t : Nat → ClassId} {g g' : GH} {a : Nat} {r : RV} {M : List Nat} (h : rowAt t g a r) (hk : Kp M g g') (hM : ∀ (x : Nat) (e : va_E), x ∈ M → gAt g x e → (∀ k c nu lv pr, e ≠ eRow k c nu lv pr) ∧ ∀ n f, e ≠ eI t n f) : rowAt t g' a r := by
  obtain ⟨c, f, ha, hc, hf⟩ := h
  exact ⟨c, f, hk.2 _ _ (fun q => (hM _ _ q ha).1 _ _ _ _ _ rfl) ha, hk.2 _ _ (fun q => (hM _ _ q hc).2 _ _ rfl) hc, hf⟩
theorem rowAt.keep0 {t : Nat → ClassId} {g g' : GH} {a : Nat} {r : RV} (h : rowAt t g a r) (hk : Kp [] g g') : rowAt t g' a r := h.keep hk (fun x e q _ => absurd q List.not_mem_nil)
theorem rowAt.inj {t : Nat → ClassId} {g : GH} {a : Nat} {r s : RV} (h : rowAt t g a r) (h' : rowAt t g a s) : r = s := by
  obtain ⟨c, f, ha, hc, hf⟩ := h
  obtain ⟨c', f', ha', hc', hf'⟩ := h'
  have e := ha.eq ha'
  simp only [Sum.inr.injEq, Prod.mk.injEq, List.cons.injEq, Value.int.injEq, Value.ref.injEq, true_and, and_true] at e
  obtain ⟨e1, e2, e3, -, -⟩ := e
  subst e2
  have e4 := hc.eq hc'
  simp only [Sum.inl.injEq, Prod.mk.injEq, true_and] at e4
  obtain ⟨e5, e6⟩ := e4
  subst e6
  obtain ⟨k, cs, nu⟩ := r
  obtain ⟨k', cs', nu'⟩ := s
  dsimp only at *
  subst e1; subst e3
  congr 1
  congr 1
  exact List.ext_getElem e5 (fun i h1 h2 => (hf i h1).symm.trans (hf' i h2))
/-- a row with another cell -/
def setC (r : RV) (j : Nat) (x z : Int32) : RV := (r.1, r.2.1.set j (if z = 0 then x else 0), if z = 0 then r.2.2 &&& (((1 : Int32) <<< (nI j &&& 31)) ^^^ (-1)) else r.2.2 ||| ((1 : Int32) <<< (nI j &&& 31)))
def blankR (k : Int32) (w : Nat) : RV := (k, List.replicate w 0, ((1 : Int32) <<< (nI w &&& 31)) - 1)
theorem shl1_ne : ∀ l : Nat, l < 32 → ¬ ((1 : Int32) <<< (nI l &&& 31)) = 0 := by decide
theorem unG_or {f1 f2 : Nat → Int32} {b : Int32} : ∀ n : Nat, n ≤ 32 → unG f1 f2 b n = 0 → b = 0 ∧ ∀ i, i < n → f1 i = f2 i
  | 0, _, h => ⟨h, fun i hi => by omega⟩
  | n + 1, hn, h => by
    rw [unG] at h
    split at h
    · next e =>
      obtain ⟨h1, h2⟩ := unG_or n (by omega) h
      exact ⟨h1, fun i hi => by
        rcases Nat.lt_or_ge i n with q | q
        · exact h2 i q
        · rw [show i = n by omega]; exact e⟩
    · exfalso
      have h0 : (unG f1 f2 b n ||| ((1 : Int32) <<< (nI n &&& 31))).toBitVec = 0#32 := by rw [h]; rfl
      rw [Int32.toBitVec_or, BitVec.or_eq_zero_iff] at h0
      exact shl1_ne n (by omega) (Int32.toBitVec_inj.mp h0.2)
theorem unG_same (f1 f2 : Nat → Int32) : ∀ n : Nat, (∀ i, i < n → f1 i = f2 i) → unG f1 f2 0 n = 0
  | 0, _ => rfl
  | n + 1, h => by rw [unG, if_pos (h n (by omega)), unG_same f1 f2 n (fun i hi => h i (by omega))]
theorem unl_self (r : RV) : unl r r = 0 := by
  unfold unl
  rw [Int32.xor_self]
  exact unG_same _ _ _ (fun _ _ => rfl)
theorem unl_eq {r s : RV} (h0 : r.2.1.length ≤ 32) (h1 : r.1 = s.1) (h2 : r.2.1.length = s.2.1.length) (h3 : unl r s = 0) : r = s := by
  obtain ⟨h4, h5⟩ := unG_or _ (by omega) h3
  obtain ⟨k, cs, nu⟩ := r
  obtain ⟨k', cs', nu'⟩ := s
  dsimp only at *
  subst h1
  have h6 : nu = nu' := by
    have e : (nu ^^^ nu').toBitVec = 0#32 := by rw [h4]; rfl
    rw [Int32.toBitVec_xor] at e
    exact Int32.toBitVec_inj.mp (BitVec.xor_eq_zero_iff.mp e)
  subst h6
  congr 1
  congr 1
  refine List.ext_getElem h2 (fun i q1 q2 => ?_)
  have := h5 i (by omega)
  simpa [List.getD, List.getElem?_eq_getElem q1, List.getElem?_eq_getElem q2] using this
set_option maxRecDepth 100000 in
set_option maxHeartbeats 4000000 in
theorem c_isLike (l : Launch) (D : va_G) (t : Nat → ClassId) (A : Nat → Prop) (g : GH) (a b : Nat) (r s : RV) (ha0 : rowAt t g a r) (hb0 : rowAt t g b s) (h1 : r.2.1.length ≤ 32) (h2 : s.2.1.length ≤ 32) : Ct l yR_isLike sR_isLike { frames := 1, cells := 0, slots := 0, locals := 30 } (zz D t A) [.ref a, .ref b] g 0 0 (fun v g' => v = some (.int (if r = s then 1 else 0)) ∧ g' = g) := by
  obtain ⟨ca, f1, ha, hca, hf1⟩ := id ha0
  obtain ⟨cb, f2, hb, hcb, hf2⟩ := id hb0
  refine Ct.of (cc := bR_isLike) (maxL := 2) (ret := (some .boolean)) (by decide) (Nat.le_of_ble_eq_true rfl) (fun X hl O M hN => ?_)
  show J X 2 (zz D t A) g 0 0 0 [(0, .ref a), (1, .ref b)] []
  refine j_aload_n O 0 dR_isLike_0 rfl rfl ?_
  refine j_aload_n O 1 dR_isLike_1 rfl rfl ?_
  refine j_acmp_eq (rx := (some a)) (ry := (some b)) O 37 dR_isLike_2 (by decide) (fun c1 => ?_) (fun c1 => ?_)
  · refine j_iconst O (v := 1) dR_isLike_37 (by decide) ?_
    refine j_goto O 42 dR_isLike_38 (by decide) ?_
    have e : a = b := Option.some.inj c1
    have e2 : r = s := rowAt.inj ha0 (e ▸ hb0)
    exact j_zret O (by decide) M (Nat.le_of_ble_eq_true rfl) (Nat.le_of_ble_eq_true rfl) ⟨by rw [if_pos e2], rfl⟩ dR_isLike_42
  · refine j_aload_n O 0 dR_isLike_5 rfl rfl ?_
    refine j_get O uwR ha rfl 0 (by decide) w284 rfl rfl dR_isLike_6 ?_
    refine j_aload_n O 1 dR_isLike_9 rfl rfl ?_
    refine j_get O uwR hb rfl 0 (by decide) w284 rfl rfl dR_isLike_10 ?_
    refine j_icmp_ne O 41 dR_isLike_13 (by decide) (fun c2 => ?_) (fun c2 => ?_)
    · refine j_iconst O (v := 0) dR_isLike_41 (by decide) ?_
      exact j_zret O (by decide) M (Nat.le_of_ble_eq_true rfl) (Nat.le_of_ble_eq_true rfl) ⟨by rw [if_neg (fun q => c2 (by rw [q]))], rfl⟩ dR_isLike_42
    · refine j_aload_n O 0 dR_isLike_16 rfl rfl ?_
      refine j_get O uwR ha rfl 1 (by decide) w289 rfl rfl dR_isLike_17 ?_
      refine j_alen O hca 0 rfl dR_isLike_20 ?_
      refine j_aload_n O 1 dR_isLike_21 rfl rfl ?_
      refine j_get O uwR hb rfl 1 (by decide) w289 rfl rfl dR_isLike_22 ?_
      refine j_alen O hcb 0 rfl dR_isLike_25 ?_
      refine j_icmp_ne O 41 dR_isLike_26 (by decide) (fun c3 => ?_) (fun c3 => ?_)
      · refine j_iconst O (v := 0) dR_isLike_41 (by decide) ?_
        exact j_zret O (by decide) M (Nat.le_of_ble_eq_true rfl) (Nat.le_of_ble_eq_true rfl) ⟨by rw [if_neg (fun q => c3 (by rw [q]))], rfl⟩ dR_isLike_42
      · refine j_aload_n O 0 dR_isLike_29 rfl rfl ?_
        refine j_aload_n O 1 dR_isLike_30 rfl rfl ?_
        refine j_callV O [.ref b] (c_unlikeCells X.2.1 D t A g a b r s ha0 hb0 (by omega) (by omega)) ha rfl w120 w121 w122 w31 w123 1 rfl rfl rfl (by decide +kernel) ⟨(Nat.le_of_ble_eq_true rfl), (Nat.le_of_ble_eq_true rfl)⟩ rfl (Nat.le_of_ble_eq_true rfl) dR_isLike_31 ⟨(Nat.le_of_ble_eq_true rfl), (Nat.le_of_ble_eq_true rfl)⟩ (fun v1 g2 hp3 => ?_)
        obtain ⟨rfl, hg4⟩ := hp3
        have hg4 := hg4.symm
        subst hg4
        refine j_if_ne O 41 dR_isLike_34 (by decide) (fun c4 => ?_) (fun c4 => ?_)
        · refine j_iconst O (v := 0) dR_isLike_41 (by decide) ?_
          exact j_zret O (by decide) M (Nat.le_of_ble_eq_true rfl) (Nat.le_of_ble_eq_true rfl) ⟨by rw [if_neg (fun q => c4 (by rw [q]; exact unl_self s))], rfl⟩ dR_isLike_42
        · refine j_iconst O (v := 1) dR_isLike_37 (by decide) ?_
          refine j_goto O 42 dR_isLike_38 (by decide) ?_
          exact j_zret O (by decide) M (Nat.le_of_ble_eq_true rfl) (Nat.le_of_ble_eq_true rfl) ⟨by rw [if_pos (unl_eq h1 c2 ((nI_eq (by omega) (by omega)).mp c3) c4)], rfl⟩ dR_isLike_42
set_option maxRecDepth 100000 in
set_option maxHeartbeats 4000000 in
theorem c_blankRow (l : Launch) (D : va_G) (t : Nat → ClassId) (A : Nat → Prop) (g : GH) (key : Int32) (w : Nat) (hw : w < 32) : Ct l yT_blankRow sT_blankRow { frames := 2, cells := 2, slots := w + 5, locals := 60 } (zz D t A) [.int key, .int (nI w)] g 2 (w + 5) (fun v g' => ∃ q, v = some (.ref q) ∧ q ∉ g.1 ∧ rowI t g' (fun x => x ∉ g.1) q (blankR key w) ∧ Kp [] g g') := by
  refine Ct.of (cc := bT_blankRow) (maxL := 2) (ret := (some (.object "TwinTrees$Row"))) (by decide) (Nat.le_of_ble_eq_true rfl) (fun X hl O M hN => ?_)
  show J X 2 (zz D t A) g 0 0 0 [(0, .int key), (1, .int (nI w))] []
  have kp0 : Kp [] g g := Kp.rf
  refine j_new (ci := 3) O uwR tR ftR w103 w275 w31 rfl [.int 0, .null, .int 0, .int 0, .int 0] (fun j hj => by rcases (show j = 0 ∨ j = 1 ∨ j = 2 ∨ j = 3 ∨ j = 4 by omega) with rfl | rfl | rfl | rfl | rfl <;> rfl) (Nat.le_of_ble_eq_true rfl) (by show _ ≤ w + 5; omega) dT_blankRow_0 (fun q5 g6 hq7 e8 => ?_)
  have h9 := gNew_self (g := g) (a := q5) (e := .inr (3, [.int 0, .null, .int 0, .int 0, .int 0]))
  rw [← e8] at h9
  have kp10 := kp0.new (e := .inr (3, [.int 0, .null, .int 0, .int 0, .int 0])) hq7
  rw [← e8] at kp10
  refine j_dup O dT_blankRow_3 rfl ?_
  refine j_iload_n O 0 dT_blankRow_4 rfl rfl ?_
  refine j_iload_n O 1 dT_blankRow_5 rfl rfl ?_
  refine j_newa (atype := .int) O w63 (.int) rfl 0 rfl rfl w (w, .inl (fun _ => 0)) (fun _ => rfl) (nI_pos (by omega)) (nI_clamp (by omega)) (by show w * 4 ≤ _; omega) (Nat.le_of_ble_eq_true rfl) (by show _ ≤ w + 5; omega) dT_blankRow_6 (fun q11 g12 hq13 e14 => ?_)
  have h15 := gNew_old (e' := .inl (t 0, w, .inl (fun _ => 0))) h9 hq13
  rw [← e14] at h15
  have h16 := gNew_self (g := g6) (a := q11) (e := .inl (t 0, w, .inl (fun _ => 0)))
  rw [← e14] at h16
  have kp17 := kp10.new (e := .inl (t 0, w, .inl (fun _ => 0))) hq13
  rw [← e14] at kp17
  refine j_iconst O (v := 1) dT_blankRow_8 (by decide) ?_
  refine j_iload_n O 1 dT_blankRow_9 rfl rfl ?_
  refine j_ishl O dT_blankRow_10 ?_
  refine j_iconst O (v := 1) dT_blankRow_11 (by decide) ?_
  refine j_isub O dT_blankRow_12 ?_
  refine j_callI O [.int key, .ref q11, .int (((1 : Int32) <<< ((nI w) &&& 31)) - 1)] (c_Row_init X.2.1 D t A g12 q5 q11 w (fun _ => 0) key _ (by omega) h15 h16) w278 3 rfl rfl rfl w31 w276 w277 rfl (by decide +kernel) ⟨(Nat.le_of_ble_eq_true rfl), (Nat.le_of_ble_eq_true rfl)⟩ rfl (Nat.le_of_ble_eq_true rfl) dT_blankRow_13 ⟨(Nat.le_of_ble_eq_true rfl), (by show _ ≤ w + 5; omega)⟩ (fun v18 g19 hp20 => ?_)
  obtain ⟨rfl, rfl⟩ := hp20
  have hr : rowI t (gUp g12 q5 (eRow key q11 (((1 : Int32) <<< (nI w &&& 31)) - 1) (nI (lvl key)) (prG (fun _ => 0) (key * 31 + (((1 : Int32) <<< (nI w &&& 31)) - 1)) w))) (fun x => x ∉ g.1) q5 (blankR key w) := by
    refine rowI_of hq7 (kp10.nin hq13) (cs := List.replicate w 0) (c := q11) (f := fun _ => 0) ?_ ?_ (fun i h => by simp)
    · rw [List.length_replicate]; exact gUp_self h15
    · rw [List.length_replicate]; exact gUp_ne h16 ((h16).ne h15 (by simp))
  have kpz := kp17.upN (a := q5) (e := (eRow key q11 (((1 : Int32) <<< (nI w &&& 31)) - 1) (nI (lvl key)) (prG (fun _ => 0) (key * 31 + (((1 : Int32) <<< (nI w &&& 31)) - 1)) w))) (kp0.nin hq7)
  exact j_aret (o := (some q5)) O (Or.inl ⟨_, rfl⟩) M (Nat.le_of_ble_eq_true rfl) (by show _ ≤ w + 5; omega) ⟨q5, rfl, hq7, hr, kpz⟩ dT_blankRow_16
set_option maxRecDepth 100000 in
set_option maxHeartbeats 4000000 in
theorem c_withCell (l : Launch) (D : va_G) (t : Nat → ClassId) (A : Nat → Prop) (g : GH) (a j : Nat) (x z : Int32) (r : RV) (ha0 : rowAt t g a r) (hj : j < r.2.1.length) (hl : r.2.1.length ≤ 32) : Ct l yR_withCell sR_withCell { frames := 2, cells := 2, slots := r.2.1.length + 5, locals := 60 } (zz D t A) [.ref a, .int (nI j), .int x, .int z] g 2 (r.2.1.length + 5) (fun v g' => ∃ q, v = some (.ref q) ∧ q ∉ g.1 ∧ rowI t g' (fun x => x ∉ g.1) q (setC r j x z) ∧ Kp [] g g') := by
  obtain ⟨c, f, ha, hc, hf⟩ := id ha0
  refine Ct.of (cc := bR_withCell) (maxL := 6) (ret := (some (.object "TwinTrees$Row"))) (by decide) (Nat.le_of_ble_eq_true rfl) (fun X hlx O M hN => ?_)
  show J X 6 (zz D t A) g 0 0 0 [(0, .ref a), (1, .int (nI j)), (2, .int x), (3, .int z)] []
  have kp0 : Kp [] g g := Kp.rf
  refine j_aload_n O 0 dR_withCell_0 rfl rfl ?_
  refine j_get O uwR ha rfl 1 (by decide) w289 rfl rfl dR_withCell_1 ?_
  refine j_clone O w317 (List.mem_of_getElem? (i := 8) rfl) w318 w319 w320 (List.mem_of_getElem? (i := 9) rfl) hc 0 rfl (Nat.le_of_ble_eq_true rfl) (Nat.le_of_ble_eq_true rfl) (Nat.le_of_ble_eq_true rfl) (by show _ ≤ r.2.1.length + 5; omega) dR_withCell_4 (fun qc gc hqc ec => ?_)
  have h21 := gNew_old (e' := .inl (t 0, r.2.1.length, .inl f)) ha hqc
  rw [← ec] at h21
  have h22 := gNew_old (e' := .inl (t 0, r.2.1.length, .inl f)) hc hqc
  rw [← ec] at h22
  have hcc := gNew_self (g := g) (a := qc) (e := .inl (t 0, r.2.1.length, .inl f))
  rw [← ec] at hcc
  have kp23 := kp0.new (e := .inl (t 0, r.2.1.length, .inl f)) hqc
  rw [← ec] at kp23
  refine j_castI O w321 hcc 0 rfl dR_withCell_7 ?_
  refine j_astore O [(4, .ref qc), (0, .ref a), (1, .int (nI j)), (2, .int x), (3, .int z)] dR_withCell_10 (by decide) rfl ?_
  refine j_aload O dR_withCell_12 rfl ?_
  refine j_iload_n O 1 dR_withCell_14 rfl rfl ?_
  refine j_iload_n O 3 dR_withCell_15 rfl rfl ?_
  refine j_if_eq O 23 dR_withCell_16 (by decide) (fun c1 => ?_) (fun c1 => ?_)
  · refine j_iload_n O 2 dR_withCell_23 rfl rfl ?_
    refine j_iast O hcc 0 rfl hj (by omega) dR_withCell_24 (fun g24 e25 => ?_)
    have h26 := gUp_ne (e' := .inl (t 0, r.2.1.length, .inl (upd f j x))) h21 (ha.nin hqc)
    rw [← e25] at h26
    have h27 := gUp_ne (e' := .inl (t 0, r.2.1.length, .inl (upd f j x))) h22 (hc.nin hqc)
    rw [← e25] at h27
    have h28 := gUp_self (e' := .inl (t 0, r.2.1.length, .inl (upd f j x))) hcc
    rw [← e25] at h28
    have kp29 := kp23.upN (a := qc) (e := .inl (t 0, r.2.1.length, .inl (upd f j x))) (kp0.nin hqc)
    rw [← e25] at kp29
    refine j_iconst O (v := 1) dR_withCell_25 (by decide) ?_
    refine j_iload_n O 1 dR_withCell_26 rfl rfl ?_
    refine j_ishl O dR_withCell_27 ?_
    refine j_istore O [(5, .int ((1 : Int32) <<< ((nI j) &&& 31))), (4, .ref qc), (0, .ref a), (1, .int (nI j)), (2, .int x), (3, .int z)] dR_withCell_28 (by decide) rfl ?_
    refine j_new (ci := 3) O uwR tR ftR w322 w275 w31 rfl [.int 0, .null, .int 0, .int 0, .int 0] (fun j hj => by rcases (show j = 0 ∨ j = 1 ∨ j = 2 ∨ j = 3 ∨ j = 4 by omega) with rfl | rfl | rfl | rfl | rfl <;> rfl) (Nat.le_of_ble_eq_true rfl) (by show _ ≤ r.2.1.length + 5; omega) dR_withCell_30 (fun q30 g31 hq32 e33 => ?_)
    have h34 := gNew_old (e' := .inr (3, [.int 0, .null, .int 0, .int 0, .int 0])) h26 hq32
    rw [← e33] at h34
    have h35 := gNew_old (e' := .inr (3, [.int 0, .null, .int 0, .int 0, .int 0])) h27 hq32
    rw [← e33] at h35
    have h36 := gNew_old (e' := .inr (3, [.int 0, .null, .int 0, .int 0, .int 0])) h28 hq32
    rw [← e33] at h36
    have h37 := gNew_self (g := g24) (a := q30) (e := .inr (3, [.int 0, .null, .int 0, .int 0, .int 0]))
    rw [← e33] at h37
    have kp38 := kp29.new (e := .inr (3, [.int 0, .null, .int 0, .int 0, .int 0])) hq32
    rw [← e33] at kp38
    refine j_dup O dR_withCell_33 rfl ?_
    refine j_aload_n O 0 dR_withCell_34 rfl rfl ?_
    refine j_get O uwR h34 rfl 0 (by decide) w284 rfl rfl dR_withCell_35 ?_
    refine j_aload O dR_withCell_38 rfl ?_
    refine j_iload_n O 3 dR_withCell_40 rfl rfl ?_
    refine j_if_eq O 54 dR_withCell_41 (by decide) (fun c2 => ?_) (fun c2 => ?_)
    · refine j_aload_n O 0 dR_withCell_54 rfl rfl ?_
      refine j_get O uwR h34 rfl 2 (by decide) w292 rfl rfl dR_withCell_55 ?_
      refine j_iload O dR_withCell_58 rfl ?_
      refine j_iconst O (v := -1) dR_withCell_60 (by decide) ?_
      refine j_ixor O dR_withCell_61 ?_
      refine j_iand O dR_withCell_62 ?_
      refine j_callI O [.int r.1, .ref qc, .int (r.2.2 &&& (((1 : Int32) <<< ((nI j) &&& 31)) ^^^ (-1)))] (c_Row_init X.2.1 D t A g31 q30 qc r.2.1.length (upd f j x) r.1 _ (by omega) h37 h36) w278 3 rfl rfl rfl w31 w323 w277 rfl (by decide +kernel) ⟨(Nat.le_of_ble_eq_true rfl), (Nat.le_of_ble_eq_true rfl)⟩ rfl (Nat.le_of_ble_eq_true rfl) dR_withCell_63 ⟨(Nat.le_of_ble_eq_true rfl), (by show _ ≤ r.2.1.length + 5; omega)⟩ (fun v39 g40 hp41 => ?_)
      obtain ⟨rfl, rfl⟩ := hp41
      have hset : setC r j x z = (r.1, r.2.1.set j (x), r.2.2 &&& (((1 : Int32) <<< ((nI j) &&& 31)) ^^^ (-1))) := by simp only [setC, if_pos c1]
      have hr : rowI t (gUp g31 q30 (eRow r.1 qc (r.2.2 &&& (((1 : Int32) <<< ((nI j) &&& 31)) ^^^ (-1))) (nI (lvl r.1)) (prG (upd f j x) (r.1 * 31 + (r.2.2 &&& (((1 : Int32) <<< ((nI j) &&& 31)) ^^^ (-1)))) r.2.1.length))) (fun x => x ∉ g.1) q30 (setC r j x z) := by
        rw [hset]
        refine rowI_of (kp29.nin hq32) (kp0.nin hqc) (cs := r.2.1.set j (x)) (c := qc) (f := upd f j x) ?_ ?_ (fun i h => ?_)
        · rw [List.length_set]; exact gUp_self h37
        · rw [List.length_set]; exact gUp_ne h36 ((h36).ne h37 (by simp))
        · rw [List.length_set] at h
          rw [List.getElem_set]
          by_cases hij : j = i
          · subst hij; rw [if_pos rfl, pk_us]
          · rw [if_neg hij, pk_un (fun q => hij q.symm)]; exact hf i h
      have kpz := kp38.upN (a := q30) (e := (eRow r.1 qc (r.2.2 &&& (((1 : Int32) <<< ((nI j) &&& 31)) ^^^ (-1))) (nI (lvl r.1)) (prG (upd f j x) (r.1 * 31 + (r.2.2 &&& (((1 : Int32) <<< ((nI j) &&& 31)) ^^^ (-1)))) r.2.1.length))) (kp29.nin hq32)
      exact j_aret (o := (some q30)) O (Or.inl ⟨_, rfl⟩) M (Nat.le_of_ble_eq_true rfl) (by show _ ≤ r.2.1.length + 5; omega) ⟨q30, rfl, (kp29.nin hq32), hr, kpz⟩ dR_withCell_66
    · exact absurd c1 c2
  · refine j_iconst O (v := 0) dR_withCell_19 (by decide) ?_
    refine j_goto O 24 dR_withCell_20 (by decide) ?_
    refine j_iast O hcc 0 rfl hj (by omega) dR_withCell_24 (fun g42 e43 => ?_)
    have h44 := gUp_ne (e' := .inl (t 0, r.2.1.length, .inl (upd f j 0))) h21 (ha.nin hqc)
    rw [← e43] at h44
    have h45 := gUp_ne (e' := .inl (t 0, r.2.1.length, .inl (upd f j 0))) h22 (hc.nin hqc)
    rw [← e43] at h45
    have h46 := gUp_self (e' := .inl (t 0, r.2.1.length, .inl (upd f j 0))) hcc
    rw [← e43] at h46
    have kp47 := kp23.upN (a := qc) (e := .inl (t 0, r.2.1.length, .inl (upd f j 0))) (kp0.nin hqc)
    rw [← e43] at kp47
    refine j_iconst O (v := 1) dR_withCell_25 (by decide) ?_
    refine j_iload_n O 1 dR_withCell_26 rfl rfl ?_
    refine j_ishl O dR_withCell_27 ?_
    refine j_istore O [(5, .int ((1 : Int32) <<< ((nI j) &&& 31))), (4, .ref qc), (0, .ref a), (1, .int (nI j)), (2, .int x), (3, .int z)] dR_withCell_28 (by decide) rfl ?_
    refine j_new (ci := 3) O uwR tR ftR w322 w275 w31 rfl [.int 0, .null, .int 0, .int 0, .int 0] (fun j hj => by rcases (show j = 0 ∨ j = 1 ∨ j = 2 ∨ j = 3 ∨ j = 4 by omega) with rfl | rfl | rfl | rfl | rfl <;> rfl) (Nat.le_of_ble_eq_true rfl) (by show _ ≤ r.2.1.length + 5; omega) dR_withCell_30 (fun q48 g49 hq50 e51 => ?_)
    have h52 := gNew_old (e' := .inr (3, [.int 0, .null, .int 0, .int 0, .int 0])) h44 hq50
    rw [← e51] at h52
    have h53 := gNew_old (e' := .inr (3, [.int 0, .null, .int 0, .int 0, .int 0])) h45 hq50
    rw [← e51] at h53
    have h54 := gNew_old (e' := .inr (3, [.int 0, .null, .int 0, .int 0, .int 0])) h46 hq50
    rw [← e51] at h54
    have h55 := gNew_self (g := g42) (a := q48) (e := .inr (3, [.int 0, .null, .int 0, .int 0, .int 0]))
    rw [← e51] at h55
    have kp56 := kp47.new (e := .inr (3, [.int 0, .null, .int 0, .int 0, .int 0])) hq50
    rw [← e51] at kp56
    refine j_dup O dR_withCell_33 rfl ?_
    refine j_aload_n O 0 dR_withCell_34 rfl rfl ?_
    refine j_get O uwR h52 rfl 0 (by decide) w284 rfl rfl dR_withCell_35 ?_
    refine j_aload O dR_withCell_38 rfl ?_
    refine j_iload_n O 3 dR_withCell_40 rfl rfl ?_
    refine j_if_eq O 54 dR_withCell_41 (by decide) (fun c2 => ?_) (fun c2 => ?_)
    · exact absurd c2 c1
    · refine j_aload_n O 0 dR_withCell_44 rfl rfl ?_
      refine j_get O uwR h52 rfl 2 (by decide) w292 rfl rfl dR_withCell_45 ?_
      refine j_iload O dR_withCell_48 rfl ?_
      refine j_ior O dR_withCell_50 ?_
      refine j_goto O 63 dR_withCell_51 (by decide) ?_
      refine j_callI O [.int r.1, .ref qc, .int (r.2.2 ||| ((1 : Int32) <<< ((nI j) &&& 31)))] (c_Row_init X.2.1 D t A g49 q48 qc r.2.1.length (upd f j 0) r.1 _ (by omega) h55 h54) w278 3 rfl rfl rfl w31 w323 w277 rfl (by decide +kernel) ⟨(Nat.le_of_ble_eq_true rfl), (Nat.le_of_ble_eq_true rfl)⟩ rfl (Nat.le_of_ble_eq_true rfl) dR_withCell_63 ⟨(Nat.le_of_ble_eq_true rfl), (by show _ ≤ r.2.1.length + 5; omega)⟩ (fun v57 g58 hp59 => ?_)
      obtain ⟨rfl, rfl⟩ := hp59
      have hset : setC r j x z = (r.1, r.2.1.set j (0), r.2.2 ||| ((1 : Int32) <<< ((nI j) &&& 31))) := by simp only [setC, if_neg c1]
      have hr : rowI t (gUp g49 q48 (eRow r.1 qc (r.2.2 ||| ((1 : Int32) <<< ((nI j) &&& 31))) (nI (lvl r.1)) (prG (upd f j 0) (r.1 * 31 + (r.2.2 ||| ((1 : Int32) <<< ((nI j) &&& 31)))) r.2.1.length))) (fun x => x ∉ g.1) q48 (setC r j x z) := by
        rw [hset]
        refine rowI_of (kp47.nin hq50) (kp0.nin hqc) (cs := r.2.1.set j (0)) (c := qc) (f := upd f j 0) ?_ ?_ (fun i h => ?_)
        · rw [List.length_set]; exact gUp_self h55
        · rw [List.length_set]; exact gUp_ne h54 ((h54).ne h55 (by simp))
        · rw [List.length_set] at h
          rw [List.getElem_set]
          by_cases hij : j = i
          · subst hij; rw [if_pos rfl, pk_us]
          · rw [if_neg hij, pk_un (fun q => hij q.symm)]; exact hf i h
      have kpz := kp56.upN (a := q48) (e := (eRow r.1 qc (r.2.2 ||| ((1 : Int32) <<< ((nI j) &&& 31))) (nI (lvl r.1)) (prG (upd f j 0) (r.1 * 31 + (r.2.2 ||| ((1 : Int32) <<< ((nI j) &&& 31)))) r.2.1.length))) (kp47.nin hq50)
      exact j_aret (o := (some q48)) O (Or.inl ⟨_, rfl⟩) M (Nat.le_of_ble_eq_true rfl) (by show _ ≤ r.2.1.length + 5; omega) ⟨q48, rfl, (kp47.nin hq50), hr, kpz⟩ dR_withCell_66
/-- a row's part of an address -/
def radG (r : RV) (b : Int64) : Nat → Int64
  | 0 => b
  | i + 1 => if bitN r.2.2 i then adM (radG r b i) 0 else adM (adM (radG r b i) 1) (r.2.1.getD i 0).toInt64
theorem radG_rad (h : Int64) (r : RV) : radG r (adM h r.1.toInt64) r.2.1.length = rad h r := by
  have key : ∀ n, n ≤ r.2.1.length → radG r (adM h r.1.toInt64) n = ((r.2.1.take n).zipIdx).foldl (fun h c => if bitN r.2.2 c.2 then adM h 0 else adM (adM h 1) c.1.toInt64) (adM h r.1.toInt64) := by
    intro n
    induction n with
    | zero => intro _; rfl
    | succ n ih =>
      intro hn
      rw [radG, ih (by omega), List.take_succ_eq_append_getElem (by omega), List.zipIdx_append, List.foldl_append]
      have e : (r.2.1.take n).length = n := by rw [List.length_take]; omega
      simp [e, List.getD, List.getElem?_eq_getElem (show n < r.2.1.length by omega)]
  rw [key _ (Nat.le_refl _), List.take_length]
  rfl
set_option maxRecDepth 100000 in
set_option maxHeartbeats 4000000 in
theorem mixedRow_loop {X : CX} {D : va_G} {t : Nat → ClassId} {A : Nat → Prop} {rm : Room} {g : GH} {a c : Nat} {f : Nat → Int32} {r : RV} {h b : Int64} (O : Ok X bT_mixedRow 6 "TwinTrees" (zz D t A) rm) (M : Om X (zz D t A) (some .long) 0 0 (fun v g' => v = some (.long (radG r b r.2.1.length)) ∧ g' = g)) (ha0 : rowAt t g a r) (ha : gAt g a (eRow r.1 c r.2.2 (nI (lvl r.1)) (prt r))) (hc : gAt g c (eI t r.2.1.length f)) (hf : ∀ i (h : i < r.2.1.length), f i = r.2.1[i]) (hl : r.2.1.length ≤ 32) (hrm : 1 ≤ rm.frames ∧ 30 ≤ rm.locals) : ∀ (k i : Nat), i + k = r.2.1.length → J X 6 (zz D t A) g 0 0 13 [(0, .long h), (2, .ref a), (3, .long (radG r b i)), (5, .int (nI i))] [] := by
  intro k
  induction k with
  | zero =>
    intro i hi
    have hi : i = r.2.1.length := by omega
    subst hi
    refine j_iload O dT_mixedRow_13 rfl ?_
    refine j_aload_n O 2 dT_mixedRow_15 rfl rfl ?_
    refine j_get O uwR ha rfl 1 (by decide) w291 rfl rfl dT_mixedRow_16 ?_
    refine j_alen O hc 0 rfl dT_mixedRow_19 ?_
    refine j_icmp_ge O 63 dT_mixedRow_20 (by decide) (fun c1 => ?_) (fun c1 => ?_)
    · refine j_lload_n O 3 dT_mixedRow_63 rfl rfl ?_
      exact j_lret O M (Nat.le_of_ble_eq_true rfl) (Nat.le_of_ble_eq_true rfl) ⟨rfl, rfl⟩ dT_mixedRow_64
    · exact absurd (nI_le (Nat.le_refl _) (by omega)) c1
  | succ k ih =>
    intro i hi
    have hi1 : i < r.2.1.length := by omega
    have hgd : r.2.1.getD i 0 = f i := by rw [hf i hi1]; simp [List.getD, List.getElem?_eq_getElem hi1]
    refine j_iload O dT_mixedRow_13 rfl ?_
    refine j_aload_n O 2 dT_mixedRow_15 rfl rfl ?_
    refine j_get O uwR ha rfl 1 (by decide) w291 rfl rfl dT_mixedRow_16 ?_
    refine j_alen O hc 0 rfl dT_mixedRow_19 ?_
    refine j_icmp_ge O 63 dT_mixedRow_20 (by decide) (fun c1 => ?_) (fun c1 => ?_)
    · exact absurd c1 (nI_ge hi1 (by omega))
    · refine j_aload_n O 2 dT_mixedRow_23 rfl rfl ?_
      refine j_iload O dT_mixedRow_24 rfl ?_
      refine j_callV O [.int (nI i)] (c_isNull X.2.1 D t A g a (nI i) r ha0) ha rfl w345 w346 w347 w31 w348 1 rfl rfl rfl (by decide +kernel) ⟨(by show 0 + 1 ≤ _; omega), (by show 8 + (_ + 11) + 0 ≤ _; omega)⟩ rfl (Nat.le_of_ble_eq_true rfl) dT_mixedRow_26 ⟨(by show 0 + 0 ≤ _; omega), (by show 0 + 0 ≤ _; omega)⟩ (fun v60 g61 hp62 => ?_)
      obtain ⟨rfl, hg63⟩ := hp62
      have hg63 := hg63.symm
      subst hg63
      refine j_if_eq O 40 dT_mixedRow_29 (by decide) (fun c2 => ?_) (fun c2 => ?_)
      · have c3 : ush r.2.2 (nI i) &&& 1 = 0 := by
          rcases Decidable.em (ush r.2.2 (nI i) &&& 1 = 0) with q | q
          · exact q
          · rw [if_neg q] at c2; exact absurd c2 (by decide)
        have c4 : bitN r.2.2 i = false := by simp [bitN, c3]
        refine j_lload_n O 3 dT_mixedRow_40 rfl rfl ?_
        refine j_lconst O (v := 1) dT_mixedRow_41 (by decide) ?_
        refine j_callS O [.long (radG r b i), .long 1] (c_mixed X.2.1 D t A g _ _) w365 w366 w23 w367 2 rfl rfl rfl (by decide +kernel) ⟨(by show 0 + 1 ≤ _; omega), (by show 8 + (_ + 11) + 0 ≤ _; omega)⟩ rfl (Nat.le_of_ble_eq_true rfl) dT_mixedRow_42 ⟨(by show 0 + 0 ≤ _; omega), (by show 0 + 0 ≤ _; omega)⟩ (fun v64 g65 hp66 => ?_)
        obtain ⟨rfl, hg67⟩ := hp66
        have hg67 := hg67.symm
        subst hg67
        refine j_aload_n O 2 dT_mixedRow_45 rfl rfl ?_
        refine j_get O uwR ha rfl 1 (by decide) w291 rfl rfl dT_mixedRow_46 ?_
        refine j_iload O dT_mixedRow_49 rfl ?_
        refine j_iald O hc 0 rfl (by omega) (by omega) dT_mixedRow_51 ?_
        refine j_i2l O dT_mixedRow_52 ?_
        refine j_callS O [.long (adM (radG r b i) 1), .long ((f i).toInt64)] (c_mixed X.2.1 D t A g _ _) w365 w366 w23 w367 2 rfl rfl rfl (by decide +kernel) ⟨(by show 0 + 1 ≤ _; omega), (by show 8 + (_ + 11) + 0 ≤ _; omega)⟩ rfl (Nat.le_of_ble_eq_true rfl) dT_mixedRow_53 ⟨(by show 0 + 0 ≤ _; omega), (by show 0 + 0 ≤ _; omega)⟩ (fun v68 g69 hp70 => ?_)
        obtain ⟨rfl, hg71⟩ := hp70
        have hg71 := hg71.symm
        subst hg71
        refine j_lstore_n O 3 [(3, .long (adM (adM (radG r b i) 1) (f i).toInt64)), (0, .long h), (2, .ref a), (5, .int (nI i))] dT_mixedRow_56 rfl (by decide) rfl ?_
        refine j_iinc O (nI (i + 1)) [(5, .int (nI (i + 1))), (3, .long (adM (adM (radG r b i) 1) (f i).toInt64)), (0, .long h), (2, .ref a)] dT_mixedRow_57 rfl (nI_1 _) (by decide) rfl ?_
        refine j_goto O 13 dT_mixedRow_60 (by decide) ?_
        refine J.pk [2, 3, 1, 0] rfl ?_
        have e : adM (adM (radG r b i) 1) (f i).toInt64 = radG r b (i + 1) := by rw [radG, c4, hgd]; rfl
        rw [e]
        exact ih (i + 1) (by omega)
      · have c3 : ¬ ush r.2.2 (nI i) &&& 1 = 0 := by
          intro q
          rw [if_pos q] at c2
          exact c2 rfl
        have c4 : bitN r.2.2 i = true := by simp [bitN, c3]
        refine j_lload_n O 3 dT_mixedRow_32 rfl rfl ?_
        refine j_lconst O (v := 0) dT_mixedRow_33 (by decide) ?_
        refine j_callS O [.long (radG r b i), .long 0] (c_mixed X.2.1 D t A g _ _) w365 w366 w23 w367 2 rfl rfl rfl (by decide +kernel) ⟨(by show 0 + 1 ≤ _; omega), (by show 8 + (_ + 11) + 0 ≤ _; omega)⟩ rfl (Nat.le_of_ble_eq_true rfl) dT_mixedRow_34 ⟨(by show 0 + 0 ≤ _; omega), (by show 0 + 0 ≤ _; omega)⟩ (fun v72 g73 hp74 => ?_)
        obtain ⟨rfl, hg75⟩ := hp74
        have hg75 := hg75.symm
        subst hg75
        refine j_goto O 56 dT_mixedRow_37 (by decide) ?_
        refine j_lstore_n O 3 [(3, .long (adM (radG r b i) 0)), (0, .long h), (2, .ref a), (5, .int (nI i))] dT_mixedRow_56 rfl (by decide) rfl ?_
        refine j_iinc O (nI (i + 1)) [(5, .int (nI (i + 1))), (3, .long (adM (radG r b i) 0)), (0, .long h), (2, .ref a)] dT_mixedRow_57 rfl (nI_1 _) (by decide) rfl ?_
        refine j_goto O 13 dT_mixedRow_60 (by decide) ?_
        refine J.pk [2, 3, 1, 0] rfl ?_
        have e : adM (radG r b i) 0 = radG r b (i + 1) := by rw [radG, c4]; rfl
        rw [e]
        exact ih (i + 1) (by omega)
set_option maxRecDepth 100000 in
set_option maxHeartbeats 4000000 in
theorem c_mixedRow (l : Launch) (D : va_G) (t : Nat → ClassId) (A : Nat → Prop) (g : GH) (h : Int64) (a : Nat) (r : RV) (ha0 : rowAt t g a r) (hl : r.2.1.length ≤ 32) : Ct l yT_mixedRow sT_mixedRow { frames := 1, cells := 0, slots := 0, locals := 30 } (zz D t A) [.long h, .ref a] g 0 0 (fun v g' => v = some (.long (rad h r)) ∧ g' = g) := by
  obtain ⟨c, f, ha, hc, hf⟩ := id ha0
  rw [← radG_rad]
  refine Ct.of (cc := bT_mixedRow) (maxL := 6) (ret := (some .long)) (by decide) (Nat.le_of_ble_eq_true rfl) (fun X hlx O M hN => ?_)
  show J X 6 (zz D t A) g 0 0 0 [(0, .long h), (2, .ref a)] []
  refine j_lload_n O 0 dT_mixedRow_0 rfl rfl ?_
  refine j_aload_n O 2 dT_mixedRow_1 rfl rfl ?_
  refine j_get O uwR ha rfl 0 (by decide) w288 rfl rfl dT_mixedRow_2 ?_
  refine j_i2l O dT_mixedRow_5 ?_
  refine j_callS O [.long h, .long r.1.toInt64] (c_mixed X.2.1 D t A g _ _) w365 w366 w23 w367 2 rfl rfl rfl (by decide +kernel) ⟨(Nat.le_of_ble_eq_true rfl), (Nat.le_of_ble_eq_true rfl)⟩ rfl (Nat.le_of_ble_eq_true rfl) dT_mixedRow_6 ⟨(Nat.le_of_ble_eq_true rfl), (Nat.le_of_ble_eq_true rfl)⟩ (fun v76 g77 hp78 => ?_)
  obtain ⟨rfl, hg79⟩ := hp78
  have hg79 := hg79.symm
  subst hg79
  refine j_lstore_n O 3 [(3, .long (adM h r.1.toInt64)), (0, .long h), (2, .ref a)] dT_mixedRow_9 rfl (by decide) rfl ?_
  refine j_iconst O (v := 0) dT_mixedRow_10 (by decide) ?_
  refine j_istore O [(5, .int 0), (3, .long (adM h r.1.toInt64)), (0, .long h), (2, .ref a)] dT_mixedRow_11 (by decide) rfl ?_
  refine J.pk [2, 3, 1, 0] rfl ?_
  exact mixedRow_loop O M ha0 ha hc hf hl ⟨by decide, by decide⟩ _ 0 (Nat.zero_add _)
