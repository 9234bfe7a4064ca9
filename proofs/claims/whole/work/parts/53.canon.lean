/-! rows in their one form: 0 where NULL, no bit beyond the width -/
theorem get_div (b : BitVec 32) (i : Nat) : b.getLsbD i = decide (b.toNat / 2 ^ i % 2 = 1) := by
  show b.toNat.testBit i = _
  exact Nat.testBit_eq_decide_div_mod_eq
theorem ush_amt : ∀ n, n < 32 → (((nI n).toUInt32 &&& Int32.toUInt32 31).toBitVec % 32).toNat = n := by decide +kernel
theorem bitN_get (m : Int32) {i : Nat} (hi : i < 32) : bitN m i = m.toBitVec.getLsbD i := by
  have e : (ush m (nI i)).toBitVec.toNat = m.toBitVec.toNat / 2 ^ i := pk_ushr m (nI i) i (ush_amt i hi)
  rw [get_div]
  unfold bitN
  rw [decide_eq_decide, and_one, e]
  rcases Nat.mod_two_eq_zero_or_one (m.toBitVec.toNat / 2 ^ i) with z | z
  · rw [z]; decide
  · rw [z]; decide
theorem bits_ext {m m' : Int32} (h : ∀ i, i < 32 → bitN m i = bitN m' i) : m = m' := by
  apply Int32.toBitVec_inj.mp
  apply BitVec.eq_of_getLsbD_eq
  intro i hi
  rw [← bitN_get m hi, ← bitN_get m' hi]
  exact h i hi
theorem one_shl : ∀ j, j < 32 → ∀ i, i < 32 → ((1 : Int32) <<< (nI j &&& 31)).toBitVec.getLsbD i = decide (i = j) := by decide +kernel
theorem full_shl : ∀ w, w < 7 → ∀ i, i < 32 → (((1 : Int32) <<< (nI w &&& 31)) - 1).toBitVec.getLsbD i = decide (i < w) := by decide +kernel
theorem ones_get : ∀ i, i < 32 → (-1 : Int32).toBitVec.getLsbD i = true := by decide +kernel
theorem bitN_or (m : Int32) {i j : Nat} (hi : i < 32) (hj : j < 32) : bitN (m ||| ((1 : Int32) <<< (nI j &&& 31))) i = (bitN m i || decide (i = j)) := by
  rw [bitN_get _ hi, bitN_get _ hi, Int32.toBitVec_or, BitVec.getLsbD_or, one_shl j hj i hi]
theorem bitN_clr (m : Int32) {i j : Nat} (hi : i < 32) (hj : j < 32) : bitN (m &&& (((1 : Int32) <<< (nI j &&& 31)) ^^^ (-1))) i = (bitN m i && !decide (i = j)) := by
  rw [bitN_get _ hi, bitN_get _ hi, Int32.toBitVec_and, BitVec.getLsbD_and, Int32.toBitVec_xor, BitVec.getLsbD_xor, one_shl j hj i hi, ones_get i hi]
  cases decide (i = j) <;> rfl
def rowC (r : RV) : Prop := (∀ c (h : c < r.2.1.length), bitN r.2.2 c = true → r.2.1[c] = 0) ∧ ∀ c, r.2.1.length ≤ c → c < 32 → bitN r.2.2 c = false
theorem rowC_blank (k : Int32) {w : Nat} (hw : w < 7) : rowC (blankR k w) := by
  refine ⟨fun c h _ => ?_, fun c h1 h2 => ?_⟩
  · show (List.replicate w (0 : Int32))[c]'(by simpa [blankR] using h) = 0
    simp
  · rw [blank_len] at h1
    show bitN (((1 : Int32) <<< (nI w &&& 31)) - 1) c = false
    rw [bitN_get _ h2, full_shl w hw c h2]
    simp; omega
theorem rowC_set {r : RV} (h : rowC r) {j : Nat} (x z : Int32) (hj : j < r.2.1.length) (hl : r.2.1.length ≤ 6) : rowC (setC r j x z) := by
  refine ⟨fun c hc hb => ?_, fun c h1 h2 => ?_⟩
  · have hc' : c < r.2.1.length := by rw [setC_len] at hc; exact hc
    show (r.2.1.set j (if z = 0 then x else 0))[c]'(by simpa using hc') = 0
    have hb : bitN (if z = 0 then r.2.2 &&& (((1 : Int32) <<< (nI j &&& 31)) ^^^ (-1)) else r.2.2 ||| ((1 : Int32) <<< (nI j &&& 31))) c = true := hb
    rw [List.getElem_set]
    by_cases hz : z = 0
    · rw [if_pos hz, bitN_clr _ (by omega) (by omega)] at hb
      split
      · next e => subst e; simp at hb
      · next e => exact h.1 c hc' (by rw [Bool.and_eq_true] at hb; exact hb.1)
    · rw [if_neg hz, bitN_or _ (by omega) (by omega)] at hb
      split
      · rfl
      · next e =>
        refine h.1 c hc' ?_
        rw [Bool.or_eq_true] at hb
        rcases hb with q | q
        · exact q
        · exact absurd (of_decide_eq_true q) (fun q => e q.symm)
  · rw [setC_len] at h1
    show bitN (if z = 0 then r.2.2 &&& (((1 : Int32) <<< (nI j &&& 31)) ^^^ (-1)) else r.2.2 ||| ((1 : Int32) <<< (nI j &&& 31))) c = false
    have h0 := h.2 c h1 h2
    split
    · rw [bitN_clr _ h2 (by omega), h0]; rfl
    · rw [bitN_or _ h2 (by omega), h0]
      simp; omega
theorem toInt64_inj {x y : Int32} (h : x.toInt64 = y.toInt64) : x = y := by
  have := congrArg Int64.toInt h
  rw [Int32.toInt_toInt64, Int32.toInt_toInt64] at this
  exact Int32.toInt_inj.mp this
theorem toInt64_min (x : Int32) : ¬ x.toInt64 = -9223372036854775808 := by
  intro h1
  have h2 := congrArg Int64.toInt h1
  rw [Int32.toInt_toInt64] at h2
  have h3 := Int32.le_toInt x
  have h4 : (-9223372036854775808 : Int64).toInt = -9223372036854775808 := by decide
  omega
theorem rowC_ext {r r' : RV} (h : rowC r) (h' : rowC r') (hk : r.1 = r'.1) (hl : r.2.1.length = r'.2.1.length) (hw : r.2.1.length ≤ 6) (hc : ∀ c, c < r.2.1.length → cv r c = cv r' c) : r = r' := by
  have hb : ∀ c, c < r.2.1.length → bitN r.2.2 c = bitN r'.2.2 c := by
    intro c hcl
    have e := hc c hcl
    unfold cv at e
    cases h1 : bitN r.2.2 c with
    | true =>
      cases h2 : bitN r'.2.2 c with
      | true => rfl
      | false =>
        rw [h1, h2, if_pos rfl, if_neg (by simp)] at e
        exact absurd e.symm (toInt64_min _)
    | false =>
      cases h2 : bitN r'.2.2 c with
      | false => rfl
      | true =>
        rw [h1, h2, if_neg (by simp), if_pos rfl] at e
        exact absurd e (toInt64_min _)
  have hn : r.2.2 = r'.2.2 := bits_ext (fun i hi => by
    rcases Nat.lt_or_ge i r.2.1.length with q | q
    · exact hb i q
    · rw [h.2 i q hi, h'.2 i (by omega) hi])
  have hcell : r.2.1 = r'.2.1 := by
    apply List.ext_getElem hl
    intro c h1 h2
    by_cases hbt : bitN r.2.2 c = true
    · rw [h.1 c h1 hbt, h'.1 c h2 (by rw [← hn]; exact hbt)]
    · have e := hc c h1
      rw [cv_val hbt, cv_val (by rw [← hn]; exact hbt)] at e
      have := toInt64_inj e
      simpa [List.getD, h1, h2] using this
  exact Prod.ext hk (Prod.ext hcell hn)
/-- a cell after a change, as the reference writes it -/
theorem cv_set {r : RV} {j : Nat} (x z : Int32) (hj : j < r.2.1.length) (hl : r.2.1.length ≤ 6) (c : Nat) (hc : c < r.2.1.length) : cv (setC r j x z) c = if c = j then (if z = 0 then x.toInt64 else -9223372036854775808) else cv r c := by
  unfold cv
  have eb : bitN (setC r j x z).2.2 c = if z = 0 then (bitN r.2.2 c && !decide (c = j)) else (bitN r.2.2 c || decide (c = j)) := by
    show bitN (if z = 0 then r.2.2 &&& (((1 : Int32) <<< (nI j &&& 31)) ^^^ (-1)) else r.2.2 ||| ((1 : Int32) <<< (nI j &&& 31))) c = _
    split
    · exact bitN_clr _ (by omega) (by omega)
    · exact bitN_or _ (by omega) (by omega)
  have ec : (setC r j x z).2.1.getD c 0 = if c = j then (if z = 0 then x else 0) else r.2.1.getD c 0 := by
    show (r.2.1.set j (if z = 0 then x else 0)).getD c 0 = _
    simp only [List.getD, List.getElem?_set]
    by_cases e : j = c
    · subst e; simp [hj]
    · rw [if_neg e, if_neg (fun q => e q.symm)]
  rw [eb, ec]
  by_cases e : c = j
  · subst e
    by_cases hz : z = 0
    · simp [hz]
    · simp [hz]
  · by_cases hz : z = 0
    · simp [hz, e]
    · simp [hz, e]
