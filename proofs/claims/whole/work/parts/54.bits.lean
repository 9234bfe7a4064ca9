/-! the bits of a comparison, as the reference counts them -/
def btR (r s : RV) : Nat → Int32
  | 0 => 0
  | n + 1 => if cv r n = cv s n then btR r s n else btR r s n ||| ((1 : Int32) <<< (nI n &&& 31))
theorem bitN_zero {i : Nat} (hi : i < 32) : bitN 0 i = false := by
  rw [bitN_get _ hi]
  show (0#32).getLsbD i = false
  simp
theorem btR_bit (r s : RV) {i : Nat} (hi : i < 32) : ∀ n, n ≤ 32 → bitN (btR r s n) i = decide (i < n ∧ ¬ cv r i = cv s i)
  | 0, _ => by rw [btR, bitN_zero hi]; simp
  | n + 1, hn => by
    have ih := btR_bit r s hi n (by omega)
    rw [btR]
    split
    · next e =>
      rw [ih, decide_eq_decide]
      constructor
      · rintro ⟨a, b⟩; exact ⟨by omega, b⟩
      · rintro ⟨a, b⟩
        refine ⟨?_, b⟩
        rcases Nat.lt_or_ge i n with q | q
        · exact q
        · have : i = n := by omega
          subst this
          exact absurd e b
    · next e =>
      rw [bitN_or _ hi (by omega), ih, ← Bool.decide_or, decide_eq_decide]
      constructor
      · rintro (⟨a, b⟩ | a)
        · exact ⟨by omega, b⟩
        · subst a; exact ⟨by omega, e⟩
      · rintro ⟨a, b⟩
        rcases Nat.lt_or_ge i n with q | q
        · exact Or.inl ⟨q, b⟩
        · exact Or.inr (by omega)
theorem unG_bit (f1 f2 : Nat → Int32) (b : Int32) {i : Nat} (hi : i < 32) : ∀ n, n ≤ 32 → bitN (unG f1 f2 b n) i = (bitN b i || decide (i < n ∧ ¬ f1 i = f2 i))
  | 0, _ => by rw [unG]; simp
  | n + 1, hn => by
    have ih := unG_bit f1 f2 b hi n (by omega)
    rw [unG]
    split
    · next e =>
      rw [ih]
      congr 1
      rw [decide_eq_decide]
      constructor
      · rintro ⟨a, b⟩; exact ⟨by omega, b⟩
      · rintro ⟨a, b⟩
        refine ⟨?_, b⟩
        rcases Nat.lt_or_ge i n with q | q
        · exact q
        · have : i = n := by omega
          subst this
          exact absurd e b
    · next e =>
      rw [bitN_or _ hi (by omega), ih, Bool.or_assoc, ← Bool.decide_or]
      congr 1
      rw [decide_eq_decide]
      constructor
      · rintro (⟨a, b⟩ | a)
        · exact ⟨by omega, b⟩
        · subst a; exact ⟨by omega, e⟩
      · rintro ⟨a, b⟩
        rcases Nat.lt_or_ge i n with q | q
        · exact Or.inl ⟨q, b⟩
        · exact Or.inr (by omega)
theorem bitN_xor (a b : Int32) {i : Nat} (hi : i < 32) : bitN (a ^^^ b) i = (bitN a i ^^ bitN b i) := by
  rw [bitN_get _ hi, bitN_get _ hi, bitN_get _ hi, Int32.toBitVec_xor, BitVec.getLsbD_xor]
theorem unl_btR {r s : RV} (hr : rowC r) (hs : rowC s) (hl : r.2.1.length = s.2.1.length) (hw : r.2.1.length ≤ 6) : btR r s r.2.1.length = unl r s := by
  apply bits_ext
  intro i hi
  unfold unl
  rw [btR_bit r s hi _ (by omega), unG_bit _ _ _ hi _ (by omega), bitN_xor _ _ hi, ← hl, Nat.min_self]
  rcases Nat.lt_or_ge i r.2.1.length with q | q
  · have e1 : r.2.1.getD i 0 = r.2.1[i] := by simp [List.getD, q]
    have e2 : s.2.1.getD i 0 = s.2.1[i]'(by omega) := by simp [List.getD, show i < s.2.1.length by omega]
    unfold cv
    rw [e1, e2]
    cases h1 : bitN r.2.2 i with
    | true =>
      have z1 := hr.1 i q h1
      cases h2 : bitN s.2.2 i with
      | true =>
        have z2 := hs.1 i (by omega) h2
        simp [z1, z2]
      | false =>
        have := toInt64_min (s.2.1[i]'(by omega))
        simp [q]
        exact fun e => this e.symm
    | false =>
      cases h2 : bitN s.2.2 i with
      | true =>
        have := toInt64_min r.2.1[i]
        simp [q, this]
      | false =>
        have e : (r.2.1[i].toInt64 = (s.2.1[i]'(by omega)).toInt64) ↔ r.2.1[i] = s.2.1[i]'(by omega) := ⟨toInt64_inj, fun z => by rw [z]⟩
        simp [q, e]
  · rw [hr.2 i q hi, hs.2 i (by omega) hi]
    have : ¬ i < r.2.1.length := by omega
    simp [this]
