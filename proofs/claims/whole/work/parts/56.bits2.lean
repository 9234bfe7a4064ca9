/-- the bits make no negative number -/
theorem btR_pos (r s : RV) {n : Nat} (hn : n ≤ 6) : 0 < btR r s n ↔ ¬ btR r s n = 0 := by
  have hm : (btR r s n).toBitVec.msb = false := by
    rw [BitVec.msb_eq_getLsbD_last]
    show (btR r s n).toBitVec.getLsbD 31 = false
    rw [← bitN_get _ (by decide), btR_bit r s (by decide) n (by omega)]
    simp
    omega
  have ht : (btR r s n).toInt = ((btR r s n).toBitVec.toNat : Int) := BitVec.toInt_eq_toNat_of_msb hm
  have e0 : (0 : Int32).toInt = 0 := by decide
  constructor
  · intro h z
    rw [z] at h
    exact lt_irr32 _ h
  · intro h
    apply Int32.lt_iff_toInt_lt.mpr
    rw [e0, ht]
    rcases Nat.eq_zero_or_pos (btR r s n).toBitVec.toNat with z | z
    · exfalso
      apply h
      apply Int32.toInt_inj.mp
      rw [ht, z, e0]
      rfl
    · omega
