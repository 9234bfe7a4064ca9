/-! rows of the law's own walk -/
section JLW
variable {X : CX} {cc : ByteArray} {nL : Nat} {own : String} {Z : ZZ} {rm : Room} {g : GH} {k n pc : Nat} {lv : List (Nat × Value)} {st : List Value}
theorem j_sld (O : Ok X cc nL own Z rm) {b L : Nat} {xs : Nat → Int32} (hX : va_X b L xs X.2.2.2.2.1 X.2.2.2.2.1.heap) (hbl : b < X.2.2.2.2.1.heap.size) (hbA : ¬ zA Z b) {i : Nat} (hi : i < L) (hL : L < 2 ^ 31) (d : decode cc pc = .ok (.iaload, 1)) (kk : J X nL Z g k n (pc + 1) lv (.int (xs i) :: st)) : J X nL Z g k n pc lv (.int (nI i) :: .ref b :: st) := by
  intro H locs ls a b0 h
  have e : (nI i).toNatClampNeg = i := nI_clamp (by omega)
  have := kk H locs ls a b0 h
  rw [← e] at this
  rw [e] at this
  exact va_sld O.1.1 O.1.2.1 hX hbl hbA b0 (vp_in_nI hi hL) d (by rw [e]; exact this)
theorem j_slen (O : Ok X cc nL own Z rm) {b L : Nat} {xs : Nat → Int32} (hX : va_X b L xs X.2.2.2.2.1 X.2.2.2.2.1.heap) (hbl : b < X.2.2.2.2.1.heap.size) (hbA : ¬ zA Z b) (d : decode cc pc = .ok (.arraylength, 1)) (kk : J X nL Z g k n (pc + 1) lv (.int (nI L) :: st)) : J X nL Z g k n pc lv (.ref b :: st) := fun H locs ls a b0 h => va_slen O.1.1 O.1.2.1 hX hbl hbA b0 d (kk H locs ls a b0 h)
theorem j_tsIn (O : Ok X cc nL own Z rm) {dflt lo hi : Int} {offs : Array Int} {len : Nat} {x : Int32} {off : Int} {tgt : Nat} (d : decode cc pc = .ok (.tableswitch dflt lo hi offs, len)) (h1 : ¬ x.toInt < lo) (h2 : ¬ hi < x.toInt) (ho : offs[(x.toInt - lo).toNat]? = some off) (ht : (pc : Int) + off = (tgt : Int)) (kk : J X nL Z g k n tgt lv st) : J X nL Z g k n pc lv (.int x :: st) := fun H locs ls a b h => lv_tableIn O.1.1 O.1.2.1 d h1 h2 ho ht (kk H locs ls a b h)
theorem j_tsOut (O : Ok X cc nL own Z rm) {dflt lo hi : Int} {offs : Array Int} {len : Nat} {x : Int32} {tgt : Nat} (d : decode cc pc = .ok (.tableswitch dflt lo hi offs, len)) (h0 : x.toInt < lo ∨ hi < x.toInt) (ht : (pc : Int) + dflt = (tgt : Int)) (kk : J X nL Z g k n tgt lv st) : J X nL Z g k n pc lv (.int x :: st) := fun H locs ls a b h => lv_tableOut O.1.1 O.1.2.1 d h0 ht (kk H locs ls a b h)
theorem J.split {q : Nat} {e : va_E} (hq : q ∉ g.1) (kk : J X nL Z (gPl g ([q], fun _ => e)) k n pc lv st) : J X nL Z (gNew g q e) k n pc lv st := by
  intro H locs ls a b h
  refine kk H locs ls ?_ b h
  rw [gW_iff] at a
  rw [gPl_iff, gW_iff, gW_iff]
  obtain ⟨a1, a2, a3⟩ := a
  have a2' := List.nodup_append.mp a2
  refine ⟨⟨fun x hx => ?_, a2'.1, fun x hx => a3 x (List.mem_append_left _ hx)⟩, ⟨fun x hx => ?_, by simp, fun x hx => a3 x (List.mem_append_right _ hx)⟩, fun x hx hy => ?_⟩
  · have := a1 x (List.mem_append_left _ hx)
    have e1 : (gNew g q e).2 x = g.2 x := va_up_ne _ _ (fun z => hq (z ▸ hx))
    rw [e1] at this
    exact this
  · have hx2 : x = q := List.mem_singleton.mp hx
    subst hx2
    have := a1 x (List.mem_append_right _ hx)
    have e1 : (gNew g x e).2 x = e := va_up_self _ _ _
    rw [e1] at this
    exact this
  · have hy2 : x = q := List.mem_singleton.mp hy
    exact hq (hy2 ▸ hx)
end JLW
theorem and15 (x : Int32) : ∃ v, v < 16 ∧ x &&& 15 = nI v := by
  refine ⟨(x &&& 15).toBitVec.toNat, ?_, ?_⟩
  · show (x.toBitVec &&& 15#32).toNat < 16
    rw [BitVec.toNat_and]
    have : x.toBitVec.toNat &&& (15#32).toNat ≤ (15#32).toNat := Nat.and_le_right
    have e : (15#32).toNat = 15 := rfl
    omega
  · apply Int32.toBitVec_inj.mp
    apply BitVec.eq_of_toNat_eq
    rw [pk_tn (x &&& 15).toBitVec.isLt]
theorem sub6 {L : Nat} (h : L ≤ 3072) : (nI L - 6).toInt = (L : Int) - 6 := by
  rcases Nat.lt_or_ge L 6 with z | z
  · rcases (show L = 0 ∨ L = 1 ∨ L = 2 ∨ L = 3 ∨ L = 4 ∨ L = 5 by omega) with rfl | rfl | rfl | rfl | rfl | rfl <;> decide
  · have e : nI L - 6 = nI (L - 6) := pk_sub (a := L) (b := 6) z
    rw [e, nI_toInt (by omega)]
    omega
