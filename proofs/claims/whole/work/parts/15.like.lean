set_option maxRecDepth 100000 in
set_option maxHeartbeats 4000000 in
theorem isLikeLeaf_loop {X : CX} {D : va_G} {t : Nat → ClassId} {A : Nat → Prop} {rm : Room} {g : GH} {a s ra ba fr ns : Nat} {f0 fs : Nat → Option Nat} {rs0 rs : List RV} {mu : MU} (O : Ok X bN_isLikeLeaf 5 "TwinTrees$Node" (zz D t A) rm) (M : Om X (zz D t A) (some .boolean) 0 0 (fun v g' => ∃ z : Int32, v = some (.int z) ∧ ((z = 1 ∧ rs0 = rs) ∨ (z = 0 ∧ ¬ rs0 = rs)) ∧ g' = g)) (ha : gAt g a (nCell 0 rs0 ra ba mu)) (hra : gAt g ra (eRs t rs0.length f0)) (hr0 : rowsIn t g f0 0 rs0) (hs : gAt g s (eRs t ns fs)) (hr : rowsIn t g fs fr rs) (hw0 : ∀ r ∈ rs0, r.2.1.length ≤ 32) (hw : ∀ r ∈ rs, r.2.1.length ≤ 32) (hns : fr + rs.length ≤ ns) (hn31 : ns < 2 ^ 27) (hlen : rs0.length = rs.length) (hrm : 2 ≤ rm.frames ∧ 60 ≤ rm.locals) : ∀ (k i : Nat), i + k = rs.length → (∀ j (h0 : j < rs0.length) (h1 : j < rs.length), j < i → rs0[j] = rs[j]) → J X 5 (zz D t A) g 0 0 23 [(0, .ref a), (1, .ref s), (2, .int (nI fr)), (3, .int (nI (fr + rs.length))), (4, .int (nI (fr + i)))] [] := by
  intro k
  induction k with
  | zero =>
    intro i hi heq
    have hi : i = rs.length := by omega
    subst hi
    refine j_iload O dN_isLikeLeaf_23 rfl ?_
    refine j_iload_n O 3 dN_isLikeLeaf_25 rfl rfl ?_
    refine j_icmp_ge O 56 dN_isLikeLeaf_26 (by decide) (fun c1 => ?_) (fun c1 => ?_)
    · refine j_iconst O (v := 1) dN_isLikeLeaf_56 (by decide) ?_
      exact j_zret O (by decide) M (Nat.le_of_ble_eq_true rfl) (Nat.le_of_ble_eq_true rfl) ⟨1, rfl, Or.inl ⟨rfl, List.ext_getElem hlen (fun j h1 h2 => heq j h1 h2 h2)⟩, rfl⟩ dN_isLikeLeaf_57
    · exact absurd (nI_le (Nat.le_refl _) (by omega)) c1
  | succ k ih =>
    intro i hi heq
    have hi1 : i < rs.length := by omega
    have hi0 : i < rs0.length := by omega
    obtain ⟨x, hfx, hx⟩ := hr0 i hi0
    rw [Nat.zero_add] at hfx
    obtain ⟨y, hfy, hy⟩ := hr i hi1
    obtain ⟨xk, xc, xn, xl, xp, hxc⟩ := hx.isRow
    refine j_iload O dN_isLikeLeaf_23 rfl ?_
    refine j_iload_n O 3 dN_isLikeLeaf_25 rfl rfl ?_
    refine j_icmp_ge O 56 dN_isLikeLeaf_26 (by decide) (fun c1 => ?_) (fun c1 => ?_)
    · exact absurd c1 (nI_ge (by omega) (by omega))
    · refine j_aload_n O 0 dN_isLikeLeaf_29 rfl rfl ?_
      refine j_get O uwN ha rfl 1 (by decide) w133 rfl rfl dN_isLikeLeaf_30 ?_
      refine j_iload O dN_isLikeLeaf_33 rfl ?_
      refine j_iload_n O 2 dN_isLikeLeaf_35 rfl rfl ?_
      refine j_isub O dN_isLikeLeaf_36 ?_
      refine j_eqi (nI (fr + i - fr)) (pk_sub (by omega)) ?_
      refine j_eqi (nI i) (by rw [show fr + i - fr = i by omega]) ?_
      refine j_aald O hra 1 rfl (by omega) (by omega) dN_isLikeLeaf_37 ?_
      refine j_some x hfx ?_
      refine j_aload_n O 1 dN_isLikeLeaf_38 rfl rfl ?_
      refine j_iload O dN_isLikeLeaf_39 rfl ?_
      refine j_aald O hs 1 rfl (by omega) (by omega) dN_isLikeLeaf_41 ?_
      refine j_some y hfy ?_
      refine j_callV O [.ref y] (c_isLike X.2.1 D t A g x y rs0[i] rs[i] hx hy (hw0 _ (List.getElem_mem _)) (hw _ (List.getElem_mem _))) hxc rfl w116 w117 w118 w31 w119 1 rfl rfl rfl (by decide +kernel) ⟨(by show 1 + 1 ≤ _; omega), (by show 8 + (_ + 11) + 30 ≤ _; omega)⟩ rfl (Nat.le_of_ble_eq_true rfl) dN_isLikeLeaf_42 ⟨(by show 0 + 0 ≤ _; omega), (by show 0 + 0 ≤ _; omega)⟩ (fun v1 g2 hp3 => ?_)
      obtain ⟨rfl, hg4⟩ := hp3
      have hg4 := hg4.symm
      subst hg4
      refine j_if_ne O 50 dN_isLikeLeaf_45 (by decide) (fun c2 => ?_) (fun c2 => ?_)
      · have c3 : rs0[i] = rs[i] := by
          rcases Decidable.em (rs0[i] = rs[i]) with q | q
          · exact q
          · rw [if_neg q] at c2; exact absurd rfl c2
        refine j_iinc O (nI (fr + i + 1)) [(4, .int (nI (fr + i + 1))), (0, .ref a), (1, .ref s), (2, .int (nI fr)), (3, .int (nI (fr + rs.length)))] dN_isLikeLeaf_50 rfl (nI_1 _) (by decide) rfl ?_
        refine j_goto O 23 dN_isLikeLeaf_53 (by decide) ?_
        rw [Nat.add_assoc fr i 1]
        refine J.pk [1, 2, 3, 4, 0] rfl ?_
        refine ih (i + 1) (by omega) (fun j h0 h1 hj => ?_)
        rcases Nat.lt_or_ge j i with z | z
        · exact heq j h0 h1 z
        · have hj : j = i := by omega
          subst hj
          exact c3
      · have c3 : ¬ rs0[i] = rs[i] := fun q => by
          rw [if_pos q] at c2; exact absurd c2 (by decide)
        refine j_iconst O (v := 0) dN_isLikeLeaf_48 (by decide) ?_
        exact j_zret O (by decide) M (Nat.le_of_ble_eq_true rfl) (Nat.le_of_ble_eq_true rfl) ⟨0, rfl, Or.inr ⟨rfl, fun q => c3 (by subst q; rfl)⟩, rfl⟩ dN_isLikeLeaf_49
set_option maxRecDepth 100000 in
set_option maxHeartbeats 4000000 in
theorem c_isLikeLeaf (l : Launch) (D : va_G) (t : Nat → ClassId) (A : Nat → Prop) (g : GH) (a s ra ba fr ns h nr : Nat) (f0 fs : Nat → Option Nat) (rs0 rs : List RV) (mu : MU) (ha : gAt g a (nCell h rs0 ra ba mu)) (hra : gAt g ra (eRs t nr f0)) (hr0 : h = 0 → nr = rs0.length ∧ rowsIn t g f0 0 rs0) (hs : gAt g s (eRs t ns fs)) (hr : rowsIn t g fs fr rs) (hw0 : ∀ r ∈ rs0, r.2.1.length ≤ 32) (hw : ∀ r ∈ rs, r.2.1.length ≤ 32) (hns : fr + rs.length ≤ ns) (hn31 : ns < 2 ^ 27) (hnr : nr < 2 ^ 27) (hh : h < 2 ^ 27) : Ct l yN_isLikeLeaf sN_isLikeLeaf { frames := 2, cells := 0, slots := 0, locals := 60 } (zz D t A) [.ref a, .ref s, .int (nI fr), .int (nI (fr + rs.length))] g 0 0 (fun v g' => ∃ z : Int32, v = some (.int z) ∧ ((z = 1 ∧ (h = 0 ∧ rs0 = rs)) ∨ (z = 0 ∧ ¬ (h = 0 ∧ rs0 = rs))) ∧ g' = g) := by
  refine Ct.of (cc := bN_isLikeLeaf) (maxL := 5) (ret := (some .boolean)) (by decide) (Nat.le_of_ble_eq_true rfl) (fun X hl O M hN => ?_)
  show J X 5 (zz D t A) g 0 0 0 [(0, .ref a), (1, .ref s), (2, .int (nI fr)), (3, .int (nI (fr + rs.length)))] []
  rcases Nat.eq_zero_or_pos h with h0 | h0
  · subst h0
    obtain ⟨hn1, hr1⟩ := hr0 rfl
    subst hn1
    refine j_aload_n O 0 dN_isLikeLeaf_0 rfl rfl ?_
    refine j_get O uwN ha rfl 0 (by decide) w131 rfl rfl dN_isLikeLeaf_1 ?_
    refine j_if_ne O 18 dN_isLikeLeaf_4 (by decide) (fun c1 => ?_) (fun c1 => ?_)
    · exact absurd rfl c1
    · refine j_aload_n O 0 dN_isLikeLeaf_7 rfl rfl ?_
      refine j_get O uwN ha rfl 1 (by decide) w133 rfl rfl dN_isLikeLeaf_8 ?_
      refine j_alen O hra 1 rfl dN_isLikeLeaf_11 ?_
      refine j_iload_n O 3 dN_isLikeLeaf_12 rfl rfl ?_
      refine j_iload_n O 2 dN_isLikeLeaf_13 rfl rfl ?_
      refine j_isub O dN_isLikeLeaf_14 ?_
      refine j_eqi (nI (fr + rs.length - fr)) (pk_sub (by omega)) ?_
      refine j_eqi (nI rs.length) (by rw [show fr + rs.length - fr = rs.length by omega]) ?_
      refine j_icmp_eq O 20 dN_isLikeLeaf_15 (by decide) (fun c2 => ?_) (fun c2 => ?_)
      · have hlen : rs0.length = rs.length := (nI_eq (by omega) (by omega)).mp c2
        refine j_iload_n O 2 dN_isLikeLeaf_20 rfl rfl ?_
        refine j_istore O [(4, .int (nI fr)), (0, .ref a), (1, .ref s), (2, .int (nI fr)), (3, .int (nI (fr + rs.length)))] dN_isLikeLeaf_21 (by decide) rfl ?_
        refine J.pk [1, 2, 3, 4, 0] rfl ?_
        have M2 : Om X (zz D t A) (some .boolean) 0 0 (fun v g' => ∃ z : Int32, v = some (.int z) ∧ ((z = 1 ∧ rs0 = rs) ∨ (z = 0 ∧ ¬ rs0 = rs)) ∧ g' = g) := by
          have e : (fun (v : Option Value) (g' : GH) => ∃ z : Int32, v = some (.int z) ∧ ((z = 1 ∧ rs0 = rs) ∨ (z = 0 ∧ ¬ rs0 = rs)) ∧ g' = g) = (fun (v : Option Value) (g' : GH) => ∃ z : Int32, v = some (.int z) ∧ ((z = 1 ∧ (0 = 0 ∧ rs0 = rs)) ∨ (z = 0 ∧ ¬ (0 = 0 ∧ rs0 = rs))) ∧ g' = g) := by
            funext v g'; simp only [true_and]
          rw [e]; exact M
        exact isLikeLeaf_loop O M2 ha hra hr1 hs hr hw0 hw hns hn31 hlen ⟨by decide, by decide⟩ _ 0 (Nat.zero_add _) (fun j _ _ h => by omega)
      · refine j_iconst O (v := 0) dN_isLikeLeaf_18 (by decide) ?_
        exact j_zret O (by decide) M (Nat.le_of_ble_eq_true rfl) (Nat.le_of_ble_eq_true rfl) ⟨0, rfl, Or.inr ⟨rfl, fun q => c2 (by rw [q.2])⟩, rfl⟩ dN_isLikeLeaf_19
  · refine j_aload_n O 0 dN_isLikeLeaf_0 rfl rfl ?_
    refine j_get O uwN ha rfl 0 (by decide) w131 rfl rfl dN_isLikeLeaf_1 ?_
    refine j_if_ne O 18 dN_isLikeLeaf_4 (by decide) (fun c1 => ?_) (fun c1 => ?_)
    · refine j_iconst O (v := 0) dN_isLikeLeaf_18 (by decide) ?_
      exact j_zret O (by decide) M (Nat.le_of_ble_eq_true rfl) (Nat.le_of_ble_eq_true rfl) ⟨0, rfl, Or.inr ⟨rfl, fun q => by omega⟩, rfl⟩ dN_isLikeLeaf_19
    · exact absurd ((nI_eq (b := 0) (by omega) (by omega)).mp c1) (by omega)
set_option maxRecDepth 100000 in
set_option maxHeartbeats 4000000 in
theorem isLikeBranch_loop {X : CX} {D : va_G} {t : Nat → ClassId} {A : Nat → Prop} {rm : Room} {g : GH} {a s ra ba fr ns h nb m : Nat} {fb fs : Nat → Option Nat} {rs0 : List RV} {mu : MU} (O : Ok X bN_isLikeBranch 5 "TwinTrees$Node" (zz D t A) rm) (M : Om X (zz D t A) (some .boolean) 0 0 (fun v g' => ∃ z : Int32, v = some (.int z) ∧ ((z = 1 ∧ (nb = m ∧ ∀ j, j < m → fb j = fs (fr + j))) ∨ (z = 0 ∧ ¬ (nb = m ∧ ∀ j, j < m → fb j = fs (fr + j)))) ∧ g' = g)) (ha : gAt g a (nCell h rs0 ra ba mu)) (hba : gAt g ba (eNs t nb fb)) (hs : gAt g s (eNs t ns fs)) (hns : fr + m ≤ ns) (hn31 : ns < 2 ^ 27) (hnb : nb < 2 ^ 27) (hm : nb = m) : ∀ (k i : Nat), i + k = m → (∀ j, j < i → fb j = fs (fr + j)) → J X 5 (zz D t A) g 0 0 16 [(0, .ref a), (1, .ref s), (2, .int (nI fr)), (3, .int (nI (fr + m))), (4, .int (nI (fr + i)))] [] := by
  intro k
  induction k with
  | zero =>
    intro i hi heq
    have hi : i = m := by omega
    subst hi
    refine j_iload O dN_isLikeBranch_16 rfl ?_
    refine j_iload_n O 3 dN_isLikeBranch_18 rfl rfl ?_
    refine j_icmp_ge O 46 dN_isLikeBranch_19 (by decide) (fun c1 => ?_) (fun c1 => ?_)
    · refine j_iconst O (v := 1) dN_isLikeBranch_46 (by decide) ?_
      exact j_zret O (by decide) M (Nat.le_of_ble_eq_true rfl) (Nat.le_of_ble_eq_true rfl) ⟨1, rfl, Or.inl ⟨rfl, hm, heq⟩, rfl⟩ dN_isLikeBranch_47
    · exact absurd (nI_le (Nat.le_refl _) (by omega)) c1
  | succ k ih =>
    intro i hi heq
    refine j_iload O dN_isLikeBranch_16 rfl ?_
    refine j_iload_n O 3 dN_isLikeBranch_18 rfl rfl ?_
    refine j_icmp_ge O 46 dN_isLikeBranch_19 (by decide) (fun c1 => ?_) (fun c1 => ?_)
    · exact absurd c1 (nI_ge (by omega) (by omega))
    · refine j_aload_n O 0 dN_isLikeBranch_22 rfl rfl ?_
      refine j_get O uwN ha rfl 2 (by decide) w135 rfl rfl dN_isLikeBranch_23 ?_
      refine j_iload O dN_isLikeBranch_26 rfl ?_
      refine j_iload_n O 2 dN_isLikeBranch_28 rfl rfl ?_
      refine j_isub O dN_isLikeBranch_29 ?_
      refine j_eqi (nI (fr + i - fr)) (pk_sub (by omega)) ?_
      refine j_eqi (nI i) (by rw [show fr + i - fr = i by omega]) ?_
      refine j_aald O hba 2 rfl (by omega) (by omega) dN_isLikeBranch_30 ?_
      refine j_aload_n O 1 dN_isLikeBranch_31 rfl rfl ?_
      refine j_iload O dN_isLikeBranch_32 rfl ?_
      refine j_aald O hs 2 rfl (by omega) (by omega) dN_isLikeBranch_34 ?_
      refine j_acmp_eq (rx := (fb i)) (ry := (fs (fr + i))) O 40 dN_isLikeBranch_35 (by decide) (fun c2 => ?_) (fun c2 => ?_)
      · refine j_iinc O (nI (fr + i + 1)) [(4, .int (nI (fr + i + 1))), (0, .ref a), (1, .ref s), (2, .int (nI fr)), (3, .int (nI (fr + m)))] dN_isLikeBranch_40 rfl (nI_1 _) (by decide) rfl ?_
        refine j_goto O 16 dN_isLikeBranch_43 (by decide) ?_
        rw [Nat.add_assoc fr i 1]
        refine J.pk [1, 2, 3, 4, 0] rfl ?_
        refine ih (i + 1) (by omega) (fun j hj => ?_)
        rcases Nat.lt_or_ge j i with z | z
        · exact heq j z
        · have hj : j = i := by omega
          subst hj
          exact c2
      · refine j_iconst O (v := 0) dN_isLikeBranch_38 (by decide) ?_
        exact j_zret O (by decide) M (Nat.le_of_ble_eq_true rfl) (Nat.le_of_ble_eq_true rfl) ⟨0, rfl, Or.inr ⟨rfl, fun q => c2 (q.2 i (by omega))⟩, rfl⟩ dN_isLikeBranch_39
set_option maxRecDepth 100000 in
set_option maxHeartbeats 4000000 in
theorem c_isLikeBranch (l : Launch) (D : va_G) (t : Nat → ClassId) (A : Nat → Prop) (g : GH) (a s ra ba fr ns h nb m : Nat) (fb fs : Nat → Option Nat) (rs0 : List RV) (mu : MU) (ha : gAt g a (nCell h rs0 ra ba mu)) (hba : gAt g ba (eNs t nb fb)) (hs : gAt g s (eNs t ns fs)) (hns : fr + m ≤ ns) (hn31 : ns < 2 ^ 27) (hnb : nb < 2 ^ 27) : Ct l yN_isLikeBranch sN_isLikeBranch { frames := 0, cells := 0, slots := 0, locals := 0 } (zz D t A) [.ref a, .ref s, .int (nI fr), .int (nI (fr + m))] g 0 0 (fun v g' => ∃ z : Int32, v = some (.int z) ∧ ((z = 1 ∧ (nb = m ∧ ∀ j, j < m → fb j = fs (fr + j))) ∨ (z = 0 ∧ ¬ (nb = m ∧ ∀ j, j < m → fb j = fs (fr + j)))) ∧ g' = g) := by
  refine Ct.of (cc := bN_isLikeBranch) (maxL := 5) (ret := (some .boolean)) (by decide) (Nat.le_of_ble_eq_true rfl) (fun X hl O M hN => ?_)
  show J X 5 (zz D t A) g 0 0 0 [(0, .ref a), (1, .ref s), (2, .int (nI fr)), (3, .int (nI (fr + m)))] []
  refine j_aload_n O 0 dN_isLikeBranch_0 rfl rfl ?_
  refine j_get O uwN ha rfl 2 (by decide) w135 rfl rfl dN_isLikeBranch_1 ?_
  refine j_alen O hba 2 rfl dN_isLikeBranch_4 ?_
  refine j_iload_n O 3 dN_isLikeBranch_5 rfl rfl ?_
  refine j_iload_n O 2 dN_isLikeBranch_6 rfl rfl ?_
  refine j_isub O dN_isLikeBranch_7 ?_
  refine j_eqi (nI (fr + m - fr)) (pk_sub (by omega)) ?_
  refine j_eqi (nI m) (by rw [show fr + m - fr = m by omega]) ?_
  refine j_icmp_eq O 13 dN_isLikeBranch_8 (by decide) (fun c1 => ?_) (fun c1 => ?_)
  · refine j_iload_n O 2 dN_isLikeBranch_13 rfl rfl ?_
    refine j_istore O [(4, .int (nI fr)), (0, .ref a), (1, .ref s), (2, .int (nI fr)), (3, .int (nI (fr + m)))] dN_isLikeBranch_14 (by decide) rfl ?_
    refine J.pk [1, 2, 3, 4, 0] rfl ?_
    exact isLikeBranch_loop O M ha hba hs hns hn31 hnb ((nI_eq (by omega) (by omega)).mp c1) _ 0 (Nat.zero_add _) (fun j hj => by omega)
  · refine j_iconst O (v := 0) dN_isLikeBranch_11 (by decide) ?_
    exact j_zret O (by decide) M (Nat.le_of_ble_eq_true rfl) (Nat.le_of_ble_eq_true rfl) ⟨0, rfl, Or.inr ⟨rfl, fun q => c1 (by rw [q.1])⟩, rfl⟩ dN_isLikeBranch_12
set_option maxRecDepth 100000 in
set_option maxHeartbeats 4000000 in
theorem c_pend (l : Launch) (D : va_G) (t : Nat → ClassId) (A : Nat → Prop) (g : GH) (s a b xra xba : Nat) (p xnx : Option Nat) (ns sz xh xrc xsz xlk xll xpr xha xst : Int32) (xad : Int64) (hs : gAt g s (eSt b p ns sz)) (ha : gAt g a (eNode xh xra xba xrc xsz xlk xll xpr xad xha xst xnx)) : Ct l yS_pend sS_pend { frames := 0, cells := 0, slots := 0, locals := 0 } (zz D t A) [.ref s, .ref a] g 0 0 (fun v g' => v = some (.ref a) ∧ gAt g' s (eSt b (some a) ns sz) ∧ gAt g' a (eNode xh xra xba xrc xsz xlk xll xpr xad xha xst p) ∧ Kp [s, a] g g') := by
  refine Ct.of (cc := bS_pend) (maxL := 2) (ret := (some (.object "TwinTrees$Node"))) (by decide) (Nat.le_of_ble_eq_true rfl) (fun X hl O M hN => ?_)
  show J X 2 (zz D t A) g 0 0 0 [(0, .ref s), (1, .ref a)] []
  have kp0 : Kp [s, a] g g := Kp.rf
  refine j_aload_n O 1 dS_pend_0 rfl rfl ?_
  refine j_aload_n O 0 dS_pend_1 rfl rfl ?_
  refine j_get O uwS hs rfl 1 (by decide) w49 rfl rfl dS_pend_2 ?_
  refine j_put O uwN ha rfl 11 (by decide) w155 rfl tN ftN fnN rfl (.object "TwinTrees$Node") (by decide +kernel) (by cases (p) <;> rfl) (by cases (p) <;> rfl) (Nat.le_of_ble_eq_true rfl) [.int xh, .ref xra, .ref xba, .int xrc, .int xsz, .int xlk, .int xll, .int xpr, .long xad, .int xha, .int xst, va_rf p] rfl dS_pend_5 (fun g5 e6 => ?_)
  have h7 := gUp_ne (e' := .inr (2, [.int xh, .ref xra, .ref xba, .int xrc, .int xsz, .int xlk, .int xll, .int xpr, .long xad, .int xha, .int xst, va_rf p])) hs (hs.ne ha (by simp))
  rw [← e6] at h7
  have h8 := gUp_self (e' := .inr (2, [.int xh, .ref xra, .ref xba, .int xrc, .int xsz, .int xlk, .int xll, .int xpr, .long xad, .int xha, .int xst, va_rf p])) ha
  rw [← e6] at h8
  have kp9 := kp0.up (a := a) (e := .inr (2, [.int xh, .ref xra, .ref xba, .int xrc, .int xsz, .int xlk, .int xll, .int xpr, .long xad, .int xha, .int xst, va_rf p])) (by simp)
  rw [← e6] at kp9
  refine j_aload_n O 0 dS_pend_8 rfl rfl ?_
  refine j_aload_n O 1 dS_pend_9 rfl rfl ?_
  refine j_put O uwS h7 rfl 1 (by decide) w49 rfl tS ftS fnS rfl (.object "TwinTrees$Node") (by decide +kernel) rfl rfl (Nat.le_of_ble_eq_true rfl) [.ref b, .ref a, .int ns, .int sz] rfl dS_pend_10 (fun g10 e11 => ?_)
  have h12 := gUp_ne (e' := .inr (5, [.ref b, .ref a, .int ns, .int sz])) h8 (h8.ne h7 (by simp))
  rw [← e11] at h12
  have h13 := gUp_self (e' := .inr (5, [.ref b, .ref a, .int ns, .int sz])) h7
  rw [← e11] at h13
  have kp14 := kp9.up (a := s) (e := .inr (5, [.ref b, .ref a, .int ns, .int sz])) (by simp)
  rw [← e11] at kp14
  refine j_aload_n O 1 dS_pend_13 rfl rfl ?_
  exact j_aret (o := (some a)) O (Or.inl ⟨_, rfl⟩) M (Nat.le_of_ble_eq_true rfl) (Nat.le_of_ble_eq_true rfl) ⟨rfl, h13, h12, kp14⟩ dS_pend_14
set_option maxRecDepth 100000 in
set_option maxHeartbeats 4000000 in
theorem c_Store_init (l : Launch) (D : va_G) (t : Nat → ClassId) (A : Nat → Prop) (g : GH) (a : Nat) (ha : gAt g a (.inr (5, [.null, .null, .int 0, .int 0]))) : Ct l yS_init sS_init { frames := 1, cells := 1, slots := 1024, locals := 20 } (zz D t A) [.ref a] g 1 1024 (fun v g' => v = none ∧ ∃ b, b ∉ g.1 ∧ gAt g' a (eSt b none 0 0) ∧ gAt g' b (eNs t 1024 (fun _ => none)) ∧ Kp [a] g g') := by
  refine Ct.of (cc := bS_init) (maxL := 1) (ret := none) (by decide) (Nat.le_of_ble_eq_true rfl) (fun X hl O M hN => ?_)
  have hN := hN rfl
  show J X 1 (zz D t A) g 0 0 0 [(0, .ref a)] []
  have kp0 : Kp [a] g g := Kp.rf
  refine j_aload_n O 0 dS_init_0 rfl rfl ?_
  refine j_objInit O w46 w39 w40 dS_init_1 (Nat.le_of_ble_eq_true rfl) (Nat.le_of_ble_eq_true rfl) ?_
  refine j_aload_n O 0 dS_init_4 rfl rfl ?_
  refine j_sipush O (v := 1024) dS_init_5 (by decide) ?_
  refine j_newq O w47 (List.mem_of_getElem? (i := 4) rfl) 2 rfl 1024 (by decide) (by decide) (by decide) (Nat.le_of_ble_eq_true rfl) (Nat.le_of_ble_eq_true rfl) dS_init_8 (fun q15 g16 hq17 e18 => ?_)
  have h19 := gNew_old (e' := .inl (t 2, 1024, .inr (.inr (.inr (.inr (fun _ => none)))))) ha hq17
  rw [← e18] at h19
  have h20 := gNew_self (g := g) (a := q15) (e := .inl (t 2, 1024, .inr (.inr (.inr (.inr (fun _ => none))))))
  rw [← e18] at h20
  have kp21 := kp0.new (e := .inl (t 2, 1024, .inr (.inr (.inr (.inr (fun _ => none)))))) hq17
  rw [← e18] at kp21
  refine j_putF O hN uwS h19 rfl 0 (by decide) w48 rfl tS ftS fnS rfl rfl (.array (.object "TwinTrees$Node")) (by decide +kernel) rfl rfl (Nat.le_of_ble_eq_true rfl) [.ref q15, .null, .int 0, .int 0] rfl dS_init_11 (fun g22 e23 => ?_)
  have h24 := gUp_ne (e' := .inr (5, [.ref q15, .null, .int 0, .int 0])) h20 (Ne.symm (ha.nin hq17))
  rw [← e23] at h24
  have h25 := gUp_self (e' := .inr (5, [.ref q15, .null, .int 0, .int 0])) h19
  rw [← e23] at h25
  have kp26 := kp21.up (a := a) (e := .inr (5, [.ref q15, .null, .int 0, .int 0])) (by simp)
  rw [← e23] at kp26
  refine j_aload_n O 0 dS_init_14 rfl rfl ?_
  refine j_null O dS_init_15 ?_
  refine j_put O uwS h25 rfl 1 (by decide) w49 rfl tS ftS fnS rfl (.object "TwinTrees$Node") (by decide +kernel) rfl rfl (Nat.le_of_ble_eq_true rfl) [.ref q15, .null, .int 0, .int 0] rfl dS_init_16 (fun g27 e28 => ?_)
  have h29 := gUp_ne (e' := .inr (5, [.ref q15, .null, .int 0, .int 0])) h24 (Ne.symm (ha.nin hq17))
  rw [← e28] at h29
  have h30 := gUp_self (e' := .inr (5, [.ref q15, .null, .int 0, .int 0])) h25
  rw [← e28] at h30
  have kp31 := kp26.up (a := a) (e := .inr (5, [.ref q15, .null, .int 0, .int 0])) (by simp)
  rw [← e28] at kp31
  refine j_aload_n O 0 dS_init_19 rfl rfl ?_
  refine j_iconst O (v := 0) dS_init_20 (by decide) ?_
  refine j_put O uwS h30 rfl 2 (by decide) w50 rfl tS ftS fnS rfl (.int) (by decide +kernel) rfl rfl (Nat.le_of_ble_eq_true rfl) [.ref q15, .null, .int 0, .int 0] rfl dS_init_21 (fun g32 e33 => ?_)
  have h34 := gUp_ne (e' := .inr (5, [.ref q15, .null, .int 0, .int 0])) h29 (Ne.symm (ha.nin hq17))
  rw [← e33] at h34
  have h35 := gUp_self (e' := .inr (5, [.ref q15, .null, .int 0, .int 0])) h30
  rw [← e33] at h35
  have kp36 := kp31.up (a := a) (e := .inr (5, [.ref q15, .null, .int 0, .int 0])) (by simp)
  rw [← e33] at kp36
  refine j_aload_n O 0 dS_init_24 rfl rfl ?_
  refine j_iconst O (v := 0) dS_init_25 (by decide) ?_
  refine j_put O uwS h35 rfl 3 (by decide) w52 rfl tS ftS fnS rfl (.int) (by decide +kernel) rfl rfl (Nat.le_of_ble_eq_true rfl) [.ref q15, .null, .int 0, .int 0] rfl dS_init_26 (fun g37 e38 => ?_)
  have h39 := gUp_ne (e' := .inr (5, [.ref q15, .null, .int 0, .int 0])) h34 (Ne.symm (ha.nin hq17))
  rw [← e38] at h39
  have h40 := gUp_self (e' := .inr (5, [.ref q15, .null, .int 0, .int 0])) h35
  rw [← e38] at h40
  have kp41 := kp36.up (a := a) (e := .inr (5, [.ref q15, .null, .int 0, .int 0])) (by simp)
  rw [← e38] at kp41
  exact j_vret O M (Nat.le_of_ble_eq_true rfl) (Nat.le_of_ble_eq_true rfl) ⟨rfl, q15, (kp0.nin hq17), h40, h39, kp41⟩ dS_init_29
set_option maxRecDepth 100000 in
set_option maxHeartbeats 4000000 in
theorem c_Df_init (l : Launch) (D : va_G) (t : Nat → ClassId) (A : Nat → Prop) (g : GH) (a : Nat) (ha : gAt g a (.inr (1, [.null, .null, .null, .int 0]))) : Ct l yD_init sD_init { frames := 1, cells := 3, slots := 1800, locals := 20 } (zz D t A) [.ref a] g 3 1800 (fun v g' => v = none ∧ ∃ k s u, k ∉ g.1 ∧ s ∉ g.1 ∧ u ∉ g.1 ∧ k ≠ s ∧ k ≠ u ∧ s ≠ u ∧ gAt g' a (eDf k s u 0) ∧ gAt g' k (eI t 600 (fun _ => 0)) ∧ gAt g' s (eI t 600 (fun _ => 0)) ∧ gAt g' u (eI t 600 (fun _ => 0)) ∧ Kp [a] g g') := by
  refine Ct.of (cc := bD_init) (maxL := 1) (ret := none) (by decide) (Nat.le_of_ble_eq_true rfl) (fun X hl O M hN => ?_)
  have hN := hN rfl
  show J X 1 (zz D t A) g 0 0 0 [(0, .ref a)] []
  have kp0 : Kp [a] g g := Kp.rf
  refine j_aload_n O 0 dD_init_0 rfl rfl ?_
  refine j_objInit O w68 w39 w40 dD_init_1 (Nat.le_of_ble_eq_true rfl) (Nat.le_of_ble_eq_true rfl) ?_
  refine j_aload_n O 0 dD_init_4 rfl rfl ?_
  refine j_sipush O (v := 600) dD_init_5 (by decide) ?_
  refine j_newa (atype := .int) O w63 (.int) rfl 0 rfl rfl 600 (600, .inl (fun _ => 0)) (fun _ => rfl) (by decide) (by decide) (by decide) (Nat.le_of_ble_eq_true rfl) (Nat.le_of_ble_eq_true rfl) dD_init_8 (fun q42 g43 hq44 e45 => ?_)
  have h46 := gNew_old (e' := .inl (t 0, 600, .inl (fun _ => 0))) ha hq44
  rw [← e45] at h46
  have h47 := gNew_self (g := g) (a := q42) (e := .inl (t 0, 600, .inl (fun _ => 0)))
  rw [← e45] at h47
  have kp48 := kp0.new (e := .inl (t 0, 600, .inl (fun _ => 0))) hq44
  rw [← e45] at kp48
  refine j_putF O hN uwD h46 rfl 0 (by decide) w69 rfl tD ftD fnD rfl rfl (.array .int) (by decide +kernel) rfl rfl (Nat.le_of_ble_eq_true rfl) [.ref q42, .null, .null, .int 0] rfl dD_init_10 (fun g49 e50 => ?_)
  have h51 := gUp_ne (e' := .inr (1, [.ref q42, .null, .null, .int 0])) h47 (Ne.symm (ha.nin hq44))
  rw [← e50] at h51
  have h52 := gUp_self (e' := .inr (1, [.ref q42, .null, .null, .int 0])) h46
  rw [← e50] at h52
  have kp53 := kp48.up (a := a) (e := .inr (1, [.ref q42, .null, .null, .int 0])) (by simp)
  rw [← e50] at kp53
  refine j_aload_n O 0 dD_init_13 rfl rfl ?_
  refine j_sipush O (v := 600) dD_init_14 (by decide) ?_
  refine j_newa (atype := .int) O w63 (.int) rfl 0 rfl rfl 600 (600, .inl (fun _ => 0)) (fun _ => rfl) (by decide) (by decide) (by decide) (Nat.le_of_ble_eq_true rfl) (Nat.le_of_ble_eq_true rfl) dD_init_17 (fun q54 g55 hq56 e57 => ?_)
  have h58 := gNew_old (e' := .inl (t 0, 600, .inl (fun _ => 0))) h52 hq56
  rw [← e57] at h58
  have h59 := gNew_old (e' := .inl (t 0, 600, .inl (fun _ => 0))) h51 hq56
  rw [← e57] at h59
  have h60 := gNew_self (g := g49) (a := q54) (e := .inl (t 0, 600, .inl (fun _ => 0)))
  rw [← e57] at h60
  have kp61 := kp53.new (e := .inl (t 0, 600, .inl (fun _ => 0))) hq56
  rw [← e57] at kp61
  refine j_putF O hN uwD h58 rfl 1 (by decide) w71 rfl tD ftD fnD rfl rfl (.array .int) (by decide +kernel) rfl rfl (Nat.le_of_ble_eq_true rfl) [.ref q42, .ref q54, .null, .int 0] rfl dD_init_19 (fun g62 e63 => ?_)
  have h64 := gUp_ne (e' := .inr (1, [.ref q42, .ref q54, .null, .int 0])) h59 (Ne.symm (ha.nin hq44))
  rw [← e63] at h64
  have h65 := gUp_ne (e' := .inr (1, [.ref q42, .ref q54, .null, .int 0])) h60 (Ne.symm (h52.nin hq56))
  rw [← e63] at h65
  have h66 := gUp_self (e' := .inr (1, [.ref q42, .ref q54, .null, .int 0])) h58
  rw [← e63] at h66
  have kp67 := kp61.up (a := a) (e := .inr (1, [.ref q42, .ref q54, .null, .int 0])) (by simp)
  rw [← e63] at kp67
  refine j_aload_n O 0 dD_init_22 rfl rfl ?_
  refine j_sipush O (v := 600) dD_init_23 (by decide) ?_
  refine j_newa (atype := .int) O w63 (.int) rfl 0 rfl rfl 600 (600, .inl (fun _ => 0)) (fun _ => rfl) (by decide) (by decide) (by decide) (Nat.le_of_ble_eq_true rfl) (Nat.le_of_ble_eq_true rfl) dD_init_26 (fun q68 g69 hq70 e71 => ?_)
  have h72 := gNew_old (e' := .inl (t 0, 600, .inl (fun _ => 0))) h66 hq70
  rw [← e71] at h72
  have h73 := gNew_old (e' := .inl (t 0, 600, .inl (fun _ => 0))) h64 hq70
  rw [← e71] at h73
  have h74 := gNew_old (e' := .inl (t 0, 600, .inl (fun _ => 0))) h65 hq70
  rw [← e71] at h74
  have h75 := gNew_self (g := g62) (a := q68) (e := .inl (t 0, 600, .inl (fun _ => 0)))
  rw [← e71] at h75
  have kp76 := kp67.new (e := .inl (t 0, 600, .inl (fun _ => 0))) hq70
  rw [← e71] at kp76
  refine j_putF O hN uwD h72 rfl 2 (by decide) w73 rfl tD ftD fnD rfl rfl (.array .int) (by decide +kernel) rfl rfl (Nat.le_of_ble_eq_true rfl) [.ref q42, .ref q54, .ref q68, .int 0] rfl dD_init_28 (fun g77 e78 => ?_)
  have h79 := gUp_ne (e' := .inr (1, [.ref q42, .ref q54, .ref q68, .int 0])) h73 (Ne.symm (ha.nin hq44))
  rw [← e78] at h79
  have h80 := gUp_ne (e' := .inr (1, [.ref q42, .ref q54, .ref q68, .int 0])) h74 (Ne.symm (h52.nin hq56))
  rw [← e78] at h80
  have h81 := gUp_ne (e' := .inr (1, [.ref q42, .ref q54, .ref q68, .int 0])) h75 (Ne.symm (h66.nin hq70))
  rw [← e78] at h81
  have h82 := gUp_self (e' := .inr (1, [.ref q42, .ref q54, .ref q68, .int 0])) h72
  rw [← e78] at h82
  have kp83 := kp76.up (a := a) (e := .inr (1, [.ref q42, .ref q54, .ref q68, .int 0])) (by simp)
  rw [← e78] at kp83
  refine j_aload_n O 0 dD_init_31 rfl rfl ?_
  refine j_iconst O (v := 0) dD_init_32 (by decide) ?_
  refine j_put O uwD h82 rfl 3 (by decide) w75 rfl tD ftD fnD rfl (.int) (by decide +kernel) rfl rfl (Nat.le_of_ble_eq_true rfl) [.ref q42, .ref q54, .ref q68, .int 0] rfl dD_init_33 (fun g84 e85 => ?_)
  have h86 := gUp_ne (e' := .inr (1, [.ref q42, .ref q54, .ref q68, .int 0])) h79 (Ne.symm (ha.nin hq44))
  rw [← e85] at h86
  have h87 := gUp_ne (e' := .inr (1, [.ref q42, .ref q54, .ref q68, .int 0])) h80 (Ne.symm (h52.nin hq56))
  rw [← e85] at h87
  have h88 := gUp_ne (e' := .inr (1, [.ref q42, .ref q54, .ref q68, .int 0])) h81 (Ne.symm (h66.nin hq70))
  rw [← e85] at h88
  have h89 := gUp_self (e' := .inr (1, [.ref q42, .ref q54, .ref q68, .int 0])) h82
  rw [← e85] at h89
  have kp90 := kp83.up (a := a) (e := .inr (1, [.ref q42, .ref q54, .ref q68, .int 0])) (by simp)
  rw [← e85] at kp90
  exact j_vret O M (Nat.le_of_ble_eq_true rfl) (Nat.le_of_ble_eq_true rfl) ⟨rfl, q42, q54, q68, (kp0.nin hq44), (kp53.nin hq56), (kp67.nin hq70), (h51.nin hq56), (h64.nin hq70), (h65.nin hq70), h89, h86, h87, h88, kp90⟩ dD_init_36
set_option maxRecDepth 100000 in
set_option maxHeartbeats 4000000 in
theorem c_note (l : Launch) (D : va_G) (t : Nat → ClassId) (A : Nat → Prop) (g : GH) (d k s u n : Nat) (fk fs fu : Nat → Int32) (x1 x2 x3 : Int32) (hd : gAt g d (eDf k s u (nI n))) (hk : gAt g k (eI t 600 fk)) (hs : gAt g s (eI t 600 fs)) (hu : gAt g u (eI t 600 fu)) (n1 : k ≠ s) (n2 : k ≠ u) (n3 : s ≠ u) (hn : n < 600) : Ct l yD_note sD_note { frames := 0, cells := 0, slots := 0, locals := 0 } (zz D t A) [.ref d, .int x1, .int x2, .int x3] g 0 0 (fun v g' => v = none ∧ gAt g' d (eDf k s u (nI (n + 1))) ∧ gAt g' k (eI t 600 (upd fk n x1)) ∧ gAt g' s (eI t 600 (upd fs n x2)) ∧ gAt g' u (eI t 600 (upd fu n x3)) ∧ Kp [d, k, s, u] g g') := by
  refine Ct.of (cc := bD_note) (maxL := 4) (ret := none) (by decide) (Nat.le_of_ble_eq_true rfl) (fun X hl O M hN => ?_)
  show J X 4 (zz D t A) g 0 0 0 [(0, .ref d), (1, .int x1), (2, .int x2), (3, .int x3)] []
  have kp0 : Kp [d, k, s, u] g g := Kp.rf
  refine j_aload_n O 0 dD_note_0 rfl rfl ?_
  refine j_get O uwD hd rfl 3 (by decide) w75 rfl rfl dD_note_1 ?_
  refine j_aload_n O 0 dD_note_4 rfl rfl ?_
  refine j_get O uwD hd rfl 0 (by decide) w69 rfl rfl dD_note_5 ?_
  refine j_alen O hk 0 rfl dD_note_8 ?_
  refine j_icmp_ge O 52 dD_note_9 (by decide) (fun c1 => ?_) (fun c1 => ?_)
  · exact absurd c1 (nI_ge hn (by omega))
  · refine j_aload_n O 0 dD_note_12 rfl rfl ?_
    refine j_get O uwD hd rfl 0 (by decide) w69 rfl rfl dD_note_13 ?_
    refine j_aload_n O 0 dD_note_16 rfl rfl ?_
    refine j_get O uwD hd rfl 3 (by decide) w75 rfl rfl dD_note_17 ?_
    refine j_iload_n O 1 dD_note_20 rfl rfl ?_
    refine j_iast O hk 0 rfl hn (by omega) dD_note_21 (fun g91 e92 => ?_)
    have h93 := gUp_ne (e' := .inl (t 0, 600, .inl (upd fk n x1))) hd (hd.ne hk (by simp))
    rw [← e92] at h93
    have h94 := gUp_ne (e' := .inl (t 0, 600, .inl (upd fk n x1))) hs (Ne.symm n1)
    rw [← e92] at h94
    have h95 := gUp_ne (e' := .inl (t 0, 600, .inl (upd fk n x1))) hu (Ne.symm n2)
    rw [← e92] at h95
    have h96 := gUp_self (e' := .inl (t 0, 600, .inl (upd fk n x1))) hk
    rw [← e92] at h96
    have kp97 := kp0.up (a := k) (e := .inl (t 0, 600, .inl (upd fk n x1))) (by simp)
    rw [← e92] at kp97
    refine j_aload_n O 0 dD_note_22 rfl rfl ?_
    refine j_get O uwD h93 rfl 1 (by decide) w71 rfl rfl dD_note_23 ?_
    refine j_aload_n O 0 dD_note_26 rfl rfl ?_
    refine j_get O uwD h93 rfl 3 (by decide) w75 rfl rfl dD_note_27 ?_
    refine j_iload_n O 2 dD_note_30 rfl rfl ?_
    refine j_iast O h94 0 rfl hn (by omega) dD_note_31 (fun g98 e99 => ?_)
    have h100 := gUp_ne (e' := .inl (t 0, 600, .inl (upd fs n x2))) h93 (h93.ne h94 (by simp))
    rw [← e99] at h100
    have h101 := gUp_ne (e' := .inl (t 0, 600, .inl (upd fs n x2))) h96 n1
    rw [← e99] at h101
    have h102 := gUp_ne (e' := .inl (t 0, 600, .inl (upd fs n x2))) h95 (Ne.symm n3)
    rw [← e99] at h102
    have h103 := gUp_self (e' := .inl (t 0, 600, .inl (upd fs n x2))) h94
    rw [← e99] at h103
    have kp104 := kp97.up (a := s) (e := .inl (t 0, 600, .inl (upd fs n x2))) (by simp)
    rw [← e99] at kp104
    refine j_aload_n O 0 dD_note_32 rfl rfl ?_
    refine j_get O uwD h100 rfl 2 (by decide) w73 rfl rfl dD_note_33 ?_
    refine j_aload_n O 0 dD_note_36 rfl rfl ?_
    refine j_get O uwD h100 rfl 3 (by decide) w75 rfl rfl dD_note_37 ?_
    refine j_iload_n O 3 dD_note_40 rfl rfl ?_
    refine j_iast O h102 0 rfl hn (by omega) dD_note_41 (fun g105 e106 => ?_)
    have h107 := gUp_ne (e' := .inl (t 0, 600, .inl (upd fu n x3))) h100 (h100.ne h102 (by simp))
    rw [← e106] at h107
    have h108 := gUp_ne (e' := .inl (t 0, 600, .inl (upd fu n x3))) h101 n2
    rw [← e106] at h108
    have h109 := gUp_ne (e' := .inl (t 0, 600, .inl (upd fu n x3))) h103 n3
    rw [← e106] at h109
    have h110 := gUp_self (e' := .inl (t 0, 600, .inl (upd fu n x3))) h102
    rw [← e106] at h110
    have kp111 := kp104.up (a := u) (e := .inl (t 0, 600, .inl (upd fu n x3))) (by simp)
    rw [← e106] at kp111
    refine j_aload_n O 0 dD_note_42 rfl rfl ?_
    refine j_dup O dD_note_43 rfl ?_
    refine j_get O uwD h107 rfl 3 (by decide) w75 rfl rfl dD_note_44 ?_
    refine j_iconst O (v := 1) dD_note_47 (by decide) ?_
    refine j_iadd O dD_note_48 ?_
    refine j_eqi (nI (n + 1)) (nI_1 _) ?_
    refine j_put O uwD h107 rfl 3 (by decide) w75 rfl tD ftD fnD rfl (.int) (by decide +kernel) rfl rfl (Nat.le_of_ble_eq_true rfl) [.ref k, .ref s, .ref u, .int (nI (n + 1))] rfl dD_note_49 (fun g112 e113 => ?_)
    have h114 := gUp_ne (e' := .inr (1, [.ref k, .ref s, .ref u, .int (nI (n + 1))])) h108 (h108.ne h107 (by simp))
    rw [← e113] at h114
    have h115 := gUp_ne (e' := .inr (1, [.ref k, .ref s, .ref u, .int (nI (n + 1))])) h109 (h109.ne h107 (by simp))
    rw [← e113] at h115
    have h116 := gUp_ne (e' := .inr (1, [.ref k, .ref s, .ref u, .int (nI (n + 1))])) h110 (h110.ne h107 (by simp))
    rw [← e113] at h116
    have h117 := gUp_self (e' := .inr (1, [.ref k, .ref s, .ref u, .int (nI (n + 1))])) h107
    rw [← e113] at h117
    have kp118 := kp111.up (a := d) (e := .inr (1, [.ref k, .ref s, .ref u, .int (nI (n + 1))])) (by simp)
    rw [← e113] at kp118
    exact j_vret O M (Nat.le_of_ble_eq_true rfl) (Nat.le_of_ble_eq_true rfl) ⟨rfl, h117, h114, h115, h116, kp118⟩ dD_note_52
