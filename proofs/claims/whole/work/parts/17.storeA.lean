set_option maxRecDepth 100000 in
set_option maxHeartbeats 1000000 in
theorem c_link (l : Launch) (D : va_G) (t : Nat → ClassId) (A : Nat → Prop) (g : GH) (sA bA a xra xba : Nat) (pp xnx : Option Nat) (fB : Nat → Option Nat) (nn ss xh xrc xsz xlk xll xpr xha xst : Int32) (xad : Int64) (hs : gAt g sA (eSt bA pp nn ss)) (hb : gAt g bA (eNs t 1024 fB)) (ha : gAt g a (eNode xh xra xba xrc xsz xlk xll xpr xad xha xst xnx)) : Ct l yS_link sS_link { frames := 1, cells := 0, slots := 0, locals := 30 } (zz D t A) [.ref sA, .ref a] g 0 0 (fun v g' => v = none ∧ gAt g' sA (eSt bA pp nn ss) ∧ gAt g' bA (eNs t 1024 (va_up fB (bkt xpr) (some a))) ∧ gAt g' a (eNode xh xra xba xrc xsz xlk xll xpr xad xha xst (fB (bkt xpr))) ∧ Kp [a, bA] g g') := by
  refine Ct.of (cc := bS_link) (maxL := 3) (ret := none) (by decide) (Nat.le_of_ble_eq_true rfl) (fun X hlX O M hNn => ?_)
  show J X 3 (zz D t A) g 0 0 0 [(0, .ref sA), (1, .ref a)] []
  have kp0 : Kp [a, bA] g g := Kp.rf
  have hbk := bkt_lt xpr
  refine j_aload_n O 1 dS_link_0 rfl rfl ?_
  refine j_get O uwN ha rfl 7 (by decide) w146 rfl rfl dS_link_1 ?_
  refine j_callS O [.int xpr] (c_bucketOf X.2.1 D t A g xpr) w108 w109 w24 w110 1 rfl rfl rfl (by decide +kernel) ⟨(Nat.le_of_ble_eq_true rfl), (Nat.le_of_ble_eq_true rfl)⟩ rfl (Nat.le_of_ble_eq_true rfl) dS_link_4 ⟨(Nat.le_of_ble_eq_true rfl), (Nat.le_of_ble_eq_true rfl)⟩ (fun vw1 gw2 hpw3 => ?_)
  obtain ⟨rfl, hgw4⟩ := hpw3
  have hgw4 := hgw4.symm
  subst hgw4
  refine j_eqi (nI (bkt xpr)) (bkt_eq xpr) ?_
  refine j_istore_n O 2 [(2, .int (nI (bkt xpr))), (0, .ref sA), (1, .ref a)] dS_link_7 rfl (by decide) rfl ?_
  refine j_aload_n O 1 dS_link_8 rfl rfl ?_
  refine j_aload_n O 0 dS_link_9 rfl rfl ?_
  refine j_get O uwS hs rfl 0 (by decide) w48 rfl rfl dS_link_10 ?_
  refine j_iload_n O 2 dS_link_13 rfl rfl ?_
  refine j_aald O hb 2 rfl (by omega) (by omega) dS_link_14 ?_
  refine j_put O uwN ha rfl 11 (by decide) w155 rfl tN ftN fnN rfl (.object "TwinTrees$Node") (by decide +kernel) (by cases (fB (bkt xpr)) <;> rfl) (by cases (fB (bkt xpr)) <;> rfl) (Nat.le_of_ble_eq_true rfl) [.int xh, .ref xra, .ref xba, .int xrc, .int xsz, .int xlk, .int xll, .int xpr, .long xad, .int xha, .int xst, va_rf (fB (bkt xpr))] rfl dS_link_15 (fun gw5 ew6 => ?_)
  have hw7 := gUp_ne (e' := .inr (2, [.int xh, .ref xra, .ref xba, .int xrc, .int xsz, .int xlk, .int xll, .int xpr, .long xad, .int xha, .int xst, va_rf (fB (bkt xpr))])) hs (hs.ne ha (by simp))
  rw [← ew6] at hw7
  have hw8 := gUp_ne (e' := .inr (2, [.int xh, .ref xra, .ref xba, .int xrc, .int xsz, .int xlk, .int xll, .int xpr, .long xad, .int xha, .int xst, va_rf (fB (bkt xpr))])) hb (hb.ne ha (by simp))
  rw [← ew6] at hw8
  have hw9 := gUp_self (e' := .inr (2, [.int xh, .ref xra, .ref xba, .int xrc, .int xsz, .int xlk, .int xll, .int xpr, .long xad, .int xha, .int xst, va_rf (fB (bkt xpr))])) ha
  rw [← ew6] at hw9
  have kpw10 := kp0.up (a := a) (e := .inr (2, [.int xh, .ref xra, .ref xba, .int xrc, .int xsz, .int xlk, .int xll, .int xpr, .long xad, .int xha, .int xst, va_rf (fB (bkt xpr))])) (by simp)
  rw [← ew6] at kpw10
  refine j_aload_n O 0 dS_link_18 rfl rfl ?_
  refine j_get O uwS hw7 rfl 0 (by decide) w48 rfl rfl dS_link_19 ?_
  refine j_iload_n O 2 dS_link_22 rfl rfl ?_
  refine j_aload_n O 1 dS_link_23 rfl rfl ?_
  refine j_aast O hw8 2 rfl hw9 rfl hbk (by omega) dS_link_24 (fun gw11 ew12 => ?_)
  have hw13 := gUp_ne (e' := .inl (t 2, 1024, .inr (.inr (.inr (.inr (va_up fB (bkt xpr) (some a))))))) hw7 (hw7.ne hw8 (by simp))
  rw [← ew12] at hw13
  have hw14 := gUp_ne (e' := .inl (t 2, 1024, .inr (.inr (.inr (.inr (va_up fB (bkt xpr) (some a))))))) hw9 (hw9.ne hw8 (by simp))
  rw [← ew12] at hw14
  have hw15 := gUp_self (e' := .inl (t 2, 1024, .inr (.inr (.inr (.inr (va_up fB (bkt xpr) (some a))))))) hw8
  rw [← ew12] at hw15
  have kpw16 := kpw10.up (a := bA) (e := .inl (t 2, 1024, .inr (.inr (.inr (.inr (va_up fB (bkt xpr) (some a))))))) (by simp)
  rw [← ew12] at kpw16
  exact j_vret O M (Nat.le_of_ble_eq_true rfl) (Nat.le_of_ble_eq_true rfl) ⟨rfl, hw13, hw15, hw14, kpw16⟩ dS_link_25
def wAdd (w : GD) (q : Nat) (v : NV) (ks : List Nat) (ra ba : Nat) : GD := (va_up w.1 q (some v), va_up w.2.1 q ks, va_up w.2.2.1 q (0, 0, 0, w.2.2.2.2.2.head?), (fun x => w.2.2.2.1 x ∨ x = ra ∨ x = ba), w.2.2.2.2.1, q :: w.2.2.2.2.2)
theorem SW.dom {t : Nat → ClassId} {g : GH} {w : GD} {sA bA : Nat} {nn ss : Int32} (h : SW t g w sA bA nn ss) {a : Nat} {v : NV} (hv : w.1 a = some v) : a ∈ g.1 := by
  obtain ⟨ra, ba, h1⟩ := h.1.cell hv
  exact h1.1
theorem SW.in {t : Nat → ClassId} {g : GH} {w : GD} {sA bA : Nat} {nn ss : Int32} (h : SW t g w sA bA nn ss) {a : Nat} (ha : inS w.2.2.2.2.1 a ∨ a ∈ w.2.2.2.2.2) : ∃ v, w.1 a = some v := by
  rcases ha with ⟨i, hi, hm⟩ | hm
  · obtain ⟨v, hv, -⟩ := (h.2.2.2.1 i hi).2.2 a hm
    exact ⟨v, hv⟩
  · exact (h.2.2.2.2.1.2.2 a hm).1
theorem SW.add {t : Nat → ClassId} {g g' : GH} {w : GD} {sA bA q ra ba : Nat} {nn ss : Int32} {v : NV} {ks : List Nat} (h : SW t g w sA bA nn ss) (hq : q ∉ g.1) (hra : ra ∉ g.1) (hba : ba ∉ g.1) (hraG : ra ∈ g'.1) (hbaG : ba ∈ g'.1) (hqr : q ≠ ra) (hqb : q ≠ ba) (hv : vOK v) (hnew : ∀ a, (inS w.2.2.2.2.1 a ∨ a ∈ w.2.2.2.2.2) → w.1 a ≠ some v) (hks : ∀ b ∈ ks, inS w.2.2.2.2.1 b ∨ b ∈ w.2.2.2.2.2) (hk : Kp [sA] g g') (hs' : gAt g' sA (eSt bA (some q) nn ss)) (hn : nodeOK t g' (va_up w.1 q (some v)) ks (fun x => w.2.2.2.1 x ∨ x = ra ∨ x = ba) q v (0, 0, 0, w.2.2.2.2.2.head?)) : SW t g' (wAdd w q v ks ra ba) sA bA nn ss := by
  obtain ⟨N, K, mu, I, ch, pd⟩ := w
  have hdom : ∀ a u, N a = some u → a ∈ g.1 := fun a u hu => SW.dom h hu
  have hin : ∀ a, (inS ch a ∨ a ∈ pd) → a ∈ g.1 := fun a ha => (SW.in h ha).elim (fun u hu => hdom a u hu)
  obtain ⟨h1, h2, h3, h4, h5, h6, h7, h8, h9, h10⟩ := h
  have hqN : N q = none := by
    cases hc : N q with
    | none => rfl
    | some u => exact absurd (hdom q u hc) hq
  have hns : ∀ x e, (I x ∨ ∃ v, N x = some v) → gAt g x e → gAt g' x e := by
    intro x e hx he
    refine hk.2 x e (fun z => ?_) he
    simp only [List.mem_cons, List.not_mem_nil, or_false] at z
    subst z
    rcases hx with hx | ⟨u, hu⟩
    · exact h8 hx
    · obtain ⟨ra', ba', hc⟩ := h1.cell hu
      exact absurd (h2.eq hc) (by simp)
  have hbA : bA ∈ g.1 := by obtain ⟨fB, hb, -⟩ := h3; exact hb.1
  have hnx : ∀ a, a ∈ g.1 → nxOf (va_up mu q (0, 0, 0, pd.head?)) a = nxOf mu a := by
    intro a ha
    unfold nxOf
    rw [va_up_ne _ _ (fun z : a = q => hq (z ▸ ha))]
  have hNo : ∀ a, a ∈ g.1 → va_up N q (some v) a = N a := fun a ha => va_up_ne _ _ (fun z => hq (z ▸ ha))
  have hKo : ∀ a, a ∈ g.1 → va_up K q ks a = K a := fun a ha => va_up_ne _ _ (fun z => hq (z ▸ ha))
  refine ⟨NI.add (R := (ch, pd)) (R' := (ch, q :: pd)) h1 hqN hv (fun x hx => Or.inl hx) ?_ ?_ (Or.inl rfl) hns hn, hs', ?_, ?_, ?_, ?_, ?_, ?_, ?_, ?_⟩
  · rintro (z | z | z)
    · exact hq (h10 q z)
    · exact hqr z
    · exact hqb z
  · rintro b u hb (z | z | z)
    · exact (h1 b u hb).2.1 z
    · exact hra (z ▸ hdom b u hb)
    · exact hba (z ▸ hdom b u hb)
  · obtain ⟨fB, hb, hf⟩ := h3
    refine ⟨fB, hk.2 _ _ (fun z => ?_) hb, hf⟩
    simp only [List.mem_cons, List.not_mem_nil, or_false] at z
    subst z
    exact absurd (h2.eq hb) (by simp)
  · intro i hi
    obtain ⟨a1, a2, a3⟩ := h4 i hi
    refine ⟨a1.congr (fun a ha => hnx a (hin a (Or.inl ⟨i, hi, ha⟩))), a2, fun a ha => ?_⟩
    obtain ⟨u, hu, hb⟩ := a3 a ha
    exact ⟨u, (hNo a (hdom a u hu)).trans hu, hb⟩
  · refine ⟨⟨?_, h5.1.congr (fun a ha => hnx a (hin a (Or.inr ha)))⟩, List.nodup_cons.mpr ⟨fun z => hq (hin q (Or.inr z)), h5.2.1⟩, fun a ha => ?_⟩
    · show (va_up mu q (0, 0, 0, pd.head?) q).2.2.2 = pd.head?
      rw [va_up_self]
    · rcases List.mem_cons.mp ha with z | z
      · subst z
        exact ⟨⟨v, va_up_self _ _ _⟩, fun y => hq (hin a (Or.inl y))⟩
      · obtain ⟨⟨u, hu⟩, hb⟩ := h5.2.2 a z
        exact ⟨⟨u, (hNo a (hdom a u hu)).trans hu⟩, hb⟩
  · intro a b u ha hb hau hbu
    have key : ∀ x, (inS ch x ∨ x ∈ q :: pd) → va_up N q (some v) x = some u → (x = q ∧ u = v) ∨ ((inS ch x ∨ x ∈ pd) ∧ N x = some u) := by
      intro x hx hxu
      by_cases hxq : x = q
      · subst hxq
        rw [va_up_self] at hxu
        exact Or.inl ⟨rfl, (Option.some.inj hxu).symm⟩
      · rw [va_up_ne _ _ hxq] at hxu
        refine Or.inr ⟨?_, hxu⟩
        rcases hx with hx | hx
        · exact Or.inl hx
        · rcases List.mem_cons.mp hx with z | z
          · exact absurd z hxq
          · exact Or.inr z
    rcases key a ha hau with ⟨e1, e2⟩ | ⟨e1, e2⟩ <;> rcases key b hb hbu with ⟨e3, e4⟩ | ⟨e3, e4⟩
    · rw [e1, e3]
    · exact absurd (e2 ▸ e4) (hnew b e3)
    · exact absurd (e4 ▸ e2) (hnew a e1)
    · exact h6 a b u e1 e3 e2 e4
  · refine ⟨fun a ha b hb => ?_, fun a ha b hb => ?_⟩
    · have hb2 : b ∈ va_up K q ks a := hb
      rw [hKo a (hin a (Or.inl ha))] at hb2
      exact h7.1 a ha b hb2
    · have hb2 : b ∈ va_up K q ks a := hb
      rcases List.mem_cons.mp ha with z | z
      · subst z
        rw [va_up_self] at hb2
        exact (hks b hb2).imp id (fun y => List.mem_cons_of_mem _ y)
      · rw [hKo a (hin a (Or.inr z))] at hb2
        exact (h7.2 a z b hb2).imp id (fun y => List.mem_cons_of_mem _ y)
  · rintro (z | z | z)
    · exact h8 z
    · exact hra (z ▸ h2.1)
    · exact hba (z ▸ h2.1)
  · rintro (z | z | z)
    · exact h9 z
    · exact hra (z ▸ hbA)
    · exact hba (z ▸ hbA)
  · rintro x (z | z | z)
    · exact hk.1 x (h10 x z)
    · exact z ▸ hraG
    · exact z ▸ hbaG
theorem nprt0_take (rs : List RV) (i : Nat) (h : i < rs.length) : nprt 0 (rs.take (i + 1)) = nprt 0 (rs.take i) * 31 + prt rs[i] := by
  show List.foldl _ 0 _ = List.foldl _ 0 _ * 31 + _
  rw [List.take_succ_eq_append_getElem h, List.foldl_append]
  rfl
set_option maxRecDepth 100000 in
set_option maxHeartbeats 1000000 in
theorem leafOf_print {X : CX} {D : va_G} {t : Nat → ClassId} {A : Nat → Prop} {rm : Room} {g : GH} {k0 n0 : Nat} {sA s fr ns : Nat} {fs : Nat → Option Nat} {rs : List RV} (O : Ok X bS_leafOf 6 "TwinTrees$Store" (zz D t A) rm) (hs : gAt g s (eRs t ns fs)) (hr : rowsIn t g fs fr rs) (hns : fr + rs.length ≤ ns) (hn31 : ns < 2 ^ 27) (HK : J X 6 (zz D t A) g k0 n0 33 [(0, .ref sA), (1, .ref s), (2, .int (nI fr)), (3, .int (nI (fr + rs.length))), (4, .int (nprt 0 rs))] []) : ∀ (k i : Nat), i + k = rs.length → J X 6 (zz D t A) g k0 n0 6 [(0, .ref sA), (1, .ref s), (2, .int (nI fr)), (3, .int (nI (fr + rs.length))), (4, .int (nprt 0 (rs.take i))), (5, .int (nI (fr + i)))] [] := by
  intro k
  induction k with
  | zero =>
    intro i hi
    have hi : i = rs.length := by omega
    subst hi
    refine j_iload O dS_leafOf_6 rfl ?_
    refine j_iload_n O 3 dS_leafOf_8 rfl rfl ?_
    refine j_icmp_ge O 33 dS_leafOf_9 (by decide) (fun c1 => ?_) (fun c1 => ?_)
    · refine J.pk [0, 1, 2, 3, 4] rfl ?_
      rw [List.take_length]
      exact HK
    · exact absurd (nI_le (Nat.le_refl _) (by omega)) c1
  | succ k ih =>
    intro i hi
    have hi1 : i < rs.length := by omega
    obtain ⟨x, hfx, c, fc, hxc, -, -⟩ := hr i hi1
    refine j_iload O dS_leafOf_6 rfl ?_
    refine j_iload_n O 3 dS_leafOf_8 rfl rfl ?_
    refine j_icmp_ge O 33 dS_leafOf_9 (by decide) (fun c1 => ?_) (fun c1 => ?_)
    · exact absurd c1 (nI_ge (by omega) (by omega))
    · refine j_iload O dS_leafOf_12 rfl ?_
      refine j_bipush O (v := 31) dS_leafOf_14 (by decide) ?_
      refine j_imul O dS_leafOf_16 ?_
      refine j_aload_n O 1 dS_leafOf_17 rfl rfl ?_
      refine j_iload O dS_leafOf_18 rfl ?_
      refine j_aald O hs 1 rfl (by omega) (by omega) dS_leafOf_20 ?_
      refine j_some x hfx ?_
      refine j_get O uwR hxc rfl 4 (by decide) w297 rfl rfl dS_leafOf_21 ?_
      refine j_iadd O dS_leafOf_24 ?_
      refine j_eqi (nprt 0 (rs.take (i + 1))) (nprt0_take rs i hi1).symm ?_
      refine j_istore O [(4, .int (nprt 0 (rs.take (i + 1)))), (0, .ref sA), (1, .ref s), (2, .int (nI fr)), (3, .int (nI (fr + rs.length))), (5, .int (nI (fr + i)))] dS_leafOf_25 (by decide) rfl ?_
      refine j_iinc O (nI (fr + i + 1)) [(5, .int (nI (fr + i + 1))), (4, .int (nprt 0 (rs.take (i + 1)))), (0, .ref sA), (1, .ref s), (2, .int (nI fr)), (3, .int (nI (fr + rs.length)))] dS_leafOf_27 rfl (nI_1 _) (by decide) rfl ?_
      refine j_goto O 6 dS_leafOf_30 (by decide) ?_
      rw [Nat.add_assoc fr i 1]
      refine J.pk [2, 3, 4, 5, 1, 0] rfl ?_
      exact ih (i + 1) (by omega)
set_option maxRecDepth 100000 in
set_option maxHeartbeats 1000000 in
theorem leafOf_node {X : CX} {D : va_G} {t : Nat → ClassId} {A : Nat → Prop} {rm : Room} {g : GH} {k0 n0 : Nat} {sA bA s fr ns : Nat} {nn ss : Int32} {fs : Nat → Option Nat} {rs : List RV} {w : GD} (O : Ok X bS_leafOf 6 "TwinTrees$Store" (zz D t A) rm) (hS : SW t g w sA bA nn ss) (hs : gAt g s (eRs t ns fs)) (hr : rowsIn t g fs fr rs) (hw : ∀ r ∈ rs, r.2.1.length ≤ 6) (hns : fr + rs.length ≤ ns) (hn31 : ns < 2 ^ 27) (hrm : 3 ≤ rm.frames ∧ 90 ≤ rm.locals ∧ k0 + 0 ≤ rm.cells ∧ n0 + 0 ≤ rm.slots) (a : Nat) (v : NV) (hv : w.1 a = some v) (H1 : w.1 a = some (0, rs) → J X 6 (zz D t A) g k0 n0 73 [(0, .ref sA), (1, .ref s), (2, .int (nI fr)), (3, .int (nI (fr + rs.length))), (4, .int (nprt 0 rs)), (5, .ref a)] [.ref a]) (H2 : v ≠ (0, rs) → J X 6 (zz D t A) g k0 n0 45 [(0, .ref sA), (1, .ref s), (2, .int (nI fr)), (3, .int (nI (fr + rs.length))), (4, .int (nprt 0 rs)), (5, va_rf (nxOf w.2.2.1 a))] []) :  J X 6 (zz D t A) g k0 n0 45 [(0, .ref sA), (1, .ref s), (2, .int (nI fr)), (3, .int (nI (fr + rs.length))), (4, .int (nprt 0 rs)), (5, .ref a)] [] := by
  obtain ⟨hvo, -, ⟨ra, ba, nr, f0, fb, -, -, hac, hra, -, hnr, h0, h0', -, -⟩, -⟩ := hS.1 a v hv
  refine j_aload O dS_leafOf_45 rfl ?_
  refine j_ifnull (o := (some a)) O 84 dS_leafOf_47 (by decide) (fun c1 => ?_) (fun yw17 c1 => ?_)
  · cases c1
  · refine j_aload O dS_leafOf_50 rfl ?_
    refine j_get O uwN hac rfl 7 (by decide) w146 rfl rfl dS_leafOf_52 ?_
    refine j_iload O dS_leafOf_55 rfl ?_
    refine j_icmp_ne O 74 dS_leafOf_57 (by decide) (fun c2 => ?_) (fun c2 => ?_)
    · have hne : v ≠ (0, rs) := fun q => c2 (by rw [q])
      refine j_aload O dS_leafOf_74 rfl ?_
      refine j_get O uwN hac rfl 11 (by decide) w155 rfl rfl dS_leafOf_76 ?_
      refine j_astoreO (o := ((w.2.2.1 a).2.2.2)) O [(5, va_rf ((w.2.2.1 a).2.2.2)), (0, .ref sA), (1, .ref s), (2, .int (nI fr)), (3, .int (nI (fr + rs.length))), (4, .int (nprt 0 rs))] dS_leafOf_79 (by decide) rfl ?_
      refine j_goto O 45 dS_leafOf_81 (by decide) ?_
      refine J.pk [1, 2, 3, 4, 5, 0] rfl ?_
      exact H2 hne
    · refine j_aload O dS_leafOf_60 rfl ?_
      refine j_aload_n O 1 dS_leafOf_62 rfl rfl ?_
      refine j_iload_n O 2 dS_leafOf_63 rfl rfl ?_
      refine j_iload_n O 3 dS_leafOf_64 rfl rfl ?_
      refine j_callV O [.ref s, .int (nI fr), .int (nI (fr + rs.length))] (c_isLikeLeaf X.2.1 D t A g a s ra ba fr ns v.1 nr f0 fs v.2 rs (w.2.2.1 a) hac hra (fun q => ⟨(h0 q).1, (h0 q).2.2.in⟩) hs hr (fun r q => Nat.le_trans (hvo.2.2.1 r q) (by decide)) (fun r q => Nat.le_trans (hw r q) (by decide)) hns hn31 (by omega) (by have := hvo.1; omega)) hac rfl w112 w113 w114 w27 w115 3 rfl rfl rfl (by decide +kernel) ⟨(by show 2 + 1 ≤ _; omega), (by show 8 + (_ + 11) + 60 ≤ _; omega)⟩ rfl (Nat.le_of_ble_eq_true rfl) dS_leafOf_65 ⟨hrm.2.2.1, hrm.2.2.2⟩ (fun vw18 gw19 hpw20 => ?_)
      obtain ⟨z, rfl, hz, hgg⟩ := hpw20
      have hgg := hgg.symm
      subst hgg
      refine j_if_eq O 74 dS_leafOf_68 (by decide) (fun c3 => ?_) (fun c3 => ?_)
      · have hne : v ≠ (0, rs) := fun q => by
          rcases hz with ⟨z1, -⟩ | ⟨-, z2⟩
          · rw [c3] at z1; exact absurd z1 (by decide)
          · exact z2 (by rw [q]; exact ⟨rfl, rfl⟩)
        refine j_aload O dS_leafOf_74 rfl ?_
        refine j_get O uwN hac rfl 11 (by decide) w155 rfl rfl dS_leafOf_76 ?_
        refine j_astoreO (o := ((w.2.2.1 a).2.2.2)) O [(5, va_rf ((w.2.2.1 a).2.2.2)), (0, .ref sA), (1, .ref s), (2, .int (nI fr)), (3, .int (nI (fr + rs.length))), (4, .int (nprt 0 rs))] dS_leafOf_79 (by decide) rfl ?_
        refine j_goto O 45 dS_leafOf_81 (by decide) ?_
        refine J.pk [1, 2, 3, 4, 5, 0] rfl ?_
        exact H2 hne
      · have hv2 : w.1 a = some (0, rs) := by
          rcases hz with ⟨-, z1, z2⟩ | ⟨z1, -⟩
          · rw [hv]; obtain ⟨v1, v2⟩ := v; dsimp only at z1 z2; rw [z1, z2]
          · exact absurd z1 c3
        refine j_aload O dS_leafOf_71 rfl ?_
        refine J.pk [0, 1, 2, 3, 4, 5] rfl ?_
        exact H1 hv2
set_option maxRecDepth 100000 in
set_option maxHeartbeats 1000000 in
theorem leafOf_mid {X : CX} {D : va_G} {t : Nat → ClassId} {A : Nat → Prop} {rm : Room} {g : GH} {k0 n0 : Nat} {sA bA s fr : Nat} {nn ss : Int32} {rs : List RV} {w : GD} (O : Ok X bS_leafOf 6 "TwinTrees$Store" (zz D t A) rm) (hS : SW t g w sA bA nn ss) (hrm : 3 ≤ rm.frames ∧ 90 ≤ rm.locals ∧ k0 + 0 ≤ rm.cells ∧ n0 + 0 ≤ rm.slots) (HK : J X 6 (zz D t A) g k0 n0 45 [(0, .ref sA), (1, .ref s), (2, .int (nI fr)), (3, .int (nI (fr + rs.length))), (4, .int (nprt 0 rs)), (5, va_rf ((w.2.2.2.2.1 (bkt (nprt 0 rs))).head?))] []) :  J X 6 (zz D t A) g k0 n0 33 [(0, .ref sA), (1, .ref s), (2, .int (nI fr)), (3, .int (nI (fr + rs.length))), (4, .int (nprt 0 rs))] [] := by
  obtain ⟨fB, hb, hf⟩ := hS.2.2.1
  have hs0 := hS.2.1
  have hbl := bkt_lt (nprt 0 rs)
  refine j_aload_n O 0 dS_leafOf_33 rfl rfl ?_
  refine j_get O uwS hs0 rfl 0 (by decide) w48 rfl rfl dS_leafOf_34 ?_
  refine j_iload O dS_leafOf_37 rfl ?_
  refine j_callS O [.int (nprt 0 rs)] (c_bucketOf X.2.1 D t A g (nprt 0 rs)) w108 w109 w24 w110 1 rfl rfl rfl (by decide +kernel) ⟨(by show 0 + 1 ≤ _; omega), (by show 8 + (_ + 11) + 0 ≤ _; omega)⟩ rfl (Nat.le_of_ble_eq_true rfl) dS_leafOf_39 ⟨hrm.2.2.1, hrm.2.2.2⟩ (fun vw21 gw22 hpw23 => ?_)
  obtain ⟨rfl, hgw24⟩ := hpw23
  have hgw24 := hgw24.symm
  subst hgw24
  refine j_eqi (nI (bkt (nprt 0 rs))) (bkt_eq _) ?_
  refine j_aald O hb 2 rfl (by omega) (by omega) dS_leafOf_42 ?_
  refine j_oeq ((w.2.2.2.2.1 (bkt (nprt 0 rs))).head?) (hf _ hbl) ?_
  refine j_astoreO (o := ((w.2.2.2.2.1 (bkt (nprt 0 rs))).head?)) O [(5, va_rf ((w.2.2.2.2.1 (bkt (nprt 0 rs))).head?)), (0, .ref sA), (1, .ref s), (2, .int (nI fr)), (3, .int (nI (fr + rs.length))), (4, .int (nprt 0 rs))] dS_leafOf_43 (by decide) rfl ?_
  refine J.pk [1, 2, 3, 4, 5, 0] rfl ?_
  exact HK
set_option maxRecDepth 100000 in
set_option maxHeartbeats 1000000 in
theorem c_leafOf_old (l : Launch) (D : va_G) (t : Nat → ClassId) (A : Nat → Prop) (g : GH) (sA bA s fr ns : Nat) (nn ss : Int32) (fs : Nat → Option Nat) (rs : List RV) (w : GD) (a0 : Nat) (hS : SW t g w sA bA nn ss) (hs : gAt g s (eRs t ns fs)) (hr : rowsIn t g fs fr rs) (hw : ∀ r ∈ rs, r.2.1.length ≤ 6) (hns : fr + rs.length ≤ ns) (hn31 : ns < 2 ^ 27) (ha : inS w.2.2.2.2.1 a0) (hv0 : w.1 a0 = some (0, rs)) : Ct l yS_leafOf sS_leafOf { frames := 3, cells := 0, slots := 0, locals := 90 } (zz D t A) [.ref sA, .ref s, .int (nI fr), .int (nI (fr + rs.length))] g 0 0 (fun v g' => v = some (.ref a0) ∧ g' = g) := by
  refine Ct.of (cc := bS_leafOf) (maxL := 6) (ret := (some (.object "TwinTrees$Node"))) (by decide) (Nat.le_of_ble_eq_true rfl) (fun X hlX O M hNn => ?_)
  show J X 6 (zz D t A) g 0 0 0 [(0, .ref sA), (1, .ref s), (2, .int (nI fr)), (3, .int (nI (fr + rs.length)))] []
  refine j_iconst O (v := 0) dS_leafOf_0 (by decide) ?_
  refine j_istore O [(4, .int 0), (0, .ref sA), (1, .ref s), (2, .int (nI fr)), (3, .int (nI (fr + rs.length)))] dS_leafOf_1 (by decide) rfl ?_
  refine j_iload_n O 2 dS_leafOf_3 rfl rfl ?_
  refine j_istore O [(5, .int (nI fr)), (4, .int 0), (0, .ref sA), (1, .ref s), (2, .int (nI fr)), (3, .int (nI (fr + rs.length)))] dS_leafOf_4 (by decide) rfl ?_
  refine J.pk [2, 3, 4, 5, 1, 0] rfl ?_
  have hch := hS.2.2.2.1 _ (bkt_lt (nprt 0 rs))
  have hrm : 3 ≤ ({ frames := 3, cells := 0, slots := 0, locals := 90 } : Room).frames ∧ 90 ≤ ({ frames := 3, cells := 0, slots := 0, locals := 90 } : Room).locals ∧ 0 + 0 ≤ ({ frames := 3, cells := 0, slots := 0, locals := 90 } : Room).cells ∧ 0 + 0 ≤ ({ frames := 3, cells := 0, slots := 0, locals := 90 } : Room).slots := ⟨by decide, by decide, by decide, by decide⟩
  have key : ∀ L : List Nat, a0 ∈ L → (∀ a ∈ L, ∃ v, w.1 a = some v ∧ inS w.2.2.2.2.1 a) → lnk (nxOf w.2.2.1) L → J X 6 (zz D t A) g 0 0 45 [(0, .ref sA), (1, .ref s), (2, .int (nI fr)), (3, .int (nI (fr + rs.length))), (4, .int (nprt 0 rs)), (5, va_rf (L.head?))] [] := by
    intro L
    induction L with
    | nil => intro h; cases h
    | cons a L ih =>
      intro hm hL hl
      obtain ⟨v, hv, hSa⟩ := hL a List.mem_cons_self
      have hl1 : nxOf w.2.2.1 a = L.head? := hl.1
      refine leafOf_node (k0 := 0) (n0 := 0) (w := w) O hS hs hr hw hns hn31 hrm a v hv (fun hb => ?_) (fun hne => ?_)
      · have e : a = a0 := hS.2.2.2.2.2.1 a a0 (0, rs) (Or.inl hSa) (Or.inl ha) hb hv0
        subst e
        exact j_aret (o := some a) O (Or.inl ⟨_, rfl⟩) M (Nat.le_refl _) (Nat.le_refl _) ⟨rfl, rfl⟩ dS_leafOf_73
      · rw [hl1]
        refine ih ?_ (fun b hb => hL b (List.mem_cons_of_mem _ hb)) hl.2
        rcases List.mem_cons.mp hm with z | z
        · subst z; rw [hv0] at hv; exact absurd (Option.some.inj hv).symm hne
        · exact z
  have k1 := key _ (chain_of hS.2.2.2.1 ha hv0) (fun a h => (hch.2.2 a h).elim (fun v q => ⟨v, q.1, _, bkt_lt _, h⟩)) hch.1
  have k2 := leafOf_mid (k0 := 0) (n0 := 0) (rs := rs) (s := s) (fr := fr) O hS hrm k1
  have k3 := leafOf_print (k0 := 0) (n0 := 0) O hs hr hns hn31 k2 _ 0 (Nat.zero_add _)
  exact k3
