theorem runsP_len {α : Type} (p : α → Bool) : ∀ rs : List α, (runsP p rs).length ≤ rs.length
  | [] => Nat.le_refl _
  | r :: rs => by
    have ih := runsP_len p rs
    unfold runsP
    split
    · simp [ih]
    · split
      · simp
      · next e => rw [e] at ih; simp at ih ⊢; omega
theorem runs_len_le (t : Nat) (rs : List RV) : (runs t rs).length ≤ rs.length := runsP_len _ rs
/-- a branch's print, by its nodes below -/
def prB (h : Nat) (qs : List (List RV)) : Int32 := qs.foldl (fun p q => p * 31 + nprt h q) (nI (h + 1))
theorem prB_take (h : Nat) (qs : List (List RV)) (i : Nat) (hi : i < qs.length) : prB h (qs.take (i + 1)) = prB h (qs.take i) * 31 + nprt h qs[i] := by
  unfold prB
  rw [List.take_succ_eq_append_getElem hi, List.foldl_append]
  rfl
/-- the nodes below a branch that is looked for -/
def belowOK (w : GD) (h : Nat) (qs : List (List RV)) (ks : List Nat) (fs : Nat → Option Nat) (fr : Nat) : Prop :=
  ks.length = qs.length ∧ (∀ i (hi : i < ks.length), fs (fr + i) = some ks[i]) ∧ (∀ i (hi : i < ks.length) (hj : i < qs.length), w.1 ks[i] = some (h, qs[i])) ∧ (∀ b ∈ ks, inS w.2.2.2.2.1 b ∨ b ∈ w.2.2.2.2.2) ∧ runs (h + 1) qs.flatten = qs ∧ ∃ m, qs.length = m + 1
theorem prB_nprt {h : Nat} {qs : List (List RV)} (hq : runs (h + 1) qs.flatten = qs) : prB h qs = nprt (h + 1) qs.flatten := by
  show _ = List.foldl _ _ (runs (h + 1) qs.flatten)
  rw [hq]
  rfl
/-- a stored node has these below it just if it has this value -/
theorem kids_iff {t : Nat → ClassId} {g : GH} {w : GD} {sA bA : Nat} {nn ss : Int32} {h fr : Nat} {qs : List (List RV)} {ks : List Nat} {fs : Nat → Option Nat} {a : Nat} {v : NV} (hS : SW t g w sA bA nn ss) (hb : belowOK w h qs ks fs fr) (ha : inS w.2.2.2.2.1 a) (hv : w.1 a = some v) : w.2.1 a = ks ↔ v = (h + 1, qs.flatten) := by
  obtain ⟨b1, b2, b3, b4, b5, m, b6⟩ := hb
  obtain ⟨hvo, -, ⟨ra, ba, nr, f0, fb, -, -, -, -, -, -, h0, -, hfb, h8⟩, -⟩ := hS.1 a v hv
  constructor
  · intro hk
    cases hv1 : v.1 with
    | zero =>
      have := (h0 hv1).2.1
      rw [hk] at this
      rw [this] at b1
      simp at b1
      omega
    | succ h' =>
      obtain ⟨h81, h82⟩ := h8 h' hv1
      have key : ∀ i (hi : i < ks.length) (hj : i < (runs (h' + 1) v.2).length) (hj2 : i < qs.length), h' = h ∧ (runs (h' + 1) v.2)[i] = qs[i] := by
        intro i hi hj hj2
        have e1 := h82 i (by rw [hk]; exact hi) hj
        have e2 := b3 i hi hj2
        have e3 : (w.2.1 a)[i]'(by rw [hk]; exact hi) = ks[i] := by simp only [hk]
        rw [e3, e2] at e1
        have e4 := Option.some.inj e1
        exact ⟨(congrArg Prod.fst e4).symm, (congrArg Prod.snd e4).symm⟩
      rw [hk] at h81
      have hh : h' = h := (key 0 (by omega) (by omega) (by omega)).1
      subst hh
      have hr : runs (h' + 1) v.2 = qs := List.ext_getElem (by omega) (fun i h1 h2 => (key i (by omega) h1 h2).2)
      have : v.2 = qs.flatten := by
        rw [← hr]
        exact (runsP_flat _ _).symm
      obtain ⟨v1, v2⟩ := v
      dsimp only at hv1 this
      rw [hv1, this]
  · intro hve
    subst hve
    obtain ⟨h81, h82⟩ := h8 h rfl
    have h81' : (w.2.1 a).length = (runs (h + 1) qs.flatten).length := h81
    refine List.ext_getElem (by rw [h81', b5]; omega) (fun i h1 h2 => ?_)
    have e1 := h82 i h1 (by show i < (runs (h + 1) qs.flatten).length; omega)
    have e2 := b3 i h2 (by omega)
    have e3 : (runs (h + 1) qs.flatten)[i]'(by omega) = qs[i]'(by omega) := by simp only [b5]
    exact hS.2.2.2.2.2.1 _ _ (h, qs[i]'(by omega)) (Or.inl (hS.2.2.2.2.2.2.1.1 a ha _ (List.getElem_mem _))) (b4 _ (List.getElem_mem _)) (by rw [e1]; exact congrArg (fun z => some (h, z)) e3) e2
set_option maxRecDepth 100000 in
set_option maxHeartbeats 1000000 in
theorem branchOf_print {X : CX} {D : va_G} {t : Nat → ClassId} {A : Nat → Prop} {rm : Room} {g : GH} {k0 n0 : Nat} {sA s fr ns h : Nat} {fs : Nat → Option Nat} {qs : List (List RV)} (O : Ok X bS_branchOf 7 "TwinTrees$Store" (zz D t A) rm) (hs : gAt g s (eNs t ns fs)) (hns : fr + qs.length ≤ ns) (hn31 : ns < 2 ^ 27) (hr : nodesIn g fs fr h qs) (HK : J X 7 (zz D t A) g k0 n0 34 [(0, .ref sA), (1, .int (nI (h + 1))), (2, .ref s), (3, .int (nI fr)), (4, .int (nI (fr + qs.length))), (5, .int (prB h qs))] []) : ∀ (k i : Nat), i + k = qs.length → J X 7 (zz D t A) g k0 n0 6 [(0, .ref sA), (1, .int (nI (h + 1))), (2, .ref s), (3, .int (nI fr)), (4, .int (nI (fr + qs.length))), (5, .int (prB h (qs.take i))), (6, .int (nI (fr + i)))] [] := by
  intro k
  induction k with
  | zero =>
    intro i hi
    have hi : i = qs.length := by omega
    subst hi
    refine j_iload O dS_branchOf_6 rfl ?_
    refine j_iload O dS_branchOf_8 rfl ?_
    refine j_icmp_ge O 34 dS_branchOf_10 (by decide) (fun c1 => ?_) (fun c1 => ?_)
    · refine J.pk [0, 1, 2, 3, 4, 5] rfl ?_
      rw [List.take_length]
      exact HK
    · exact absurd (nI_le (Nat.le_refl _) (by omega)) c1
  | succ k ih =>
    intro i hi
    have hi1 : i < qs.length := by omega
    obtain ⟨x, hfx, xra, xba, xmu, hxc⟩ := hr i hi1
    refine j_iload O dS_branchOf_6 rfl ?_
    refine j_iload O dS_branchOf_8 rfl ?_
    refine j_icmp_ge O 34 dS_branchOf_10 (by decide) (fun c1 => ?_) (fun c1 => ?_)
    · exact absurd c1 (nI_ge (by omega) (by omega))
    · refine j_iload O dS_branchOf_13 rfl ?_
      refine j_bipush O (v := 31) dS_branchOf_15 (by decide) ?_
      refine j_imul O dS_branchOf_17 ?_
      refine j_aload_n O 2 dS_branchOf_18 rfl rfl ?_
      refine j_iload O dS_branchOf_19 rfl ?_
      refine j_aald O hs 2 rfl (by omega) (by omega) dS_branchOf_21 ?_
      refine j_some x hfx ?_
      refine j_get O uwN hxc rfl 7 (by decide) w146 rfl rfl dS_branchOf_22 ?_
      refine j_iadd O dS_branchOf_25 ?_
      refine j_eqi (prB h (qs.take (i + 1))) (prB_take h qs i hi1).symm ?_
      refine j_istore O [(5, .int (prB h (qs.take (i + 1)))), (0, .ref sA), (1, .int (nI (h + 1))), (2, .ref s), (3, .int (nI fr)), (4, .int (nI (fr + qs.length))), (6, .int (nI (fr + i)))] dS_branchOf_26 (by decide) rfl ?_
      refine j_iinc O (nI (fr + i + 1)) [(6, .int (nI (fr + i + 1))), (5, .int (prB h (qs.take (i + 1)))), (0, .ref sA), (1, .int (nI (h + 1))), (2, .ref s), (3, .int (nI fr)), (4, .int (nI (fr + qs.length)))] dS_branchOf_28 rfl (nI_1 _) (by decide) rfl ?_
      refine j_goto O 6 dS_branchOf_31 (by decide) ?_
      rw [Nat.add_assoc fr i 1]
      refine J.pk [2, 3, 4, 5, 6, 1, 0] rfl ?_
      exact ih (i + 1) (by omega)
set_option maxRecDepth 100000 in
set_option maxHeartbeats 1000000 in
theorem branchOf_node {X : CX} {D : va_G} {t : Nat → ClassId} {A : Nat → Prop} {rm : Room} {g : GH} {k0 n0 : Nat} {sA bA s fr ns h : Nat} {nn ss : Int32} {fs : Nat → Option Nat} {qs : List (List RV)} {ks : List Nat} {w : GD} (O : Ok X bS_branchOf 7 "TwinTrees$Store" (zz D t A) rm) (hS : SW t g w sA bA nn ss) (hs : gAt g s (eNs t ns fs)) (hns : fr + qs.length ≤ ns) (hn31 : ns < 2 ^ 27) (hbl : belowOK w h qs ks fs fr) (hrm : 3 ≤ rm.frames ∧ 90 ≤ rm.locals ∧ k0 + 0 ≤ rm.cells ∧ n0 + 0 ≤ rm.slots) (a : Nat) (v : NV) (hv : w.1 a = some v) (ha : inS w.2.2.2.2.1 a) (H1 : v = (h + 1, qs.flatten) → J X 7 (zz D t A) g k0 n0 75 [(0, .ref sA), (1, .int (nI (h + 1))), (2, .ref s), (3, .int (nI fr)), (4, .int (nI (fr + qs.length))), (5, .int (prB h qs)), (6, .ref a)] [.ref a]) (H2 : v ≠ (h + 1, qs.flatten) → J X 7 (zz D t A) g k0 n0 46 [(0, .ref sA), (1, .int (nI (h + 1))), (2, .ref s), (3, .int (nI fr)), (4, .int (nI (fr + qs.length))), (5, .int (prB h qs)), (6, va_rf (nxOf w.2.2.1 a))] []) :  J X 7 (zz D t A) g k0 n0 46 [(0, .ref sA), (1, .int (nI (h + 1))), (2, .ref s), (3, .int (nI fr)), (4, .int (nI (fr + qs.length))), (5, .int (prB h qs)), (6, .ref a)] [] := by
  have hki := kids_iff hS hbl ha hv
  obtain ⟨hvo, -, ⟨ra, ba, nr, f0, fb, -, -, hac, -, hba, -, h0, -, hfb, h8⟩, -⟩ := hS.1 a v hv
  have hkl : (w.2.1 a).length ≤ 300 := by
    cases hv1 : v.1 with
    | zero => rw [(h0 hv1).2.1]; exact Nat.zero_le _
    | succ h' =>
      rw [(h8 h' hv1).1]
      exact Nat.le_trans (runs_len_le _ _) hvo.2.1
  refine j_aload O dS_branchOf_46 rfl ?_
  refine j_ifnull (o := (some a)) O 86 dS_branchOf_48 (by decide) (fun c1 => ?_) (fun y1 c1 => ?_)
  · cases c1
  · refine j_aload O dS_branchOf_51 rfl ?_
    refine j_get O uwN hac rfl 7 (by decide) w146 rfl rfl dS_branchOf_53 ?_
    refine j_iload O dS_branchOf_56 rfl ?_
    refine j_icmp_ne O 76 dS_branchOf_58 (by decide) (fun c2 => ?_) (fun c2 => ?_)
    · have hne : v ≠ (h + 1, qs.flatten) := fun q => c2 (by rw [q]; exact (prB_nprt hbl.2.2.2.2.1).symm)
      refine j_aload O dS_branchOf_76 rfl ?_
      refine j_get O uwN hac rfl 11 (by decide) w155 rfl rfl dS_branchOf_78 ?_
      refine j_astoreO (o := ((w.2.2.1 a).2.2.2)) O [(6, va_rf ((w.2.2.1 a).2.2.2)), (0, .ref sA), (1, .int (nI (h + 1))), (2, .ref s), (3, .int (nI fr)), (4, .int (nI (fr + qs.length))), (5, .int (prB h qs))] dS_branchOf_81 (by decide) rfl ?_
      refine j_goto O 46 dS_branchOf_83 (by decide) ?_
      refine J.pk [1, 2, 3, 4, 5, 6, 0] rfl ?_
      exact H2 hne
    · refine j_aload O dS_branchOf_61 rfl ?_
      refine j_aload_n O 2 dS_branchOf_63 rfl rfl ?_
      refine j_iload_n O 3 dS_branchOf_64 rfl rfl ?_
      refine j_iload O dS_branchOf_65 rfl ?_
      refine j_callV O [.ref s, .int (nI fr), .int (nI (fr + qs.length))] (c_isLikeBranch X.2.1 D t A g a s ra ba fr ns v.1 (w.2.1 a).length qs.length fb fs v.2 (w.2.2.1 a) hac hba hs hns hn31 (by omega)) hac rfl w237 w238 w239 w27 w240 3 rfl rfl rfl (by decide +kernel) ⟨(by show 0 + 1 ≤ _; omega), (by show 8 + (_ + 11) + 0 ≤ _; omega)⟩ rfl (Nat.le_of_ble_eq_true rfl) dS_branchOf_67 ⟨hrm.2.2.1, hrm.2.2.2⟩ (fun v2 g3 hp4 => ?_)
      obtain ⟨z, rfl, hz, hgg⟩ := hp4
      have hgg := hgg.symm
      subst hgg
      have hzk : ((w.2.1 a).length = qs.length ∧ ∀ j, j < qs.length → fb j = fs (fr + j)) ↔ w.2.1 a = ks := by
        obtain ⟨b1, b2, -⟩ := hbl
        constructor
        · rintro ⟨z1, z2⟩
          refine List.ext_getElem (by omega) (fun i i1 i2 => ?_)
          have e1 := hfb i i1
          have e2 := b2 i i2
          rw [z2 i (by omega), e2] at e1
          exact (Option.some.inj e1).symm
        · intro q
          refine ⟨by rw [q]; exact b1, fun j hj => ?_⟩
          have e1 := hfb j (by rw [q]; omega)
          rw [e1, b2 j (by omega)]
          simp only [q]
      rw [hzk, hki] at hz
      refine j_if_eq O 76 dS_branchOf_70 (by decide) (fun c3 => ?_) (fun c3 => ?_)
      · have hne : v ≠ (h + 1, qs.flatten) := fun q => by
          rcases hz with ⟨z1, -⟩ | ⟨-, z2⟩
          · rw [c3] at z1; exact absurd z1 (by decide)
          · exact z2 q
        refine j_aload O dS_branchOf_76 rfl ?_
        refine j_get O uwN hac rfl 11 (by decide) w155 rfl rfl dS_branchOf_78 ?_
        refine j_astoreO (o := ((w.2.2.1 a).2.2.2)) O [(6, va_rf ((w.2.2.1 a).2.2.2)), (0, .ref sA), (1, .int (nI (h + 1))), (2, .ref s), (3, .int (nI fr)), (4, .int (nI (fr + qs.length))), (5, .int (prB h qs))] dS_branchOf_81 (by decide) rfl ?_
        refine j_goto O 46 dS_branchOf_83 (by decide) ?_
        refine J.pk [1, 2, 3, 4, 5, 6, 0] rfl ?_
        exact H2 hne
      · have hv2 : v = (h + 1, qs.flatten) := by
          rcases hz with ⟨-, z1⟩ | ⟨z1, -⟩
          · exact z1
          · exact absurd z1 c3
        refine j_aload O dS_branchOf_73 rfl ?_
        refine J.pk [0, 1, 2, 3, 4, 5, 6] rfl ?_
        exact H1 hv2
set_option maxRecDepth 100000 in
set_option maxHeartbeats 1000000 in
theorem branchOf_mid {X : CX} {D : va_G} {t : Nat → ClassId} {A : Nat → Prop} {rm : Room} {g : GH} {k0 n0 : Nat} {sA bA s fr h : Nat} {nn ss : Int32} {qs : List (List RV)} {w : GD} (O : Ok X bS_branchOf 7 "TwinTrees$Store" (zz D t A) rm) (hS : SW t g w sA bA nn ss) (hrm : 3 ≤ rm.frames ∧ 90 ≤ rm.locals ∧ k0 + 0 ≤ rm.cells ∧ n0 + 0 ≤ rm.slots) (HK : J X 7 (zz D t A) g k0 n0 46 [(0, .ref sA), (1, .int (nI (h + 1))), (2, .ref s), (3, .int (nI fr)), (4, .int (nI (fr + qs.length))), (5, .int (prB h qs)), (6, va_rf ((w.2.2.2.2.1 (bkt (prB h qs))).head?))] []) :  J X 7 (zz D t A) g k0 n0 34 [(0, .ref sA), (1, .int (nI (h + 1))), (2, .ref s), (3, .int (nI fr)), (4, .int (nI (fr + qs.length))), (5, .int (prB h qs))] [] := by
  obtain ⟨fB, hb, hf⟩ := hS.2.2.1
  have hs0 := hS.2.1
  have hbl := bkt_lt (prB h qs)
  refine j_aload_n O 0 dS_branchOf_34 rfl rfl ?_
  refine j_get O uwS hs0 rfl 0 (by decide) w48 rfl rfl dS_branchOf_35 ?_
  refine j_iload O dS_branchOf_38 rfl ?_
  refine j_callS O [.int (prB h qs)] (c_bucketOf X.2.1 D t A g (prB h qs)) w108 w109 w24 w110 1 rfl rfl rfl (by decide +kernel) ⟨(by show 0 + 1 ≤ _; omega), (by show 8 + (_ + 11) + 0 ≤ _; omega)⟩ rfl (Nat.le_of_ble_eq_true rfl) dS_branchOf_40 ⟨hrm.2.2.1, hrm.2.2.2⟩ (fun v5 g6 hp7 => ?_)
  obtain ⟨rfl, hg8⟩ := hp7
  have hg8 := hg8.symm
  subst hg8
  refine j_eqi (nI (bkt (prB h qs))) (bkt_eq _) ?_
  refine j_aald O hb 2 rfl (by omega) (by omega) dS_branchOf_43 ?_
  refine j_oeq ((w.2.2.2.2.1 (bkt (prB h qs))).head?) (hf _ hbl) ?_
  refine j_astoreO (o := ((w.2.2.2.2.1 (bkt (prB h qs))).head?)) O [(6, va_rf ((w.2.2.2.2.1 (bkt (prB h qs))).head?)), (0, .ref sA), (1, .int (nI (h + 1))), (2, .ref s), (3, .int (nI fr)), (4, .int (nI (fr + qs.length))), (5, .int (prB h qs))] dS_branchOf_44 (by decide) rfl ?_
  refine J.pk [1, 2, 3, 4, 5, 6, 0] rfl ?_
  exact HK
set_option maxRecDepth 100000 in
set_option maxHeartbeats 1000000 in
theorem c_branchOf_old (l : Launch) (D : va_G) (t : Nat → ClassId) (A : Nat → Prop) (g : GH) (sA bA s fr ns h : Nat) (nn ss : Int32) (fs : Nat → Option Nat) (qs : List (List RV)) (ks : List Nat) (w : GD) (a0 : Nat) (hS : SW t g w sA bA nn ss) (hs : gAt g s (eNs t ns fs)) (hns : fr + qs.length ≤ ns) (hn31 : ns < 2 ^ 27) (hbl : belowOK w h qs ks fs fr) (ha : inS w.2.2.2.2.1 a0) (hv0 : w.1 a0 = some (h + 1, qs.flatten)) : Ct l yS_branchOf sS_branchOf { frames := 3, cells := 0, slots := 0, locals := 90 } (zz D t A) [.ref sA, .int (nI (h + 1)), .ref s, .int (nI fr), .int (nI (fr + qs.length))] g 0 0 (fun v g' => v = some (.ref a0) ∧ g' = g) := by
  refine Ct.of (cc := bS_branchOf) (maxL := 7) (ret := (some (.object "TwinTrees$Node"))) (by decide) (Nat.le_of_ble_eq_true rfl) (fun X hl O M hN => ?_)
  show J X 7 (zz D t A) g 0 0 0 [(0, .ref sA), (1, .int (nI (h + 1))), (2, .ref s), (3, .int (nI fr)), (4, .int (nI (fr + qs.length)))] []
  have hr : nodesIn g fs fr h qs := fun i hi => by
    have e := hbl.2.2.1 i (by rw [hbl.1]; exact hi) hi
    obtain ⟨xra, xba, hc⟩ := hS.1.cell e
    exact ⟨_, hbl.2.1 i (by rw [hbl.1]; exact hi), xra, xba, _, hc⟩
  have hpn := prB_nprt hbl.2.2.2.2.1
  refine j_iload_n O 1 dS_branchOf_0 rfl rfl ?_
  refine j_istore O [(5, .int (nI (h + 1))), (0, .ref sA), (1, .int (nI (h + 1))), (2, .ref s), (3, .int (nI fr)), (4, .int (nI (fr + qs.length)))] dS_branchOf_1 (by decide) rfl ?_
  refine j_iload_n O 3 dS_branchOf_3 rfl rfl ?_
  refine j_istore O [(6, .int (nI fr)), (5, .int (nI (h + 1))), (0, .ref sA), (1, .int (nI (h + 1))), (2, .ref s), (3, .int (nI fr)), (4, .int (nI (fr + qs.length)))] dS_branchOf_4 (by decide) rfl ?_
  refine J.pk [2, 3, 4, 5, 6, 1, 0] rfl ?_
  have hch := hS.2.2.2.1 _ (bkt_lt (prB h qs))
  have hrm : 3 ≤ ({ frames := 3, cells := 0, slots := 0, locals := 90 } : Room).frames ∧ 90 ≤ ({ frames := 3, cells := 0, slots := 0, locals := 90 } : Room).locals ∧ 0 + 0 ≤ ({ frames := 3, cells := 0, slots := 0, locals := 90 } : Room).cells ∧ 0 + 0 ≤ ({ frames := 3, cells := 0, slots := 0, locals := 90 } : Room).slots := ⟨by decide, by decide, by decide, by decide⟩
  have key : ∀ L : List Nat, a0 ∈ L → (∀ a ∈ L, ∃ v, w.1 a = some v ∧ inS w.2.2.2.2.1 a) → lnk (nxOf w.2.2.1) L → J X 7 (zz D t A) g 0 0 46 [(0, .ref sA), (1, .int (nI (h + 1))), (2, .ref s), (3, .int (nI fr)), (4, .int (nI (fr + qs.length))), (5, .int (prB h qs)), (6, va_rf (L.head?))] [] := by
    intro L
    induction L with
    | nil => intro h; cases h
    | cons a L ih =>
      intro hm hL hl
      obtain ⟨v, hv, hSa⟩ := hL a List.mem_cons_self
      have hl1 : nxOf w.2.2.1 a = L.head? := hl.1
      refine branchOf_node (k0 := 0) (n0 := 0) (w := w) O hS hs hns hn31 hbl hrm a v hv hSa (fun hb => ?_) (fun hne => ?_)
      · rw [hb] at hv
        have e : a = a0 := hS.2.2.2.2.2.1 a a0 (h + 1, qs.flatten) (Or.inl hSa) (Or.inl ha) hv hv0
        subst e
        exact j_aret (o := some a) O (Or.inl ⟨_, rfl⟩) M (Nat.le_refl _) (Nat.le_refl _) ⟨rfl, rfl⟩ dS_branchOf_75
      · rw [hl1]
        refine ih ?_ (fun b hb => hL b (List.mem_cons_of_mem _ hb)) hl.2
        rcases List.mem_cons.mp hm with z | z
        · subst z; rw [hv0] at hv; exact absurd (Option.some.inj hv).symm hne
        · exact z
  have hmem := chain_of hS.2.2.2.1 ha hv0
  rw [← hpn] at hmem
  have k1 := key _ hmem (fun a h => (hch.2.2 a h).elim (fun v q => ⟨v, q.1, _, bkt_lt _, h⟩)) hch.1
  have k2 := branchOf_mid (k0 := 0) (n0 := 0) (qs := qs) (s := s) (fr := fr) O hS hrm k1
  have k3 := branchOf_print (k0 := 0) (n0 := 0) O hs hns hn31 hr k2 _ 0 (Nat.zero_add _)
  exact k3
set_option maxRecDepth 100000 in
set_option maxHeartbeats 1000000 in
theorem c_branchOf_new (l : Launch) (D : va_G) (t : Nat → ClassId) (A : Nat → Prop) (g : GH) (sA bA s fr ns h : Nat) (nn ss : Int32) (fs : Nat → Option Nat) (qs : List (List RV)) (ks : List Nat) (w : GD) (hS : SW t g w sA bA nn ss) (hs : gAt g s (eNs t ns fs)) (hns : fr + qs.length ≤ ns) (hn31 : ns < 2 ^ 27) (hbl : belowOK w h qs ks fs fr) (hvo : vOK (h + 1, qs.flatten)) (hnew : ∀ a, (inS w.2.2.2.2.1 a ∨ a ∈ w.2.2.2.2.2) → w.1 a ≠ some (h + 1, qs.flatten)) : Ct l yS_branchOf sS_branchOf { frames := 3, cells := 3, slots := qs.length + 12, locals := 90 } (zz D t A) [.ref sA, .int (nI (h + 1)), .ref s, .int (nI fr), .int (nI (fr + qs.length))] g 3 (qs.length + 12) (fun v g' => ∃ q ra ba, v = some (.ref q) ∧ q ∉ g.1 ∧ ra ∉ g.1 ∧ ba ∉ g.1 ∧ SW t g' (wAdd w q (h + 1, qs.flatten) ks ra ba) sA bA nn ss ∧ Kp [sA] g g') := by
  refine Ct.of (cc := bS_branchOf) (maxL := 7) (ret := (some (.object "TwinTrees$Node"))) (by decide) (Nat.le_of_ble_eq_true rfl) (fun X hl O M hN => ?_)
  show J X 7 (zz D t A) g 0 0 0 [(0, .ref sA), (1, .int (nI (h + 1))), (2, .ref s), (3, .int (nI fr)), (4, .int (nI (fr + qs.length)))] []
  have hr : nodesIn g fs fr h qs := fun i hi => by
    have e := hbl.2.2.1 i (by rw [hbl.1]; exact hi) hi
    obtain ⟨xra, xba, hc⟩ := hS.1.cell e
    exact ⟨_, hbl.2.1 i (by rw [hbl.1]; exact hi), xra, xba, _, hc⟩
  have hpn := prB_nprt hbl.2.2.2.2.1
  have hch := hS.2.2.2.1 _ (bkt_lt (prB h qs))
  have hrm : 3 ≤ ({ frames := 3, cells := 3, slots := qs.length + 12, locals := 90 } : Room).frames ∧ 90 ≤ ({ frames := 3, cells := 3, slots := qs.length + 12, locals := 90 } : Room).locals ∧ 0 + 0 ≤ ({ frames := 3, cells := 3, slots := qs.length + 12, locals := 90 } : Room).cells ∧ 0 + 0 ≤ ({ frames := 3, cells := 3, slots := qs.length + 12, locals := 90 } : Room).slots := ⟨Nat.le_refl _, Nat.le_refl _, Nat.zero_le _, Nat.zero_le _⟩
  have hqne : ∀ q ∈ qs, q ≠ [] := fun q hq => by
    have := hbl.2.2.2.2.1
    rw [← this] at hq
    exact runsP_ne _ _ q hq
  have hkd : ∀ b ∈ ks, b ∈ g.1 := fun b hb => (SW.in hS (hbl.2.2.2.1 b hb)).elim (fun u hu => SW.dom hS hu)
  have HK : J X 7 (zz D t A) g 0 0 86 [(0, .ref sA), (1, .int (nI (h + 1))), (2, .ref s), (3, .int (nI fr)), (4, .int (nI (fr + qs.length))), (5, .int (prB h qs)), (6, .null)] [] := by
    have hs0 := hS.2.1
    have kp0 : Kp [sA] g g := Kp.rf
    refine j_aload_n O 0 dS_branchOf_86 rfl rfl ?_
    refine j_new (ci := 2) O uwN tN ftN w47 w124 w27 rfl [.int 0, .null, .null, .int 0, .int 0, .int 0, .int 0, .int 0, .long 0, .int 0, .int 0, .null] (fun j hj => by rcases (show j = 0 ∨ j = 1 ∨ j = 2 ∨ j = 3 ∨ j = 4 ∨ j = 5 ∨ j = 6 ∨ j = 7 ∨ j = 8 ∨ j = 9 ∨ j = 10 ∨ j = 11 by omega) with rfl | rfl | rfl | rfl | rfl | rfl | rfl | rfl | rfl | rfl | rfl | rfl <;> rfl) (Nat.le_of_ble_eq_true rfl) (by show _ ≤ qs.length + 12; omega) dS_branchOf_87 (fun q9 g10 hq11 e12 => ?_)
    have h13 := gNew_old (e' := .inr (2, [.int 0, .null, .null, .int 0, .int 0, .int 0, .int 0, .int 0, .long 0, .int 0, .int 0, .null])) hs0 hq11
    rw [← e12] at h13
    have h14 := gNew_old (e' := .inr (2, [.int 0, .null, .null, .int 0, .int 0, .int 0, .int 0, .int 0, .long 0, .int 0, .int 0, .null])) hs hq11
    rw [← e12] at h14
    have h15 := gNew_self (g := g) (a := q9) (e := .inr (2, [.int 0, .null, .null, .int 0, .int 0, .int 0, .int 0, .int 0, .long 0, .int 0, .int 0, .null]))
    rw [← e12] at h15
    have kp16 := kp0.new (e := .inr (2, [.int 0, .null, .null, .int 0, .int 0, .int 0, .int 0, .int 0, .long 0, .int 0, .int 0, .null])) hq11
    rw [← e12] at kp16
    refine j_dup O dS_branchOf_90 rfl ?_
    refine j_iload_n O 1 dS_branchOf_91 rfl rfl ?_
    refine j_aload_n O 2 dS_branchOf_92 rfl rfl ?_
    refine j_iload_n O 3 dS_branchOf_93 rfl rfl ?_
    refine j_iload O dS_branchOf_94 rfl ?_
    refine j_iload O dS_branchOf_96 rfl ?_
    have hr1 : nodesIn g10 fs fr h qs := fun i hi => by
      obtain ⟨b, h1, xra, xba, xmu, h2⟩ := hr i hi
      exact ⟨b, h1, xra, xba, xmu, kp16.2 b _ (one_ne (h2.ne hs0 (by simp))) h2⟩
    have hxa : ∀ j (hj : j < qs.length), fs (fr + j) ≠ some q9 := fun j hj z => by
      rw [hbl.2.1 j (by rw [hbl.1]; exact hj)] at z
      exact hq11 ((Option.some.inj z) ▸ hkd _ (List.getElem_mem _))
    have hfl : qs.flatten.length ≤ 300 := hvo.2.1
    have hql : qs.length ≤ 300 := by
      have := runs_len_le (h + 1) qs.flatten
      rw [hbl.2.2.2.2.1] at this
      omega
    refine j_callI O [.int (nI (h + 1)), .ref s, .int (nI fr), .int (nI (fr + qs.length)), .int (prB h qs)] (c_Node_init2 X.2.1 D t A g10 q9 s fr ns h fs qs (prB h qs) (nI (h + 1)) h15 h14 hr1 hxa hns hn31 hbl.2.2.2.2.2 hqne (by omega)) w243 5 rfl rfl rfl w27 w241 w242 rfl (by decide +kernel) ⟨(Nat.le_of_ble_eq_true rfl), (Nat.le_of_ble_eq_true rfl)⟩ rfl (Nat.le_of_ble_eq_true rfl) dS_branchOf_98 ⟨(Nat.le_of_ble_eq_true rfl), (by show _ ≤ qs.length + 12; omega)⟩ (fun v17 g18 hp19 => ?_)
    obtain ⟨rfl, ra, ba, f2, hra, hba, hqc, hrac, hbac, hf2, kp2z⟩ := hp19
    have hs2 := kp2z.2 sA _ (one_ne (hs0.nin hq11)) h13
    refine j_callV O [.ref q9] (c_pend X.2.1 D t A g18 sA q9 bA ra ba _ none nn ss (nI (h + 1)) _ _ _ _ _ 0 0 0 hs2 hqc) hs2 rfl w181 w182 w0 w24 w183 1 rfl rfl rfl (by decide +kernel) ⟨(Nat.le_of_ble_eq_true rfl), (Nat.le_of_ble_eq_true rfl)⟩ rfl (Nat.le_of_ble_eq_true rfl) dS_branchOf_101 ⟨(Nat.le_of_ble_eq_true rfl), (by show _ ≤ qs.length + 12; omega)⟩ (fun v20 g21 hp22 => ?_)
    obtain ⟨rfl, hs3, hqz3, kp3z⟩ := hp22
    have kpA : Kp [sA] g g18 := kp16.sub kp2z (fun x hx => Or.inr (by rw [List.mem_singleton.mp hx]; exact hq11))
    have kpB : Kp [sA] g g21 := kpA.sub kp3z (fun x hx => by
      rcases List.mem_cons.mp hx with z | z
      · exact Or.inl (by rw [z]; exact List.mem_cons_self)
      · exact Or.inr (by rw [List.mem_singleton.mp z]; exact hq11))
    have hra0 : ra ∉ g.1 := kp16.nin hra
    have hba0 : ba ∉ g.1 := kp16.nin hba
    have hra3 := kp3z.2 ra _ (two_ne (hrac.ne hs2 (by simp)) (hrac.ne hqc (by simp))) hrac
    have hba3 := kp3z.2 ba _ (two_ne (hbac.ne hs2 (by simp)) (hbac.ne hqc (by simp))) hbac
    refine j_aret (o := some q9) O (Or.inl ⟨_, rfl⟩) M (Nat.le_of_ble_eq_true rfl) (by show _ ≤ qs.length + 12; omega) ⟨q9, ra, ba, rfl, hq11, hra0, hba0, ?_, kpB⟩ dS_branchOf_104
    refine hS.add hq11 hra0 hba0 hra3.1 hba3.1 (hqz3.ne hra3 (by simp)) (hqz3.ne hba3 (by simp)) hvo hnew hbl.2.2.2.1 kpB hs3 ?_
    have hsz : nsz (h + 1) qs.flatten = qs.length := by show (runs (h + 1) qs.flatten).length = _; rw [hbl.2.2.2.2.1]
    have hqz4 : gAt g21 q9 (nCell (h + 1) qs.flatten ra ba (0, 0, 0, w.2.2.2.2.2.head?)) := by
      show gAt g21 q9 (eNode _ ra ba _ (nI (nsz (h + 1) qs.flatten)) _ _ (nprt (h + 1) qs.flatten) 0 0 0 _)
      rw [hsz, ← hpn]
      exact hqz3
    rw [← hbl.1] at hba3
    refine ⟨ra, ba, 0, (fun _ => none), f2, Or.inr (Or.inl rfl), Or.inr (Or.inr rfl), hqz4, hra3, hba3, Nat.zero_le _, fun hh => absurd hh (by simp), fun _ => rfl, fun i hi => ?_, fun h2 hh => ?_⟩
    · rw [hf2 i (by rw [← hbl.1]; exact hi)]
      exact hbl.2.1 i hi
    · have hh2 : h2 = h := by
        have : h + 1 = h2 + 1 := hh
        omega
      subst hh2
      refine ⟨by show ks.length = (runs (h2 + 1) qs.flatten).length; rw [hbl.2.2.2.2.1]; exact hbl.1, fun i hi hj => ?_⟩
      have e1 := hbl.2.2.1 i hi (by rw [← hbl.1]; exact hi)
      have e2 : (runs (h2 + 1) qs.flatten)[i]'hj = qs[i]'(by rw [← hbl.1]; exact hi) := by simp only [hbl.2.2.2.2.1]
      have hne : ks[i] ≠ q9 := fun z => hq11 (z ▸ hkd _ (List.getElem_mem _))
      rw [va_up_ne _ _ hne, e1]
      exact congrArg (fun z => some (h2, z)) e2.symm
  refine j_iload_n O 1 dS_branchOf_0 rfl rfl ?_
  refine j_istore O [(5, .int (nI (h + 1))), (0, .ref sA), (1, .int (nI (h + 1))), (2, .ref s), (3, .int (nI fr)), (4, .int (nI (fr + qs.length)))] dS_branchOf_1 (by decide) rfl ?_
  refine j_iload_n O 3 dS_branchOf_3 rfl rfl ?_
  refine j_istore O [(6, .int (nI fr)), (5, .int (nI (h + 1))), (0, .ref sA), (1, .int (nI (h + 1))), (2, .ref s), (3, .int (nI fr)), (4, .int (nI (fr + qs.length)))] dS_branchOf_4 (by decide) rfl ?_
  refine J.pk [2, 3, 4, 5, 6, 1, 0] rfl ?_
  have key : ∀ L : List Nat, (∀ a ∈ L, ∃ v, w.1 a = some v ∧ inS w.2.2.2.2.1 a) → lnk (nxOf w.2.2.1) L → J X 7 (zz D t A) g 0 0 46 [(0, .ref sA), (1, .int (nI (h + 1))), (2, .ref s), (3, .int (nI fr)), (4, .int (nI (fr + qs.length))), (5, .int (prB h qs)), (6, va_rf (L.head?))] [] := by
    intro L
    induction L with
    | nil =>
      intro _ _
      refine j_aloadN O dS_branchOf_46 rfl ?_
      refine j_ifnull (o := none) O 86 dS_branchOf_48 (by decide) (fun _ => ?_) (fun y c => by cases c)
      exact HK
    | cons a L ih =>
      intro hL hl
      obtain ⟨v, hv, hSa⟩ := hL a List.mem_cons_self
      have hl1 : nxOf w.2.2.1 a = L.head? := hl.1
      refine branchOf_node (k0 := 0) (n0 := 0) (w := w) O hS hs hns hn31 hbl hrm a v hv hSa (fun hb => absurd (hb ▸ hv) (hnew a (Or.inl hSa))) (fun hne => ?_)
      rw [hl1]
      exact ih (fun b hb => hL b (List.mem_cons_of_mem _ hb)) hl.2
  have k1 := key _ (fun a h => (hch.2.2 a h).elim (fun v q => ⟨v, q.1, _, bkt_lt _, h⟩)) hch.1
  have k2 := branchOf_mid (k0 := 0) (n0 := 0) (qs := qs) (s := s) (fr := fr) O hS hrm k1
  have k3 := branchOf_print (k0 := 0) (n0 := 0) O hs hns hn31 hr k2 _ 0 (Nat.zero_add _)
  exact k3
