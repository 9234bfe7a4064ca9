theorem SWy.no {t : Nat → ClassId} {g : GH} {w : GD} {sA bA : Nat} {pf : Option Nat} {nn ss : Int32} (h : SWy t g w sA bA pf nn ss) {x : Nat} (hx : w.2.2.2.1 x ∨ ∃ v, w.1 x = some v) : x ≠ sA ∧ x ≠ bA := by
  obtain ⟨h1, h2, ⟨fB, hb, -⟩, -, -, -, h8, h9, -⟩ := h
  refine ⟨fun z => ?_, fun z => ?_⟩
  · subst z
    rcases hx with hx | ⟨u, hu⟩
    · exact h8 hx
    · obtain ⟨ra, ba, hc⟩ := h1.cell hu
      exact absurd (h2.eq hc) (by simp)
  · subst z
    rcases hx with hx | ⟨u, hu⟩
    · exact h9 hx
    · obtain ⟨ra, ba, hc⟩ := h1.cell hu
      exact absurd (hb.eq hc) (by simp)
theorem SWy.top {t : Nat → ClassId} {g g' : GH} {w : GD} {sA bA : Nat} {pf pf' : Option Nat} {nn ss nn' ss' : Int32} (h : SWy t g w sA bA pf nn ss) (hk : Kp [sA] g g') (hs : gAt g' sA (eSt bA pf' nn' ss')) : SWy t g' w sA bA pf' nn' ss' := by
  have hno := fun x hx => h.no (x := x) hx
  obtain ⟨h1, h2, h3, h4, h5, h6, h8, h9, hd⟩ := h
  refine ⟨h1.keep (fun x e hx he => hk.2 x e (one_ne (hno x hx).1) he), hs, ?_, h4, h5, h6, h8, h9, fun x hx => hk.1 x (hd x hx)⟩
  obtain ⟨fB, hb, hf⟩ := h3
  exact ⟨fB, hk.2 _ _ (one_ne (hb.ne h2 (by simp))) hb, hf⟩
theorem SWy.forget {t : Nat → ClassId} {g : GH} {N : NM} {K : Nat → List Nat} {mu : Nat → MU} {I : Nat → Prop} {ch : Nat → List Nat} {a : Nat} {L : List Nat} {sA bA : Nat} {pf : Option Nat} {nn ss : Int32} (h : SWy t g (N, K, mu, I, ch, a :: L) sA bA pf nn ss) : SWy t g (N, K, mu, I, ch, L) sA bA pf nn ss := by
  obtain ⟨h1, h2, h3, h4, h5, h6, h8, h9, hd⟩ := h
  exact ⟨fun x v hv => h1 x v hv, h2, h3, h4, ⟨h5.1.2, (List.nodup_cons.mp h5.2.1).2, fun x hx => h5.2.2 x (List.mem_cons_of_mem _ hx)⟩, fun x y u hx hy => h6 x y u (hx.imp id (fun z => List.mem_cons_of_mem _ z)) (hy.imp id (fun z => List.mem_cons_of_mem _ z)), h8, h9, hd⟩
/-- a bucket's chain is taken out -/
theorem SWy.cut {t : Nat → ClassId} {g g' : GH} {N : NM} {K : Nat → List Nat} {mu : Nat → MU} {I : Nat → Prop} {ch : Nat → List Nat} {sA bA i : Nat} {pf : Option Nat} {nn ss : Int32} {fB : Nat → Option Nat} (h : SWy t g (N, K, mu, I, ch, []) sA bA pf nn ss) (hi : i < 1024) (hb : gAt g bA (eNs t 1024 fB)) (hk : Kp [bA] g g') (hb' : gAt g' bA (eNs t 1024 (va_up fB i none))) : SWy t g' (N, K, mu, I, va_up ch i [], ch i) sA bA pf nn ss := by
  have hno := fun x hx => h.no (x := x) hx
  obtain ⟨h1, h2, ⟨fB2, hb2, hf⟩, h4, h5, h6, h8, h9, hd⟩ := h
  have hfe : fB2 = fB := by
    have := hb2.eq hb
    simpa using this
  subst hfe
  have hin : ∀ x, inS (va_up ch i []) x → inS ch x ∧ x ∉ ch i := by
    rintro x ⟨j, hj, hm⟩
    by_cases hji : j = i
    · subst hji; rw [va_up_self] at hm; cases hm
    · rw [va_up_ne _ _ hji] at hm
      refine ⟨⟨j, hj, hm⟩, fun z => ?_⟩
      obtain ⟨v, hv, e1⟩ := (h4 j hj).2.2 x hm
      obtain ⟨v', hv', e2⟩ := (h4 i hi).2.2 x z
      rw [hv] at hv'
      cases hv'
      exact hji (e1.symm.trans e2)
  have hNI := h1.keep (g' := g') (fun x e hx he => hk.2 x e (one_ne (hno x hx).2) he)
  refine ⟨fun x v hv => hNI x v hv, hk.2 _ _ (one_ne (h2.ne hb2 (by simp))) h2, ⟨_, hb', fun j hj => ?_⟩, fun j hj => ?_, ⟨(h4 i hi).1, (h4 i hi).2.1, fun x hx => ⟨?_, fun z => (hin x z).2 hx⟩⟩, ?_, h8, h9, fun x hx => hk.1 x (hd x hx)⟩
  · show va_up fB2 i none j = (va_up ch i [] j).head?
    by_cases hji : j = i
    · subst hji; rw [va_up_self, va_up_self]; rfl
    · rw [va_up_ne _ _ hji, va_up_ne _ _ hji]; exact hf j hj
  · show lnk (nxOf mu) (va_up ch i [] j) ∧ (va_up ch i [] j).Nodup ∧ ∀ x ∈ va_up ch i [] j, ∃ v, N x = some v ∧ bkt (nprt v.1 v.2) = j
    by_cases hji : j = i
    · subst hji; rw [va_up_self]; exact ⟨trivial, List.nodup_nil, fun x hx => absurd hx List.not_mem_nil⟩
    · rw [va_up_ne _ _ hji]; exact h4 j hj
  · obtain ⟨v, hv, -⟩ := (h4 i hi).2.2 x hx
    exact ⟨v, hv⟩
  · intro x y u hx hy hxu hyu
    have conv : ∀ z, (inS (va_up ch i []) z ∨ z ∈ ch i) → (inS ch z ∨ z ∈ []) := by
      rintro z (hz | hz)
      · exact Or.inl (hin z hz).1
      · exact Or.inl ⟨i, hi, hz⟩
    exact h6 x y u (conv x hx) (conv y hy) hxu hyu
/-- what dropWithout has done so far: buckets below i are through, L is left of bucket i, Dl is dropped -/
def DW (t : Nat → ClassId) (g g1 : GH) (N : NM) (K : Nat → List Nat) (mu0 mu : Nat → MU) (I : Nat → Prop) (ch0 ch : Nat → List Nat) (L Dl : List Nat) (sA bA i : Nat) (nn st : Int32) : Prop :=
  SWy t g1 (N, K, mu, I, ch, L) sA bA none nn (nI (szS N (stL ch ++ L))) ∧ (∀ x, muN (mu0 x) (mu x)) ∧ (stL ch ++ L ++ Dl).Perm (stL ch0) ∧ (∀ x ∈ Dl, (mu0 x).2.2.1 ≠ st) ∧ (∀ j, j < i → ∀ x ∈ ch j, (mu0 x).2.2.1 = st) ∧ KN [sA, bA] N g g1
set_option maxRecDepth 100000 in
set_option maxHeartbeats 1000000 in
theorem drop_inner {X : CX} {D : va_G} {t : Nat → ClassId} {A : Nat → Prop} {rm : Room} {g : GH} {k0 n0 : Nat} {sA bA : Nat} {nn st : Int32} {N : NM} {K : Nat → List Nat} {mu0 : Nat → MU} {I : Nat → Prop} {ch0 : Nat → List Nat} {i : Nat} (O : Ok X bS_dropWithout 6 "TwinTrees$Store" (zz D t A) rm) (hrm : 2 ≤ rm.frames ∧ 60 ≤ rm.locals ∧ k0 + 0 ≤ rm.cells ∧ n0 + 0 ≤ rm.slots) (hi : i < 1024) (hb0 : szS N (stL ch0) < 2 ^ 30) (HK : ∀ (g1 : GH) (mu : Nat → MU) (ch : Nat → List Nat) (Dl : List Nat), DW t g g1 N K mu0 mu I ch0 ch [] Dl sA bA (i + 1) nn st → J X 6 (zz D t A) g1 k0 n0 4 [(0, .ref sA), (1, .int st), (2, .int (nI Dl.length)), (3, .int (nI (i + 1)))] []) : ∀ (L : List Nat) (g1 : GH) (mu : Nat → MU) (ch : Nat → List Nat) (Dl : List Nat), DW t g g1 N K mu0 mu I ch0 ch L Dl sA bA i nn st → (∀ x ∈ L, ∃ v, N x = some v ∧ bkt (nprt v.1 v.2) = i) → (∀ x ∈ ch i, (mu0 x).2.2.1 = st) → J X 6 (zz D t A) g1 k0 n0 26 [(0, .ref sA), (1, .int st), (2, .int (nI Dl.length)), (3, .int (nI i)), (4, va_rf (L.head?))] [] := by
  intro L
  induction L with
  | nil =>
    intro g1 mu ch Dl hD hL hci
    refine j_aloadN O dS_dropWithout_26 rfl ?_
    refine j_ifnull (o := none) O 80 dS_dropWithout_28 (by decide) (fun c1 => ?_) (fun yw1 c1 => ?_)
    · refine j_iinc O (nI (i + 1)) [(3, .int (nI (i + 1))), (0, .ref sA), (1, .int st), (2, .int (nI Dl.length)), (4, .null)] dS_dropWithout_80 rfl (nI_1 _) (by decide) rfl ?_
      refine j_goto O 4 dS_dropWithout_83 (by decide) ?_
      refine J.pk [1, 2, 3, 0] rfl ?_
      refine HK g1 mu ch Dl ⟨hD.1, hD.2.1, hD.2.2.1, hD.2.2.2.1, fun j hj x hx => ?_, hD.2.2.2.2.2⟩
      rcases Nat.lt_or_ge j i with z | z
      · exact hD.2.2.2.2.1 j z x hx
      · have : j = i := by omega
        subst this
        exact hci x hx
    · cases c1
  | cons a L ih =>
    intro g1 mu ch Dl hD hL hci
    obtain ⟨hS, hm, hp, hDl, hlow, hkn⟩ := hD
    obtain ⟨v, hv, hbi⟩ := hL a List.mem_cons_self
    obtain ⟨ra, ba, hac⟩ := hS.1.cell hv
    have hl1 : (mu a).2.2.2 = L.head? := hS.2.2.2.2.1.1.1
    obtain ⟨fB, hb, hf⟩ := hS.2.2.1
    have hs0 := hS.2.1
    have hst : (mu a).2.2.1 = (mu0 a).2.2.1 := (hm a).2.2
    have hszv : szV N a = nsz v.1 v.2 := by unfold szV; rw [hv]
    have hsz1 : szS N (stL ch ++ a :: L) = szS N (stL ch ++ L) + nsz v.1 v.2 := by rw [szS_app, szS_app, szS_cons, hszv]; omega
    have hszt : szS N (stL ch ++ a :: L) ≤ szS N (stL ch0) := by rw [← szS_perm hp, szS_app N (stL ch ++ a :: L)]; omega
    refine j_aload O dS_dropWithout_26 rfl ?_
    refine j_ifnull (o := (some a)) O 80 dS_dropWithout_28 (by decide) (fun c1 => ?_) (fun yw2 c1 => ?_)
    · cases c1
    · refine j_aload O dS_dropWithout_31 rfl ?_
      refine j_get O uwN hac rfl 11 (by decide) w155 rfl rfl dS_dropWithout_33 ?_
      refine j_astoreO (o := ((mu a).2.2.2)) O [(5, va_rf ((mu a).2.2.2)), (0, .ref sA), (1, .int st), (2, .int (nI Dl.length)), (3, .int (nI i)), (4, .ref a)] dS_dropWithout_36 (by decide) rfl ?_
      refine j_aload O dS_dropWithout_38 rfl ?_
      refine j_get O uwN hac rfl 10 (by decide) w152 rfl rfl dS_dropWithout_40 ?_
      refine j_iload_n O 1 dS_dropWithout_43 rfl rfl ?_
      refine j_icmp_ne O 56 dS_dropWithout_44 (by decide) (fun c2 => ?_) (fun c2 => ?_)
      · have kp0 : Kp [sA] g1 g1 := Kp.rf
        refine j_iinc O (nI (Dl.length + 1)) [(2, .int (nI (Dl.length + 1))), (5, va_rf ((mu a).2.2.2)), (0, .ref sA), (1, .int st), (3, .int (nI i)), (4, .ref a)] dS_dropWithout_56 rfl (nI_1 _) (by decide) rfl ?_
        refine j_aload_n O 0 dS_dropWithout_59 rfl rfl ?_
        refine j_dup O dS_dropWithout_60 rfl ?_
        refine j_get O uwS hs0 rfl 3 (by decide) w52 rfl rfl dS_dropWithout_61 ?_
        refine j_aload O dS_dropWithout_64 rfl ?_
        refine j_get O uwN hac rfl 4 (by decide) w140 rfl rfl dS_dropWithout_66 ?_
        refine j_isub O dS_dropWithout_69 ?_
        refine j_eqi (nI (szS N (stL ch ++ a :: L) - (nsz v.1 v.2))) (pk_sub (by omega)) ?_
        refine j_eqi (nI (szS N (stL ch ++ L))) (by rw [hsz1, Nat.add_sub_cancel]) ?_
        refine j_put O uwS hs0 rfl 3 (by decide) w52 rfl tS ftS fnS rfl (.int) (by decide +kernel) rfl rfl (Nat.le_of_ble_eq_true rfl) [.ref bA, .null, .int nn, .int (nI (szS N (stL ch ++ L)))] rfl dS_dropWithout_70 (fun gw3 ew4 => ?_)
        have hw5 := gUp_ne (e' := .inr (5, [.ref bA, .null, .int nn, .int (nI (szS N (stL ch ++ L)))])) hac (hac.ne hs0 (by simp))
        rw [← ew4] at hw5
        have hw6 := gUp_self (e' := .inr (5, [.ref bA, .null, .int nn, .int (nI (szS N (stL ch ++ L)))])) hs0
        rw [← ew4] at hw6
        have kpw7 := kp0.up (a := sA) (e := .inr (5, [.ref bA, .null, .int nn, .int (nI (szS N (stL ch ++ L)))])) (by simp)
        rw [← ew4] at kpw7
        refine j_aloadO O dS_dropWithout_73 rfl ?_
        refine j_astoreO (o := ((mu a).2.2.2)) O [(4, va_rf ((mu a).2.2.2)), (2, .int (nI (Dl.length + 1))), (5, va_rf ((mu a).2.2.2)), (0, .ref sA), (1, .int st), (3, .int (nI i))] dS_dropWithout_75 (by decide) rfl ?_
        refine j_goto O 26 dS_dropWithout_77 (by decide) ?_
        refine J.pk [3, 4, 1, 5, 0] rfl ?_
        rw [hl1]
        have hS2 : SWy t gw3 (N, K, mu, I, ch, L) sA bA none nn (nI (szS N (stL ch ++ L))) := (hS.top (pf' := none) kpw7 hw6).forget
        have hlen : nI (Dl.length + 1) = nI (a :: Dl).length := rfl
        rw [hlen]
        refine ih _ mu ch (a :: Dl) ⟨hS2, hm, ?_, fun x hx => ?_, hlow, hkn.tr ⟨kpw7.1, fun x e n1 _ he => kpw7.2 x e (one_ne (fun z => n1 (by rw [z]; simp))) he⟩⟩ (fun x hx => hL x (List.mem_cons_of_mem _ hx)) hci
        · refine List.Perm.trans ?_ hp
          rw [List.append_assoc, List.append_assoc, List.cons_append]
          exact List.Perm.append_left _ List.perm_middle
        · rcases List.mem_cons.mp hx with z | z
          · rw [z, ← hst]; exact c2
          · exact hDl x z
      · refine j_aload_n O 0 dS_dropWithout_47 rfl rfl ?_
        refine j_aload O dS_dropWithout_48 rfl ?_
        refine j_callV O [.ref a] (c_link X.2.1 D t A g1 sA bA a ra ba none _ fB nn _ _ _ _ _ _ _ _ _ _ hs0 hb hac) hs0 rfl w189 w190 w1 w24 w191 1 rfl rfl rfl (by decide +kernel) ⟨(by show 1 + 1 ≤ _; omega), (by show 8 + (_ + 11) + 30 ≤ _; omega)⟩ rfl (Nat.le_of_ble_eq_true rfl) dS_dropWithout_50 ⟨hrm.2.2.1, hrm.2.2.2⟩ (fun vw8 gw9 hpw10 => ?_)
        obtain ⟨rfl, hs1, hb1, ha1, kp1⟩ := hpw10
        refine j_goto O 73 dS_dropWithout_53 (by decide) ?_
        refine j_aloadO O dS_dropWithout_73 rfl ?_
        refine j_astoreO (o := ((mu a).2.2.2)) O [(4, va_rf ((mu a).2.2.2)), (5, va_rf ((mu a).2.2.2)), (0, .ref sA), (1, .int st), (2, .int (nI Dl.length)), (3, .int (nI i))] dS_dropWithout_75 (by decide) rfl ?_
        refine j_goto O 26 dS_dropWithout_77 (by decide) ?_
        refine J.pk [2, 3, 4, 5, 0] rfl ?_
        rw [hl1]
        have hS2 := SWy.link hS hv hb hs1 hb1 (fun ra' ba' hc => by
          have e := hac.eq hc
          simp only [Sum.inr.injEq, Prod.mk.injEq, List.cons.injEq, Value.ref.injEq, true_and, and_true] at e
          rw [← e.1, ← e.2]
          exact ha1) kp1
        rw [hbi] at hS2
        have hpp : (stL (va_up ch i (a :: ch i)) ++ L).Perm (stL ch ++ a :: L) := (List.Perm.append_right L (stL_push hi)).trans List.perm_middle.symm
        rw [← szS_perm hpp] at hS2
        have hv : N a = some v := hv
        refine ih _ _ _ Dl ⟨hS2, fun x => ?_, ?_, hDl, fun j hj x hx => ?_, hkn.tr ⟨kp1.1, fun x e n1 n2 he => kp1.2 x e (two_ne (fun z => by rw [z, hv] at n2; cases n2) (fun z => n1 (by rw [z]; simp))) he⟩⟩ (fun x hx => hL x (List.mem_cons_of_mem _ hx)) (fun x hx => ?_)
        · by_cases hx : x = a
          · subst hx
            rw [va_up_self]
            exact hm x
          · rw [va_up_ne _ _ hx]
            exact hm x
        · exact (List.Perm.append_right Dl hpp).trans hp
        · rw [va_up_ne _ _ (by omega)] at hx
          exact hlow j hj x hx
        · rw [va_up_self] at hx
          rcases List.mem_cons.mp hx with z | z
          · rw [z, ← hst]; exact c2
          · exact hci x z
set_option maxRecDepth 100000 in
set_option maxHeartbeats 1000000 in
theorem drop_outer {X : CX} {D : va_G} {t : Nat → ClassId} {A : Nat → Prop} {rm : Room} {g : GH} {k0 n0 : Nat} {sA bA : Nat} {nn st : Int32} {N : NM} {K : Nat → List Nat} {mu0 : Nat → MU} {I : Nat → Prop} {ch0 : Nat → List Nat} (O : Ok X bS_dropWithout 6 "TwinTrees$Store" (zz D t A) rm) (hrm : 2 ≤ rm.frames ∧ 60 ≤ rm.locals ∧ k0 + 0 ≤ rm.cells ∧ n0 + 0 ≤ rm.slots) (hb0 : szS N (stL ch0) < 2 ^ 30) (HK : ∀ (g1 : GH) (mu : Nat → MU) (ch : Nat → List Nat) (Dl : List Nat), DW t g g1 N K mu0 mu I ch0 ch [] Dl sA bA 1024 nn st → J X 6 (zz D t A) g1 k0 n0 86 [(0, .ref sA), (1, .int st), (2, .int (nI Dl.length))] []) : ∀ (k i : Nat) (g1 : GH) (mu : Nat → MU) (ch : Nat → List Nat) (Dl : List Nat), i + k = 1024 → DW t g g1 N K mu0 mu I ch0 ch [] Dl sA bA i nn st → J X 6 (zz D t A) g1 k0 n0 4 [(0, .ref sA), (1, .int st), (2, .int (nI Dl.length)), (3, .int (nI i))] [] := by
  intro k
  induction k with
  | zero =>
    intro i g1 mu ch Dl hi hD
    have hi : i = 1024 := by omega
    subst hi
    refine j_iload_n O 3 dS_dropWithout_4 rfl rfl ?_
    refine j_sipush O (v := 1024) dS_dropWithout_5 (by decide) ?_
    refine j_icmp_ge O 86 dS_dropWithout_8 (by decide) (fun c1 => ?_) (fun c1 => ?_)
    · refine J.pk [0, 1, 2] rfl ?_
      exact HK g1 mu ch Dl hD
    · exact absurd (by decide) c1
  | succ k ih =>
    intro i g1 mu ch Dl hi hD
    obtain ⟨hS, hm, hp, hDl, hlow, hkn⟩ := hD
    obtain ⟨fB, hb, hf⟩ := hS.2.2.1
    have hs0 := hS.2.1
    have hi1 : i < 1024 := by omega
    have hfi : fB i = (ch i).head? := hf i hi1
    refine j_iload_n O 3 dS_dropWithout_4 rfl rfl ?_
    refine j_sipush O (v := 1024) dS_dropWithout_5 (by decide) ?_
    refine j_icmp_ge O 86 dS_dropWithout_8 (by decide) (fun c1 => ?_) (fun c1 => ?_)
    · exact absurd c1 (nI_ge (b := 1024) hi1 (by omega))
    · have kp0 : Kp [bA] g1 g1 := Kp.rf
      refine j_aload_n O 0 dS_dropWithout_11 rfl rfl ?_
      refine j_get O uwS hs0 rfl 0 (by decide) w48 rfl rfl dS_dropWithout_12 ?_
      refine j_iload_n O 3 dS_dropWithout_15 rfl rfl ?_
      refine j_aald O hb 2 rfl (by omega) (by omega) dS_dropWithout_16 ?_
      refine j_oeq ((ch i).head?) hfi ?_
      refine j_astoreO (o := ((ch i).head?)) O [(4, va_rf ((ch i).head?)), (0, .ref sA), (1, .int st), (2, .int (nI Dl.length)), (3, .int (nI i))] dS_dropWithout_17 (by decide) rfl ?_
      refine j_aload_n O 0 dS_dropWithout_19 rfl rfl ?_
      refine j_get O uwS hs0 rfl 0 (by decide) w48 rfl rfl dS_dropWithout_20 ?_
      refine j_iload_n O 3 dS_dropWithout_23 rfl rfl ?_
      refine j_null O dS_dropWithout_24 ?_
      refine j_aastN O hb 2 rfl hi1 (by omega) dS_dropWithout_25 (fun gw11 ew12 => ?_)
      have hw13 := gUp_ne (e' := .inl (t 2, 1024, .inr (.inr (.inr (.inr (va_up fB i none)))))) hs0 (hs0.ne hb (by simp))
      rw [← ew12] at hw13
      have hw14 := gUp_self (e' := .inl (t 2, 1024, .inr (.inr (.inr (.inr (va_up fB i none)))))) hb
      rw [← ew12] at hw14
      have kpw15 := kp0.up (a := bA) (e := .inl (t 2, 1024, .inr (.inr (.inr (.inr (va_up fB i none)))))) (by simp)
      rw [← ew12] at kpw15
      refine J.pk [1, 2, 3, 4, 0] rfl ?_
      have hS2 := hS.cut hi1 hb kpw15 hw14
      have hpp : (stL (va_up ch i []) ++ ch i).Perm (stL ch ++ []) := by
        rw [List.append_nil]
        exact (List.perm_append_comm.trans (stL_cut hi1).symm)
      rw [← szS_perm hpp] at hS2
      refine drop_inner (k0 := k0) (n0 := n0) (mu0 := mu0) (ch0 := ch0) (g := g) O hrm hi1 hb0 (fun g2 mu2 ch2 Dl2 hD2 => ih (i + 1) g2 mu2 ch2 Dl2 (by omega) hD2) (ch i) _ mu _ Dl ⟨hS2, hm, (List.Perm.append_right Dl hpp).trans hp, hDl, fun j hj x hx => ?_, hkn.tr ⟨kpw15.1, fun x e n1 _ he => kpw15.2 x e (one_ne (fun z => n1 (by rw [z]; simp))) he⟩⟩ (fun x hx => (hS.2.2.2.1 i hi1).2.2 x hx) (fun x hx => by rw [va_up_self] at hx; cases hx)
      rw [va_up_ne _ _ (by omega)] at hx
      exact hlow j hj x hx
set_option maxRecDepth 100000 in
set_option maxHeartbeats 1000000 in
theorem c_dropWithout (l : Launch) (D : va_G) (t : Nat → ClassId) (A : Nat → Prop) (g : GH) (sA bA : Nat) (st : Int32) (w : GD) (hS : SW t g w sA bA (nI (stL w.2.2.2.2.1).length) (nI (szS w.1 (stL w.2.2.2.2.1)))) (hpd : w.2.2.2.2.2 = []) (hb0 : szS w.1 (stL w.2.2.2.2.1) < 2 ^ 30) (hb1 : (stL w.2.2.2.2.1).length < 2 ^ 30) (hcl : ∀ x, inS w.2.2.2.2.1 x → (w.2.2.1 x).2.2.1 = st → ∀ b ∈ w.2.1 x, (w.2.2.1 b).2.2.1 = st) : Ct l yS_dropWithout sS_dropWithout { frames := 2, cells := 0, slots := 0, locals := 60 } (zz D t A) [.ref sA, .int st] g 0 0 (fun v g' => ∃ (mu : Nat → MU) (ch : Nat → List Nat) (Dl : List Nat), v = some (.int (nI Dl.length)) ∧ SW t g' (w.1, w.2.1, mu, w.2.2.2.1, ch, []) sA bA (nI (stL ch).length) (nI (szS w.1 (stL ch))) ∧ (∀ x, muN (w.2.2.1 x) (mu x)) ∧ (stL ch ++ Dl).Perm (stL w.2.2.2.2.1) ∧ (∀ x ∈ Dl, (w.2.2.1 x).2.2.1 ≠ st) ∧ (∀ x, inS ch x → (w.2.2.1 x).2.2.1 = st) ∧ KN [sA, bA] w.1 g g') := by
  refine Ct.of (cc := bS_dropWithout) (maxL := 6) (ret := (some .int)) (by decide) (Nat.le_of_ble_eq_true rfl) (fun X hl O M hN => ?_)
  show J X 6 (zz D t A) g 0 0 0 [(0, .ref sA), (1, .int st)] []
  obtain ⟨N, K, mu, I, ch, pd⟩ := w
  dsimp only at *
  subst hpd
  have hSy : SWy t g (N, K, mu, I, ch, []) sA bA none (nI (stL ch).length) (nI (szS N (stL ch ++ []))) := by
    rw [List.append_nil]; exact hS.y
  have hD : DW t g g N K mu mu I ch ch [] [] sA bA 0 (nI (stL ch).length) st := ⟨hSy, fun x => ⟨rfl, rfl, rfl⟩, by rw [List.append_nil, List.append_nil], fun x hx => (by cases hx), fun j hj => by omega, KN.rf⟩
  refine j_iconst O (v := 0) dS_dropWithout_0 (by decide) ?_
  refine j_istore_n O 2 [(2, .int 0), (0, .ref sA), (1, .int st)] dS_dropWithout_1 rfl (by decide) rfl ?_
  refine j_iconst O (v := 0) dS_dropWithout_2 (by decide) ?_
  refine j_istore_n O 3 [(3, .int 0), (2, .int 0), (0, .ref sA), (1, .int st)] dS_dropWithout_3 rfl (by decide) rfl ?_
  refine J.pk [2, 3, 1, 0] rfl ?_
  refine drop_outer (k0 := 0) (n0 := 0) (mu0 := mu) (ch0 := ch) (g := g) O ⟨by decide, by decide, by decide, by decide⟩ hb0 (fun g2 mu2 ch2 Dl hD2 => ?_) 1024 0 g mu ch [] rfl hD
  obtain ⟨hS2, hm2, hp2, hDl, hlow, hk2⟩ := hD2
  rw [List.append_nil] at hS2 hp2
  have hs2 := hS2.2.1
  have hlen := hp2.length_eq
  rw [List.length_append] at hlen
  have kp9 : Kp [sA] g2 g2 := Kp.rf
  refine j_aload_n O 0 dS_dropWithout_86 rfl rfl ?_
  refine j_dup O dS_dropWithout_87 rfl ?_
  refine j_get O uwS hs2 rfl 2 (by decide) w50 rfl rfl dS_dropWithout_88 ?_
  refine j_iload_n O 2 dS_dropWithout_91 rfl rfl ?_
  refine j_isub O dS_dropWithout_92 ?_
  refine j_eqi (nI ((stL ch).length - Dl.length)) (pk_sub (by omega)) ?_
  refine j_eqi (nI (stL ch2).length) (by rw [show (stL ch).length - Dl.length = (stL ch2).length by omega]) ?_
  refine j_put O uwS hs2 rfl 2 (by decide) w50 rfl tS ftS fnS rfl (.int) (by decide +kernel) rfl rfl (Nat.le_of_ble_eq_true rfl) [.ref bA, .null, .int (nI (stL ch2).length), .int (nI (szS N (stL ch2)))] rfl dS_dropWithout_93 (fun gw16 ew17 => ?_)
  have hw18 := gUp_self (e' := .inr (5, [.ref bA, .null, .int (nI (stL ch2).length), .int (nI (szS N (stL ch2)))])) hs2
  rw [← ew17] at hw18
  have kpw19 := kp9.up (a := sA) (e := .inr (5, [.ref bA, .null, .int (nI (stL ch2).length), .int (nI (szS N (stL ch2)))])) (by simp)
  rw [← ew17] at kpw19
  refine j_iload_n O 2 dS_dropWithout_96 rfl rfl ?_
  have hin : ∀ x, inS ch2 x → (mu x).2.2.1 = st := by
    rintro x ⟨j, hj, hx⟩
    exact hlow j hj x hx
  have hS3 := (hS2.top (pf' := none) kpw19 hw18).sw (fun x hx b hb => by
    have hx1 : inS ch x := by rw [← stL_in, ← hp2.mem_iff, List.mem_append, stL_in]; exact Or.inl hx
    have hb1 : inS ch b := hS.2.2.2.2.2.2.1.1 x hx1 b hb
    rw [← stL_in, ← hp2.mem_iff, List.mem_append] at hb1
    rcases hb1 with z | z
    · exact stL_in.mp z
    · exact absurd (hcl x hx1 (hin x hx) b hb) (hDl b z))
  exact j_iret O M (Nat.le_of_ble_eq_true rfl) (Nat.le_of_ble_eq_true rfl) ⟨mu2, ch2, Dl, rfl, hS3, hm2, hp2, hDl, hin, hk2.tr ⟨kpw19.1, fun x e n1 _ he => kpw19.2 x e (one_ne (fun z => n1 (by rw [z]; simp))) he⟩⟩ dS_dropWithout_97
