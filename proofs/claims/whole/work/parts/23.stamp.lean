/-- the nodes of a tree, by its height -/
def dsc (K : Nat → List Nat) : Nat → Nat → List Nat
  | 0, a => [a]
  | h + 1, a => a :: (K a).flatMap (dsc K h)
def setSt (m : MU) (s : Int32) : MU := (m.1, m.2.1, s, m.2.2.2)
def stmp (mu : Nat → MU) (s : Int32) (L : List Nat) : Nat → MU := fun x => if x ∈ L then setSt (mu x) s else mu x
theorem stmp_nil (mu : Nat → MU) (s : Int32) : stmp mu s [] = mu := by
  funext x
  simp [stmp]
theorem stmp_app (mu : Nat → MU) (s : Int32) (L L' : List Nat) : stmp (stmp mu s L) s L' = stmp mu s (L ++ L') := by
  funext x
  unfold stmp
  by_cases h1 : x ∈ L <;> by_cases h2 : x ∈ L' <;> simp [h1, h2, setSt]
theorem stmp_one (mu : Nat → MU) (s : Int32) (a : Nat) : va_up mu a (setSt (mu a) s) = stmp mu s [a] := by
  funext x
  by_cases h : x = a
  · subst h; rw [va_up_self]; simp [stmp]
  · rw [va_up_ne _ _ h]; simp [stmp, h]
theorem stmp_in {mu : Nat → MU} {s : Int32} {L : List Nat} {x : Nat} (h : x ∈ L) : (stmp mu s L x).2.2.1 = s := by simp [stmp, h, setSt]
theorem stmp_out {mu : Nat → MU} {s : Int32} {L : List Nat} {x : Nat} (h : x ∉ L) : stmp mu s L x = mu x := by simp [stmp, h]
theorem stmp_st {mu : Nat → MU} {s : Int32} {L : List Nat} {x : Nat} (h : (mu x).2.2.1 = s) : (stmp mu s L x).2.2.1 = s := by
  unfold stmp
  split
  · rfl
  · exact h
theorem stmp_id {mu : Nat → MU} {s : Int32} {L : List Nat} (h : ∀ x ∈ L, (mu x).2.2.1 = s) : stmp mu s L = mu := by
  funext x
  unfold stmp
  split
  · next hx =>
    have := h x hx
    unfold setSt
    rw [← this]
  · rfl
/-- how many had not got the stamp -/
def unst (mu : Nat → MU) (s : Int32) (L : List Nat) : Nat := (L.filter (fun x => decide (¬ (mu x).2.2.1 = s))).length
theorem unst_app (mu : Nat → MU) (s : Int32) (L L' : List Nat) : unst mu s (L ++ L') = unst mu s L + unst mu s L' := by simp [unst]
theorem unst_congr {mu mu' : Nat → MU} {s : Int32} {L : List Nat} (h : ∀ x ∈ L, mu' x = mu x) : unst mu' s L = unst mu s L := by
  unfold unst
  congr 1
  apply List.filter_congr
  intro x hx
  rw [h x hx]
theorem unst_0 {mu : Nat → MU} {s : Int32} {L : List Nat} (h : ∀ x ∈ L, (mu x).2.2.1 = s) : unst mu s L = 0 := by
  unfold unst
  rw [List.length_eq_zero_iff, List.filter_eq_nil_iff]
  intro x hx
  simp [h x hx]
theorem unst_1 {mu : Nat → MU} {s : Int32} {a : Nat} (h : ¬ (mu a).2.2.1 = s) : unst mu s [a] = 1 := by simp [unst, h]
theorem dsc_self (K : Nat → List Nat) (h a : Nat) : a ∈ dsc K h a := by
  cases h with
  | zero => exact List.mem_cons_self
  | succ h => exact List.mem_cons_self
/-- what has the stamp, with all below it, if each with a stamp has it -/
theorem dsc_stamped {K : Nat → List Nat} {P : Nat → Prop} : ∀ (h a : Nat), (∀ x ∈ dsc K h a, P x → ∀ b ∈ K x, P b) → P a → ∀ x ∈ dsc K h a, P x
  | 0, a, _, ha, x, hx => by rw [List.mem_singleton.mp hx]; exact ha
  | h + 1, a, hc, ha, x, hx => by
    rcases List.mem_cons.mp hx with z | z
    · rw [z]; exact ha
    · obtain ⟨b, hb, hxb⟩ := List.mem_flatMap.mp z
      exact dsc_stamped h b (fun y hy => hc y (List.mem_cons_of_mem _ (List.mem_flatMap.mpr ⟨b, hb, hy⟩))) (hc a List.mem_cons_self ha b hb) x hxb
theorem KN.mono {M M' : List Nat} {N : NM} {g g' : GH} (h : KN M N g g') (hm : ∀ x ∈ M, x ∈ M') : KN M' N g g' := ⟨h.1, fun x e n1 n2 he => h.2 x e (fun z => n1 (hm x z)) n2 he⟩
set_option maxRecDepth 100000 in
set_option maxHeartbeats 1000000 in
theorem stampTree_loop {X : CX} {D : va_G} {t : Nat → ClassId} {A : Nat → Prop} {rm : Room} {g : GH} {N : NM} {K : Nat → List Nat} {mu : Nat → MU} {I : Nat → Prop} {R : (Nat → List Nat) × List Nat} {a h : Nat} {v : NV} {s : Int32} {d : Nat} (O : Ok X bT_stampTree 8 "TwinTrees" (zz D t A) rm) (M : Om X (zz D t A) (some .int) 0 0 (fun v g' => v = some (.int (nI (unst mu s (dsc K (h + 1) a)))) ∧ NI t g' (N, K, stmp mu s (dsc K (h + 1) a), I, R) ∧ KN [] N g g')) (hv : N a = some v) (hh : v.1 = h + 1) (ba : Nat) (fb : Nat → Option Nat) (hba : gAt g ba (eNs t (K a).length fb)) (hbaN : N ba = none) (hfb : ∀ i (hi : i < (K a).length), fb i = some (K a)[i]) (hkl : (K a).length ≤ 300) (hnd : (dsc K (h + 1) a).Nodup) (hkv : ∀ b ∈ K a, ∃ u, N b = some u ∧ u.1 = h) (hcl : ∀ x ∈ dsc K (h + 1) a, (mu x).2.2.1 = s → ∀ b ∈ K x, (mu b).2.2.1 = s) (hrm : d + 1 ≤ rm.frames ∧ 30 * (d + 1) ≤ rm.locals) (IH : ∀ (b : Nat) (u : NV) (g1 : GH) (mu1 : Nat → MU), N b = some u → u.1 = h → NI t g1 (N, K, mu1, I, R) → (dsc K h b).Nodup → (∀ x ∈ dsc K h b, (mu1 x).2.2.1 = s → ∀ c ∈ K x, (mu1 c).2.2.1 = s) → Ct X.2.1 yT_stampTree sT_stampTree { frames := d, cells := 0, slots := 0, locals := 30 * d } (zz D t A) [.ref b, .int s, .int (nI d)] g1 0 0 (fun v g' => v = some (.int (nI (unst mu1 s (dsc K h b)))) ∧ NI t g' (N, K, stmp mu1 s (dsc K h b), I, R) ∧ KN [] N g1 g')) : ∀ (k i : Nat) (g1 : GH), i + k = (K a).length → NI t g1 (N, K, stmp mu s (a :: ((K a).take i).flatMap (dsc K h)), I, R) → KN [] N g g1 → J X 8 (zz D t A) g1 0 0 35 [(0, .ref a), (1, .int s), (2, .int (nI (d + 1))), (3, .int (nI (unst mu s (a :: ((K a).take i).flatMap (dsc K h))))), (4, .ref ba), (5, .int (nI (K a).length)), (6, .int (nI i))] [] := by
  intro k
  induction k with
  | zero =>
    intro i g1 hi hN hk
    have hi : i = (K a).length := by omega
    subst hi
    rw [List.take_length] at *
    refine j_iload O dT_stampTree_35 rfl ?_
    refine j_iload O dT_stampTree_37 rfl ?_
    refine j_icmp_ge O 67 dT_stampTree_39 (by decide) (fun c => ?_) (fun c => absurd (nI_le (Nat.le_refl _) (by omega)) c)
    refine j_iload_n O 3 dT_stampTree_67 rfl rfl ?_
    exact j_iret O M (Nat.le_of_ble_eq_true rfl) (Nat.le_of_ble_eq_true rfl) ⟨rfl, hN, hk⟩ dT_stampTree_68
  | succ k ih =>
    intro i g1 hi hN hk
    have hi1 : i < (K a).length := by omega
    have hba1 := hk.2 ba _ List.not_mem_nil hbaN hba
    obtain ⟨u, hu, hu1⟩ := hkv (K a)[i] (List.getElem_mem _)
    have htk : (K a).take (i + 1) = (K a).take i ++ [(K a)[i]] := List.take_succ_eq_append_getElem hi1
    have hsub : ∀ x ∈ dsc K h (K a)[i], x ∈ (K a).flatMap (dsc K h) := fun x hx => List.mem_flatMap.mpr ⟨_, List.getElem_mem _, hx⟩
    have hnd2 : (a :: ((K a).take i).flatMap (dsc K h) ++ dsc K h (K a)[i]).Nodup := by
      have e : dsc K (h + 1) a = (a :: ((K a).take i).flatMap (dsc K h) ++ dsc K h (K a)[i]) ++ ((K a).drop (i + 1)).flatMap (dsc K h) := by
        show a :: (K a).flatMap (dsc K h) = _
        have e0 : K a = (K a).take i ++ [(K a)[i]] ++ (K a).drop (i + 1) := by rw [← htk, List.take_append_drop]
        have e1 : (K a).flatMap (dsc K h) = ((K a).take i ++ [(K a)[i]] ++ (K a).drop (i + 1)).flatMap (dsc K h) := congrArg (fun z => z.flatMap (dsc K h)) e0
        rw [e1, List.flatMap_append, List.flatMap_append, List.flatMap_singleton]
        simp
      rw [e] at hnd
      exact (List.nodup_append.mp hnd).1
    have hdis : ∀ x ∈ dsc K h (K a)[i], x ∉ a :: ((K a).take i).flatMap (dsc K h) := fun x hx hx2 => (List.nodup_append.mp hnd2).2.2 x hx2 x hx rfl
    refine j_iload O dT_stampTree_35 rfl ?_
    refine j_iload O dT_stampTree_37 rfl ?_
    refine j_icmp_ge O 67 dT_stampTree_39 (by decide) (fun c => absurd c (nI_ge hi1 (by omega))) (fun c => ?_)
    refine j_aload O dT_stampTree_42 rfl ?_
    refine j_iload O dT_stampTree_44 rfl ?_
    refine j_aald O hba1 2 rfl (by omega) (by omega) dT_stampTree_46 ?_
    refine j_some ((K a)[i]) (hfb i hi1) ?_
    refine j_astore O [(7, .ref ((K a)[i])), (0, .ref a), (1, .int s), (2, .int (nI (d + 1))), (3, .int (nI (unst mu s (a :: ((K a).take i).flatMap (dsc K h))))), (4, .ref ba), (5, .int (nI (K a).length)), (6, .int (nI i))] dT_stampTree_47 (by decide) rfl ?_
    refine j_iload_n O 3 dT_stampTree_49 rfl rfl ?_
    refine j_aload O dT_stampTree_50 rfl ?_
    refine j_iload_n O 1 dT_stampTree_52 rfl rfl ?_
    refine j_iload_n O 2 dT_stampTree_53 rfl rfl ?_
    refine j_iconst O (v := 1) dT_stampTree_54 (by decide) ?_
    refine j_isub O dT_stampTree_55 ?_
    refine j_eqi (nI (d + 1 - 1)) (pk_sub (b := 1) (by omega)) ?_
    refine j_eqi (nI d) (by rw [Nat.add_sub_cancel]) ?_
    refine j_callS O [.ref ((K a)[i]), .int s, .int (nI d)] (IH (K a)[i] u g1 (stmp mu s (a :: ((K a).take i).flatMap (dsc K h))) hu hu1 hN (List.nodup_append.mp hnd2).2.1 (fun x hx hst c hc => by
        rw [stmp_out (hdis x hx)] at hst
        exact stmp_st (hcl x (List.mem_cons_of_mem _ (hsub x hx)) hst c hc))) w354 w355 w23 w356 3 rfl rfl rfl (by decide +kernel) ⟨(by show d + 1 ≤ _; omega), (by show 8 + (8 + 11) + 30 * d ≤ _; omega)⟩ rfl (Nat.le_of_ble_eq_true rfl) dT_stampTree_56 ⟨(by show 0 + 0 ≤ _; omega), (by show 0 + 0 ≤ _; omega)⟩ (fun vw1 gw2 hpw3 => ?_)
    obtain ⟨rfl, hN2, hk2⟩ := hpw3
    refine j_iadd O dT_stampTree_59 ?_
    refine j_eqi (nI (unst mu s (a :: ((K a).take i).flatMap (dsc K h)) + (unst (stmp mu s (a :: ((K a).take i).flatMap (dsc K h))) s (dsc K h (K a)[i])))) (nI_add _ _) ?_
    have hcat : (a :: ((K a).take i).flatMap (dsc K h)) ++ dsc K h (K a)[i] = (a :: ((K a).take (i + 1)).flatMap (dsc K h)) := by rw [htk, List.flatMap_append, List.flatMap_singleton]; rfl
    have hcnt : unst mu s (a :: ((K a).take i).flatMap (dsc K h)) + unst (stmp mu s (a :: ((K a).take i).flatMap (dsc K h))) s (dsc K h (K a)[i]) = unst mu s (a :: ((K a).take (i + 1)).flatMap (dsc K h)) := by
      rw [unst_congr (fun x hx => stmp_out (hdis x hx)), ← unst_app, hcat]
    rw [stmp_app, hcat] at hN2
    refine j_eqi (nI (unst mu s (a :: ((K a).take (i + 1)).flatMap (dsc K h)))) (by rw [hcnt]) ?_
    refine j_istore_n O 3 [(3, .int (nI (unst mu s (a :: ((K a).take (i + 1)).flatMap (dsc K h))))), (7, .ref ((K a)[i])), (0, .ref a), (1, .int s), (2, .int (nI (d + 1))), (4, .ref ba), (5, .int (nI (K a).length)), (6, .int (nI i))] dT_stampTree_60 rfl (by decide) rfl ?_
    refine j_iinc O (nI (i + 1)) [(6, .int (nI (i + 1))), (3, .int (nI (unst mu s (a :: ((K a).take (i + 1)).flatMap (dsc K h))))), (7, .ref ((K a)[i])), (0, .ref a), (1, .int s), (2, .int (nI (d + 1))), (4, .ref ba), (5, .int (nI (K a).length))] dT_stampTree_61 rfl (nI_1 _) (by decide) rfl ?_
    refine j_goto O 35 dT_stampTree_64 (by decide) ?_
    refine J.pk [3, 4, 5, 1, 6, 7, 0] rfl ?_
    exact ih (i + 1) gw2 (by omega) hN2 (hk.tr hk2)
set_option maxRecDepth 100000 in
set_option maxHeartbeats 1000000 in
theorem c_stampTree (l : Launch) (D : va_G) (t : Nat → ClassId) (A : Nat → Prop) (N : NM) (K : Nat → List Nat) (I : Nat → Prop) (R : (Nat → List Nat) × List Nat) (s : Int32) : ∀ (d : Nat) (a : Nat) (v : NV) (h : Nat) (g : GH) (mu : Nat → MU), N a = some v → v.1 = h → h ≤ d → d ≤ 5 → NI t g (N, K, mu, I, R) → (dsc K h a).Nodup → (∀ x ∈ dsc K h a, (mu x).2.2.1 = s → ∀ c ∈ K x, (mu c).2.2.1 = s) → Ct l yT_stampTree sT_stampTree { frames := d, cells := 0, slots := 0, locals := 30 * d } (zz D t A) [.ref a, .int s, .int (nI d)] g 0 0 (fun v g' => v = some (.int (nI (unst mu s (dsc K h a)))) ∧ NI t g' (N, K, stmp mu s (dsc K h a), I, R) ∧ KN [] N g g') := by
  intro d
  induction d with
  | zero =>
    intro a v h g mu hv hvh hhd hd5 hN hnd hcl
    have hh0 : h = 0 := by omega
    subst hh0
    obtain ⟨hvo, hIa, ⟨ra, ba, nr, fr, fb, iA, iB, hac, hra, hba, -, h0, -, hfb, h8⟩, had⟩ := hN a v hv
    dsimp only at hac hba h0 hfb h8 had hIa iA iB hra
    have hk0 : K a = [] := (h0 hvh).2.1
    refine Ct.of (cc := bT_stampTree) (maxL := 8) (ret := (some .int)) (by decide) (Nat.le_of_ble_eq_true rfl) (fun X hlX O M hNn => ?_)
    show J X 8 (zz D t A) g 0 0 0 [(0, .ref a), (1, .int s), (2, .int (nI 0))] []
    refine j_iload_n O 2 dT_stampTree_0 rfl rfl ?_
    refine j_if_lt O 12 dT_stampTree_1 (by decide) (fun c => absurd c (nI_pos (by omega))) (fun c => ?_)
    refine j_aload_n O 0 dT_stampTree_4 rfl rfl ?_
    refine j_get O uwN hac rfl 10 (by decide) w153 rfl rfl dT_stampTree_5 ?_
    refine j_iload_n O 1 dT_stampTree_8 rfl rfl ?_
    refine j_icmp_ne O 14 dT_stampTree_9 (by decide) (fun c1 => ?_) (fun c1 => ?_)
    · have kp0 : Kp [a] g g := Kp.rf
      refine j_aload_n O 0 dT_stampTree_14 rfl rfl ?_
      refine j_iload_n O 1 dT_stampTree_15 rfl rfl ?_
      refine j_put O uwN hac rfl 10 (by decide) w153 rfl tN ftN fnN rfl (.int) (by decide +kernel) rfl rfl (Nat.le_of_ble_eq_true rfl) [.int (nI v.1), .ref ra, .ref ba, .int (nI v.2.length), .int (nI (nsz v.1 v.2)), .int (lastK v.2), .int (nI (lastL v.2)), .int (nprt v.1 v.2), .long ((mu a).1), .int ((mu a).2.1), .int s, va_rf ((mu a).2.2.2)] rfl dT_stampTree_16 (fun gw4 ew5 => ?_)
      have hw6 := gUp_self (e' := .inr (2, [.int (nI v.1), .ref ra, .ref ba, .int (nI v.2.length), .int (nI (nsz v.1 v.2)), .int (lastK v.2), .int (nI (lastL v.2)), .int (nprt v.1 v.2), .long ((mu a).1), .int ((mu a).2.1), .int s, va_rf ((mu a).2.2.2)])) hac
      rw [← ew5] at hw6
      have kpw7 := kp0.up (a := a) (e := .inr (2, [.int (nI v.1), .ref ra, .ref ba, .int (nI v.2.length), .int (nI (nsz v.1 v.2)), .int (lastK v.2), .int (nI (lastL v.2)), .int (nprt v.1 v.2), .long ((mu a).1), .int ((mu a).2.1), .int s, va_rf ((mu a).2.2.2)])) (by simp)
      rw [← ew5] at kpw7
      have hN2 : NI t gw4 (N, K, stmp mu s [a], I, R) := by
        rw [← stmp_one]
        refine hN.mut hv had (fun x e hx _ he => kpw7.2 x e (one_ne hx) he) (fun ra' ba' hc => ?_)
        have e := hac.eq hc
        simp only [Sum.inr.injEq, Prod.mk.injEq, List.cons.injEq, Value.ref.injEq, true_and, and_true] at e
        rw [← e.1, ← e.2]
        exact hw6
      have hkA : KN [] N g gw4 := ⟨kpw7.1, fun x e _ n2 he => kpw7.2 x e (one_ne (fun z => by rw [z, hv] at n2; cases n2)) he⟩
      have hbaA := kpw7.2 ba _ (one_ne (hba.ne hac (by simp))) hba
      have hdl : dsc K 0 a = [a] := rfl
      refine j_iconst O (v := 1) dT_stampTree_19 (by decide) ?_
      refine j_istore_n O 3 [(3, .int 1), (0, .ref a), (1, .int s), (2, .int (nI 0))] dT_stampTree_20 rfl (by decide) rfl ?_
      refine j_aload_n O 0 dT_stampTree_21 rfl rfl ?_
      refine j_get O uwN hw6 rfl 2 (by decide) w136 rfl rfl dT_stampTree_22 ?_
      refine j_astore O [(4, .ref ba), (3, .int 1), (0, .ref a), (1, .int s), (2, .int (nI 0))] dT_stampTree_25 (by decide) rfl ?_
      refine j_aload O dT_stampTree_27 rfl ?_
      refine j_alen O hbaA 2 rfl dT_stampTree_29 ?_
      refine j_istore O [(5, .int (nI ((K a).length))), (4, .ref ba), (3, .int 1), (0, .ref a), (1, .int s), (2, .int (nI 0))] dT_stampTree_30 (by decide) rfl ?_
      refine j_iconst O (v := 0) dT_stampTree_32 (by decide) ?_
      refine j_istore O [(6, .int 0), (5, .int (nI ((K a).length))), (4, .ref ba), (3, .int 1), (0, .ref a), (1, .int s), (2, .int (nI 0))] dT_stampTree_33 (by decide) rfl ?_
      have hkl0 : (K a).length = 0 := by rw [hk0]; rfl
      refine j_iload O dT_stampTree_35 rfl ?_
      refine j_iload O dT_stampTree_37 rfl ?_
      refine j_icmp_ge O 67 dT_stampTree_39 (by decide) (fun c => ?_) (fun c => absurd (by rw [hkl0]; decide) c)
      refine j_iload_n O 3 dT_stampTree_67 rfl rfl ?_
      exact j_iret O M (Nat.le_of_ble_eq_true rfl) (Nat.le_of_ble_eq_true rfl) ⟨by rw [hdl, unst_1 c1]; rfl, hN2, hkA⟩ dT_stampTree_68
    · have hall := dsc_stamped (P := fun x => (mu x).2.2.1 = s) 0 a hcl c1
      refine j_iconst O (v := 0) dT_stampTree_12 (by decide) ?_
      exact j_iret O M (Nat.le_of_ble_eq_true rfl) (Nat.le_of_ble_eq_true rfl) ⟨by rw [unst_0 hall]; rfl, by rw [stmp_id hall]; exact hN, KN.rf⟩ dT_stampTree_13
  | succ d IH =>
    intro a v h g mu hv hvh hhd hd5 hN hnd hcl
    obtain ⟨hvo, hIa, ⟨ra, ba, nr, fr, fb, iA, iB, hac, hra, hba, -, h0, -, hfb, h8⟩, had⟩ := hN a v hv
    dsimp only at hac hba h0 hfb h8 had hIa iA iB hra
    have hbaN : N ba = none := hN.no hba (fun _ _ _ _ _ => by simp)
    have hkl : (K a).length ≤ 300 := by
      cases hv1 : v.1 with
      | zero => rw [(h0 hv1).2.1]; exact Nat.zero_le _
      | succ h' =>
        rw [(h8 h' hv1).1]
        exact Nat.le_trans (runs_len_le _ _) hvo.2.1
    refine Ct.of (cc := bT_stampTree) (maxL := 8) (ret := (some .int)) (by decide) (Nat.le_of_ble_eq_true rfl) (fun X hlX O M hNn => ?_)
    show J X 8 (zz D t A) g 0 0 0 [(0, .ref a), (1, .int s), (2, .int (nI (d + 1)))] []
    refine j_iload_n O 2 dT_stampTree_0 rfl rfl ?_
    refine j_if_lt O 12 dT_stampTree_1 (by decide) (fun c => absurd c (nI_pos (by omega))) (fun c => ?_)
    refine j_aload_n O 0 dT_stampTree_4 rfl rfl ?_
    refine j_get O uwN hac rfl 10 (by decide) w153 rfl rfl dT_stampTree_5 ?_
    refine j_iload_n O 1 dT_stampTree_8 rfl rfl ?_
    refine j_icmp_ne O 14 dT_stampTree_9 (by decide) (fun c1 => ?_) (fun c1 => ?_)
    · have kp0 : Kp [a] g g := Kp.rf
      refine j_aload_n O 0 dT_stampTree_14 rfl rfl ?_
      refine j_iload_n O 1 dT_stampTree_15 rfl rfl ?_
      refine j_put O uwN hac rfl 10 (by decide) w153 rfl tN ftN fnN rfl (.int) (by decide +kernel) rfl rfl (Nat.le_of_ble_eq_true rfl) [.int (nI v.1), .ref ra, .ref ba, .int (nI v.2.length), .int (nI (nsz v.1 v.2)), .int (lastK v.2), .int (nI (lastL v.2)), .int (nprt v.1 v.2), .long ((mu a).1), .int ((mu a).2.1), .int s, va_rf ((mu a).2.2.2)] rfl dT_stampTree_16 (fun gw8 ew9 => ?_)
      have hw10 := gUp_self (e' := .inr (2, [.int (nI v.1), .ref ra, .ref ba, .int (nI v.2.length), .int (nI (nsz v.1 v.2)), .int (lastK v.2), .int (nI (lastL v.2)), .int (nprt v.1 v.2), .long ((mu a).1), .int ((mu a).2.1), .int s, va_rf ((mu a).2.2.2)])) hac
      rw [← ew9] at hw10
      have kpw11 := kp0.up (a := a) (e := .inr (2, [.int (nI v.1), .ref ra, .ref ba, .int (nI v.2.length), .int (nI (nsz v.1 v.2)), .int (lastK v.2), .int (nI (lastL v.2)), .int (nprt v.1 v.2), .long ((mu a).1), .int ((mu a).2.1), .int s, va_rf ((mu a).2.2.2)])) (by simp)
      rw [← ew9] at kpw11
      have hN2 : NI t gw8 (N, K, stmp mu s [a], I, R) := by
        rw [← stmp_one]
        refine hN.mut hv had (fun x e hx _ he => kpw11.2 x e (one_ne hx) he) (fun ra' ba' hc => ?_)
        have e := hac.eq hc
        simp only [Sum.inr.injEq, Prod.mk.injEq, List.cons.injEq, Value.ref.injEq, true_and, and_true] at e
        rw [← e.1, ← e.2]
        exact hw10
      have hkA : KN [] N g gw8 := ⟨kpw11.1, fun x e _ n2 he => kpw11.2 x e (one_ne (fun z => by rw [z, hv] at n2; cases n2)) he⟩
      have hbaA := kpw11.2 ba _ (one_ne (hba.ne hac (by simp))) hba
      refine j_iconst O (v := 1) dT_stampTree_19 (by decide) ?_
      refine j_istore_n O 3 [(3, .int 1), (0, .ref a), (1, .int s), (2, .int (nI (d + 1)))] dT_stampTree_20 rfl (by decide) rfl ?_
      refine j_aload_n O 0 dT_stampTree_21 rfl rfl ?_
      refine j_get O uwN hw10 rfl 2 (by decide) w136 rfl rfl dT_stampTree_22 ?_
      refine j_astore O [(4, .ref ba), (3, .int 1), (0, .ref a), (1, .int s), (2, .int (nI (d + 1)))] dT_stampTree_25 (by decide) rfl ?_
      refine j_aload O dT_stampTree_27 rfl ?_
      refine j_alen O hbaA 2 rfl dT_stampTree_29 ?_
      refine j_istore O [(5, .int (nI ((K a).length))), (4, .ref ba), (3, .int 1), (0, .ref a), (1, .int s), (2, .int (nI (d + 1)))] dT_stampTree_30 (by decide) rfl ?_
      refine j_iconst O (v := 0) dT_stampTree_32 (by decide) ?_
      refine j_istore O [(6, .int 0), (5, .int (nI ((K a).length))), (4, .ref ba), (3, .int 1), (0, .ref a), (1, .int s), (2, .int (nI (d + 1)))] dT_stampTree_33 (by decide) rfl ?_
      refine J.pk [4, 5, 6, 3, 2, 1, 0] rfl ?_
      cases h with
      | zero =>
        have hk0 : K a = [] := (h0 hvh).2.1
        have hkl0 : (K a).length = 0 := by rw [hk0]; rfl
        have hdl : dsc K 0 a = [a] := rfl
        refine j_iload O dT_stampTree_35 rfl ?_
        refine j_iload O dT_stampTree_37 rfl ?_
        refine j_icmp_ge O 67 dT_stampTree_39 (by decide) (fun c => ?_) (fun c => absurd (by rw [hkl0]; decide) c)
        refine j_iload_n O 3 dT_stampTree_67 rfl rfl ?_
        exact j_iret O M (Nat.le_of_ble_eq_true rfl) (Nat.le_of_ble_eq_true rfl) ⟨by rw [hdl, unst_1 c1]; rfl, hN2, hkA⟩ dT_stampTree_68
      | succ h =>
        have e1 : (1 : Int32) = nI (unst mu s (a :: ((K a).take 0).flatMap (dsc K h))) := by
          show _ = nI (unst mu s [a])
          rw [unst_1 c1]; rfl
        rw [e1]
        have hkv : ∀ b ∈ K a, ∃ u, N b = some u ∧ u.1 = h := fun b hb => by
          obtain ⟨i, hi, rfl⟩ := List.getElem_of_mem hb
          obtain ⟨q1, q2⟩ := h8 h hvh
          exact ⟨_, q2 i hi (by rw [← q1]; exact hi), rfl⟩
        have K0 := stampTree_loop (d := d) O M hv hvh ba fb hba hbaN hfb hkl hnd hkv hcl ⟨Nat.le_refl _, Nat.le_refl _⟩ (fun b u g1 mu1 hb hu hN1 hnd1 hcl1 => by rw [hlX]; exact IH b u h g1 mu1 hb hu (by omega) (by omega) hN1 hnd1 hcl1) (K a).length 0 gw8 (Nat.zero_add _) hN2 hkA
        exact K0
    · have hall := dsc_stamped (P := fun x => (mu x).2.2.1 = s) h a hcl c1
      refine j_iconst O (v := 0) dT_stampTree_12 (by decide) ?_
      exact j_iret O M (Nat.le_of_ble_eq_true rfl) (Nat.le_of_ble_eq_true rfl) ⟨by rw [unst_0 hall]; rfl, by rw [stmp_id hall]; exact hN, KN.rf⟩ dT_stampTree_13
