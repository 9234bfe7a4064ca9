/-- the rows of a tree but for the nodes with this stamp -/
def gth (N : NM) (K : Nat → List Nat) (mu : Nat → MU) (s : Int32) : Nat → Nat → List RV
  | 0, a => if (mu a).2.2.1 = s then [] else match N a with
    | some v => v.2
    | none => []
  | h + 1, a => if (mu a).2.2.1 = s then [] else (K a).flatMap (gth N K mu s h)
/-- a RowList at q with its array at b holds these rows -/
def rlI (t : Nat → ClassId) (g : GH) (I : Nat → Prop) (q b : Nat) (ds : List RV) : Prop := gAt g q (eRL b (nI ds.length)) ∧ ∃ f, gAt g b (eRs t 300 f) ∧ rowsI t g I f 0 ds
theorem isRow_of {t : Nat → ClassId} {g : GH} {I : Nat → Prop} {a : Nat} {r : RV} (h : rowI t g I a r) : isRow g a := h.at.isRow
/-- one row more, behind the walk of append -/
theorem rlI.push {t : Nat → ClassId} {g g' : GH} {I : Nat → Prop} {q b x : Nat} {f : Nat → Option Nat} {ds : List RV} {r : RV} (hf : rowsI t g I f 0 ds) (hx : rowI t g I x r) (hq : gAt g' q (eRL b (nI (ds.length + 1)))) (hb : gAt g' b (eRs t 300 (va_up f ds.length (some x)))) (hk : Kp [q, b] g g') (hIq : ¬ I q) (hIb : ¬ I b) : rlI t g' I q b (ds ++ [r]) := by
  have hIk : ∀ (y : Nat) (e : va_E), I y → gAt g y e → gAt g' y e := fun y e hy he => hk.2 y e (two_ne (fun z => hIq (z ▸ hy)) (fun z => hIb (z ▸ hy))) he
  refine ⟨by rw [List.length_append]; exact hq, _, hb, fun i hi => ?_⟩
  rw [List.length_append] at hi
  rcases Nat.lt_or_ge i ds.length with z | z
  · obtain ⟨y, h1, h2⟩ := hf i z
    refine ⟨y, ?_, ?_⟩
    · rw [va_up_ne _ _ (by omega)]; exact h1
    · rw [List.getElem_append_left z]; exact h2.keep (fun _ w => w) hIk
  · have e : i = ds.length := by simp at hi; omega
    subst e
    refine ⟨x, ?_, ?_⟩
    · rw [Nat.zero_add, va_up_self]
    · rw [List.getElem_append_right (Nat.le_refl _)]
      simp only [Nat.sub_self, List.getElem_cons_zero]
      exact hx.keep (fun _ w => w) hIk
set_option maxRecDepth 100000 in
set_option maxHeartbeats 1000000 in
theorem gather_rows {X : CX} {D : va_G} {t : Nat → ClassId} {A : Nat → Prop} {rm : Room} {g : GH} {k0 n0 : Nat} {N : NM} {K : Nat → List Nat} {mu : Nat → MU} {I : Nat → Prop} {R : (Nat → List Nat) × List Nat} {q b a d ra : Nat} {s : Int32} {fr : Nat → Option Nat} {rs ds : List RV} (O : Ok X bT_gather 8 "TwinTrees" (zz D t A) rm) (hra : gAt g ra (eRs t rs.length fr)) (hIra : I ra) (hr : rowsI t g I fr 0 rs) (hIq : ¬ I q) (hIb : ¬ I b) (hl : ds.length + rs.length ≤ 300) (hrm : 1 ≤ rm.frames ∧ 30 ≤ rm.locals ∧ k0 + 0 ≤ rm.cells ∧ n0 + 0 ≤ rm.slots) (HK : ∀ g1 : GH, rlI t g1 I q b (ds ++ rs) → Kp [q, b] g g1 → J X 8 (zz D t A) g1 k0 n0 53 [(0, .ref a), (1, .int s), (2, .ref q), (3, .int (nI d))] []) : ∀ (k i : Nat) (g1 : GH), i + k = rs.length → rlI t g1 I q b (ds ++ rs.take i) → Kp [q, b] g g1 → J X 8 (zz D t A) g1 k0 n0 27 [(0, .ref a), (1, .int s), (2, .ref q), (3, .int (nI d)), (4, .ref ra), (5, .int (nI rs.length)), (6, .int (nI i))] [] := by
  intro k
  induction k with
  | zero =>
    intro i g1 hi hq hk
    have hi : i = rs.length := by omega
    subst hi
    rw [List.take_length] at hq
    refine j_iload O dT_gather_27 rfl ?_
    refine j_iload O dT_gather_29 rfl ?_
    refine j_icmp_ge O 53 dT_gather_31 (by decide) (fun c => ?_) (fun c => absurd (nI_le (Nat.le_refl _) (by omega)) c)
    refine J.pk [0, 1, 2, 3] rfl ?_
    exact HK g1 hq hk
  | succ k ih =>
    intro i g1 hi hq hk
    have hi1 : i < rs.length := by omega
    obtain ⟨hq1, f, hb1, hrf⟩ := hq
    have hIk : ∀ (y : Nat) (e : va_E), I y → gAt g y e → gAt g1 y e := fun y e hy he => hk.2 y e (two_ne (fun z => hIq (z ▸ hy)) (fun z => hIb (z ▸ hy))) he
    have hra1 := hIk ra _ hIra hra
    obtain ⟨x, hfx, hx⟩ := hr.keep (fun _ z => z) hIk i hi1
    rw [Nat.zero_add] at hfx
    have hlen : (ds ++ rs.take i).length = ds.length + i := by rw [List.length_append, List.length_take]; omega
    refine j_iload O dT_gather_27 rfl ?_
    refine j_iload O dT_gather_29 rfl ?_
    refine j_icmp_ge O 53 dT_gather_31 (by decide) (fun c => absurd c (nI_ge hi1 (by omega))) (fun c => ?_)
    refine j_aload O dT_gather_34 rfl ?_
    refine j_iload O dT_gather_36 rfl ?_
    refine j_aald O hra1 1 rfl (by omega) (by omega) dT_gather_38 ?_
    refine j_some x hfx ?_
    refine j_astore O [(7, .ref x), (0, .ref a), (1, .int s), (2, .ref q), (3, .int (nI d)), (4, .ref ra), (5, .int (nI rs.length)), (6, .int (nI i))] dT_gather_39 (by decide) rfl ?_
    refine j_aload_n O 2 dT_gather_41 rfl rfl ?_
    refine j_aload O dT_gather_42 rfl ?_
    refine j_callV O [.ref x] (c_append X.2.1 D t A g1 q x b (ds ++ rs.take i).length f hq1 hb1 (isRow_of hx) (by rw [hlen]; omega)) hq1 rfl w260 w261 w262 w26 w263 1 rfl rfl rfl (by decide +kernel) ⟨(by show 0 + 1 ≤ _; omega), (by show 8 + (_ + 11) + 0 ≤ _; omega)⟩ rfl (Nat.le_of_ble_eq_true rfl) dT_gather_44 ⟨hrm.2.2.1, hrm.2.2.2⟩ (fun vw1 gw2 hpw3 => ?_)
    obtain ⟨rfl, hq2, hb2, kp2⟩ := hpw3
    refine j_iinc O (nI (i + 1)) [(6, .int (nI (i + 1))), (7, .ref x), (0, .ref a), (1, .int s), (2, .ref q), (3, .int (nI d)), (4, .ref ra), (5, .int (nI rs.length))] dT_gather_47 rfl (nI_1 _) (by decide) rfl ?_
    refine j_goto O 27 dT_gather_50 (by decide) ?_
    refine J.pk [2, 3, 4, 5, 6, 7, 0] rfl ?_
    have hp := rlI.push hrf hx hq2 hb2 kp2 hIq hIb
    rw [List.append_assoc, ← List.take_succ_eq_append_getElem hi1] at hp
    exact ih (i + 1) _ (by omega) hp (hk.tr kp2)
set_option maxRecDepth 100000 in
set_option maxHeartbeats 1000000 in
theorem gather_loop {X : CX} {D : va_G} {t : Nat → ClassId} {A : Nat → Prop} {rm : Room} {g : GH} {N : NM} {K : Nat → List Nat} {mu : Nat → MU} {I : Nat → Prop} {R : (Nat → List Nat) × List Nat} {q b a d ba h : Nat} {s : Int32} {fb : Nat → Option Nat} {ks : List Nat} {ds : List RV} (O : Ok X bT_gather 8 "TwinTrees" (zz D t A) rm) (M : Om X (zz D t A) none 0 0 (fun v g' => v = none ∧ rlI t g' I q b (ds ++ ks.flatMap (gth N K mu s h)) ∧ Kp [q, b] g g')) (hba : gAt g ba (eNs t ks.length fb)) (hIba : I ba) (hfb : ∀ i (hi : i < ks.length), fb i = some ks[i]) (hkl : ks.length ≤ 300) (hIq : ¬ I q) (hIb : ¬ I b) (hno : N q = none ∧ N b = none) (hl : ds.length + (ks.flatMap (gth N K mu s h)).length ≤ 300) (hrm : d + 2 ≤ rm.frames ∧ 30 * (d + 2) ≤ rm.locals) (IH : ∀ (c : Nat) (g1 : GH) (ds : List RV), c ∈ ks → NI t g1 (N, K, mu, I, R) → rlI t g1 I q b ds → ds.length + (gth N K mu s h c).length ≤ 300 → Ct X.2.1 yT_gather sT_gather { frames := d + 1, cells := 0, slots := 0, locals := 30 * (d + 1) } (zz D t A) [.ref c, .int s, .ref q, .int (nI d)] g1 0 0 (fun v g' => v = none ∧ rlI t g' I q b (ds ++ gth N K mu s h c) ∧ Kp [q, b] g1 g')) : ∀ (k i : Nat) (g1 : GH), i + k = ks.length → rlI t g1 I q b (ds ++ (ks.take i).flatMap (gth N K mu s h)) → NI t g1 (N, K, mu, I, R) → Kp [q, b] g g1 → J X 8 (zz D t A) g1 0 0 67 [(0, .ref a), (1, .int s), (2, .ref q), (3, .int (nI (d + 1))), (4, .ref ba), (5, .int (nI ks.length)), (6, .int (nI i))] [] := by
  intro k
  induction k with
  | zero =>
    intro i g1 hi hq hN hk
    have hi : i = ks.length := by omega
    subst hi
    rw [List.take_length] at hq
    refine j_iload O dT_gather_67 rfl ?_
    refine j_iload O dT_gather_69 rfl ?_
    refine j_icmp_ge O 97 dT_gather_71 (by decide) (fun c => ?_) (fun c => absurd (nI_le (Nat.le_refl _) (by omega)) c)
    exact j_vret O M (Nat.le_of_ble_eq_true rfl) (Nat.le_of_ble_eq_true rfl) ⟨rfl, hq, hk⟩ dT_gather_97
  | succ k ih =>
    intro i g1 hi hq hN hk
    have hi1 : i < ks.length := by omega
    have hba1 := hk.2 ba _ (two_ne (fun z => hIq (z ▸ hIba)) (fun z => hIb (z ▸ hIba))) hba
    have htk : ks.take (i + 1) = ks.take i ++ [ks[i]] := List.take_succ_eq_append_getElem hi1
    have hlt : ds.length + ((ks.take (i + 1)).flatMap (gth N K mu s h)).length ≤ 300 := by
      have e : ks.flatMap (gth N K mu s h) = (ks.take (i + 1)).flatMap (gth N K mu s h) ++ (ks.drop (i + 1)).flatMap (gth N K mu s h) := by rw [← List.flatMap_append, List.take_append_drop]
      rw [e, List.length_append] at hl
      omega
    have hcat : (ds ++ (ks.take i).flatMap (gth N K mu s h)) ++ gth N K mu s h ks[i] = ds ++ (ks.take (i + 1)).flatMap (gth N K mu s h) := by rw [htk, List.flatMap_append, List.flatMap_singleton, List.append_assoc]
    refine j_iload O dT_gather_67 rfl ?_
    refine j_iload O dT_gather_69 rfl ?_
    refine j_icmp_ge O 97 dT_gather_71 (by decide) (fun c => absurd c (nI_ge hi1 (by omega))) (fun c => ?_)
    refine j_aload O dT_gather_74 rfl ?_
    refine j_iload O dT_gather_76 rfl ?_
    refine j_aald O hba1 2 rfl (by omega) (by omega) dT_gather_78 ?_
    refine j_some (ks[i]) (hfb i hi1) ?_
    refine j_astore O [(7, .ref (ks[i])), (0, .ref a), (1, .int s), (2, .ref q), (3, .int (nI (d + 1))), (4, .ref ba), (5, .int (nI ks.length)), (6, .int (nI i))] dT_gather_79 (by decide) rfl ?_
    refine j_aload O dT_gather_81 rfl ?_
    refine j_iload_n O 1 dT_gather_83 rfl rfl ?_
    refine j_aload_n O 2 dT_gather_84 rfl rfl ?_
    refine j_iload_n O 3 dT_gather_85 rfl rfl ?_
    refine j_iconst O (v := 1) dT_gather_86 (by decide) ?_
    refine j_isub O dT_gather_87 ?_
    refine j_eqi (nI (d + 1 - 1)) (pk_sub (b := 1) (by omega)) ?_
    refine j_eqi (nI d) (by rw [Nat.add_sub_cancel]) ?_
    refine j_callS O [.ref (ks[i]), .int s, .ref q, .int (nI d)] (IH ks[i] g1 (ds ++ (ks.take i).flatMap (gth N K mu s h)) (List.getElem_mem _) hN hq (by rw [← List.length_append, hcat, List.length_append]; exact hlt)) w257 w258 w23 w259 4 rfl rfl rfl (by decide +kernel) ⟨(by show d + 1 + 1 ≤ _; omega), (by show 8 + (8 + 11) + 30 * (d + 1) ≤ _; omega)⟩ rfl (Nat.le_of_ble_eq_true rfl) dT_gather_88 ⟨(by show 0 + 0 ≤ _; omega), (by show 0 + 0 ≤ _; omega)⟩ (fun vw4 gw5 hpw6 => ?_)
    obtain ⟨rfl, hq2, hk2⟩ := hpw6
    refine j_iinc O (nI (i + 1)) [(6, .int (nI (i + 1))), (7, .ref (ks[i])), (0, .ref a), (1, .int s), (2, .ref q), (3, .int (nI (d + 1))), (4, .ref ba), (5, .int (nI ks.length))] dT_gather_91 rfl (nI_1 _) (by decide) rfl ?_
    refine j_goto O 67 dT_gather_94 (by decide) ?_
    refine J.pk [2, 3, 4, 5, 6, 7, 0] rfl ?_
    rw [hcat] at hq2
    have hN2 := hN.keep (fun x e hx he => hk2.2 x e (two_ne (fun z => by
      subst z
      rcases hx with hx | ⟨u, hu⟩
      · exact hIq hx
      · have hu : N x = some u := hu
        rw [hno.1] at hu; cases hu) (fun z => by
      subst z
      rcases hx with hx | ⟨u, hu⟩
      · exact hIb hx
      · have hu : N x = some u := hu
        rw [hno.2] at hu; cases hu)) he)
    exact ih (i + 1) _ (by omega) hq2 hN2 (hk.tr hk2)
set_option maxRecDepth 100000 in
set_option maxHeartbeats 1000000 in
theorem c_gather (l : Launch) (D : va_G) (t : Nat → ClassId) (A : Nat → Prop) (N : NM) (K : Nat → List Nat) (mu : Nat → MU) (I : Nat → Prop) (R : (Nat → List Nat) × List Nat) (s : Int32) (q b : Nat) (hIq : ¬ I q) (hIb : ¬ I b) : ∀ (d : Nat) (a : Nat) (v : NV) (h : Nat) (g : GH) (ds : List RV), N a = some v → v.1 = h → h ≤ d → d ≤ 5 → NI t g (N, K, mu, I, R) → rlI t g I q b ds → ds.length + (gth N K mu s h a).length ≤ 300 → Ct l yT_gather sT_gather { frames := d + 1, cells := 0, slots := 0, locals := 30 * (d + 1) } (zz D t A) [.ref a, .int s, .ref q, .int (nI d)] g 0 0 (fun v g' => v = none ∧ rlI t g' I q b (ds ++ gth N K mu s h a) ∧ Kp [q, b] g g') := by
  intro d
  induction d with
  | zero =>
    intro a v h g ds hv hvh hhd hd5 hN hrl hlen
    have hh0 : h = 0 := by omega
    subst hh0
    obtain ⟨hvo, hIa, ⟨ra, ba, nr, fr, fb, iA, iB, hac, hra, hba, -, h0, h0', hfb, h8⟩, had⟩ := hN a v hv
    dsimp only at hac hba h0 hfb h8 had hIa iA iB hra
    have hkl : (K a).length ≤ 300 := by
      cases hv1 : v.1 with
      | zero => rw [(h0 hv1).2.1]; exact Nat.zero_le _
      | succ h' =>
        rw [(h8 h' hv1).1]
        exact Nat.le_trans (runs_len_le _ _) hvo.2.1
    have hno : N q = none ∧ N b = none := ⟨hN.no hrl.1 (fun _ _ _ _ _ => by simp), by obtain ⟨f, hb, -⟩ := hrl.2; exact hN.no hb (fun _ _ _ _ _ => by simp)⟩
    have hv0 := hvh
    refine Ct.of (cc := bT_gather) (maxL := 8) (ret := none) (by decide) (Nat.le_of_ble_eq_true rfl) (fun X hlX O M hNn => ?_)
    show J X 8 (zz D t A) g 0 0 0 [(0, .ref a), (1, .int s), (2, .ref q), (3, .int (nI 0))] []
    refine j_iload_n O 3 dT_gather_0 rfl rfl ?_
    refine j_if_lt O 12 dT_gather_1 (by decide) (fun c => absurd c (nI_pos (by omega))) (fun c => ?_)
    refine j_aload_n O 0 dT_gather_4 rfl rfl ?_
    refine j_get O uwN hac rfl 10 (by decide) w153 rfl rfl dT_gather_5 ?_
    refine j_iload_n O 1 dT_gather_8 rfl rfl ?_
    refine j_icmp_ne O 13 dT_gather_9 (by decide) (fun c1 => ?_) (fun c1 => ?_)
    · obtain ⟨hnr, hk0, hrr⟩ := h0 hv0
      subst hnr
      have hg0 : gth N K mu s 0 a = v.2 := by rw [gth, if_neg c1, hv]
      rw [hg0] at hlen
      refine j_aload_n O 0 dT_gather_13 rfl rfl ?_
      refine j_get O uwN hac rfl 1 (by decide) w134 rfl rfl dT_gather_14 ?_
      refine j_astore O [(4, .ref ra), (0, .ref a), (1, .int s), (2, .ref q), (3, .int (nI 0))] dT_gather_17 (by decide) rfl ?_
      refine j_aload O dT_gather_19 rfl ?_
      refine j_alen O hra 1 rfl dT_gather_21 ?_
      refine j_istore O [(5, .int (nI v.2.length)), (4, .ref ra), (0, .ref a), (1, .int s), (2, .ref q), (3, .int (nI 0))] dT_gather_22 (by decide) rfl ?_
      refine j_iconst O (v := 0) dT_gather_24 (by decide) ?_
      refine j_istore O [(6, .int 0), (5, .int (nI v.2.length)), (4, .ref ra), (0, .ref a), (1, .int s), (2, .ref q), (3, .int (nI 0))] dT_gather_25 (by decide) rfl ?_
      refine J.pk [3, 4, 5, 6, 2, 1, 0] rfl ?_
      refine gather_rows (k0 := 0) (n0 := 0) (N := N) (K := K) (mu := mu) (R := R) O hra iA hrr hIq hIb hlen ⟨Nat.le_add_left _ _, by show 30 ≤ 30 * (0 + 1); omega, Nat.le_refl _, Nat.le_refl _⟩ (fun g1 hq1 hk1 => ?_) v.2.length 0 g (Nat.zero_add _) (by rw [List.take_zero, List.append_nil]; exact hrl) Kp.rf
      have hac1 := hk1.2 a _ (two_ne (fun z => by rw [z, hno.1] at hv; cases hv) (fun z => by rw [z, hno.2] at hv; cases hv)) hac
      have hba1 := hk1.2 ba _ (two_ne (fun z => hIq (z ▸ iB)) (fun z => hIb (z ▸ iB))) hba
      have hkl0 : (K a).length = 0 := by rw [hk0]; rfl
      refine j_aload_n O 0 dT_gather_53 rfl rfl ?_
      refine j_get O uwN hac1 rfl 2 (by decide) w136 rfl rfl dT_gather_54 ?_
      refine j_astore O [(4, .ref ba), (0, .ref a), (1, .int s), (2, .ref q), (3, .int (nI 0))] dT_gather_57 (by decide) rfl ?_
      refine j_aload O dT_gather_59 rfl ?_
      refine j_alen O hba1 2 rfl dT_gather_61 ?_
      refine j_istore O [(5, .int (nI ((K a).length))), (4, .ref ba), (0, .ref a), (1, .int s), (2, .ref q), (3, .int (nI 0))] dT_gather_62 (by decide) rfl ?_
      refine j_iconst O (v := 0) dT_gather_64 (by decide) ?_
      refine j_istore O [(6, .int 0), (5, .int (nI ((K a).length))), (4, .ref ba), (0, .ref a), (1, .int s), (2, .ref q), (3, .int (nI 0))] dT_gather_65 (by decide) rfl ?_
      refine j_iload O dT_gather_67 rfl ?_
      refine j_iload O dT_gather_69 rfl ?_
      refine j_icmp_ge O 97 dT_gather_71 (by decide) (fun c => ?_) (fun c => absurd (by rw [hkl0]; decide) c)
      exact j_vret O M (Nat.le_of_ble_eq_true rfl) (Nat.le_of_ble_eq_true rfl) ⟨rfl, by rw [hg0]; exact hq1, hk1⟩ dT_gather_97
    · exact j_vret O M (Nat.le_of_ble_eq_true rfl) (Nat.le_of_ble_eq_true rfl) ⟨rfl, by rw [gth, if_pos c1, List.append_nil]; exact hrl, Kp.rf⟩ dT_gather_12
  | succ d IH =>
    intro a v h g ds hv hvh hhd hd5 hN hrl hlen
    obtain ⟨hvo, hIa, ⟨ra, ba, nr, fr, fb, iA, iB, hac, hra, hba, -, h0, h0', hfb, h8⟩, had⟩ := hN a v hv
    dsimp only at hac hba h0 hfb h8 had hIa iA iB hra
    have hkl : (K a).length ≤ 300 := by
      cases hv1 : v.1 with
      | zero => rw [(h0 hv1).2.1]; exact Nat.zero_le _
      | succ h' =>
        rw [(h8 h' hv1).1]
        exact Nat.le_trans (runs_len_le _ _) hvo.2.1
    have hno : N q = none ∧ N b = none := ⟨hN.no hrl.1 (fun _ _ _ _ _ => by simp), by obtain ⟨f, hb, -⟩ := hrl.2; exact hN.no hb (fun _ _ _ _ _ => by simp)⟩
    refine Ct.of (cc := bT_gather) (maxL := 8) (ret := none) (by decide) (Nat.le_of_ble_eq_true rfl) (fun X hlX O M hNn => ?_)
    show J X 8 (zz D t A) g 0 0 0 [(0, .ref a), (1, .int s), (2, .ref q), (3, .int (nI (d + 1)))] []
    refine j_iload_n O 3 dT_gather_0 rfl rfl ?_
    refine j_if_lt O 12 dT_gather_1 (by decide) (fun c => absurd c (nI_pos (by omega))) (fun c => ?_)
    refine j_aload_n O 0 dT_gather_4 rfl rfl ?_
    refine j_get O uwN hac rfl 10 (by decide) w153 rfl rfl dT_gather_5 ?_
    refine j_iload_n O 1 dT_gather_8 rfl rfl ?_
    refine j_icmp_ne O 13 dT_gather_9 (by decide) (fun c1 => ?_) (fun c1 => ?_)
    · cases h with
      | zero =>
        have hv0 := hvh
        obtain ⟨hnr, hk0, hrr⟩ := h0 hv0
        subst hnr
        have hg0 : gth N K mu s 0 a = v.2 := by rw [gth, if_neg c1, hv]
        rw [hg0] at hlen
        refine j_aload_n O 0 dT_gather_13 rfl rfl ?_
        refine j_get O uwN hac rfl 1 (by decide) w134 rfl rfl dT_gather_14 ?_
        refine j_astore O [(4, .ref ra), (0, .ref a), (1, .int s), (2, .ref q), (3, .int (nI (d + 1)))] dT_gather_17 (by decide) rfl ?_
        refine j_aload O dT_gather_19 rfl ?_
        refine j_alen O hra 1 rfl dT_gather_21 ?_
        refine j_istore O [(5, .int (nI v.2.length)), (4, .ref ra), (0, .ref a), (1, .int s), (2, .ref q), (3, .int (nI (d + 1)))] dT_gather_22 (by decide) rfl ?_
        refine j_iconst O (v := 0) dT_gather_24 (by decide) ?_
        refine j_istore O [(6, .int 0), (5, .int (nI v.2.length)), (4, .ref ra), (0, .ref a), (1, .int s), (2, .ref q), (3, .int (nI (d + 1)))] dT_gather_25 (by decide) rfl ?_
        refine J.pk [3, 4, 5, 6, 2, 1, 0] rfl ?_
        refine gather_rows (k0 := 0) (n0 := 0) (N := N) (K := K) (mu := mu) (R := R) O hra iA hrr hIq hIb hlen ⟨Nat.le_add_left _ _, by show 30 ≤ 30 * (d + 1 + 1); omega, Nat.le_refl _, Nat.le_refl _⟩ (fun g1 hq1 hk1 => ?_) v.2.length 0 g (Nat.zero_add _) (by rw [List.take_zero, List.append_nil]; exact hrl) Kp.rf
        have hac1 := hk1.2 a _ (two_ne (fun z => by rw [z, hno.1] at hv; cases hv) (fun z => by rw [z, hno.2] at hv; cases hv)) hac
        have hba1 := hk1.2 ba _ (two_ne (fun z => hIq (z ▸ iB)) (fun z => hIb (z ▸ iB))) hba
        have hkl0 : (K a).length = 0 := by rw [hk0]; rfl
        refine j_aload_n O 0 dT_gather_53 rfl rfl ?_
        refine j_get O uwN hac1 rfl 2 (by decide) w136 rfl rfl dT_gather_54 ?_
        refine j_astore O [(4, .ref ba), (0, .ref a), (1, .int s), (2, .ref q), (3, .int (nI (d + 1)))] dT_gather_57 (by decide) rfl ?_
        refine j_aload O dT_gather_59 rfl ?_
        refine j_alen O hba1 2 rfl dT_gather_61 ?_
        refine j_istore O [(5, .int (nI ((K a).length))), (4, .ref ba), (0, .ref a), (1, .int s), (2, .ref q), (3, .int (nI (d + 1)))] dT_gather_62 (by decide) rfl ?_
        refine j_iconst O (v := 0) dT_gather_64 (by decide) ?_
        refine j_istore O [(6, .int 0), (5, .int (nI ((K a).length))), (4, .ref ba), (0, .ref a), (1, .int s), (2, .ref q), (3, .int (nI (d + 1)))] dT_gather_65 (by decide) rfl ?_
        refine j_iload O dT_gather_67 rfl ?_
        refine j_iload O dT_gather_69 rfl ?_
        refine j_icmp_ge O 97 dT_gather_71 (by decide) (fun c => ?_) (fun c => absurd (by rw [hkl0]; decide) c)
        exact j_vret O M (Nat.le_of_ble_eq_true rfl) (Nat.le_of_ble_eq_true rfl) ⟨rfl, by rw [hg0]; exact hq1, hk1⟩ dT_gather_97
      | succ h =>
        have hnr := h0' (by omega)
        subst hnr
        have hg1 : gth N K mu s (h + 1) a = (K a).flatMap (gth N K mu s h) := by rw [gth, if_neg c1]
        rw [hg1] at M hlen
        refine j_aload_n O 0 dT_gather_13 rfl rfl ?_
        refine j_get O uwN hac rfl 1 (by decide) w134 rfl rfl dT_gather_14 ?_
        refine j_astore O [(4, .ref ra), (0, .ref a), (1, .int s), (2, .ref q), (3, .int (nI (d + 1)))] dT_gather_17 (by decide) rfl ?_
        refine j_aload O dT_gather_19 rfl ?_
        refine j_alen O hra 1 rfl dT_gather_21 ?_
        refine j_istore O [(5, .int (nI 0)), (4, .ref ra), (0, .ref a), (1, .int s), (2, .ref q), (3, .int (nI (d + 1)))] dT_gather_22 (by decide) rfl ?_
        refine j_iconst O (v := 0) dT_gather_24 (by decide) ?_
        refine j_istore O [(6, .int 0), (5, .int (nI 0)), (4, .ref ra), (0, .ref a), (1, .int s), (2, .ref q), (3, .int (nI (d + 1)))] dT_gather_25 (by decide) rfl ?_
        refine j_iload O dT_gather_27 rfl ?_
        refine j_iload O dT_gather_29 rfl ?_
        refine j_icmp_ge O 53 dT_gather_31 (by decide) (fun c => ?_) (fun c => absurd (by decide) c)
        refine j_aload_n O 0 dT_gather_53 rfl rfl ?_
        refine j_get O uwN hac rfl 2 (by decide) w136 rfl rfl dT_gather_54 ?_
        refine j_astore O [(4, .ref ba), (6, .int 0), (5, .int (nI 0)), (0, .ref a), (1, .int s), (2, .ref q), (3, .int (nI (d + 1)))] dT_gather_57 (by decide) rfl ?_
        refine j_aload O dT_gather_59 rfl ?_
        refine j_alen O hba 2 rfl dT_gather_61 ?_
        refine j_istore O [(5, .int (nI ((K a).length))), (4, .ref ba), (6, .int 0), (0, .ref a), (1, .int s), (2, .ref q), (3, .int (nI (d + 1)))] dT_gather_62 (by decide) rfl ?_
        refine j_iconst O (v := 0) dT_gather_64 (by decide) ?_
        refine j_istore O [(6, .int 0), (5, .int (nI ((K a).length))), (4, .ref ba), (0, .ref a), (1, .int s), (2, .ref q), (3, .int (nI (d + 1)))] dT_gather_65 (by decide) rfl ?_
        refine J.pk [3, 4, 5, 6, 2, 1, 0] rfl ?_
        exact gather_loop (d := d) O M hba iB hfb hkl hIq hIb hno hlen ⟨Nat.le_refl _, Nat.le_refl _⟩ (fun c g1 ds1 hc hN1 hrl1 hl1 => by
          obtain ⟨i, hi, rfl⟩ := List.getElem_of_mem hc
          obtain ⟨q1, q2⟩ := h8 h hvh
          rw [hlX]
          exact IH _ _ h g1 ds1 (q2 i hi (by rw [← q1]; exact hi)) rfl (by omega) (by omega) hN1 hrl1 hl1) (K a).length 0 g (Nat.zero_add _) (by rw [List.take_zero, List.flatMap_nil, List.append_nil]; exact hrl) hN Kp.rf
    · exact j_vret O M (Nat.le_of_ble_eq_true rfl) (Nat.le_of_ble_eq_true rfl) ⟨rfl, by cases h <;> (rw [gth, if_pos c1, List.append_nil]; exact hrl), Kp.rf⟩ dT_gather_12
