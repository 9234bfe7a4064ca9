/-- the store's world while nodes move: what the field of the pending ones holds is told apart, and nothing is said of what is below -/
def SWy (t : Nat → ClassId) (g : GH) (w : GD) (sA bA : Nat) (pf : Option Nat) (nn ss : Int32) : Prop := NI t g w ∧ gAt g sA (eSt bA pf nn ss) ∧ BKT t g bA w ∧ CHN w ∧ PND w ∧ UQ w ∧ ¬ w.2.2.2.1 sA ∧ ¬ w.2.2.2.1 bA ∧ ∀ x, w.2.2.2.1 x → x ∈ g.1
theorem SW.y {t : Nat → ClassId} {g : GH} {w : GD} {sA bA : Nat} {nn ss : Int32} (h : SW t g w sA bA nn ss) : SWy t g w sA bA w.2.2.2.2.2.head? nn ss := ⟨h.1, h.2.1, h.2.2.1, h.2.2.2.1, h.2.2.2.2.1, h.2.2.2.2.2.1, h.2.2.2.2.2.2.2.1, h.2.2.2.2.2.2.2.2.1, h.2.2.2.2.2.2.2.2.2⟩
def KN (M : List Nat) (N : NM) (g g' : GH) : Prop := (∀ b ∈ g.1, b ∈ g'.1) ∧ ∀ (x : Nat) (e : va_E), x ∉ M → N x = none → gAt g x e → gAt g' x e
theorem KN.rf {M : List Nat} {N : NM} {g : GH} : KN M N g g := ⟨fun _ h => h, fun _ _ _ _ h => h⟩
theorem KN.tr {M : List Nat} {N : NM} {g g1 g2 : GH} (h1 : KN M N g g1) (h2 : KN M N g1 g2) : KN M N g g2 := ⟨fun b h => h2.1 b (h1.1 b h), fun b e n m h => h2.2 b e n m (h1.2 b e n m h)⟩
/-- only the pointer to the next one differs -/
def muN (m m' : MU) : Prop := m'.1 = m.1 ∧ m'.2.1 = m.2.1 ∧ m'.2.2.1 = m.2.2.1
def setNx (m : MU) (o : Option Nat) : MU := (m.1, m.2.1, m.2.2.1, o)
/-- all stored nodes -/
def rgK : List Nat := List.range 1024
theorem rgK_mem {i : Nat} : i ∈ rgK ↔ i < 1024 := List.mem_range
theorem rgK_nd : rgK.Nodup := List.nodup_range
def stL (ch : Nat → List Nat) : List Nat := rgK.flatMap ch
theorem stL_in {ch : Nat → List Nat} {a : Nat} : a ∈ stL ch ↔ inS ch a := by
  unfold stL inS
  rw [List.mem_flatMap]
  constructor
  · rintro ⟨i, h1, h2⟩
    exact ⟨i, rgK_mem.mp h1, h2⟩
  · rintro ⟨i, h1, h2⟩
    exact ⟨i, rgK_mem.mpr h1, h2⟩
theorem flatMap_push {ch : Nat → List Nat} {b : Nat} {c : List Nat} : ∀ R : List Nat, R.Nodup → b ∈ R → (R.flatMap (va_up ch b (c ++ ch b))).Perm (c ++ R.flatMap ch)
  | [], _, h => by cases h
  | x :: R, hn, h => by
    rw [List.nodup_cons] at hn
    rw [List.flatMap_cons, List.flatMap_cons]
    by_cases hx : x = b
    · subst hx
      have e : R.flatMap (va_up ch x (c ++ ch x)) = R.flatMap ch := by
        rw [List.flatMap_def, List.flatMap_def]
        congr 1
        apply List.map_congr_left
        intro y hy
        exact va_up_ne _ _ (fun z => hn.1 (z ▸ hy))
      rw [va_up_self, e, List.append_assoc]
    · have hm : b ∈ R := by
        rcases List.mem_cons.mp h with z | z
        · exact absurd z.symm hx
        · exact z
      rw [va_up_ne _ _ hx]
      refine (List.Perm.append_left (ch x) (flatMap_push R hn.2 hm)).trans ?_
      rw [← List.append_assoc, ← List.append_assoc]
      exact List.Perm.append_right _ List.perm_append_comm
theorem stL_push {ch : Nat → List Nat} {b a : Nat} (hb : b < 1024) : (stL (va_up ch b (a :: ch b))).Perm (a :: stL ch) := by
  have h := flatMap_push (ch := ch) (b := b) (c := [a]) rgK rgK_nd (rgK_mem.mpr hb)
  rw [List.singleton_append, List.singleton_append] at h
  exact h
theorem stL_cut {ch : Nat → List Nat} {b : Nat} (hb : b < 1024) : (stL ch).Perm (ch b ++ stL (va_up ch b [])) := by
  have h := flatMap_push (ch := va_up ch b []) (b := b) (c := ch b) rgK rgK_nd (rgK_mem.mpr hb)
  have e : va_up (va_up ch b []) b (ch b ++ va_up ch b [] b) = ch := by
    funext j
    by_cases hj : j = b
    · subst hj; rw [va_up_self, va_up_self, List.append_nil]
    · rw [va_up_ne _ _ hj, va_up_ne _ _ hj]
  rw [e] at h
  exact h
def szV (N : NM) (a : Nat) : Nat := match N a with
  | some v => nsz v.1 v.2
  | none => 0
def szS (N : NM) (L : List Nat) : Nat := (L.map (szV N)).sum
theorem szS_cons (N : NM) (a : Nat) (L : List Nat) : szS N (a :: L) = szV N a + szS N L := by simp [szS]
theorem szS_perm {N : NM} {L L' : List Nat} (h : L.Perm L') : szS N L = szS N L' := by
  induction h with
  | nil => rfl
  | cons x _ ih => rw [szS_cons, szS_cons, ih]
  | swap x y l => rw [szS_cons, szS_cons, szS_cons, szS_cons]; omega
  | trans _ _ ih1 ih2 => exact ih1.trans ih2
theorem szS_app (N : NM) (L L' : List Nat) : szS N (L ++ L') = szS N L + szS N L' := by simp [szS]
theorem SWy.link {t : Nat → ClassId} {g g' : GH} {N : NM} {K : Nat → List Nat} {mu : Nat → MU} {I : Nat → Prop} {ch : Nat → List Nat} {L : List Nat} {sA bA a : Nat} {pf : Option Nat} {nn ss : Int32} {v : NV} {fB : Nat → Option Nat} (h : SWy t g (N, K, mu, I, ch, a :: L) sA bA pf nn ss) (hv : N a = some v) (hb : gAt g bA (eNs t 1024 fB)) (hs' : gAt g' sA (eSt bA pf nn ss)) (hb' : gAt g' bA (eNs t 1024 (va_up fB (bkt (nprt v.1 v.2)) (some a)))) (ha' : ∀ ra ba, gAt g a (nCell v.1 v.2 ra ba (mu a)) → gAt g' a (nCell v.1 v.2 ra ba (setNx (mu a) (fB (bkt (nprt v.1 v.2)))))) (hk : Kp [a, bA] g g') :
    SWy t g' (N, K, va_up mu a (setNx (mu a) (ch (bkt (nprt v.1 v.2))).head?), I, va_up ch (bkt (nprt v.1 v.2)) (a :: ch (bkt (nprt v.1 v.2))), L) sA bA pf nn ss := by
  have hbl := bkt_lt (nprt v.1 v.2)
  generalize hbe : bkt (nprt v.1 v.2) = b at *
  obtain ⟨h1, h2, h3, h4, h5, h6, h8, h9, h10⟩ := h
  obtain ⟨fB2, hb2, hf⟩ := h3
  have hfe : fB2 = fB := by
    have := hb2.eq hb
    simpa using this
  subst hfe
  have hfb : fB2 b = (ch b).head? := hf b hbl
  rw [hfb] at ha'
  have hNI := NI.mut (m := setNx (mu a) (ch b).head?) h1 hv (by
    have := (h1 a v hv).2.2.2
    exact this) (g' := g') (fun x e hx hor he => hk.2 x e (two_ne hx (fun z => by
      subst z
      rcases hor with hI | ⟨u, hu⟩
      · exact h9 hI
      · obtain ⟨ra, ba, hc⟩ := h1.cell hu
        exact absurd (hb.eq hc) (by simp))) he) ha'
  have hPa := h5.2.2 a List.mem_cons_self
  have hnd := List.nodup_cons.mp h5.2.1
  have hnx : ∀ x, x ≠ a → nxOf (va_up mu a (setNx (mu a) (ch b).head?)) x = nxOf mu x := by
    intro x hx
    unfold nxOf
    rw [va_up_ne _ _ hx]
  have hna : nxOf (va_up mu a (setNx (mu a) (ch b).head?)) a = (ch b).head? := by
    unfold nxOf
    rw [va_up_self]
    rfl
  have hin : ∀ x, inS (va_up ch b (a :: ch b)) x ↔ inS ch x ∨ x = a := by
    intro x
    constructor
    · rintro ⟨i, hi, hm⟩
      by_cases hib : i = b
      · subst hib
        rw [va_up_self] at hm
        rcases List.mem_cons.mp hm with z | z
        · exact Or.inr z
        · exact Or.inl ⟨i, hi, z⟩
      · rw [va_up_ne _ _ hib] at hm
        exact Or.inl ⟨i, hi, hm⟩
    · rintro (⟨i, hi, hm⟩ | z)
      · by_cases hib : i = b
        · subst hib
          exact ⟨i, hi, by rw [va_up_self]; exact List.mem_cons_of_mem _ hm⟩
        · exact ⟨i, hi, by rw [va_up_ne _ _ hib]; exact hm⟩
      · exact ⟨b, hbl, by rw [va_up_self, z]; exact List.mem_cons_self⟩
  refine ⟨hNI, hs', ⟨_, hb', fun i hi => ?_⟩, fun i hi => ?_, ⟨?_, hnd.2, fun x hx => ?_⟩, ?_, h8, h9, fun x hx => hk.1 x (h10 x hx)⟩
  · show va_up fB2 b (some a) i = (va_up ch b (a :: ch b) i).head?
    by_cases hib : i = b
    · subst hib; rw [va_up_self, va_up_self]; rfl
    · rw [va_up_ne _ _ hib, va_up_ne _ _ hib]; exact hf i hi
  · show lnk (nxOf (va_up mu a (setNx (mu a) (ch b).head?))) (va_up ch b (a :: ch b) i) ∧ (va_up ch b (a :: ch b) i).Nodup ∧ ∀ x ∈ va_up ch b (a :: ch b) i, ∃ v, N x = some v ∧ bkt (nprt v.1 v.2) = i
    obtain ⟨a1, a2, a3⟩ := h4 i hi
    have hani : a ∉ ch i := fun z => hPa.2 ⟨i, hi, z⟩
    have hcg : lnk (nxOf (va_up mu a (setNx (mu a) (ch b).head?))) (ch i) := a1.congr (fun x hx => hnx x (fun z => hani (z ▸ hx)))
    by_cases hib : i = b
    · subst hib
      rw [va_up_self]
      refine ⟨⟨hna, hcg⟩, List.nodup_cons.mpr ⟨hani, a2⟩, fun x hx => ?_⟩
      rcases List.mem_cons.mp hx with z | z
      · subst z; exact ⟨v, hv, hbe⟩
      · exact a3 x z
    · rw [va_up_ne _ _ hib]
      exact ⟨hcg, a2, a3⟩
  · exact h5.1.2.congr (fun x hx => hnx x (fun z => hnd.1 (z ▸ hx)))
  · have := h5.2.2 x (List.mem_cons_of_mem _ hx)
    refine ⟨this.1, fun z => ?_⟩
    rcases (hin x).mp z with y | y
    · exact this.2 y
    · exact hnd.1 (y ▸ hx)
  · intro x y u hx hy hxu hyu
    have conv : ∀ z, (inS (va_up ch b (a :: ch b)) z ∨ z ∈ L) → (inS ch z ∨ z ∈ a :: L) := by
      intro z hz
      rcases hz with hz | hz
      · rcases (hin z).mp hz with q | q
        · exact Or.inl q
        · exact Or.inr (by rw [q]; exact List.mem_cons_self)
      · exact Or.inr (List.mem_cons_of_mem _ hz)
    exact h6 x y u (conv x hx) (conv y hy) hxu hyu
set_option maxRecDepth 100000 in
set_option maxHeartbeats 1000000 in
theorem keep_count {X : CX} {D : va_G} {t : Nat → ClassId} {A : Nat → Prop} {rm : Room} {g : GH} {k0 n0 : Nat} {sA : Nat} {w : GD} {C S : Nat} (O : Ok X bS_keepPending 5 "TwinTrees$Store" (zz D t A) rm) (hI : NI t g w) (HK : J X 5 (zz D t A) g k0 n0 31 [(0, .ref sA), (1, .int (nI C)), (2, .int (nI S))] []) : ∀ (L : List Nat) (c s : Nat), (∀ a ∈ L, ∃ v, w.1 a = some v) → lnk (nxOf w.2.2.1) L → c + L.length = C → s + szS w.1 L = S → J X 5 (zz D t A) g k0 n0 9 [(0, .ref sA), (1, .int (nI c)), (2, .int (nI s)), (3, va_rf (L.head?))] [] := by
  intro L
  induction L with
  | nil =>
    intro c s _ _ hc hs
    have hc : c = C := by simpa using hc
    have hs : s = S := by simpa [szS] using hs
    subst hc; subst hs
    refine j_aload_nN O 3 dS_keepPending_9 rfl rfl ?_
    refine j_ifnull (o := none) O 31 dS_keepPending_10 (by decide) (fun c1 => ?_) (fun yw1 c1 => ?_)
    · refine J.pk [0, 1, 2] rfl ?_
      exact HK
    · cases c1
  | cons a L ih =>
    intro c s hL hl hc hs
    obtain ⟨v, hv⟩ := hL a List.mem_cons_self
    obtain ⟨ra, ba, hac⟩ := hI.cell hv
    have hl1 : (w.2.2.1 a).2.2.2 = L.head? := hl.1
    have hsz : szV w.1 a = nsz v.1 v.2 := by unfold szV; rw [hv]
    rw [szS_cons, hsz] at hs
    refine j_aload_n O 3 dS_keepPending_9 rfl rfl ?_
    refine j_ifnull (o := (some a)) O 31 dS_keepPending_10 (by decide) (fun c1 => ?_) (fun yw2 c1 => ?_)
    · cases c1
    · refine j_iinc O (nI (c + 1)) [(1, .int (nI (c + 1))), (0, .ref sA), (2, .int (nI s)), (3, .ref a)] dS_keepPending_13 rfl (nI_1 _) (by decide) rfl ?_
      refine j_iload_n O 2 dS_keepPending_16 rfl rfl ?_
      refine j_aload_n O 3 dS_keepPending_17 rfl rfl ?_
      refine j_get O uwN hac rfl 4 (by decide) w140 rfl rfl dS_keepPending_18 ?_
      refine j_iadd O dS_keepPending_21 ?_
      refine j_eqi (nI (s + (nsz v.1 v.2))) (nI_add _ _) ?_
      refine j_istore_n O 2 [(2, .int (nI (s + (nsz v.1 v.2)))), (1, .int (nI (c + 1))), (0, .ref sA), (3, .ref a)] dS_keepPending_22 rfl (by decide) rfl ?_
      refine j_aload_n O 3 dS_keepPending_23 rfl rfl ?_
      refine j_get O uwN hac rfl 11 (by decide) w155 rfl rfl dS_keepPending_24 ?_
      refine j_astore_nO (o := ((w.2.2.1 a).2.2.2)) O 3 [(3, va_rf ((w.2.2.1 a).2.2.2)), (2, .int (nI (s + (nsz v.1 v.2)))), (1, .int (nI (c + 1))), (0, .ref sA)] dS_keepPending_27 rfl (by decide) rfl ?_
      refine j_goto O 9 dS_keepPending_28 (by decide) ?_
      refine J.pk [3, 2, 1, 0] rfl ?_
      rw [hl1]
      exact ih (c + 1) (s + nsz v.1 v.2) (fun x hx => hL x (List.mem_cons_of_mem _ hx)) hl.2 (by simp at hc; omega) (by omega)
set_option maxRecDepth 100000 in
set_option maxHeartbeats 1000000 in
theorem keep_link {X : CX} {D : va_G} {t : Nat → ClassId} {A : Nat → Prop} {rm : Room} {g : GH} {k0 n0 : Nat} {sA bA c s : Nat} {nn ss : Int32} {N : NM} {K : Nat → List Nat} {mu0 : Nat → MU} {I : Nat → Prop} {ch0 : Nat → List Nat} {L0 : List Nat} (O : Ok X bS_keepPending 5 "TwinTrees$Store" (zz D t A) rm) (hrm : 2 ≤ rm.frames ∧ 60 ≤ rm.locals ∧ k0 + 0 ≤ rm.cells ∧ n0 + 0 ≤ rm.slots) (HK : ∀ (g1 : GH) (mu : Nat → MU) (ch : Nat → List Nat), SWy t g1 (N, K, mu, I, ch, []) sA bA none nn ss → (∀ x, muN (mu0 x) (mu x)) → (stL ch).Perm (stL ch0 ++ L0) → KN [sA, bA] N g g1 → J X 5 (zz D t A) g1 k0 n0 76 [(0, .ref sA), (1, .int (nI c)), (2, .int (nI s))] []) : ∀ (L : List Nat) (g1 : GH) (mu : Nat → MU) (ch : Nat → List Nat), SWy t g1 (N, K, mu, I, ch, L) sA bA none nn ss → (∀ x, muN (mu0 x) (mu x)) → (stL ch ++ L).Perm (stL ch0 ++ L0) → KN [sA, bA] N g g1 → J X 5 (zz D t A) g1 k0 n0 55 [(0, .ref sA), (1, .int (nI c)), (2, .int (nI s)), (3, va_rf (L.head?))] [] := by
  intro L
  induction L with
  | nil =>
    intro g1 mu ch hS hm hp hk
    rw [List.append_nil] at hp
    refine j_aload_nN O 3 dS_keepPending_55 rfl rfl ?_
    refine j_ifnull (o := none) O 76 dS_keepPending_56 (by decide) (fun c1 => ?_) (fun yw3 c1 => ?_)
    · refine J.pk [0, 1, 2] rfl ?_
      exact HK g1 mu ch hS hm hp hk
    · cases c1
  | cons a L ih =>
    intro g1 mu ch hS hm hp hk
    obtain ⟨v, hv⟩ := (hS.2.2.2.2.1.2.2 a List.mem_cons_self).1
    have hv : N a = some v := hv
    obtain ⟨ra, ba, hac⟩ := hS.1.cell hv
    have hl1 : (mu a).2.2.2 = L.head? := hS.2.2.2.2.1.1.1
    obtain ⟨fB, hb, hf⟩ := hS.2.2.1
    have hs0 := hS.2.1
    refine j_aload_n O 3 dS_keepPending_55 rfl rfl ?_
    refine j_ifnull (o := (some a)) O 76 dS_keepPending_56 (by decide) (fun c1 => ?_) (fun yw4 c1 => ?_)
    · cases c1
    · refine j_aload_n O 3 dS_keepPending_59 rfl rfl ?_
      refine j_get O uwN hac rfl 11 (by decide) w155 rfl rfl dS_keepPending_60 ?_
      refine j_astoreO (o := ((mu a).2.2.2)) O [(4, va_rf ((mu a).2.2.2)), (0, .ref sA), (1, .int (nI c)), (2, .int (nI s)), (3, .ref a)] dS_keepPending_63 (by decide) rfl ?_
      refine j_aload_n O 0 dS_keepPending_65 rfl rfl ?_
      refine j_aload_n O 3 dS_keepPending_66 rfl rfl ?_
      refine j_callV O [.ref a] (c_link X.2.1 D t A g1 sA bA a ra ba none _ fB nn ss _ _ _ _ _ _ _ _ _ hs0 hb hac) hs0 rfl w189 w190 w1 w24 w191 1 rfl rfl rfl (by decide +kernel) ⟨(by show 1 + 1 ≤ _; omega), (by show 8 + (_ + 11) + 30 ≤ _; omega)⟩ rfl (Nat.le_of_ble_eq_true rfl) dS_keepPending_67 ⟨hrm.2.2.1, hrm.2.2.2⟩ (fun vw5 gw6 hpw7 => ?_)
      obtain ⟨rfl, hs1, hb1, ha1, kp1⟩ := hpw7
      refine j_aloadO O dS_keepPending_70 rfl ?_
      refine j_astore_nO (o := ((mu a).2.2.2)) O 3 [(3, va_rf ((mu a).2.2.2)), (4, va_rf ((mu a).2.2.2)), (0, .ref sA), (1, .int (nI c)), (2, .int (nI s))] dS_keepPending_72 rfl (by decide) rfl ?_
      refine j_goto O 55 dS_keepPending_73 (by decide) ?_
      refine J.pk [2, 3, 4, 0] rfl ?_
      rw [hl1]
      have hS2 := SWy.link hS hv hb hs1 hb1 (fun ra' ba' hc => by
        have e := hac.eq hc
        simp only [Sum.inr.injEq, Prod.mk.injEq, List.cons.injEq, Value.ref.injEq, true_and, and_true] at e
        rw [← e.1, ← e.2]
        exact ha1) kp1
      refine ih _ _ _ hS2 (fun x => ?_) ?_ (hk.tr ⟨kp1.1, fun x e n1 n2 he => kp1.2 x e (two_ne (fun z => by rw [z, hv] at n2; cases n2) (fun z => n1 (by rw [z]; simp))) he⟩)
      · by_cases hx : x = a
        · subst hx
          rw [va_up_self]
          exact hm x
        · rw [va_up_ne _ _ hx]
          exact hm x
      · refine List.Perm.trans ?_ hp
        refine (List.Perm.append_right L (stL_push (bkt_lt _))).trans ?_
        exact List.perm_middle.symm
theorem SWy.sw {t : Nat → ClassId} {g : GH} {N : NM} {K : Nat → List Nat} {mu : Nat → MU} {I : Nat → Prop} {ch : Nat → List Nat} {sA bA : Nat} {nn ss : Int32} (h : SWy t g (N, K, mu, I, ch, []) sA bA none nn ss) (hc : ∀ a, inS ch a → ∀ b ∈ K a, inS ch b) : SW t g (N, K, mu, I, ch, []) sA bA nn ss :=
  ⟨h.1, h.2.1, h.2.2.1, h.2.2.2.1, h.2.2.2.2.1, h.2.2.2.2.2.1, ⟨hc, fun a ha => absurd ha List.not_mem_nil⟩, h.2.2.2.2.2.2.1, h.2.2.2.2.2.2.2.1, h.2.2.2.2.2.2.2.2⟩
set_option maxRecDepth 100000 in
set_option maxHeartbeats 1000000 in
theorem c_keepPending (l : Launch) (D : va_G) (t : Nat → ClassId) (A : Nat → Prop) (g : GH) (sA bA n0 s0 : Nat) (w : GD) (hS : SW t g w sA bA (nI n0) (nI s0)) (hb1 : s0 + szS w.1 w.2.2.2.2.2 < 2 ^ 30) : Ct l yS_keepPending sS_keepPending { frames := 2, cells := 0, slots := 0, locals := 60 } (zz D t A) [.ref sA] g 0 0 (fun v g' => (60000 < s0 + szS w.1 w.2.2.2.2.2 ∧ v = some (.int (-3)) ∧ SW t g' (w.1, w.2.1, w.2.2.1, w.2.2.2.1, w.2.2.2.2.1, []) sA bA (nI n0) (nI s0) ∧ KN [sA, bA] w.1 g g') ∨ (s0 + szS w.1 w.2.2.2.2.2 ≤ 60000 ∧ v = some (.int (nI w.2.2.2.2.2.length)) ∧ ∃ (mu : Nat → MU) (ch : Nat → List Nat), SW t g' (w.1, w.2.1, mu, w.2.2.2.1, ch, []) sA bA (nI (n0 + w.2.2.2.2.2.length)) (nI (s0 + szS w.1 w.2.2.2.2.2)) ∧ (∀ x, muN (w.2.2.1 x) (mu x)) ∧ (stL ch).Perm (stL w.2.2.2.2.1 ++ w.2.2.2.2.2) ∧ KN [sA, bA] w.1 g g')) := by
  refine Ct.of (cc := bS_keepPending) (maxL := 5) (ret := (some .int)) (by decide) (Nat.le_of_ble_eq_true rfl) (fun X hl O M hN => ?_)
  show J X 5 (zz D t A) g 0 0 0 [(0, .ref sA)] []
  have hs0 := hS.2.1
  obtain ⟨N, K, mu, I, ch, pd⟩ := w
  dsimp only at *
  refine j_iconst O (v := 0) dS_keepPending_0 (by decide) ?_
  refine j_istore_n O 1 [(1, .int 0), (0, .ref sA)] dS_keepPending_1 rfl (by decide) rfl ?_
  refine j_iconst O (v := 0) dS_keepPending_2 (by decide) ?_
  refine j_istore_n O 2 [(2, .int 0), (1, .int 0), (0, .ref sA)] dS_keepPending_3 rfl (by decide) rfl ?_
  refine j_aload_n O 0 dS_keepPending_4 rfl rfl ?_
  refine j_get O uwS hs0 rfl 1 (by decide) w49 rfl rfl dS_keepPending_5 ?_
  refine j_astore_nO (o := (pd.head?)) O 3 [(3, va_rf (pd.head?)), (2, .int 0), (1, .int 0), (0, .ref sA)] dS_keepPending_8 rfl (by decide) rfl ?_
  refine J.pk [3, 2, 1, 0] rfl ?_
  refine keep_count (k0 := 0) (n0 := 0) (C := pd.length) (S := szS N pd) O hS.1 ?_ pd 0 0 (fun a ha => (hS.2.2.2.2.1.2.2 a ha).1) hS.2.2.2.2.1.1 (Nat.zero_add _) (Nat.zero_add _)
  have kp0 : Kp [sA] g g := Kp.rf
  refine j_aload_n O 0 dS_keepPending_31 rfl rfl ?_
  refine j_get O uwS hs0 rfl 1 (by decide) w49 rfl rfl dS_keepPending_32 ?_
  refine j_astore_nO (o := (pd.head?)) O 3 [(3, va_rf (pd.head?)), (0, .ref sA), (1, .int (nI pd.length)), (2, .int (nI (szS N pd)))] dS_keepPending_35 rfl (by decide) rfl ?_
  refine j_aload_n O 0 dS_keepPending_36 rfl rfl ?_
  refine j_null O dS_keepPending_37 ?_
  refine j_put O uwS hs0 rfl 1 (by decide) w49 rfl tS ftS fnS rfl (.object "TwinTrees$Node") (by decide +kernel) rfl rfl (Nat.le_of_ble_eq_true rfl) [.ref bA, .null, .int (nI n0), .int (nI s0)] rfl dS_keepPending_38 (fun gw8 ew9 => ?_)
  have hw10 := gUp_self (e' := .inr (5, [.ref bA, .null, .int (nI n0), .int (nI s0)])) hs0
  rw [← ew9] at hw10
  have kpw11 := kp0.up (a := sA) (e := .inr (5, [.ref bA, .null, .int (nI n0), .int (nI s0)])) (by simp)
  rw [← ew9] at kpw11
  refine j_aload_n O 0 dS_keepPending_41 rfl rfl ?_
  refine j_get O uwS hw10 rfl 3 (by decide) w52 rfl rfl dS_keepPending_42 ?_
  refine j_iload_n O 2 dS_keepPending_45 rfl rfl ?_
  refine j_iadd O dS_keepPending_46 ?_
  refine j_eqi (nI (s0 + (szS N pd))) (nI_add _ _) ?_
  refine j_ldc O 60000 w188 dS_keepPending_47 ?_
  have hKN : KN [sA, bA] N g gw8 := ⟨kpw11.1, fun x e n1 _ he => kpw11.2 x e (one_ne (fun z => n1 (by rw [z]; simp))) he⟩
  have hSy := hS.y
  have hS1 : SWy t gw8 (N, K, mu, I, ch, pd) sA bA none (nI n0) (nI s0) := by
    obtain ⟨h1, h2, h3, h4, h5, h6, h8, h9, h10⟩ := hSy
    have hns : ∀ x, (I x ∨ ∃ v, N x = some v) → x ∉ [sA] := fun x hx => one_ne (fun z => by
      subst z
      rcases hx with hx | ⟨u, hu⟩
      · exact h8 hx
      · obtain ⟨ra, ba, hc⟩ := h1.cell hu
        exact absurd (h2.eq hc) (by simp))
    refine ⟨h1.keep (fun x e hx he => kpw11.2 x e (hns x hx) he), hw10, ?_, h4, h5, h6, h8, h9, fun x hx => kpw11.1 x (h10 x hx)⟩
    obtain ⟨fB, hb, hf⟩ := h3
    exact ⟨fB, kpw11.2 _ _ (one_ne (hb.ne h2 (by simp))) hb, hf⟩
  refine j_icmp_le O 55 dS_keepPending_49 (by decide) (fun c1 => ?_) (fun c1 => ?_)
  · have hle : s0 + szS N pd ≤ 60000 := by
      rcases Nat.lt_or_ge 60000 (s0 + szS N pd) with z | z
      · exact absurd c1 (nI_ge (a := 60000) z (by omega))
      · exact z
    refine J.pk [1, 2, 3, 0] rfl ?_
    refine keep_link (k0 := 0) (n0 := 0) (mu0 := mu) (ch0 := ch) (L0 := pd) (g := g) O ⟨by decide, by decide, by decide, by decide⟩ (fun g2 mu2 ch2 hS2 hm2 hp2 hk2 => ?_) pd gw8 mu ch hS1 (fun x => ⟨rfl, rfl, rfl⟩) (List.Perm.refl _) hKN
    have hs2 := hS2.2.1
    have kp9 : Kp [sA] g2 g2 := Kp.rf
    refine j_aload_n O 0 dS_keepPending_76 rfl rfl ?_
    refine j_dup O dS_keepPending_77 rfl ?_
    refine j_get O uwS hs2 rfl 2 (by decide) w50 rfl rfl dS_keepPending_78 ?_
    refine j_iload_n O 1 dS_keepPending_81 rfl rfl ?_
    refine j_iadd O dS_keepPending_82 ?_
    refine j_eqi (nI (n0 + pd.length)) (nI_add _ _) ?_
    refine j_put O uwS hs2 rfl 2 (by decide) w50 rfl tS ftS fnS rfl (.int) (by decide +kernel) rfl rfl (Nat.le_of_ble_eq_true rfl) [.ref bA, .null, .int (nI (n0 + pd.length)), .int (nI s0)] rfl dS_keepPending_83 (fun gw12 ew13 => ?_)
    have hw14 := gUp_self (e' := .inr (5, [.ref bA, .null, .int (nI (n0 + pd.length)), .int (nI s0)])) hs2
    rw [← ew13] at hw14
    have kpw15 := kp9.up (a := sA) (e := .inr (5, [.ref bA, .null, .int (nI (n0 + pd.length)), .int (nI s0)])) (by simp)
    rw [← ew13] at kpw15
    refine j_aload_n O 0 dS_keepPending_86 rfl rfl ?_
    refine j_dup O dS_keepPending_87 rfl ?_
    refine j_get O uwS hw14 rfl 3 (by decide) w52 rfl rfl dS_keepPending_88 ?_
    refine j_iload_n O 2 dS_keepPending_91 rfl rfl ?_
    refine j_iadd O dS_keepPending_92 ?_
    refine j_eqi (nI (s0 + (szS N pd))) (nI_add _ _) ?_
    refine j_put O uwS hw14 rfl 3 (by decide) w52 rfl tS ftS fnS rfl (.int) (by decide +kernel) rfl rfl (Nat.le_of_ble_eq_true rfl) [.ref bA, .null, .int (nI (n0 + pd.length)), .int (nI (s0 + (szS N pd)))] rfl dS_keepPending_93 (fun gw16 ew17 => ?_)
    have hw18 := gUp_self (e' := .inr (5, [.ref bA, .null, .int (nI (n0 + pd.length)), .int (nI (s0 + (szS N pd)))])) hw14
    rw [← ew17] at hw18
    have kpw19 := kpw15.up (a := sA) (e := .inr (5, [.ref bA, .null, .int (nI (n0 + pd.length)), .int (nI (s0 + (szS N pd)))])) (by simp)
    rw [← ew17] at kpw19
    refine j_iload_n O 1 dS_keepPending_96 rfl rfl ?_
    have hS3 : SWy t gw16 (N, K, mu2, I, ch2, []) sA bA none (nI (n0 + pd.length)) (nI (s0 + szS N pd)) := by
      obtain ⟨h1, h2, h3, h4, h5, h6, h8, h9, h10⟩ := hS2
      have hns : ∀ x, (I x ∨ ∃ v, N x = some v) → x ∉ [sA] := fun x hx => one_ne (fun z => by
        subst z
        rcases hx with hx | ⟨u, hu⟩
        · exact h8 hx
        · obtain ⟨ra, ba, hc⟩ := h1.cell hu
          exact absurd (h2.eq hc) (by simp))
      refine ⟨h1.keep (fun x e hx he => kpw19.2 x e (hns x hx) he), hw18, ?_, h4, h5, h6, h8, h9, fun x hx => kpw19.1 x (h10 x hx)⟩
      obtain ⟨fB, hb, hf⟩ := h3
      exact ⟨fB, kpw19.2 _ _ (one_ne (hb.ne h2 (by simp))) hb, hf⟩
    have hin : ∀ x, inS ch2 x ↔ inS ch x ∨ x ∈ pd := fun x => by
      rw [← stL_in, hp2.mem_iff, List.mem_append, stL_in]
    have hS4 := hS3.sw (fun x hx b hb => by
      rw [hin] at hx ⊢
      rcases hx with hx | hx
      · exact Or.inl (hS.2.2.2.2.2.2.1.1 x hx b hb)
      · exact hS.2.2.2.2.2.2.1.2 x hx b hb)
    exact j_iret O M (Nat.le_of_ble_eq_true rfl) (Nat.le_of_ble_eq_true rfl) (Or.inr ⟨hle, rfl, mu2, ch2, hS4, hm2, hp2, hk2.tr ⟨kpw19.1, fun x e n1 _ he => kpw19.2 x e (one_ne (fun z => n1 (by rw [z]; simp))) he⟩⟩) dS_keepPending_97
  · have hgt : 60000 < s0 + szS N pd := by
      rcases Nat.lt_or_ge 60000 (s0 + szS N pd) with z | z
      · exact z
      · exact absurd (nI_le (b := 60000) z (by omega)) c1
    have hS2 : SWy t gw8 (N, K, mu, I, ch, []) sA bA none (nI n0) (nI s0) := by
      obtain ⟨h1, h2, h3, h4, h5, h6, h8, h9, h10⟩ := hS1
      exact ⟨fun a v hv => h1 a v hv, h2, h3, h4, ⟨trivial, List.nodup_nil, fun x hx => absurd hx List.not_mem_nil⟩, fun a b v ha hb => h6 a b v (ha.imp id (fun z => absurd z List.not_mem_nil)) (hb.imp id (fun z => absurd z List.not_mem_nil)), h8, h9, h10⟩
    have hS3 := hS2.sw (fun x hx b hb => hS.2.2.2.2.2.2.1.1 x hx b hb)
    refine j_bipush O (v := -3) dS_keepPending_52 (by decide) ?_
    exact j_iret O M (Nat.le_of_ble_eq_true rfl) (Nat.le_of_ble_eq_true rfl) (Or.inl ⟨hgt, rfl, hS3, hKN⟩) dS_keepPending_54
