theorem nsz0_le : ∀ (rs : List RV), (∀ r ∈ rs, r.2.1.length ≤ 6) → nsz 0 rs ≤ 7 * rs.length := by
  intro rs h
  have key : ∀ i, i ≤ rs.length → nsz 0 (rs.take i) ≤ 7 * i := by
    intro i
    induction i with
    | zero => intro _; exact Nat.le_refl _
    | succ i ih =>
      intro hi
      rw [nsz0_take rs i (by omega)]
      have := ih (by omega)
      have := h rs[i] (List.getElem_mem _)
      omega
  have := key rs.length (Nat.le_refl _)
  rwa [List.take_length] at this
theorem one_ne {x a : Nat} (h : x ≠ a) : x ∉ [a] := fun q => h (List.mem_singleton.mp q)
theorem two_ne {x a b : Nat} (h : x ≠ a) (h' : x ≠ b) : x ∉ [a, b] := fun q => by
  rcases List.mem_cons.mp q with z | z
  · exact h z
  · exact h' (List.mem_singleton.mp z)
set_option maxRecDepth 100000 in
set_option maxHeartbeats 1000000 in
theorem c_leafOf_new (l : Launch) (D : va_G) (t : Nat → ClassId) (A : Nat → Prop) (g : GH) (sA bA s fr ns : Nat) (nn ss : Int32) (fs : Nat → Option Nat) (rs : List RV) (w : GD) (hS : SW t g w sA bA nn ss) (hs : gAt g s (eRs t ns fs)) (hrI : rowsI t g w.2.2.2.1 fs fr rs) (hw : ∀ r ∈ rs, r.2.1.length ≤ 6) (hlen : rs.length ≤ 300) (hsr : srt rs) (hns : fr + rs.length ≤ ns) (hn31 : ns < 2 ^ 27) (hnew : ∀ a, (inS w.2.2.2.2.1 a ∨ a ∈ w.2.2.2.2.2) → w.1 a ≠ some (0, rs)) : Ct l yS_leafOf sS_leafOf { frames := 3, cells := 3, slots := rs.length + 12, locals := 90 } (zz D t A) [.ref sA, .ref s, .int (nI fr), .int (nI (fr + rs.length))] g 3 (rs.length + 12) (fun v g' => ∃ q ra ba, v = some (.ref q) ∧ q ∉ g.1 ∧ ra ∉ g.1 ∧ ba ∉ g.1 ∧ SW t g' (wAdd w q (0, rs) [] ra ba) sA bA nn ss ∧ Kp [sA] g g') := by
  refine Ct.of (cc := bS_leafOf) (maxL := 6) (ret := (some (.object "TwinTrees$Node"))) (by decide) (Nat.le_of_ble_eq_true rfl) (fun X hlX O M hNn => ?_)
  show J X 6 (zz D t A) g 0 0 0 [(0, .ref sA), (1, .ref s), (2, .int (nI fr)), (3, .int (nI (fr + rs.length)))] []
  have hr := hrI.in
  have hch := hS.2.2.2.1 _ (bkt_lt (nprt 0 rs))
  have hrm : 3 ≤ ({ frames := 3, cells := 3, slots := rs.length + 12, locals := 90 } : Room).frames ∧ 90 ≤ ({ frames := 3, cells := 3, slots := rs.length + 12, locals := 90 } : Room).locals ∧ 0 + 0 ≤ ({ frames := 3, cells := 3, slots := rs.length + 12, locals := 90 } : Room).cells ∧ 0 + 0 ≤ ({ frames := 3, cells := 3, slots := rs.length + 12, locals := 90 } : Room).slots := ⟨Nat.le_refl _, Nat.le_refl _, Nat.zero_le _, Nat.zero_le _⟩
  have HK : J X 6 (zz D t A) g 0 0 84 [(0, .ref sA), (1, .ref s), (2, .int (nI fr)), (3, .int (nI (fr + rs.length))), (4, .int (nprt 0 rs)), (5, .null)] [] := by
    have hs0 := hS.2.1
    have kp0 : Kp [sA] g g := Kp.rf
    refine j_aload_n O 0 dS_leafOf_84 rfl rfl ?_
    refine j_new (ci := 2) O uwN tN ftN w47 w124 w27 rfl [.int 0, .null, .null, .int 0, .int 0, .int 0, .int 0, .int 0, .long 0, .int 0, .int 0, .null] (fun j hj => by rcases (show j = 0 ∨ j = 1 ∨ j = 2 ∨ j = 3 ∨ j = 4 ∨ j = 5 ∨ j = 6 ∨ j = 7 ∨ j = 8 ∨ j = 9 ∨ j = 10 ∨ j = 11 by omega) with rfl | rfl | rfl | rfl | rfl | rfl | rfl | rfl | rfl | rfl | rfl | rfl <;> rfl) (Nat.le_of_ble_eq_true rfl) (by show _ ≤ rs.length + 12; omega) dS_leafOf_85 (fun qw1 gw2 hqw3 ew4 => ?_)
    have hw5 := gNew_old (e' := .inr (2, [.int 0, .null, .null, .int 0, .int 0, .int 0, .int 0, .int 0, .long 0, .int 0, .int 0, .null])) hs0 hqw3
    rw [← ew4] at hw5
    have hw6 := gNew_old (e' := .inr (2, [.int 0, .null, .null, .int 0, .int 0, .int 0, .int 0, .int 0, .long 0, .int 0, .int 0, .null])) hs hqw3
    rw [← ew4] at hw6
    have hw7 := gNew_self (g := g) (a := qw1) (e := .inr (2, [.int 0, .null, .null, .int 0, .int 0, .int 0, .int 0, .int 0, .long 0, .int 0, .int 0, .null]))
    rw [← ew4] at hw7
    have kpw8 := kp0.new (e := .inr (2, [.int 0, .null, .null, .int 0, .int 0, .int 0, .int 0, .int 0, .long 0, .int 0, .int 0, .null])) hqw3
    rw [← ew4] at kpw8
    refine j_dup O dS_leafOf_88 rfl ?_
    refine j_aload_n O 1 dS_leafOf_89 rfl rfl ?_
    refine j_iload_n O 2 dS_leafOf_90 rfl rfl ?_
    refine j_iload_n O 3 dS_leafOf_91 rfl rfl ?_
    refine j_iload O dS_leafOf_92 rfl ?_
    have hr1 : rowsIn t gw2 fs fr rs := fun i hi => by
      obtain ⟨b, h1, h2⟩ := hrI i hi
      exact ⟨b, h1, (h2.keep (fun _ z => z) (fun x e hx he => kpw8.2 x e (one_ne (fun z => hS.2.2.2.2.2.2.2.1 (z ▸ hx))) he)).at⟩
    have hsz := nsz0_le rs hw
    refine j_callI O [.ref s, .int (nI fr), .int (nI (fr + rs.length)), .int (nprt 0 rs)] (c_Node_init X.2.1 D t A gw2 qw1 s fr ns fs rs (nprt 0 rs) hw7 hw6 hr1 hns hn31 (by omega)) w127 4 rfl rfl rfl w27 w125 w126 rfl (by decide +kernel) ⟨(Nat.le_of_ble_eq_true rfl), (Nat.le_of_ble_eq_true rfl)⟩ rfl (Nat.le_of_ble_eq_true rfl) dS_leafOf_94 ⟨(Nat.le_of_ble_eq_true rfl), (by show _ ≤ rs.length + 12; omega)⟩ (fun vw9 gw10 hpw11 => ?_)
    obtain ⟨rfl, ra, ba, f2, hra, hba, hqc, hrac, hf2, hbac, kp2z⟩ := hpw11
    have hs2 := kp2z.2 sA _ (one_ne (hs0.nin hqw3)) hw5
    refine j_callV O [.ref qw1] (c_pend X.2.1 D t A gw10 sA qw1 bA ra ba _ none nn ss 0 _ _ _ _ _ 0 0 0 hs2 hqc) hs2 rfl w181 w182 w0 w24 w183 1 rfl rfl rfl (by decide +kernel) ⟨(Nat.le_of_ble_eq_true rfl), (Nat.le_of_ble_eq_true rfl)⟩ rfl (Nat.le_of_ble_eq_true rfl) dS_leafOf_97 ⟨(Nat.le_of_ble_eq_true rfl), (by show _ ≤ rs.length + 12; omega)⟩ (fun vw12 gw13 hpw14 => ?_)
    obtain ⟨rfl, hs3, hqz3, kp3z⟩ := hpw14
    have kpA : Kp [sA] g gw10 := kpw8.sub kp2z (fun x hx => Or.inr (by rw [List.mem_singleton.mp hx]; exact hqw3))
    have kpB : Kp [sA] g gw13 := kpA.sub kp3z (fun x hx => by
      rcases List.mem_cons.mp hx with z | z
      · exact Or.inl (by rw [z]; exact List.mem_cons_self)
      · exact Or.inr (by rw [List.mem_singleton.mp z]; exact hqw3))
    have hra0 : ra ∉ g.1 := kpw8.nin hra
    have hba0 : ba ∉ g.1 := kpw8.nin hba
    have hra3 := kp3z.2 ra _ (two_ne (hrac.ne hs2 (by simp)) (hrac.ne hqc (by simp))) hrac
    have hba3 := kp3z.2 ba _ (two_ne (hbac.ne hs2 (by simp)) (hbac.ne hqc (by simp))) hbac
    have hIk : ∀ (x : Nat) (e : va_E), w.2.2.2.1 x → gAt g x e → gAt gw13 x e := fun x e hx he => kpB.2 x e (one_ne (fun z => hS.2.2.2.2.2.2.2.1 (z ▸ hx))) he
    refine j_aret (o := some qw1) O (Or.inl ⟨_, rfl⟩) M (Nat.le_of_ble_eq_true rfl) (by show _ ≤ rs.length + 12; omega) ⟨qw1, ra, ba, rfl, hqw3, hra0, hba0, ?_, kpB⟩ dS_leafOf_100
    refine hS.add hqw3 hra0 hba0 hra3.1 hba3.1 (hqz3.ne hra3 (by simp)) (hqz3.ne hba3 (by simp)) ⟨Nat.zero_le _, hlen, hw, fun z => absurd rfl z, hsr⟩ hnew (fun b hb => absurd hb List.not_mem_nil) kpB hs3 ?_
    refine ⟨ra, ba, rs.length, f2, (fun _ => none), Or.inr (Or.inl rfl), Or.inr (Or.inr rfl), hqz3, hra3, hba3, hlen, fun _ => ⟨rfl, rfl, fun i hi => ?_⟩, fun h => absurd rfl h, fun i hi => absurd hi (Nat.not_lt_zero _), fun h hh => absurd hh (by simp)⟩
    obtain ⟨b, h1, h2⟩ := hrI i hi
    exact ⟨b, by rw [Nat.zero_add, hf2 i hi]; exact h1, h2.keep (fun _ z => Or.inl z) hIk⟩
  refine j_iconst O (v := 0) dS_leafOf_0 (by decide) ?_
  refine j_istore O [(4, .int 0), (0, .ref sA), (1, .ref s), (2, .int (nI fr)), (3, .int (nI (fr + rs.length)))] dS_leafOf_1 (by decide) rfl ?_
  refine j_iload_n O 2 dS_leafOf_3 rfl rfl ?_
  refine j_istore O [(5, .int (nI fr)), (4, .int 0), (0, .ref sA), (1, .ref s), (2, .int (nI fr)), (3, .int (nI (fr + rs.length)))] dS_leafOf_4 (by decide) rfl ?_
  refine J.pk [2, 3, 4, 5, 1, 0] rfl ?_
  have key : ∀ L : List Nat, (∀ a ∈ L, ∃ v, w.1 a = some v ∧ inS w.2.2.2.2.1 a) → lnk (nxOf w.2.2.1) L → J X 6 (zz D t A) g 0 0 45 [(0, .ref sA), (1, .ref s), (2, .int (nI fr)), (3, .int (nI (fr + rs.length))), (4, .int (nprt 0 rs)), (5, va_rf (L.head?))] [] := by
    intro L
    induction L with
    | nil =>
      intro _ _
      refine j_aloadN O dS_leafOf_45 rfl ?_
      refine j_ifnull (o := none) O 84 dS_leafOf_47 (by decide) (fun _ => ?_) (fun y c => by cases c)
      exact HK
    | cons a L ih =>
      intro hL hl
      obtain ⟨v, hv, hSa⟩ := hL a List.mem_cons_self
      have hl1 : nxOf w.2.2.1 a = L.head? := hl.1
      refine leafOf_node (k0 := 0) (n0 := 0) (w := w) O hS hs hr hw hns hn31 hrm a v hv (fun hb => absurd hb (hnew a (Or.inl hSa))) (fun hne => ?_)
      rw [hl1]
      exact ih (fun b hb => hL b (List.mem_cons_of_mem _ hb)) hl.2
  have k1 := key _ (fun a h => (hch.2.2 a h).elim (fun v q => ⟨v, q.1, _, bkt_lt _, h⟩)) hch.1
  have k2 := leafOf_mid (k0 := 0) (n0 := 0) (rs := rs) (s := s) (fr := fr) O hS hrm k1
  have k3 := leafOf_print (k0 := 0) (n0 := 0) O hs hr hns hn31 k2 _ 0 (Nat.zero_add _)
  exact k3
