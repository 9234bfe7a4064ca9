/-! what the calls answer, as numbers and lists alone: s = (tables, stored nodes, differences) -/
abbrev TB : Type := Nat → Nat × List RV
abbrev AS : Type := TB × List NV × List (Int32 × Int32 × Int32)
abbrev isT (x : Int32) : Prop := 0 ≤ x ∧ x < 6
def ix (x : Int32) : Nat := x.toInt.toNat
def aCopy (s : AS) (x y : Int32) : Int32 × AS := if isT x ∧ isT y then (0, (va_up s.1 (ix x) (s.1 (ix y)), s.2)) else (-1, s)
def aCount (s : AS) (x : Int32) : Int32 := if x = 0 then nI s.2.1.length else if x = 1 then nI (szL s.2.1) else -1
def aGet (s : AS) (x k y : Int32) : Int64 := if isT x ∧ 0 ≤ y ∧ y < nI (s.1 (ix x)).1 then (match lkp k (s.1 (ix x)).2 with
  | none => 1099511627774
  | some r => if bitN r.2.2 (ix y) then 1099511627776 else (r.2.1.getD (ix y) 0).toInt64) else 1099511627775
def aRow (s : AS) (x k : Int32) : Int64 := if isT x ∧ 0 ≤ k ∧ k < nI (s.1 (ix x)).2.length then ((s.1 (ix x)).2.getD (ix k) (0, [], 0)).1.toInt64 else 1099511627776
def aDiff (s : AS) (k y : Int32) : Int64 := if 0 ≤ k ∧ k < nI s.2.2.length then (if y = 0 then (s.2.2.getD (ix k) (0, 0, 0)).1.toInt64 else if y = 1 then (s.2.2.getD (ix k) (0, 0, 0)).2.1.toInt64 else if y = 2 then (s.2.2.getD (ix k) (0, 0, 0)).2.2.toInt64 else 1099511627776) else 1099511627776
def aAddr (s : AS) (x : Int32) : Int64 := if isT x then nad (hgt (s.1 (ix x)).2) (s.1 (ix x)).2 else 0
def aMeas (s : AS) (x y : Int32) : Int32 := if isT x then (if y = 0 then nI (s.1 (ix x)).2.length else if y = 1 then nI (s.1 (ix x)).1 else if y = 2 then nI (hgt (s.1 (ix x)).2) else if y = 3 then nI (ndl (s.1 (ix x)).2).length else -1) else -1
def aCmp (s : AS) (x y : Int32) : Int32 × AS := if isT x ∧ isT y ∧ (s.1 (ix x)).1 = (s.1 (ix y)).1 then (nI (mrg ((s.1 (ix x)).2.length + (s.1 (ix y)).2.length) (s.1 (ix x)).2 (s.1 (ix y)).2).length, (s.1, s.2.1, mrg ((s.1 (ix x)).2.length + (s.1 (ix y)).2.length) (s.1 (ix x)).2 (s.1 (ix y)).2)) else (-1, s)
def lives (tb : TB) (v : NV) : Bool := (List.range 6).any (fun i => decide (v ∈ ndl (tb i).2))
def aSweep (s : AS) : Int32 × AS := (nI (s.2.1.filter (fun v => ! lives s.1 v)).length, (s.1, s.2.1.filter (lives s.1), s.2.2))
def aPlant (s : AS) (i w : Nat) (rs : List RV) : Int32 × AS := if szL s.2.1 + szL (news s.2.1 (ndl rs)) ≤ 60000 then (nI (news s.2.1 (ndl rs)).length, (va_up s.1 i (w, rs), s.2.1 ++ news s.2.1 (ndl rs), s.2.2)) else (-3, s)
def aMake (s : AS) (x y : Int32) : Int32 × AS := if isT x ∧ 1 ≤ y ∧ y ≤ 6 then aPlant s (ix x) (ix y) [] else (-1, s)
def chg (rs : List RV) (w : Nat) (k : Int32) (j : Nat) (x z : Int32) : List RV := if h : ∃ h : plc k rs < rs.length, rs[plc k rs].1 = k then rs.set (plc k rs) (setC (rs[plc k rs]'h.1) j x z) else rs.take (plc k rs) ++ setC (blankR k w) j x z :: rs.drop (plc k rs)
def aPut (s : AS) (x k y a z : Int32) : Int32 × AS := if isT x ∧ 0 ≤ y ∧ y < nI (s.1 (ix x)).1 then (if (¬ ∃ h : plc k (s.1 (ix x)).2 < (s.1 (ix x)).2.length, (s.1 (ix x)).2[plc k (s.1 (ix x)).2].1 = k) ∧ 300 ≤ (s.1 (ix x)).2.length then (-3, s) else aPlant s (ix x) (s.1 (ix x)).1 (chg (s.1 (ix x)).2 (s.1 (ix x)).1 k (ix y) a z)) else (-1, s)
def aRem (s : AS) (x k : Int32) : Int32 × AS := if isT x then (if ∃ h : plc k (s.1 (ix x)).2 < (s.1 (ix x)).2.length, (s.1 (ix x)).2[plc k (s.1 (ix x)).2].1 = k then aPlant s (ix x) (s.1 (ix x)).1 ((s.1 (ix x)).2.eraseIdx (plc k (s.1 (ix x)).2)) else (-2, s)) else (-1, s)
theorem ix_nI {i : Nat} (h : i < 2 ^ 31) : ix (nI i) = i := by
  unfold ix
  rw [nI_toInt h]
  rfl
theorem of_le0 {x : Int32} (h : 0 ≤ x) : x = nI (ix x) := by
  have h1 := Int32.le_iff_toInt_le.mp h
  have e0 : (0 : Int32).toInt = 0 := by decide
  have := Int32.toInt_lt x
  apply Int32.toInt_inj.mp
  unfold ix
  rw [nI_toInt (by omega)]
  omega
/-! the class's world: p names its cells -/
def tOK (q : Nat × List RV) : Prop := 1 ≤ q.1 ∧ q.1 ≤ 6 ∧ (∀ r ∈ q.2, r.2.1.length = q.1) ∧ srt q.2 ∧ q.2.length ≤ 300
def TW (t : Nat → ClassId) (g : GH) (p : Nat → Nat) (w : GD) (ls : Nat) (s : AS) : Prop :=
  gAt g (p 13) (eTT (p 0) (p 1) (p 2) (p 4) (p 8) (p 10) (p 12) (nI ls)) ∧
  (∃ f, gAt g (p 0) (eI t 6 f) ∧ ∀ i, i < 6 → f i = nI (s.1 i).1) ∧
  (∃ f, gAt g (p 1) (eNs t 6 f) ∧ ∀ i, i < 6 → ∃ r, f i = some r ∧ w.1 r = some (hgt (s.1 i).2, (s.1 i).2) ∧ inS w.2.2.2.2.1 r) ∧
  SW t g w (p 2) (p 3) (nI s.2.1.length) (nI (szL s.2.1)) ∧
  (w.2.2.2.2.2 = [] ∧ (vals w.1 (stL w.2.2.2.2.1)).Perm s.2.1 ∧ szL s.2.1 ≤ 60000 ∧ s.2.1.length < 2 ^ 30) ∧
  (∃ fk fs fu, gAt g (p 4) (eDf (p 5) (p 6) (p 7) (nI s.2.2.length)) ∧ gAt g (p 5) (eI t 600 fk) ∧ gAt g (p 6) (eI t 600 fs) ∧ gAt g (p 7) (eI t 600 fu) ∧ dfs fk fs fu s.2.2 ∧ s.2.2.length ≤ 600) ∧
  (∃ n f, gAt g (p 8) (eRL (p 9) n) ∧ gAt g (p 9) (eRs t 300 f)) ∧
  (∃ n f, gAt g (p 10) (eRL (p 11) n) ∧ gAt g (p 11) (eRs t 300 f)) ∧
  (∃ f, gAt g (p 12) (eNs t 300 f)) ∧
  (∀ i j, i < 14 → j < 14 → i ≠ j → p i ≠ p j) ∧
  (∀ i, i < 14 → ¬ w.2.2.2.1 (p i)) ∧
  (∀ x u, w.1 x = some u → ∃ m, m ≤ ls ∧ (w.2.2.1 x).2.2.1 = nI m) ∧
  (∀ i, i < 6 → tOK (s.1 i))
theorem pn {p : Nat → Nat} (hne : ∀ i j, i < 14 → j < 14 → i ≠ j → p i ≠ p j) (i : Nat) (L : List Nat) (h : (L.all (fun j => decide (j < 14 ∧ j ≠ i)) && decide (i < 14)) = true) : p i ∉ L.map p := by
  rw [Bool.and_eq_true, List.all_eq_true] at h
  intro hm
  obtain ⟨j, hj, e⟩ := List.mem_map.mp hm
  have h1 := of_decide_eq_true (h.1 j hj)
  exact hne j i h1.1 (of_decide_eq_true h.2) h1.2 e
theorem TW.at {t : Nat → ClassId} {g : GH} {p : Nat → Nat} {w : GD} {ls : Nat} {s : AS} (h : TW t g p w ls s) (i : Nat) (hi : i < 14) : ∃ e, gAt g (p i) e ∧ ∀ h rs ra ba m, e ≠ nCell h rs ra ba m := by
  obtain ⟨hT, ⟨fW, hW, -⟩, ⟨fR, hR, -⟩, hS, -, ⟨fk, fs, fu, hD, hk, hs, hu, -⟩, ⟨nF, fF, hF, hFb⟩, ⟨nE, fE, hE, hEb⟩, ⟨fL, hL⟩, -⟩ := h
  rcases (show i = 0 ∨ i = 1 ∨ i = 2 ∨ i = 3 ∨ i = 4 ∨ i = 5 ∨ i = 6 ∨ i = 7 ∨ i = 8 ∨ i = 9 ∨ i = 10 ∨ i = 11 ∨ i = 12 ∨ i = 13 by omega) with rfl | rfl | rfl | rfl | rfl | rfl | rfl | rfl | rfl | rfl | rfl | rfl | rfl | rfl
  · exact ⟨_, hW, fun _ _ _ _ _ => by simp⟩
  · exact ⟨_, hR, fun _ _ _ _ _ => by simp⟩
  · exact ⟨_, hS.2.1, fun _ _ _ _ _ => by simp⟩
  · obtain ⟨fB, hB, -⟩ := hS.2.2.1
    exact ⟨_, hB, fun _ _ _ _ _ => by simp⟩
  · exact ⟨_, hD, fun _ _ _ _ _ => by simp⟩
  · exact ⟨_, hk, fun _ _ _ _ _ => by simp⟩
  · exact ⟨_, hs, fun _ _ _ _ _ => by simp⟩
  · exact ⟨_, hu, fun _ _ _ _ _ => by simp⟩
  · exact ⟨_, hF, fun _ _ _ _ _ => by simp⟩
  · exact ⟨_, hFb, fun _ _ _ _ _ => by simp⟩
  · exact ⟨_, hE, fun _ _ _ _ _ => by simp⟩
  · exact ⟨_, hEb, fun _ _ _ _ _ => by simp⟩
  · exact ⟨_, hL, fun _ _ _ _ _ => by simp⟩
  · exact ⟨_, hT, fun _ _ _ _ _ => by simp⟩
theorem TW.nn {t : Nat → ClassId} {g : GH} {p : Nat → Nat} {w : GD} {ls : Nat} {s : AS} (h : TW t g p w ls s) (i : Nat) (hi : i < 14) : w.1 (p i) = none := (h.at i hi).elim (fun _ q => h.2.2.2.1.1.no q.1 q.2)
theorem TW.mem {t : Nat → ClassId} {g : GH} {p : Nat → Nat} {w : GD} {ls : Nat} {s : AS} (h : TW t g p w ls s) (i : Nat) (hi : i < 14) : p i ∈ g.1 := (h.at i hi).elim (fun _ q => q.1.1)
/-- no cell of a node or of a row is one of the class's own -/
theorem TW.own {t : Nat → ClassId} {g : GH} {p : Nat → Nat} {w : GD} {ls : Nat} {s : AS} (h : TW t g p w ls s) {x : Nat} (hx : w.2.2.2.1 x ∨ ∃ u, w.1 x = some u) (L : List Nat) (hL : ∀ j ∈ L, j < 14) : x ∉ L.map p := by
  intro hm
  obtain ⟨j, hj, e⟩ := List.mem_map.mp hm
  subst e
  rcases hx with z | ⟨u, z⟩
  · exact h.2.2.2.2.2.2.2.2.2.2.1 j (hL j hj) z
  · rw [h.nn j (hL j hj)] at z; cases z
/-- another mutable part -/
theorem SW.mu {t : Nat → ClassId} {g g' : GH} {N : NM} {K : Nat → List Nat} {mu mu' : Nat → MU} {I : Nat → Prop} {ch : Nat → List Nat} {pd : List Nat} {sA bA : Nat} {nn ss : Int32} (h : SW t g (N, K, mu, I, ch, pd) sA bA nn ss) (hN : NI t g' (N, K, mu', I, ch, pd)) (hm : ∀ x, (mu' x).2.2.2 = (mu x).2.2.2) (hd : ∀ b ∈ g.1, b ∈ g'.1) (h1 : ∀ e, gAt g sA e → gAt g' sA e) (h2 : ∀ e, gAt g bA e → gAt g' bA e) : SW t g' (N, K, mu', I, ch, pd) sA bA nn ss := by
  obtain ⟨-, a2, ⟨fB, a3, a3'⟩, a4, a5, a6, a7, a8, a9, a10⟩ := h
  have hx : nxOf mu' = nxOf mu := by
    funext x
    exact hm x
  refine ⟨hN, h1 _ a2, ⟨fB, h2 _ a3, a3'⟩, ?_, ?_, a6, a7, a8, a9, fun x q => hd x (a10 x q)⟩
  · intro i hi
    have := a4 i hi
    dsimp only at this ⊢
    rw [hx]
    exact this
  · have := a5
    unfold PND at this ⊢
    dsimp only at this ⊢
    rw [hx]
    exact this
set_option maxRecDepth 100000 in
set_option maxHeartbeats 1000000 in
theorem c_copy (l : Launch) (D : va_G) (t : Nat → ClassId) (A : Nat → Prop) (g : GH) (p : Nat → Nat) (w : GD) (ls : Nat) (s : AS) (x y : Int32) (h : TW t g p w ls s) : Ct l yT_copy sT_copy { frames := 1, cells := 0, slots := 0, locals := 40 } (zz D t A) [.ref (p 13), .int x, .int y] g 0 0 (fun v g' => v = some (.int (aCopy s x y).1) ∧ TW t g' p w ls (aCopy s x y).2) := by
  refine Ct.of (cc := bT_copy) (maxL := 3) (ret := (some .int)) (by decide) (Nat.le_of_ble_eq_true rfl) (fun X hlX O M hNn => ?_)
  show J X 3 (zz D t A) g 0 0 0 [(0, .ref (p 13)), (1, .int x), (2, .int y)] []
  obtain ⟨hT, ⟨fW, hW, hWv⟩, ⟨fR, hR, hRv⟩, hS, ⟨hpd, hval, hsz, hsn⟩, ⟨fk, fs, fu, hD, hk, hs, hu, hdf, hdl⟩, ⟨nF, fF, hF, hFb⟩, ⟨nE, fE, hE, hEb⟩, ⟨fL, hL⟩, hne, hI, hst, htb⟩ := id h
  have kp0 : Kp [p 0, p 1] g g := Kp.rf
  refine j_iload_n O 1 dT_copy_0 rfl rfl ?_
  refine j_callS O [.int x] (c_isTable X.2.1 D t A g x) w221 w222 w23 w223 1 rfl rfl rfl (by decide +kernel) ⟨(Nat.le_of_ble_eq_true rfl), (Nat.le_of_ble_eq_true rfl)⟩ rfl (Nat.le_of_ble_eq_true rfl) dT_copy_1 ⟨(Nat.le_of_ble_eq_true rfl), (Nat.le_of_ble_eq_true rfl)⟩ (fun vw1 gw2 hpw3 => ?_)
  obtain ⟨rfl, hgw4⟩ := hpw3
  have hgw4 := hgw4.symm
  subst hgw4
  refine j_if_eq O 14 dT_copy_4 (by decide) (fun c1 => ?_) (fun c1 => ?_)
  · have hx : ¬ isT x := fun z => by rw [if_pos z] at c1; exact absurd c1 (by decide)
    have er : aCopy s x y = (-1, s) := if_neg (fun z => hx z.1)
    rw [er] at M
    refine j_iconst O (v := -1) dT_copy_14 (by decide) ?_
    exact j_iret O M (Nat.le_of_ble_eq_true rfl) (Nat.le_of_ble_eq_true rfl) ⟨rfl, h⟩ dT_copy_15
  · have hx : isT x := by
      by_cases z : isT x
      · exact z
      · rw [if_neg z] at c1; exact absurd rfl c1
    obtain ⟨i, i6, rfl⟩ := tb_of hx
    have ei : ix (nI i) = i := ix_nI (by omega)
    refine j_iload_n O 2 dT_copy_7 rfl rfl ?_
    refine j_callS O [.int y] (c_isTable X.2.1 D t A g y) w221 w222 w23 w223 1 rfl rfl rfl (by decide +kernel) ⟨(Nat.le_of_ble_eq_true rfl), (Nat.le_of_ble_eq_true rfl)⟩ rfl (Nat.le_of_ble_eq_true rfl) dT_copy_8 ⟨(Nat.le_of_ble_eq_true rfl), (Nat.le_of_ble_eq_true rfl)⟩ (fun vw5 gw6 hpw7 => ?_)
    obtain ⟨rfl, hgw8⟩ := hpw7
    have hgw8 := hgw8.symm
    subst hgw8
    refine j_if_ne O 16 dT_copy_11 (by decide) (fun c2 => ?_) (fun c2 => ?_)
    · have hy : isT y := by
        by_cases z : isT y
        · exact z
        · rw [if_neg z] at c2; exact absurd rfl c2
      obtain ⟨j, j6, rfl⟩ := tb_of hy
      have ej : ix (nI j) = j := ix_nI (by omega)
      have er : aCopy s (nI i) (nI j) = (0, (va_up s.1 i (s.1 j), s.2)) := by
        unfold aCopy
        rw [if_pos ⟨hx, hy⟩, ei, ej]
      rw [er] at M
      obtain ⟨r, hfr, hrv, hrS⟩ := hRv j j6
      obtain ⟨rra, rba, hrc⟩ := hS.1.cell hrv
      refine j_aload_n O 0 dT_copy_16 rfl rfl ?_
      refine j_get O uwT hT rfl 0 (by decide) w192 rfl rfl dT_copy_17 ?_
      refine j_iload_n O 1 dT_copy_20 rfl rfl ?_
      refine j_aload_n O 0 dT_copy_21 rfl rfl ?_
      refine j_get O uwT hT rfl 0 (by decide) w192 rfl rfl dT_copy_22 ?_
      refine j_iload_n O 2 dT_copy_25 rfl rfl ?_
      refine j_iald O hW 0 rfl (by omega) (by omega) dT_copy_26 ?_
      refine j_iast O hW 0 rfl i6 (by decide) dT_copy_27 (fun gw9 ew10 => ?_)
      have hw11 := gUp_ne (e' := .inl (t 0, 6, .inl (upd fW i (fW j)))) hT (hT.ne hW (by simp))
      rw [← ew10] at hw11
      have hw12 := gUp_ne (e' := .inl (t 0, 6, .inl (upd fW i (fW j)))) hR (Ne.symm (hne 0 1 (by decide) (by decide) (by decide)))
      rw [← ew10] at hw12
      have hw13 := gUp_self (e' := .inl (t 0, 6, .inl (upd fW i (fW j)))) hW
      rw [← ew10] at hw13
      have kpw14 := kp0.up (a := (p 0)) (e := .inl (t 0, 6, .inl (upd fW i (fW j)))) (by simp)
      rw [← ew10] at kpw14
      refine j_aload_n O 0 dT_copy_28 rfl rfl ?_
      refine j_get O uwT hw11 rfl 1 (by decide) w193 rfl rfl dT_copy_29 ?_
      refine j_iload_n O 1 dT_copy_32 rfl rfl ?_
      refine j_aload_n O 0 dT_copy_33 rfl rfl ?_
      refine j_get O uwT hw11 rfl 1 (by decide) w193 rfl rfl dT_copy_34 ?_
      refine j_iload_n O 2 dT_copy_37 rfl rfl ?_
      refine j_aald O hw12 2 rfl (by omega) (by omega) dT_copy_38 ?_
      refine j_some r hfr ?_
      have hrc2 := kpw14.2 r _ (h.own (Or.inr ⟨_, hrv⟩) [0, 1] (by decide)) hrc
      refine j_aast O hw12 2 rfl hrc2 rfl i6 (by decide) dT_copy_39 (fun gw15 ew16 => ?_)
      have hw17 := gUp_ne (e' := .inl (t 2, 6, .inr (.inr (.inr (.inr (va_up fR i (some r))))))) hw11 (hw11.ne hw12 (by simp))
      rw [← ew16] at hw17
      have hw18 := gUp_ne (e' := .inl (t 2, 6, .inr (.inr (.inr (.inr (va_up fR i (some r))))))) hw13 (hne 0 1 (by decide) (by decide) (by decide))
      rw [← ew16] at hw18
      have hw19 := gUp_self (e' := .inl (t 2, 6, .inr (.inr (.inr (.inr (va_up fR i (some r))))))) hw12
      rw [← ew16] at hw19
      have kpw20 := kpw14.up (a := (p 1)) (e := .inl (t 2, 6, .inr (.inr (.inr (.inr (va_up fR i (some r))))))) (by simp)
      rw [← ew16] at kpw20
      refine j_iconst O (v := 0) dT_copy_40 (by decide) ?_
      have hS2 : SW t gw15 w (p 2) (p 3) (nI s.2.1.length) (nI (szL s.2.1)) := hS.kp kpw20.1 (fun y e hy he => kpw20.2 y e (by
        rcases hy with z | z | z | z
        · exact h.own (Or.inl z) [0, 1] (by decide)
        · exact h.own (Or.inr z) [0, 1] (by decide)
        · rw [z]; exact pn hne 2 [0, 1] rfl
        · rw [z]; exact pn hne 3 [0, 1] rfl) he)
      have hTW : TW t gw15 p w ls (va_up s.1 i (s.1 j), s.2) := by
        refine ⟨hw17, ⟨_, hw18, fun a ha => ?_⟩, ⟨_, hw19, fun a ha => ?_⟩, hS2, ⟨hpd, hval, hsz, hsn⟩, ⟨fk, fs, fu, (kpw20.2 (p 4) _ (pn hne 4 [0, 1] rfl) hD), (kpw20.2 (p 5) _ (pn hne 5 [0, 1] rfl) hk), (kpw20.2 (p 6) _ (pn hne 6 [0, 1] rfl) hs), (kpw20.2 (p 7) _ (pn hne 7 [0, 1] rfl) hu), hdf, hdl⟩, ⟨nF, fF, (kpw20.2 (p 8) _ (pn hne 8 [0, 1] rfl) hF), (kpw20.2 (p 9) _ (pn hne 9 [0, 1] rfl) hFb)⟩, ⟨nE, fE, (kpw20.2 (p 10) _ (pn hne 10 [0, 1] rfl) hE), (kpw20.2 (p 11) _ (pn hne 11 [0, 1] rfl) hEb)⟩, ⟨fL, (kpw20.2 (p 12) _ (pn hne 12 [0, 1] rfl) hL)⟩, hne, hI, hst, fun a ha => ?_⟩
        · by_cases z : a = i
          · subst z; rw [pk_us]; show _ = nI (va_up s.1 a (s.1 j) a).1; rw [va_up_self]; exact hWv j j6
          · rw [pk_un (by omega)]; show _ = nI (va_up s.1 i (s.1 j) a).1; rw [va_up_ne _ _ z]; exact hWv a ha
        · by_cases z : a = i
          · subst z; show ∃ r, va_up _ _ _ _ = _ ∧ w.1 r = some (hgt (va_up s.1 a (s.1 j) a).2, (va_up s.1 a (s.1 j) a).2) ∧ _; rw [va_up_self, va_up_self]; exact ⟨r, rfl, hrv, hrS⟩
          · show ∃ r, va_up _ _ _ _ = _ ∧ w.1 r = some (hgt (va_up s.1 i (s.1 j) a).2, (va_up s.1 i (s.1 j) a).2) ∧ _; rw [va_up_ne _ _ z, va_up_ne _ _ z]; exact hRv a ha
        · show tOK (va_up s.1 i (s.1 j) a)
          by_cases z : a = i
          · subst z; rw [va_up_self]; exact htb j j6
          · rw [va_up_ne _ _ z]; exact htb a ha
      exact j_iret O M (Nat.le_of_ble_eq_true rfl) (Nat.le_of_ble_eq_true rfl) ⟨rfl, hTW⟩ dT_copy_41
    · have hy : ¬ isT y := fun z => by rw [if_pos z] at c2; exact absurd c2 (by decide)
      have er : aCopy s (nI i) y = (-1, s) := if_neg (fun z => hy z.2)
      rw [er] at M
      refine j_iconst O (v := -1) dT_copy_14 (by decide) ?_
      exact j_iret O M (Nat.le_of_ble_eq_true rfl) (Nat.le_of_ble_eq_true rfl) ⟨rfl, h⟩ dT_copy_15
set_option maxRecDepth 100000 in
set_option maxHeartbeats 1000000 in
theorem c_count (l : Launch) (D : va_G) (t : Nat → ClassId) (A : Nat → Prop) (g : GH) (p : Nat → Nat) (w : GD) (ls : Nat) (s : AS) (x : Int32) (h : TW t g p w ls s) : Ct l yT_count sT_count { frames := 0, cells := 0, slots := 0, locals := 0 } (zz D t A) [.ref (p 13), .int x] g 0 0 (fun v g' => v = some (.int (aCount s x)) ∧ g' = g) := by
  refine Ct.of (cc := bT_count) (maxL := 2) (ret := (some .int)) (by decide) (Nat.le_of_ble_eq_true rfl) (fun X hlX O M hNn => ?_)
  show J X 2 (zz D t A) g 0 0 0 [(0, .ref (p 13)), (1, .int x)] []
  obtain ⟨hT, ⟨fW, hW, hWv⟩, ⟨fR, hR, hRv⟩, hS, ⟨hpd, hval, hsz, hsn⟩, ⟨fk, fs, fu, hD, hk, hs, hu, hdf, hdl⟩, ⟨nF, fF, hF, hFb⟩, ⟨nE, fE, hE, hEb⟩, ⟨fL, hL⟩, hne, hI, hst, htb⟩ := id h
  refine j_iload_n O 1 dT_count_0 rfl rfl ?_
  by_cases h0 : x = 0
  · subst h0
    have er : aCount s 0 = nI s.2.1.length := if_pos rfl
    rw [er] at M
    refine j_lookup O (off := 27) 28 dT_count_1 (by decide) (by decide) (by decide) ?_
    refine j_aload_n O 0 dT_count_28 rfl rfl ?_
    refine j_get O uwT hT rfl 2 (by decide) w194 rfl rfl dT_count_29 ?_
    refine j_get O uwS hS.2.1 rfl 2 (by decide) w51 rfl rfl dT_count_32 ?_
    exact j_iret O M (Nat.le_of_ble_eq_true rfl) (Nat.le_of_ble_eq_true rfl) ⟨rfl, rfl⟩ dT_count_35
  · by_cases h1 : x = 1
    · subst h1
      have er : aCount s 1 = nI (szL s.2.1) := rfl
      rw [er] at M
      refine j_lookup O (off := 35) 36 dT_count_1 (by decide) (by decide) (by decide) ?_
      refine j_aload_n O 0 dT_count_36 rfl rfl ?_
      refine j_get O uwT hT rfl 2 (by decide) w194 rfl rfl dT_count_37 ?_
      refine j_get O uwS hS.2.1 rfl 3 (by decide) w53 rfl rfl dT_count_40 ?_
      exact j_iret O M (Nat.le_of_ble_eq_true rfl) (Nat.le_of_ble_eq_true rfl) ⟨rfl, rfl⟩ dT_count_43
    · have er : aCount s x = -1 := (if_neg h0).trans (if_neg h1)
      rw [er] at M
      have e0 : ¬ x.toInt = 0 := fun z => h0 (Int32.toInt_inj.mp z)
      have e1 : ¬ x.toInt = 1 := fun z => h1 (Int32.toInt_inj.mp z)
      refine j_lookup O (off := 43) 44 dT_count_1 (by decide) (by simp [Op.lookupswitch.offset, e0, e1, Ne.symm e0, Ne.symm e1]) (by decide) ?_
      refine j_iconst O (v := -1) dT_count_44 (by decide) ?_
      exact j_iret O M (Nat.le_of_ble_eq_true rfl) (Nat.le_of_ble_eq_true rfl) ⟨rfl, rfl⟩ dT_count_45
