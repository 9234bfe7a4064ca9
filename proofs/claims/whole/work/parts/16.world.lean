/-! The store's world: w = (values of nodes, nodes below, mutable parts, cells that nobody writes, chains of the buckets, pending nodes). -/
abbrev GD : Type := NM × (Nat → List Nat) × (Nat → MU) × (Nat → Prop) × (Nat → List Nat) × List Nat
def bkt (p : Int32) : Nat := (p * (-1640531535)).toBitVec.toNat / 2 ^ 22
theorem bkt_lt (p : Int32) : bkt p < 1024 := by
  unfold bkt
  have := (p * (-1640531535)).toBitVec.isLt
  omega
theorem bkt_eq (p : Int32) : ush (p * (-1640531535)) 22 = nI (bkt p) := by
  have h := pk_ushr (p * (-1640531535)) 22 22 (by decide)
  have hb := bkt_lt p
  apply Int32.toBitVec_inj.mp
  apply BitVec.eq_of_toNat_eq
  unfold ush
  rw [h, pk_tn (by omega)]
  rfl
def nxOf (mu : Nat → MU) (a : Nat) : Option Nat := (mu a).2.2.2
def lnk (nx : Nat → Option Nat) : List Nat → Prop
  | [] => True
  | a :: r => nx a = r.head? ∧ lnk nx r
theorem lnk.congr {nx nx' : Nat → Option Nat} : ∀ {l : List Nat}, lnk nx l → (∀ a ∈ l, nx' a = nx a) → lnk nx' l
  | [], _, _ => trivial
  | a :: r, h, e => ⟨(e a List.mem_cons_self).trans h.1, lnk.congr h.2 (fun b hb => e b (List.mem_cons_of_mem _ hb))⟩
def inS (ch : Nat → List Nat) (a : Nat) : Prop := ∃ i, i < 1024 ∧ a ∈ ch i
/-- rows by rising keys -/
def srt (rs : List RV) : Prop := rs.Pairwise (fun r s => r.1 < s.1)
def vOK (v : NV) : Prop := v.1 ≤ 5 ∧ v.2.length ≤ 300 ∧ (∀ r ∈ v.2, r.2.1.length ≤ 6) ∧ (v.1 ≠ 0 → v.2 ≠ []) ∧ srt v.2
def rowsI (t : Nat → ClassId) (g : GH) (I : Nat → Prop) (f : Nat → Option Nat) (o : Nat) (rs : List RV) : Prop := ∀ i (h : i < rs.length), ∃ b, f (o + i) = some b ∧ rowI t g I b rs[i]
theorem rowsI.in {t : Nat → ClassId} {g : GH} {I : Nat → Prop} {f : Nat → Option Nat} {o : Nat} {rs : List RV} (h : rowsI t g I f o rs) : rowsIn t g f o rs := fun i hi => (h i hi).elim (fun b q => ⟨b, q.1, q.2.at⟩)
theorem rowsI.keep {t : Nat → ClassId} {g g' : GH} {I I' : Nat → Prop} {f : Nat → Option Nat} {o : Nat} {rs : List RV} (h : rowsI t g I f o rs) (hI : ∀ x, I x → I' x) (hk : ∀ (x : Nat) (e : va_E), I x → gAt g x e → gAt g' x e) : rowsI t g' I' f o rs := fun i hi => (h i hi).elim (fun b q => ⟨b, q.1, q.2.keep hI hk⟩)
/-- what a node's cells are, by its value v, its kids and its mutable part -/
def nodeOK (t : Nat → ClassId) (g : GH) (N : NM) (ks : List Nat) (I : Nat → Prop) (a : Nat) (v : NV) (m : MU) : Prop :=
  ∃ (ra ba nr : Nat) (fr fb : Nat → Option Nat), I ra ∧ I ba ∧ gAt g a (nCell v.1 v.2 ra ba m) ∧ gAt g ra (eRs t nr fr) ∧ gAt g ba (eNs t ks.length fb) ∧ nr ≤ 300 ∧
    (v.1 = 0 → nr = v.2.length ∧ ks = [] ∧ rowsI t g I fr 0 v.2) ∧ (v.1 ≠ 0 → nr = 0) ∧ (∀ i (hi : i < ks.length), fb i = some ks[i]) ∧
    ∀ h, v.1 = h + 1 → ks.length = (runs (h + 1) v.2).length ∧ ∀ i (hi : i < ks.length) (hj : i < (runs (h + 1) v.2).length), N ks[i] = some (h, (runs (h + 1) v.2)[i])
def adOK (v : NV) (m : MU) : Prop := m.2.1 = 0 ∨ (m.2.1 = 1 ∧ m.1 = nad v.1 v.2)
def NI (t : Nat → ClassId) (g : GH) (w : GD) : Prop := ∀ a v, w.1 a = some v → vOK v ∧ ¬ w.2.2.2.1 a ∧ nodeOK t g w.1 (w.2.1 a) w.2.2.2.1 a v (w.2.2.1 a) ∧ adOK v (w.2.2.1 a)
def UQ (w : GD) : Prop := ∀ a b v, (inS w.2.2.2.2.1 a ∨ a ∈ w.2.2.2.2.2) → (inS w.2.2.2.2.1 b ∨ b ∈ w.2.2.2.2.2) → w.1 a = some v → w.1 b = some v → a = b
def CLO (w : GD) : Prop := (∀ a, inS w.2.2.2.2.1 a → ∀ b ∈ w.2.1 a, inS w.2.2.2.2.1 b) ∧ ∀ a ∈ w.2.2.2.2.2, ∀ b ∈ w.2.1 a, inS w.2.2.2.2.1 b ∨ b ∈ w.2.2.2.2.2
def CHN (w : GD) : Prop := ∀ i, i < 1024 → lnk (nxOf w.2.2.1) (w.2.2.2.2.1 i) ∧ (w.2.2.2.2.1 i).Nodup ∧ ∀ a ∈ w.2.2.2.2.1 i, ∃ v, w.1 a = some v ∧ bkt (nprt v.1 v.2) = i
def PND (w : GD) : Prop := lnk (nxOf w.2.2.1) w.2.2.2.2.2 ∧ w.2.2.2.2.2.Nodup ∧ ∀ a ∈ w.2.2.2.2.2, (∃ v, w.1 a = some v) ∧ ¬ inS w.2.2.2.2.1 a
def BKT (t : Nat → ClassId) (g : GH) (bA : Nat) (w : GD) : Prop := ∃ fB, gAt g bA (eNs t 1024 fB) ∧ ∀ i, i < 1024 → fB i = (w.2.2.2.2.1 i).head?
def SW (t : Nat → ClassId) (g : GH) (w : GD) (sA bA : Nat) (nn ss : Int32) : Prop := NI t g w ∧ gAt g sA (eSt bA w.2.2.2.2.2.head? nn ss) ∧ BKT t g bA w ∧ CHN w ∧ PND w ∧ UQ w ∧ CLO w ∧ ¬ w.2.2.2.1 sA ∧ ¬ w.2.2.2.1 bA ∧ ∀ x, w.2.2.2.1 x → x ∈ g.1
theorem nodeOK.keep {t : Nat → ClassId} {g g' : GH} {N N' : NM} {ks : List Nat} {I I' : Nat → Prop} {a : Nat} {v : NV} {m : MU} (h : nodeOK t g N ks I a v m) (hN : ∀ b u, N b = some u → N' b = some u) (hI : ∀ x, I x → I' x) (hk : ∀ (x : Nat) (e : va_E), I x → gAt g x e → gAt g' x e) (ha : ∀ e, gAt g a e → gAt g' a e) : nodeOK t g' N' ks I' a v m := by
  obtain ⟨ra, ba, nr, fr, fb, i1, i2, h1, h2, h3, h4, h5, h6, h7, h8⟩ := h
  exact ⟨ra, ba, nr, fr, fb, hI _ i1, hI _ i2, ha _ h1, hk _ _ i1 h2, hk _ _ i2 h3, h4, fun q => ⟨(h5 q).1, (h5 q).2.1, (h5 q).2.2.keep hI hk⟩, h6, h7, fun k q => ⟨(h8 k q).1, fun i hi hj => hN _ _ ((h8 k q).2 i hi hj)⟩⟩
/-- all that is written is neither among I nor a node -/
theorem NI.keep {t : Nat → ClassId} {g g' : GH} {w : GD} (h : NI t g w) (hk : ∀ (x : Nat) (e : va_E), (w.2.2.2.1 x ∨ ∃ v, w.1 x = some v) → gAt g x e → gAt g' x e) : NI t g' w := by
  intro a v hv
  obtain ⟨h1, h2, h3, h4⟩ := h a v hv
  exact ⟨h1, h2, h3.keep (fun _ _ q => q) (fun _ q => q) (fun x e q => hk x e (Or.inl q)) (fun e q => hk a e (Or.inr ⟨v, hv⟩) q), h4⟩
/-- a node's mutable part is written -/
theorem NI.mut {t : Nat → ClassId} {g g' : GH} {N : NM} {K : Nat → List Nat} {mu : Nat → MU} {I : Nat → Prop} {R : (Nat → List Nat) × List Nat} {a : Nat} {v : NV} {m : MU} (h : NI t g (N, K, mu, I, R)) (ha : N a = some v) (hm : adOK v m) (hk : ∀ (x : Nat) (e : va_E), x ≠ a → (I x ∨ ∃ v, N x = some v) → gAt g x e → gAt g' x e) (hn : ∀ ra ba, gAt g a (nCell v.1 v.2 ra ba (mu a)) → gAt g' a (nCell v.1 v.2 ra ba m)) : NI t g' (N, K, va_up mu a m, I, R) := by
  intro b u hu
  obtain ⟨h1, h2, h3, h4⟩ := h b u hu
  have hIa : ∀ x, I x → x ≠ a := fun x hx q => (h a v ha).2.1 (q ▸ hx)
  have hkI : ∀ (x : Nat) (e : va_E), I x → gAt g x e → gAt g' x e := fun x e q => hk x e (hIa x q) (Or.inl q)
  by_cases hb : b = a
  · subst hb
    have hu2 : N b = some u := hu
    rw [ha] at hu2
    cases hu2
    have em : va_up mu b m b = m := va_up_self _ _ _
    dsimp only at h3 ⊢
    rw [em]
    obtain ⟨ra, ba, nr, fr, fb, i1, i2, q1, q2, q3, q4, q5, q6, q7, q8⟩ := h3
    exact ⟨h1, h2, ⟨ra, ba, nr, fr, fb, i1, i2, hn ra ba q1, hkI _ _ i1 q2, hkI _ _ i2 q3, q4, fun q => ⟨(q5 q).1, (q5 q).2.1, (q5 q).2.2.keep (fun _ z => z) hkI⟩, q6, q7, q8⟩, hm⟩
  · have em : va_up mu a m b = mu b := va_up_ne _ _ hb
    dsimp only at h3 h4 ⊢
    rw [em]
    exact ⟨h1, h2, h3.keep (fun _ _ q => q) (fun _ q => q) hkI (fun e q => hk b e hb (Or.inr ⟨u, hu⟩) q), h4⟩
/-- a new node -/
theorem NI.add {t : Nat → ClassId} {g g' : GH} {N : NM} {K : Nat → List Nat} {mu : Nat → MU} {I I' : Nat → Prop} {R R' : (Nat → List Nat) × List Nat} {a : Nat} {v : NV} {ks : List Nat} {m : MU} (h : NI t g (N, K, mu, I, R)) (ha : N a = none) (hv : vOK v) (hI : ∀ x, I x → I' x) (hIa : ¬ I' a) (hIN : ∀ b u, N b = some u → ¬ I' b) (hm : adOK v m) (hk : ∀ (x : Nat) (e : va_E), (I x ∨ ∃ v, N x = some v) → gAt g x e → gAt g' x e) (hn : nodeOK t g' (va_up N a (some v)) ks I' a v m) : NI t g' (va_up N a (some v), va_up K a ks, va_up mu a m, I', R') := by
  have hN : ∀ b u, N b = some u → va_up N a (some v) b = some u := fun b u hb => by
    rw [va_up_ne _ _ (fun q => by rw [q, ha] at hb; cases hb)]; exact hb
  intro b u hu
  by_cases hb : b = a
  · subst hb
    have hu2 : va_up N b (some v) b = some u := hu
    rw [va_up_self] at hu2
    cases hu2
    dsimp only
    rw [va_up_self (f := K), va_up_self (f := mu)]
    exact ⟨hv, hIa, hn, hm⟩
  · have hu2 : va_up N a (some v) b = some u := hu
    rw [va_up_ne _ _ hb] at hu2
    obtain ⟨h1, h2, h3, h4⟩ := h b u hu2
    dsimp only at h3 h4 ⊢
    rw [va_up_ne (f := K) _ hb, va_up_ne (f := mu) _ hb]
    exact ⟨h1, hIN b u hu2, h3.keep hN hI (fun x e q => hk x e (Or.inl q)) (fun e q => hk b e (Or.inr ⟨u, hu2⟩) q), h4⟩
theorem NI.cell {t : Nat → ClassId} {g : GH} {w : GD} {a : Nat} {v : NV} (h : NI t g w) (hv : w.1 a = some v) : ∃ ra ba, gAt g a (nCell v.1 v.2 ra ba (w.2.2.1 a)) := by
  obtain ⟨-, -, ⟨ra, ba, nr, fr, fb, -, -, h1, -⟩, -⟩ := h a v hv
  exact ⟨ra, ba, h1⟩
/-- a cell of another kind is no node -/
theorem NI.no {t : Nat → ClassId} {g : GH} {w : GD} {x : Nat} {e : va_E} (h : NI t g w) (hx : gAt g x e) (he : ∀ h rs ra ba m, e ≠ nCell h rs ra ba m) : w.1 x = none := by
  cases hc : w.1 x with
  | none => rfl
  | some v =>
    obtain ⟨ra, ba, h1⟩ := h.cell hc
    exact absurd (hx.eq h1) (he _ _ _ _ _)
theorem chain_of {w : GD} (hc : CHN w) {a : Nat} {v : NV} (ha : inS w.2.2.2.2.1 a) (hv : w.1 a = some v) : a ∈ w.2.2.2.2.1 (bkt (nprt v.1 v.2)) := by
  obtain ⟨i, hi, hm⟩ := ha
  obtain ⟨u, hu, hb⟩ := (hc i hi).2.2 a hm
  rw [hv] at hu
  cases hu
  rw [hb]
  exact hm
