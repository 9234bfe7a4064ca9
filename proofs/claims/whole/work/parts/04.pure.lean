/-! Numbers and lists: levels, prints, runs. A row is (key, cells, bits of the cells that are NULL); a node is (height, rows). -/
abbrev RV : Type := Int32 × List Int32 × Int32
def mixA (k : Int32) : Int32 := (k * (-1640531535)) ^^^ ush (k * (-1640531535)) 15
def mixB (x : Int32) : Int32 := (x * (-2048144777)) ^^^ ush (x * (-2048144777)) 13
def lvG : Nat → Int32 → Nat
  | 0, _ => 0
  | n + 1, x => if x &&& 3 = 0 then lvG n (ush x 2) + 1 else 0
def lvl (k : Int32) : Nat := lvG 5 (mixB (mixA k))
theorem lvG_le : ∀ (n : Nat) (x : Int32), lvG n x ≤ n
  | 0, _ => Nat.le_refl _
  | n + 1, x => by
    unfold lvG
    split
    · exact Nat.succ_le_succ (lvG_le n _)
    · exact Nat.zero_le _
theorem lvl_le (k : Int32) : lvl k ≤ 5 := lvG_le 5 _
def prt (r : RV) : Int32 := r.2.1.foldl (fun m c => m * 31 + c) (r.1 * 31 + r.2.2)
/-- runs of a list, each of which ends with one that p holds of, or with the last -/
def runsP {α : Type} (p : α → Bool) : List α → List (List α)
  | [] => []
  | r :: rs => if p r then [r] :: runsP p rs else match runsP p rs with
    | [] => [[r]]
    | q :: qs => (r :: q) :: qs
theorem runsP_flat {α : Type} (p : α → Bool) : ∀ rs : List α, (runsP p rs).flatten = rs
  | [] => rfl
  | r :: rs => by
    have ih := runsP_flat p rs
    unfold runsP
    split
    · simp [ih]
    · split
      · next h => rw [h] at ih; simp at ih; subst ih; rfl
      · next q qs h => rw [h] at ih; simp at ih; simp [ih]
theorem runsP_ne {α : Type} (p : α → Bool) : ∀ (rs : List α) (q : List α), q ∈ runsP p rs → q ≠ []
  | [], q, h => by cases h
  | r :: rs, q, h => by
    have ih := runsP_ne p rs
    unfold runsP at h
    split at h
    · rcases List.mem_cons.mp h with h | h
      · subst h; simp
      · exact ih q h
    · split at h
      · rw [List.mem_singleton.mp h]; simp
      · next a as e =>
        rcases List.mem_cons.mp h with h | h
        · subst h; simp
        · exact ih q (by rw [e]; exact List.mem_cons_of_mem _ h)
theorem runsP_nil {α : Type} (p : α → Bool) {rs : List α} (h : runsP p rs = []) : rs = [] := by
  have := runsP_flat p rs
  rw [h] at this
  exact this.symm
/-- a stretch where p holds of none, and one of which p holds behind it -/
theorem runsP_low {α : Type} (p : α → Bool) (r : α) (rest : List α) (hr : p r = true) : ∀ xs : List α, (∀ x ∈ xs, p x = false) → runsP p (xs ++ r :: rest) = (xs ++ [r]) :: runsP p rest
  | [], _ => by simp [runsP, hr]
  | x :: xs, h => by
    have ih := runsP_low p r rest hr xs (fun y hy => h y (List.mem_cons_of_mem _ hy))
    have hx := h x List.mem_cons_self
    rw [List.cons_append, runsP, hx, ih]
    simp
theorem runsP_end {α : Type} (p : α → Bool) (r : α) : ∀ xs : List α, (∀ x ∈ xs, p x = false) → runsP p (xs ++ [r]) = [xs ++ [r]]
  | [], _ => by
    cases hr : p r <;> simp [runsP, hr]
  | x :: xs, h => by
    have ih := runsP_end p r xs (fun y hy => h y (List.mem_cons_of_mem _ hy))
    have hx := h x List.mem_cons_self
    rw [List.cons_append, runsP, hx, ih]
    simp
/-- the same by places: what a loop sees that goes through a list with a mark behind the last end -/
theorem runsP_step {α : Type} (p : α → Bool) (rs : List α) (f i : Nat) (hf : f ≤ i) (hi : i < rs.length) (low : ∀ j (hj : j < rs.length), f ≤ j → j < i → p rs[j] = false) (hb : p rs[i] = true ∨ i + 1 = rs.length) :
    runsP p (rs.drop f) = (rs.drop f).take (i + 1 - f) :: runsP p (rs.drop (i + 1)) := by
  have e1 : rs.drop f = (rs.drop f).take (i - f) ++ rs[i] :: rs.drop (i + 1) := by
    have h1 : rs.drop f = (rs.drop f).take (i - f) ++ (rs.drop f).drop (i - f) := (List.take_append_drop _ _).symm
    rw [List.drop_drop, show f + (i - f) = i by omega, List.drop_eq_getElem_cons hi] at h1
    exact h1
  have e2 : (rs.drop f).take (i + 1 - f) = (rs.drop f).take (i - f) ++ [rs[i]] := by
    rw [show i + 1 - f = (i - f) + 1 by omega, List.take_succ, List.getElem?_drop, show f + (i - f) = i by omega, List.getElem?_eq_getElem hi]
    rfl
  have hl : ∀ x ∈ (rs.drop f).take (i - f), p x = false := by
    intro x hx
    obtain ⟨j, hj, rfl⟩ := List.getElem_of_mem hx
    have hj2 : j < i - f := by
      have := hj
      rw [List.length_take] at this
      omega
    rw [List.getElem_take, List.getElem_drop]
    exact low (f + j) (by omega) (by omega) (by omega)
  rw [e2]
  conv => lhs; rw [e1]
  rcases hb with hb | hb
  · exact runsP_low p _ _ hb _ hl
  · have : rs.drop (i + 1) = [] := List.drop_eq_nil_of_le (by omega)
    rw [this]
    exact runsP_end p _ _ hl
def lastP {α : Type} (p : α → Bool) (q : List α) : Bool := match q.getLast? with
  | some r => p r
  | none => false
theorem lastP_cons {α : Type} (p : α → Bool) (r : α) {q : List α} (h : q ≠ []) : lastP p (r :: q) = lastP p q := by
  cases q with
  | nil => exact absurd rfl h
  | cons a as => simp [lastP, List.getLast?_cons_cons]
/-- runs of runs: by a p2 that holds of fewer, the runs of the runs by p1 are the runs by p2 -/
theorem runsP_runs {α : Type} (p1 p2 : α → Bool) (h12 : ∀ r, p2 r = true → p1 r = true) : ∀ rs : List α, (runsP (lastP p2) (runsP p1 rs)).map List.flatten = runsP p2 rs
  | [] => rfl
  | r :: rs => by
    have ih := runsP_runs p1 p2 h12 rs
    cases h1 : p1 r with
    | true =>
      have e1 : runsP p1 (r :: rs) = [r] :: runsP p1 rs := by simp [runsP, h1]
      rw [e1]
      cases h2 : p2 r with
      | true => simp [runsP, lastP, h2, ih]
      | false =>
        have e2 : lastP p2 [r] = false := by simp [lastP, h2]
        rw [runsP, e2]
        rw [show runsP p2 (r :: rs) = (match runsP p2 rs with | [] => [[r]] | q :: qs => (r :: q) :: qs) by simp [runsP, h2]]
        rw [← ih]
        cases runsP (lastP p2) (runsP p1 rs) <;> simp
    | false =>
      have h2 : p2 r = false := by
        cases h : p2 r with
        | false => rfl
        | true => rw [h12 r h] at h1; exact absurd h1 (by simp)
      cases e : runsP p1 rs with
      | nil =>
        have := runsP_nil p1 e
        subst this
        simp [runsP, h1, h2, lastP]
      | cons q qs =>
        have e1 : runsP p1 (r :: rs) = (r :: q) :: qs := by simp [runsP, h1, e]
        rw [e1]
        have hq : q ≠ [] := runsP_ne p1 rs q (by rw [e]; exact List.mem_cons_self)
        rw [e] at ih
        rw [show runsP p2 (r :: rs) = (match runsP p2 rs with | [] => [[r]] | q :: qs => (r :: q) :: qs) by simp [runsP, h2]]
        rw [← ih]
        rw [runsP, runsP, lastP_cons p2 r hq]
        cases lastP p2 q with
        | true => simp
        | false =>
          cases runsP (lastP p2) qs <;> simp
/-- each run of runs is what the runs of its rows are -/
theorem runsP_in {α : Type} (p1 p2 : α → Bool) (h12 : ∀ r, p2 r = true → p1 r = true) : ∀ (rs : List α) (G : List (List α)), G ∈ runsP (lastP p2) (runsP p1 rs) → runsP p1 G.flatten = G
  | [], G, h => by cases h
  | r :: rs, G, h => by
    have ih := runsP_in p1 p2 h12 rs
    cases h1 : p1 r with
    | true =>
      have e1 : runsP p1 (r :: rs) = [r] :: runsP p1 rs := by simp [runsP, h1]
      rw [e1] at h
      cases h2 : p2 r with
      | true =>
        have e2 : lastP p2 [r] = true := by simp [lastP, h2]
        rw [runsP, e2] at h
        simp only [if_true] at h
        rcases List.mem_cons.mp h with h | h
        · subst h; simp [runsP, h1]
        · exact ih G h
      | false =>
        have e2 : lastP p2 [r] = false := by simp [lastP, h2]
        rw [runsP, e2] at h
        simp only [Bool.false_eq_true, if_false] at h
        cases e : runsP (lastP p2) (runsP p1 rs) with
        | nil =>
          rw [e] at h
          rw [List.mem_singleton.mp h]
          simp [runsP, h1]
        | cons q qs =>
          rw [e] at h
          rcases List.mem_cons.mp h with h | h
          · subst h
            have := ih q (by rw [e]; exact List.mem_cons_self)
            simp [runsP, h1, this]
          · exact ih G (by rw [e]; exact List.mem_cons_of_mem _ h)
    | false =>
      have h2 : p2 r = false := by
        cases h : p2 r with
        | false => rfl
        | true => rw [h12 r h] at h1; exact absurd h1 (by simp)
      cases e : runsP p1 rs with
      | nil =>
        have := runsP_nil p1 e
        subst this
        simp [runsP, h1, lastP, h2] at h
        subst h
        simp [runsP, h1]
      | cons q qs =>
        have e1 : runsP p1 (r :: rs) = (r :: q) :: qs := by simp [runsP, h1, e]
        rw [e1] at h
        have hq : q ≠ [] := runsP_ne p1 rs q (by rw [e]; exact List.mem_cons_self)
        rw [e] at ih
        rw [runsP, lastP_cons p2 r hq] at h
        rw [runsP] at ih
        cases hl : lastP p2 q with
        | true =>
          rw [hl] at h ih
          simp only [if_true] at h ih
          rcases List.mem_cons.mp h with h | h
          · subst h
            have := ih [q] List.mem_cons_self
            simp at this
            simp [runsP, h1, this]
          · exact ih G (List.mem_cons_of_mem _ h)
        | false =>
          rw [hl] at h ih
          simp only [Bool.false_eq_true, if_false] at h ih
          cases e3 : runsP (lastP p2) qs with
          | nil =>
            rw [e3] at h ih
            rw [List.mem_singleton.mp h]
            have := ih [q] List.mem_cons_self
            simp at this
            simp [runsP, h1, this]
          | cons a as =>
            rw [e3] at h ih
            rcases List.mem_cons.mp h with h | h
            · subst h
              have := ih (q :: a) List.mem_cons_self
              simp at this
              simp [runsP, h1, this]
            · exact ih G (List.mem_cons_of_mem _ h)
def lvB (t : Nat) (r : RV) : Bool := decide (t ≤ lvl r.1)
/-- the runs that end with a row of level t or above, or with the last -/
def runs (t : Nat) (rs : List RV) : List (List RV) := runsP (lvB t) rs
theorem lvB_mono {t : Nat} (r : RV) (h : lvB (t + 1) r = true) : lvB t r = true := by
  simp only [lvB, decide_eq_true_eq] at h ⊢
  omega
/-- a node's print, size, address: by its height and rows -/
def nprt : Nat → List RV → Int32
  | 0, rs => rs.foldl (fun p r => p * 31 + prt r) 0
  | h + 1, rs => (runs (h + 1) rs).foldl (fun p q => p * 31 + nprt h q) (nI (h + 1))
def nsz : Nat → List RV → Nat
  | 0, rs => rs.foldl (fun n r => n + (1 + r.2.1.length)) 0
  | h + 1, rs => (runs (h + 1) rs).length
/-- is the cell of column i NULL -/
def bitN (m : Int32) (i : Nat) : Bool := decide (¬ (ush m (nI i) &&& 1) = 0)
def adM (h x : Int64) : Int64 := (h ^^^ x) * 1099511628211
def rad (h : Int64) (r : RV) : Int64 := (r.2.1.zipIdx).foldl (fun h c => if bitN r.2.2 c.2 then adM h 0 else adM (adM h 1) c.1.toInt64) (adM h r.1.toInt64)
def nad : Nat → List RV → Int64
  | 0, rs => rs.foldl rad (adM 1469598103934665603 0)
  | h + 1, rs => (runs (h + 1) rs).foldl (fun a q => adM a (nad h q)) (adM 1469598103934665603 (nI (h + 1)).toInt64)
def lastK (rs : List RV) : Int32 := match rs.getLast? with
  | some r => r.1
  | none => 0
def lastL (rs : List RV) : Nat := match rs.getLast? with
  | some r => lvl r.1
  | none => 0
