/-! the reference's store: its nodes as they lie in the arrays (height, width, contents) -/
abbrev ME : Type := Nat × Nat × List Int64
def hsI (e : ME) : Int32 := hsh (nI e.1) (nI e.2.1) (fun k => e.2.2.getD k 0) e.2.2.length
def hsN (e : ME) : Nat := (hsI e).toBitVec.toNat
theorem hsN_nI (e : ME) : hsI e = nI (hsN e) := by
  apply Int32.toBitVec_inj.mp
  apply BitVec.eq_of_toNat_eq
  unfold hsN
  rw [pk_tn (hsI e).toBitVec.isLt]
theorem hsN_lt (e : ME) : hsN e < 4096 := by
  obtain ⟨b, hb, he⟩ := hsh_lt (nI e.1) (nI e.2.1) (fun k => e.2.2.getD k 0) e.2.2.length
  have h1 : hsN e = (nI b).toBitVec.toNat := by
    unfold hsN hsI
    rw [he]
  rw [h1, pk_tn (by omega)]
  exact hb
def lastB (L : List ME) (b : Nat) : Nat → Nat
  | 0 => 0
  | n + 1 => if L[n]?.map hsN = some b then n + 1 else lastB L b n
theorem lastB_le (L : List ME) (b : Nat) : ∀ n, lastB L b n ≤ n
  | 0 => Nat.le_refl _
  | n + 1 => by
    rw [lastB]
    split
    · exact Nat.le_refl _
    · have := lastB_le L b n; omega
theorem lastB_hit {L : List ME} {b m : Nat} : ∀ {n}, lastB L b n = m + 1 → m < n ∧ ∃ hm : m < L.length, hsN L[m] = b
  | 0, h => by cases h
  | n + 1, h => by
    rw [lastB] at h
    split at h
    · next z =>
      have e : m = n := by omega
      subst e
      rcases Nat.lt_or_ge m L.length with q | q
      · rw [List.getElem?_eq_getElem q] at z
        exact ⟨by omega, q, by simpa using z⟩
      · rw [List.getElem?_eq_none q] at z
        cases z
    · have := lastB_hit h
      exact ⟨by omega, this.2⟩
theorem lastB_out {L : List ME} {b i : Nat} (hi : i < L.length) : ∀ {n}, lastB L b n ≤ i → i < n → hsN L[i] ≠ b
  | 0, _, h => by omega
  | n + 1, h, h2 => by
    rw [lastB] at h
    split at h
    · omega
    · next z =>
      by_cases q : i = n
      · subst q
        intro w
        apply z
        rw [List.getElem?_eq_getElem hi]
        simp [w]
      · exact lastB_out hi h (by omega)
theorem lastB_app {L X : List ME} {b : Nat} : ∀ {n}, n ≤ L.length → lastB (L ++ X) b n = lastB L b n
  | 0, _ => rfl
  | n + 1, h => by
    rw [lastB, lastB, lastB_app (by omega), List.getElem?_append_left (by omega)]
def siz (L : List ME) : Nat := (L.map (fun e => e.2.2.length)).sum
theorem siz_app (L X : List ME) : siz (L ++ X) = siz L + siz X := by simp [siz]
theorem siz_one (e : ME) : siz [e] = e.2.2.length := by simp [siz]
theorem siz_take {L : List ME} {n : Nat} (h : n < L.length) : siz (L.take n) + L[n].2.2.length ≤ siz L := by
  have e : L = L.take n ++ (L[n] :: L.drop (n + 1)) := by
    rw [← List.drop_eq_getElem_cons h, List.take_append_drop]
  have e2 : siz L = siz (L.take n) + siz (L[n] :: L.drop (n + 1)) := by
    rw [← siz_app, ← e]
  rw [e2]
  have : siz (L[n] :: L.drop (n + 1)) = L[n].2.2.length + siz (L.drop (n + 1)) := by unfold siz; rw [List.map_cons, List.sum_cons]
  omega
def eOK (e : ME) : Prop := e.1 ≤ 5 ∧ e.2.1 ≤ 6 ∧ e.2.2.length ≤ 2100
def RSa (L : List ME) (fh fb fl fw fc : Nat → Int32) (fp : Nat → Int64) (fB : Nat → Int32) : Prop :=
  (∀ n (h : n < L.length), fh n = nI L[n].1 ∧ fb n = nI (siz (L.take n)) ∧ fl n = nI L[n].2.2.length ∧ fw n = nI L[n].2.1 ∧ fc n = nI (lastB L (hsN L[n]) n) - 1 ∧ ∀ k (hk : k < L[n].2.2.length), fp (siz (L.take n) + k) = L[n].2.2[k]) ∧ ∀ b, b < 4096 → fB b = nI (lastB L b L.length)
def RS (t : Nat → ClassId) (g : GH) (u : Nat → Nat) (L : List ME) : Prop :=
  (∃ fh fb fl fw fc fp fB, gAt g (u 9) (eI t 60000 fh) ∧ gAt g (u 10) (eI t 60000 fb) ∧ gAt g (u 11) (eI t 60000 fl) ∧ gAt g (u 12) (eI t 60000 fw) ∧ gAt g (u 13) (eI t 60000 fc) ∧ gAt g (u 14) (eL t 60000 fp) ∧ gAt g (u 15) (eI t 4096 fB) ∧ RSa L fh fb fl fw fc fp fB) ∧ L.length ≤ 60000 ∧ siz L ≤ 60000 ∧ ∀ e ∈ L, eOK e
theorem cpy_at {α : Type} {f g : Nat → α} {j m k : Nat} (h : k < m) : va_cpy f g 0 j m (j + k) = f k := by
  unfold va_cpy
  rw [if_pos ⟨by omega, by omega⟩]
  congr 1
  omega
theorem cpy_from {α : Type} {f g : Nat → α} {i m k : Nat} (h : k < m) : va_cpy f g i 0 m k = f (i + k) := by
  unfold va_cpy
  rw [if_pos ⟨by omega, by omega⟩]
  congr 1
theorem cpy_lo {α : Type} {f g : Nat → α} {j m k : Nat} (h : k < j) : va_cpy f g 0 j m k = g k := by
  unfold va_cpy
  rw [if_neg (by omega)]
theorem RSa.app {L : List ME} {fh fb fl fw fc : Nat → Int32} {fp : Nat → Int64} {fB : Nat → Int32} (h : RSa L fh fb fl fw fc fp fB) (e : ME) (fm : Nat → Int64) (hm : ∀ k (hk : k < e.2.2.length), fm k = e.2.2[k]) : RSa (L ++ [e]) (upd fh L.length (nI e.1)) (upd fb L.length (nI (siz L))) (upd fl L.length (nI e.2.2.length)) (upd fw L.length (nI e.2.1)) (upd fc L.length (fB (hsN e) - 1)) (va_cpy fm fp 0 (siz L) e.2.2.length) (upd fB (hsN e) (nI (L.length + 1))) := by
  refine ⟨fun n hn => ?_, fun b hb => ?_⟩
  · rcases Nat.lt_or_ge n L.length with q | q
    · have eg : (L ++ [e])[n] = L[n] := List.getElem_append_left q
      have et : (L ++ [e]).take n = L.take n := List.take_append_of_le_length (by omega)
      obtain ⟨a1, a2, a3, a4, a5, a6⟩ := h.1 n q
      rw [et, pk_un (by omega), pk_un (by omega), pk_un (by omega), pk_un (by omega), pk_un (by omega)]
      simp only [eg]
      refine ⟨a1, a2, a3, a4, by rw [lastB_app (by omega)]; exact a5, fun k hk => ?_⟩
      have := siz_take q
      rw [cpy_lo (by omega)]
      exact a6 k hk
    · have en : n = L.length := by rw [List.length_append, List.length_singleton] at hn; omega
      subst en
      have eg : (L ++ [e])[L.length] = e := by simp
      have et : (L ++ [e]).take L.length = L := by simp
      rw [et, pk_us, pk_us, pk_us, pk_us, pk_us]
      simp only [eg]
      refine ⟨trivial, trivial, trivial, trivial, by rw [lastB_app (Nat.le_refl _), h.2 _ (hsN_lt e)], fun k hk => ?_⟩
      rw [cpy_at hk]
      exact hm k hk
  · rw [List.length_append, List.length_singleton, lastB, lastB_app (Nat.le_refl _)]
    have eg : (L ++ [e])[L.length]? = some e := by simp
    rw [eg]
    by_cases z : b = hsN e
    · subst z
      rw [pk_us, if_pos (by rfl)]
    · rw [pk_un (by omega), if_neg (fun q => z (by simpa using q.symm)), h.2 b hb]
theorem RSa.cut {L : List ME} {e : ME} {fh fb fl fw fc : Nat → Int32} {fp : Nat → Int64} {fB : Nat → Int32} (h : RSa (L ++ [e]) fh fb fl fw fc fp fB) : RSa L fh fb fl fw fc fp (upd fB (hsN e) (fc L.length + 1)) := by
  have eL : (L ++ [e])[L.length]'(by simp) = e := by simp
  refine ⟨fun n q => ?_, fun b hb => ?_⟩
  · have eg : (L ++ [e])[n]'(by simp; omega) = L[n] := List.getElem_append_left q
    have et : (L ++ [e]).take n = L.take n := List.take_append_of_le_length (by omega)
    obtain ⟨a1, a2, a3, a4, a5, a6⟩ := h.1 n (by simp; omega)
    rw [et] at a2 a6
    simp only [eg] at a1 a2 a3 a4 a5 a6
    rw [lastB_app (by omega)] at a5
    exact ⟨a1, a2, a3, a4, a5, a6⟩
  · have h1 := h.2 b hb
    rw [List.length_append, List.length_singleton, lastB, lastB_app (Nat.le_refl _)] at h1
    have eg : (L ++ [e])[L.length]? = some e := by simp
    rw [eg] at h1
    by_cases z : b = hsN e
    · subst z
      obtain ⟨a1, a2, a3, a4, a5, a6⟩ := h.1 L.length (by simp)
      simp only [eL] at a5
      rw [lastB_app (Nat.le_refl _)] at a5
      rw [pk_us, a5]
      exact Int32.sub_add_cancel _ _
    · rw [pk_un (by omega), h1, if_neg (fun q => z (by simpa using q.symm))]
theorem RSa.nil (fh fb fl fw fc : Nat → Int32) (fp : Nat → Int64) {fB : Nat → Int32} (h : ∀ j, j < 4096 → fB j = 0) : RSa [] fh fb fl fw fc fp fB := ⟨fun n hn => absurd hn (Nat.not_lt_zero _), fun b hb => h b hb⟩
/-- the cells of the store -/
def sU : List Nat := [9, 10, 11, 12, 13, 14, 15, 19]
theorem RS.keep {t : Nat → ClassId} {g g' : GH} {u : Nat → Nat} {L : List ME} (h : RS t g u L) (hk : ∀ i e, 9 ≤ i → i ≤ 15 → gAt g (u i) e → gAt g' (u i) e) : RS t g' u L := by
  obtain ⟨⟨fh, fb, fl, fw, fc, fp, fB, a1, a2, a3, a4, a5, a6, a7, a8⟩, r⟩ := h
  exact ⟨⟨fh, fb, fl, fw, fc, fp, fB, hk _ _ (by omega) (by omega) a1, hk _ _ (by omega) (by omega) a2, hk _ _ (by omega) (by omega) a3, hk _ _ (by omega) (by omega) a4, hk _ _ (by omega) (by omega) a5, hk _ _ (by omega) (by omega) a6, hk _ _ (by omega) (by omega) a7, a8⟩, r⟩
