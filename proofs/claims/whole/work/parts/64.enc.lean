/-! what the reference's arrays hold of a node's value -/
def wdt (v : NV) : Nat := if v.1 = 0 then (match v.2 with
  | [] => 0
  | r :: _ => r.2.1.length) else 0
def rowE (r : RV) : List Int64 := r.1.toInt64 :: (List.range r.2.1.length).map (cv r)
def cont (V : List NV) (v : NV) : List Int64 := match v.1 with
  | 0 => v.2.flatMap rowE
  | h + 1 => (runs (h + 1) v.2).map (fun q => (nI (V.idxOf (h, q))).toInt64)
def enc (V : List NV) (v : NV) : ME := (v.1, wdt v, cont V v)
def encL (V : List NV) : List ME := V.map (enc V)
def kidsIn (V : List NV) (v : NV) : Prop := ∀ h, v.1 = h + 1 → ∀ q ∈ runs (h + 1) v.2, (h, q) ∈ V
def nvC (v : NV) : Prop := v.1 ≤ 5 ∧ v.2.length ≤ 300 ∧ ∃ w, 1 ≤ w ∧ w ≤ 6 ∧ ∀ r ∈ v.2, r.2.1.length = w ∧ rowC r
def VOK (V : List NV) : Prop := V.Nodup ∧ (∀ v ∈ V, nvC v) ∧ ∀ n (hn : n < V.length), kidsIn (V.take n) V[n]
theorem rowE_len (r : RV) : (rowE r).length = 1 + r.2.1.length := by simp [rowE, Nat.add_comm]
theorem nsz0_flat : ∀ (rs : List RV) (n : Nat), rs.foldl (fun n r => n + (1 + r.2.1.length)) n = n + (rs.flatMap rowE).length
  | [], n => by simp
  | r :: rs, n => by
    rw [List.foldl_cons, nsz0_flat rs, List.flatMap_cons, List.length_append, rowE_len]
    omega
theorem cont_len (V : List NV) (v : NV) : (cont V v).length = nsz v.1 v.2 := by
  obtain ⟨h, rs⟩ := v
  cases h with
  | zero =>
    show (rs.flatMap rowE).length = rs.foldl (fun n r => n + (1 + r.2.1.length)) 0
    rw [nsz0_flat, Nat.zero_add]
  | succ h =>
    show ((runs (h + 1) rs).map _).length = (runs (h + 1) rs).length
    rw [List.length_map]
theorem siz_encL (V : List NV) : siz (encL V) = szL V := by
  unfold siz encL szL
  rw [List.map_map]
  congr 1
  apply List.map_congr_left
  intro v _
  exact cont_len V v
theorem encL_len (V : List NV) : (encL V).length = V.length := by simp [encL]
theorem encL_get (V : List NV) {n : Nat} (h : n < V.length) : (encL V)[n]'(by rw [encL_len]; exact h) = enc V V[n] := by simp [encL]
theorem idxOf_app {V X : List NV} {v : NV} (h : v ∈ V) : (V ++ X).idxOf v = V.idxOf v := by
  rw [List.idxOf_append, if_pos h]
theorem enc_app {V X : List NV} {v : NV} (h : kidsIn V v) : enc (V ++ X) v = enc V v := by
  obtain ⟨k, rs⟩ := v
  cases k with
  | zero => rfl
  | succ k =>
    show (k + 1, wdt (k + 1, rs), (runs (k + 1) rs).map _) = (k + 1, wdt (k + 1, rs), (runs (k + 1) rs).map _)
    congr 2
    apply List.map_congr_left
    intro q hq
    rw [idxOf_app (h k rfl q hq)]
theorem kidsIn.mono {V V' : List NV} {v : NV} (h : kidsIn V v) (hs : ∀ x ∈ V, x ∈ V') : kidsIn V' v := fun k e q hq => hs _ (h k e q hq)
theorem VOK.kids {V : List NV} (h : VOK V) {v : NV} (hv : v ∈ V) : kidsIn V v := by
  obtain ⟨n, hn, e⟩ := List.mem_iff_getElem.mp hv
  rw [← e]
  exact (h.2.2 n hn).mono (fun x hx => List.mem_of_mem_take hx)
theorem encL_app {V X : List NV} (h : VOK V) : encL (V ++ X) = encL V ++ X.map (enc (V ++ X)) := by
  unfold encL
  rw [List.map_append]
  congr 1
  apply List.map_congr_left
  intro v hv
  exact enc_app (h.kids hv)
theorem VOK.app {V : List NV} {v : NV} (h : VOK V) (hn : v ∉ V) (hc : nvC v) (hk : kidsIn V v) : VOK (V ++ [v]) ∧ encL (V ++ [v]) = encL V ++ [enc V v] := by
  refine ⟨⟨?_, fun x hx => ?_, fun n hl => ?_⟩, ?_⟩
  · rw [List.nodup_append]
    refine ⟨h.1, by simp, fun a ha b hb => ?_⟩
    rw [List.mem_singleton.mp hb]
    intro e
    exact hn (e ▸ ha)
  · rcases List.mem_append.mp hx with q | q
    · exact h.2.1 x q
    · rw [List.mem_singleton.mp q]; exact hc
  · rcases Nat.lt_or_ge n V.length with q | q
    · rw [List.getElem_append_left q, List.take_append_of_le_length (by omega)]
      exact h.2.2 n q
    · have en : n = V.length := by rw [List.length_append, List.length_singleton] at hl; omega
      subst en
      rw [List.take_append_of_le_length (Nat.le_refl _), List.take_length]
      rw [List.getElem_append_right (Nat.le_refl _)]
      simpa using hk
  · rw [encL_app h]
    rw [List.map_cons, List.map_nil, enc_app hk]
theorem VOK.cut {V X : List NV} (h : VOK (V ++ X)) : VOK V := by
  refine ⟨(List.nodup_append.mp h.1).1, fun v hv => h.2.1 v (List.mem_append_left _ hv), fun n hn => ?_⟩
  have := h.2.2 n (by rw [List.length_append]; omega)
  rw [List.getElem_append_left hn, List.take_append_of_le_length (by omega)] at this
  exact this
theorem rowE_inj {r r' : RV} (h : rowC r) (h' : rowC r') (hl : r.2.1.length = r'.2.1.length) (hw : r.2.1.length ≤ 6) (e : rowE r = rowE r') : r = r' := by
  unfold rowE at e
  obtain ⟨e1, e2⟩ := List.cons.inj e
  refine rowC_ext h h' (toInt64_inj e1) hl hw (fun c hc => ?_)
  have := congrArg (fun L => L[c]?) e2
  simp only [List.getElem?_map] at this
  rw [List.getElem?_range hc, List.getElem?_range (by omega)] at this
  simpa using this
theorem flat_inj {w : Nat} (hw : w ≤ 6) : ∀ (rs rs' : List RV), (∀ r ∈ rs, r.2.1.length = w ∧ rowC r) → (∀ r ∈ rs', r.2.1.length = w ∧ rowC r) → rs.flatMap rowE = rs'.flatMap rowE → rs = rs'
  | [], [], _, _, _ => rfl
  | [], r :: rs, _, _, e => by simp [rowE] at e
  | r :: rs, [], _, _, e => by simp [rowE] at e
  | r :: rs, r' :: rs', h, h', e => by
    rw [List.flatMap_cons, List.flatMap_cons] at e
    have a := h r (by simp)
    have b := h' r' (by simp)
    obtain ⟨e1, e2⟩ := List.append_inj e (by rw [rowE_len, rowE_len, a.1, b.1])
    rw [rowE_inj a.2 b.2 (by rw [a.1, b.1]) (by omega) e1, flat_inj hw rs rs' (fun x hx => h x (by simp [hx])) (fun x hx => h' x (by simp [hx])) e2]
theorem nI_toInt64_inj {a b : Nat} (ha : a < 2 ^ 31) (hb : b < 2 ^ 31) (h : (nI a).toInt64 = (nI b).toInt64) : a = b := nI_inj ha hb (toInt64_inj h)
theorem idx_inj {V : List NV} {x y : NV} (hx : x ∈ V) (hy : y ∈ V) (h : V.idxOf x = V.idxOf y) : x = y := by
  have h1 := List.getElem_idxOf (List.idxOf_lt_length_iff.mpr hx)
  have h2 := List.getElem_idxOf (List.idxOf_lt_length_iff.mpr hy)
  rw [← h1, ← h2]
  simp only [h]
theorem map_inj_on {α β : Type} {f : α → β} : ∀ (L L' : List α), (∀ x ∈ L, ∀ y ∈ L', f x = f y → x = y) → L.map f = L'.map f → L = L'
  | [], [], _, _ => rfl
  | [], y :: L', _, e => by cases e
  | x :: L, [], _, e => by cases e
  | x :: L, y :: L', h, e => by
    rw [List.map_cons, List.map_cons] at e
    obtain ⟨e1, e2⟩ := List.cons.inj e
    rw [h x (by simp) y (by simp) e1, map_inj_on L L' (fun a ha b hb => h a (by simp [ha]) b (by simp [hb])) e2]
theorem enc_inj {V : List NV} (hl : V.length < 2 ^ 31) {v v' : NV} (h : nvC v) (h' : nvC v') (k : kidsIn V v) (k' : kidsIn V v') (e : enc V v = enc V v') : v = v' := by
  obtain ⟨a, rs⟩ := v
  obtain ⟨a', rs'⟩ := v'
  unfold enc at e
  obtain ⟨e1, e2⟩ := Prod.mk.inj e
  obtain ⟨e2, e3⟩ := Prod.mk.inj e2
  dsimp only at e1
  subst e1
  cases a with
  | zero =>
    obtain ⟨-, -, w, w1, w6, hw⟩ := h
    obtain ⟨-, -, w', w1', w6', hw'⟩ := h'
    dsimp only at hw hw'
    have e4 : rs.flatMap rowE = rs'.flatMap rowE := e3
    rcases rs with _ | ⟨r, rs⟩
    · rcases rs' with _ | ⟨r', rs'⟩
      · rfl
      · simp [rowE] at e4
    · rcases rs' with _ | ⟨r', rs'⟩
      · simp [rowE] at e4
      · have e5 : r.2.1.length = r'.2.1.length := e2
        have ew : w = w' := by rw [← (hw r (by simp)).1, ← (hw' r' (by simp)).1, e5]
        subst ew
        rw [flat_inj w6 _ _ hw hw' e4]
  | succ a =>
    have e4 : (runs (a + 1) rs).map (fun q => (nI (V.idxOf (a, q))).toInt64) = (runs (a + 1) rs').map (fun q => (nI (V.idxOf (a, q))).toInt64) := e3
    have e5 := map_inj_on _ _ (fun x hx y hy q => by
      have hx1 := k a rfl x hx
      have hy1 := k' a rfl y hy
      have l1 := List.idxOf_lt_length_iff.mpr hx1
      have l2 := List.idxOf_lt_length_iff.mpr hy1
      have := idx_inj hx1 hy1 (nI_toInt64_inj (by omega) (by omega) q)
      exact (Prod.mk.inj this).2) e4
    have e6 := congrArg List.flatten e5
    rw [runs, runs, runsP_flat, runsP_flat] at e6
    rw [e6]
theorem enc_mem {V : List NV} (hV : VOK V) (hl : V.length < 2 ^ 31) {v : NV} (h : nvC v) (k : kidsIn V v) : enc V v ∈ encL V ↔ v ∈ V := by
  constructor
  · intro q
    obtain ⟨x, hx, e⟩ := List.mem_map.mp q
    rw [enc_inj hl h (hV.2.1 x hx) k (hV.kids hx) e.symm]
    exact hx
  · intro q
    exact List.mem_map.mpr ⟨v, q, rfl⟩
theorem enc_at {V : List NV} (hV : VOK V) (hl : V.length < 2 ^ 31) {v : NV} (h : nvC v) (k : kidsIn V v) {n : Nat} (hn : n < (encL V).length) (e : (encL V)[n] = enc V v) : n = V.idxOf v ∧ v ∈ V := by
  have hn2 : n < V.length := by rw [encL_len] at hn; exact hn
  rw [encL_get V hn2] at e
  have ev := enc_inj hl h (hV.2.1 _ (List.getElem_mem hn2)) k (hV.kids (List.getElem_mem hn2)) e.symm
  subst ev
  exact ⟨(hV.1.idxOf_getElem n hn2).symm, List.getElem_mem hn2⟩
theorem enc_ok {V : List NV} {v : NV} (h : nvC v) : eOK (enc V v) := by
  obtain ⟨h1, h2, w, w1, w6, hw⟩ := id h
  refine ⟨h1, ?_, ?_⟩
  · show wdt v ≤ 6
    unfold wdt
    split
    · split
      · omega
      · next r rest e =>
        rw [(hw r (by rw [e]; simp)).1]; exact w6
    · omega
  · show (cont V v).length ≤ 2100
    rw [cont_len]
    obtain ⟨a, rs⟩ := v
    cases a with
    | zero =>
      show rs.foldl (fun n r => n + (1 + r.2.1.length)) 0 ≤ 2100
      have : ∀ (L : List RV) (n : Nat), (∀ r ∈ L, r.2.1.length = w ∧ rowC r) → L.foldl (fun n r => n + (1 + r.2.1.length)) n = n + L.length * (1 + w) := by
        intro L
        induction L with
        | nil => intro n _; simp
        | cons r L ih =>
          intro n hL
          rw [List.foldl_cons, ih _ (fun x hx => hL x (by simp [hx])), (hL r (by simp)).1, List.length_cons, Nat.add_mul]
          omega
      rw [this rs 0 hw]
      have h3 : rs.length * (1 + w) ≤ 300 * 7 := Nat.mul_le_mul h2 (by omega)
      omega
    | succ a =>
      show (runs (a + 1) rs).length ≤ 2100
      have := runs_len_le (a + 1) rs
      dsimp only at h2
      omega
