/-! the reference's constructor -/
def IP (g : GH) (T : Nat) (fs : List Value) (L : List (Nat × va_E)) : Prop := gAt g T (.inr (6, fs)) ∧ (∀ p ∈ L, gAt g p.1 p.2) ∧ (T :: L.map Prod.fst).Nodup
theorem IP.new {g : GH} {T q : Nat} {fs : List Value} {L : List (Nat × va_E)} {e : va_E} (h : IP g T fs L) (hq : q ∉ g.1) : IP (gNew g q e) T fs ((q, e) :: L) := by
  obtain ⟨h1, h2, h3⟩ := h
  refine ⟨gNew_old h1 hq, fun p hp => ?_, ?_⟩
  · rcases List.mem_cons.mp hp with z | z
    · rw [z]; exact gNew_self
    · exact gNew_old (h2 p z) hq
  · rw [List.nodup_cons] at h3
    rw [List.map_cons, List.nodup_cons, List.nodup_cons]
    refine ⟨fun z => ?_, fun z => ?_, h3.2⟩
    · rcases List.mem_cons.mp z with y | y
      · have y2 : T = q := y
        exact hq (y2 ▸ h1.1)
      · exact h3.1 y
    · obtain ⟨p, hp, e⟩ := List.mem_map.mp z
      have hp1 : p.1 = q := e
      exact hq (hp1 ▸ (h2 p hp).1)
theorem IP.put {g : GH} {T : Nat} {fs fs' : List Value} {L : List (Nat × va_E)} (h : IP g T fs L) : IP (gUp g T (.inr (6, fs'))) T fs' L := by
  obtain ⟨h1, h2, h3⟩ := h
  refine ⟨gUp_self h1, fun p hp => gUp_ne (h2 p hp) (fun z => ?_), h3⟩
  rw [List.nodup_cons] at h3
  exact h3.1 (z ▸ List.mem_map.mpr ⟨p, hp, rfl⟩)
theorem IP.multi {g g1 : GH} {T q : Nat} {fs : List Value} {L : List (Nat × va_E)} {e0 e1 : va_E} (h : IP g T fs L) (hq : ∀ b, q ≤ b → b ∉ g.1) (h1 : gAt g1 q e0) (h2 : ∀ b, b < 6 → gAt g1 (q + 1 + b) e1) (h3 : ∀ b e, gAt g b e → gAt g1 b e) : IP g1 T fs ((q, e0) :: (q + 1 + 0, e1) :: (q + 1 + 1, e1) :: (q + 1 + 2, e1) :: (q + 1 + 3, e1) :: (q + 1 + 4, e1) :: (q + 1 + 5, e1) :: L) := by
  obtain ⟨a1, a2, a3⟩ := h
  rw [List.nodup_cons] at a3
  have hT : ∀ b, q ≤ b → T ≠ b := fun b hb e => hq b hb (e ▸ a1.1)
  have hL : ∀ b, q ≤ b → b ∉ L.map Prod.fst := fun b hb z => by
    obtain ⟨p, hp, e⟩ := List.mem_map.mp z
    have hp1 : p.1 = b := e
    exact hq b hb (hp1 ▸ (a2 p hp).1)
  refine ⟨h3 _ _ a1, fun p hp => ?_, ?_⟩
  · simp only [List.mem_cons] at hp
    rcases hp with z | z | z | z | z | z | z | z
    · rw [z]; exact h1
    · rw [z]; exact h2 0 (by omega)
    · rw [z]; exact h2 1 (by omega)
    · rw [z]; exact h2 2 (by omega)
    · rw [z]; exact h2 3 (by omega)
    · rw [z]; exact h2 4 (by omega)
    · rw [z]; exact h2 5 (by omega)
    · exact h3 _ _ (a2 p z)
  · simp only [List.map_cons, List.nodup_cons, List.mem_cons, not_or]
    exact ⟨⟨hT _ (by omega), hT _ (by omega), hT _ (by omega), hT _ (by omega), hT _ (by omega), hT _ (by omega), hT _ (by omega), a3.1⟩, ⟨by omega, by omega, by omega, by omega, by omega, by omega, hL _ (by omega)⟩, ⟨by omega, by omega, by omega, by omega, by omega, hL _ (by omega)⟩, ⟨by omega, by omega, by omega, by omega, hL _ (by omega)⟩, ⟨by omega, by omega, by omega, hL _ (by omega)⟩, ⟨by omega, by omega, hL _ (by omega)⟩, ⟨by omega, hL _ (by omega)⟩, hL _ (by omega), a3.2⟩
def tbk (k : Nat) : TB := fun i => (if i < k then 1 else 0, [])
theorem tbk6 {t : Nat → ClassId} {g : GH} {u : Nat → Nat} (h : RT t g u (tbk 6)) : RT t g u s00.1 := by
  obtain ⟨⟨f0, a0, b0⟩, r1, r2, r3, r4⟩ := h
  refine ⟨⟨f0, a0, fun i hi => ?_⟩, r1, r2, r3, fun i hi => ?_⟩
  · rw [b0 i hi]
    show nI (if i < 6 then 1 else 0) = nI 1
    rw [if_pos hi]
  · obtain ⟨fk, fc, c1, c2, c3⟩ := r4 i hi
    exact ⟨fk, fc, c1, c2, fun r hr => absurd hr (Nat.not_lt_zero _)⟩
theorem s00_wk : (wk s00.1 6).Nodup → (wk s00.1 6).Perm s00.2.1 := fun h => nodup_perm _ _ h (by simp [s00]) (fun x => by
  have e : ndl [] = [((0, []) : NV)] := by decide
  rw [wk_mem]
  constructor
  · rintro ⟨i, hi, hx⟩
    have hx2 : x ∈ ndl [] := hx
    rw [e] at hx2
    exact hx2
  · intro hx
    refine ⟨0, by omega, ?_⟩
    show x ∈ ndl []
    rw [e]
    exact hx)
set_option maxRecDepth 100000 in
set_option maxHeartbeats 1000000 in
theorem M_init_loop {X : CX} {D : va_G} {t : Nat → ClassId} {A : Nat → Prop} {rm : Room} {g : GH} {k0 n0 : Nat} {u : Nat → Nat} (O : Ok X bM_init 2 "TwinTreesModel" (zz D t A) rm) (hne : ∀ i j, i < 32 → j < 32 → i ≠ j → u i ≠ u j) (hrm : 4 ≤ rm.frames ∧ 240 ≤ rm.locals ∧ k0 ≤ rm.cells ∧ n0 ≤ rm.slots) (HK : ∀ g1 : GH, SB t g1 u (nI 0) (wk s00.1 6) → RT t g1 u (tbk 6) → RD t g1 u [] → J X 2 (zz D t A) g1 k0 n0 202 [(0, .ref (u 19))] []) : ∀ (d k : Nat) (g1 : GH), k + d = 6 → SB t g1 u (nI 0) (wk s00.1 k) → RT t g1 u (tbk k) → RD t g1 u [] → J X 2 (zz D t A) g1 k0 n0 177 [(0, .ref (u 19)), (1, .int (nI k))] [] := by
  have e0 : ndl [] = [((0, []) : NV)] := by decide
  intro d
  induction d with
  | zero =>
    intro k g1 hk hSB hRT1 hD1
    have e : k = 6 := by omega
    subst e
    refine j_iload_n O 1 dM_init_177 rfl rfl ?_
    refine j_bipush O (v := 6) dM_init_178 (by decide) ?_
    refine j_icmp_ge O 202 dM_init_180 (by decide) (fun c0 => ?_) (fun c0 => absurd (by decide) c0)
    refine J.pk [0] rfl ?_
    exact HK g1 hSB hRT1 hD1
  | succ d ih =>
    intro k g1 hk hSB hRT1 hD1
    have k6 : k < 6 := by omega
    obtain ⟨⟨oc, om, lm, mm, ta, co, si, hM⟩, ⟨fv, hv⟩, ⟨fl, hl⟩, ⟨fm, hm⟩, ⟨fo, ho⟩, ⟨fp, hp⟩, hR, hV⟩ := id hSB
    obtain ⟨⟨fC, hC, hCv⟩, ⟨fN, hNn0, hNv⟩, ⟨fK, hK, hKv⟩, ⟨fL, hL, hLv⟩, hrow⟩ := id hRT1
    have kp0 : Kp [u 0] g1 g1 := Kp.rf
    have hfit : ¬ nofitA (wk s00.1 k) (ndl []) := fit_sub (V := [(0, [])]) hV.1 (by rw [e0]; simp) (by simp) (fun x hx => by
      rcases vst_in.mp hx with z | z
      · obtain ⟨i, -, h2⟩ := (wk_mem s00.1 x k).mp z
        have h3 : x ∈ ndl [] := h2
        rw [e0] at h3
        exact h3
      · rw [e0] at z; exact z) (by decide) (by decide)
    refine j_iload_n O 1 dM_init_177 rfl rfl ?_
    refine j_bipush O (v := 6) dM_init_178 (by decide) ?_
    refine j_icmp_ge O 202 dM_init_180 (by decide) (fun c0 => absurd c0 (nI_ge (b := 6) k6 (by decide))) (fun c0 => ?_)
    refine j_aload_n O 0 dM_init_183 rfl rfl ?_
    refine j_get O uwM hM rfl 0 (by decide) w447 rfl rfl dM_init_184 ?_
    refine j_iload_n O 1 dM_init_187 rfl rfl ?_
    refine j_iconst O (v := 1) dM_init_188 (by decide) ?_
    refine j_iast O hC 0 rfl k6 (by decide) dM_init_189 (fun gw294 ew295 => ?_)
    have hw296 := gUp_ne (e' := .inl (t 0, 6, .inl (upd fC k 1))) hM (hM.ne hC (by simp))
    rw [← ew295] at hw296
    have hw297 := gUp_self (e' := .inl (t 0, 6, .inl (upd fC k 1))) hC
    rw [← ew295] at hw297
    have kpw298 := kp0.up (a := (u 0)) (e := .inl (t 0, 6, .inl (upd fC k 1))) (by simp)
    rw [← ew295] at kpw298
    have hkk : ∀ j e, j < 32 → j ≠ 0 → gAt g1 (u j) e → gAt gw294 (u j) e := fun j e h0 h1 q => kpw298.2 _ _ (one_ne (hne _ _ h0 (by omega) h1)) q
    have hRT2 : RT t gw294 u (tbk (k + 1)) := by
      refine ⟨⟨_, hw297, fun i hi => ?_⟩, ⟨fN, hkk _ _ (by omega) (by omega) hNn0, hNv⟩, ⟨fK, hkk _ _ (by omega) (by omega) hK, hKv⟩, ⟨fL, hkk _ _ (by omega) (by omega) hL, hLv⟩, fun i hi => ?_⟩
      · show upd fC k 1 i = nI (if i < k + 1 then 1 else 0)
        by_cases z : i = k
        · subst z; rw [pk_us, if_pos (by omega)]; rfl
        · rw [pk_un (by omega), hCv i hi]
          show nI (if i < k then 1 else 0) = _
          by_cases y : i < k
          · rw [if_pos y, if_pos (by omega)]
          · rw [if_neg y, if_neg (by omega)]
      · obtain ⟨fk, fc, c1, c2, c3⟩ := hrow i hi
        exact ⟨fk, fc, hkk _ _ (by omega) (by omega) c1, hkk _ _ (by omega) (by omega) c2, fun r hr => absurd hr (Nat.not_lt_zero _)⟩
    have hR2 : RS t gw294 u (encL (wk s00.1 k)) := hR.keep (fun j e j1 j2 q => hkk j e (by omega) (by omega) q)
    have htk : tOK (1, []) := ⟨by decide, by decide, fun r hr => (by cases hr), List.Pairwise.nil, by decide⟩
    have hD2 : RD t gw294 u [] := hD1.keep (fun j e hj q => hkk j e (by omega) (by omega) q)
    have htb : tbk (k + 1) k = (1, []) := by unfold tbk; rw [if_pos (by omega)]
    refine j_aload_n O 0 dM_init_190 rfl rfl ?_
    refine j_iload_n O 1 dM_init_191 rfl rfl ?_
    refine j_callV O [.int (nI k)] (c_M_lay X.2.1 D t A gw294 u oc om (nI 0) lm mm ta co si k 1 (tbk (k + 1)) [] (wk s00.1 k) fv fl fm hw296 (hkk _ _ (by omega) (by omega) hv) (hkk _ _ (by omega) (by omega) hl) (hkk _ _ (by omega) (by omega) hm) hR2 hV hRT2 k6 htb htk (fun r hr => by cases hr) hne) hw296 rfl w419 w420 w10 w28 w421 1 rfl rfl rfl (by decide +kernel) ⟨hrm.1, by show 8 + (7 + 11) + 200 ≤ _; omega⟩ rfl (Nat.le_of_ble_eq_true rfl) dM_init_192 ⟨hrm.2.2.1, hrm.2.2.2⟩ (fun vw299 gw300 hpw301 => ?_)
    have hpost := hpw301
    rcases hpost with ⟨-, hnf, -⟩ | ⟨rfl, m1, fv1, fl1, fm1, hLY, hf0, kp⟩
    · exact absurd hnf hfit
    have hkp : ∀ j e, (4 ≤ j ∧ j < 9) → gAt gw294 (u j) e → gAt gw300 (u j) e := fun j e hj q => lU_kp hne kp (by omega) q
    have hSB1 : SB t gw300 u (nI 0) (wk s00.1 (k + 1)) := hLY.sb ⟨_, hkp 4 _ (by omega) (hkk _ _ (by omega) (by omega) ho)⟩ ⟨_, hkp 5 _ (by omega) (hkk _ _ (by omega) (by omega) hp)⟩
    refine j_pop O dM_init_195 rfl ?_
    refine j_iinc O (nI (k + 1)) [(1, .int (nI (k + 1))), (0, .ref (u 19))] dM_init_196 rfl (nI_1 _) (by decide) rfl ?_
    refine j_goto O 177 dM_init_199 (by decide) ?_
    refine J.pk [1, 0] rfl ?_
    exact ih (k + 1) gw300 (by omega) hSB1 (hRT2.lU hne kp) (hD2.keep hkp)
set_option maxRecDepth 100000 in
set_option maxHeartbeats 1000000 in
theorem c_M_init (l : Launch) (D : va_G) (t : Nat → ClassId) (A : Nat → Prop) (g : GH) (T : Nat) (ha : gAt g T (.inr (6, [.null, .null, .null, .null, .int 0, .int 0, .null, .null, .null, .null, .null, .int 0, .null, .null, .null, .null, .null, .null, .null, .int 0, .int 0, .null, .null, .int 0, .null, .int 0, .int 0, .int 0, .int 0]))) : Ct l yM_init sM_init { frames := 5, cells := 31, slots := 383371, locals := 290 } (zz D t A) [.ref T] g 31 383371 (fun v g' => v = none ∧ ∃ u V, u 19 = T ∧ RW t g' u s00 V) := by
  refine Ct.of (cc := bM_init) (maxL := 2) (ret := none) (by decide) (Nat.le_of_ble_eq_true rfl) (fun X hlX O M hNn => ?_)
  have hN := hNn rfl
  show J X 2 (zz D t A) g 0 0 0 [(0, .ref T)] []
  have hP0 : IP g T _ [] := ⟨ha, fun p hp => (by cases hp), by simp⟩
  refine j_aload_n O 0 dM_init_0 rfl rfl ?_
  refine j_objInit O w415 w39 w40 dM_init_1 (Nat.le_of_ble_eq_true rfl) (Nat.le_of_ble_eq_true rfl) ?_
  refine j_aload_n O 0 dM_init_4 rfl rfl ?_
  refine j_bipush O (v := 6) dM_init_5 (by decide) ?_
  refine j_newa (atype := .int) O w63 (.int) rfl 0 rfl rfl 6 (6, .inl (fun _ => 0)) (fun _ => rfl) (by decide) (by decide) (by decide) (Nat.le_of_ble_eq_true rfl) (Nat.le_of_ble_eq_true rfl) dM_init_7 (fun qw302 gw303 hqw304 ew305 => ?_)
  have hw306 := gNew_old (e' := .inl (t 0, 6, .inl (fun _ => 0))) ha hqw304
  rw [← ew305] at hw306
  have hw307 := gNew_self (g := g) (a := qw302) (e := .inl (t 0, 6, .inl (fun _ => 0)))
  rw [← ew305] at hw307
  have hP1 := hP0.new (e := .inl (t 0, 6, .inl (fun _ => 0))) hqw304
  rw [← ew305] at hP1
  refine j_putF O hN uwM hw306 rfl 0 (by decide) w447 rfl tM ftM fnM rfl rfl (.array .int) (by decide +kernel) rfl rfl (Nat.le_of_ble_eq_true rfl) [.ref qw302, .null, .null, .null, .int 0, .int 0, .null, .null, .null, .null, .null, .int 0, .null, .null, .null, .null, .null, .null, .null, .int 0, .int 0, .null, .null, .int 0, .null, .int 0, .int 0, .int 0, .int 0] rfl dM_init_9 (fun gw308 ew309 => ?_)
  have hw310 := gUp_self (e' := .inr (6, [.ref qw302, .null, .null, .null, .int 0, .int 0, .null, .null, .null, .null, .null, .int 0, .null, .null, .null, .null, .null, .null, .null, .int 0, .int 0, .null, .null, .int 0, .null, .int 0, .int 0, .int 0, .int 0])) hw306
  rw [← ew309] at hw310
  have hP2 := hP1.put (fs' := [.ref qw302, .null, .null, .null, .int 0, .int 0, .null, .null, .null, .null, .null, .int 0, .null, .null, .null, .null, .null, .null, .null, .int 0, .int 0, .null, .null, .int 0, .null, .int 0, .int 0, .int 0, .int 0])
  rw [← ew309] at hP2
  refine j_aload_n O 0 dM_init_12 rfl rfl ?_
  refine j_bipush O (v := 6) dM_init_13 (by decide) ?_
  refine j_newa (atype := .int) O w63 (.int) rfl 0 rfl rfl 6 (6, .inl (fun _ => 0)) (fun _ => rfl) (by decide) (by decide) (by decide) (Nat.le_of_ble_eq_true rfl) (Nat.le_of_ble_eq_true rfl) dM_init_15 (fun qw311 gw312 hqw313 ew314 => ?_)
  have hw315 := gNew_old (e' := .inl (t 0, 6, .inl (fun _ => 0))) hw310 hqw313
  rw [← ew314] at hw315
  have hw316 := gNew_self (g := gw308) (a := qw311) (e := .inl (t 0, 6, .inl (fun _ => 0)))
  rw [← ew314] at hw316
  have hP3 := hP2.new (e := .inl (t 0, 6, .inl (fun _ => 0))) hqw313
  rw [← ew314] at hP3
  refine j_putF O hN uwM hw315 rfl 1 (by decide) w448 rfl tM ftM fnM rfl rfl (.array .int) (by decide +kernel) rfl rfl (Nat.le_of_ble_eq_true rfl) [.ref qw302, .ref qw311, .null, .null, .int 0, .int 0, .null, .null, .null, .null, .null, .int 0, .null, .null, .null, .null, .null, .null, .null, .int 0, .int 0, .null, .null, .int 0, .null, .int 0, .int 0, .int 0, .int 0] rfl dM_init_17 (fun gw317 ew318 => ?_)
  have hw319 := gUp_self (e' := .inr (6, [.ref qw302, .ref qw311, .null, .null, .int 0, .int 0, .null, .null, .null, .null, .null, .int 0, .null, .null, .null, .null, .null, .null, .null, .int 0, .int 0, .null, .null, .int 0, .null, .int 0, .int 0, .int 0, .int 0])) hw315
  rw [← ew318] at hw319
  have hP4 := hP3.put (fs' := [.ref qw302, .ref qw311, .null, .null, .int 0, .int 0, .null, .null, .null, .null, .null, .int 0, .null, .null, .null, .null, .null, .null, .null, .int 0, .int 0, .null, .null, .int 0, .null, .int 0, .int 0, .int 0, .int 0])
  rw [← ew318] at hP4
  refine j_aload_n O 0 dM_init_20 rfl rfl ?_
  refine j_bipush O (v := 6) dM_init_21 (by decide) ?_
  refine j_sipush O (v := 301) dM_init_23 (by decide) ?_
  refine j_multi (ty := .int) O (show Cond.classLink "TwinTreesModel" 18 ("[" ++ (FieldType.array .int).toString) ∈ aw from (show "[" ++ (FieldType.array .int).toString = "[[I" by decide) ▸ w416) (List.mem_of_getElem? (i := 6) rfl) w63 4 0 rfl rfl rfl 301 (301, .inl (fun _ => 0)) (fun _ => rfl) rfl rfl 6 (by decide) (by decide) (by decide) (by decide) (by decide) (by decide) (by decide) (Nat.le_of_ble_eq_true rfl) (Nat.le_of_ble_eq_true rfl) dM_init_26 (fun qw320 gw321 maw322 mbw323 mcw324 mdw325 => ?_)
  have hP5 := hP4.multi maw322 mbw323 mcw324 mdw325
  refine j_putF O hN uwM hP5.1 rfl 2 (by decide) w449 rfl tM ftM fnM rfl rfl (.array (.array .int)) (by decide +kernel) rfl rfl (Nat.le_of_ble_eq_true rfl) [.ref qw302, .ref qw311, .ref qw320, .null, .int 0, .int 0, .null, .null, .null, .null, .null, .int 0, .null, .null, .null, .null, .null, .null, .null, .int 0, .int 0, .null, .null, .int 0, .null, .int 0, .int 0, .int 0, .int 0] rfl dM_init_30 (fun gw326 ew327 => ?_)
  have hw328 := gUp_self (e' := .inr (6, [.ref qw302, .ref qw311, .ref qw320, .null, .int 0, .int 0, .null, .null, .null, .null, .null, .int 0, .null, .null, .null, .null, .null, .null, .null, .int 0, .int 0, .null, .null, .int 0, .null, .int 0, .int 0, .int 0, .int 0])) hP5.1
  rw [← ew327] at hw328
  have hP6 := hP5.put (fs' := [.ref qw302, .ref qw311, .ref qw320, .null, .int 0, .int 0, .null, .null, .null, .null, .null, .int 0, .null, .null, .null, .null, .null, .null, .null, .int 0, .int 0, .null, .null, .int 0, .null, .int 0, .int 0, .int 0, .int 0])
  rw [← ew327] at hP6
  refine j_aload_n O 0 dM_init_33 rfl rfl ?_
  refine j_bipush O (v := 6) dM_init_34 (by decide) ?_
  refine j_sipush O (v := 1806) dM_init_36 (by decide) ?_
  refine j_multi (ty := .long) O (show Cond.classLink "TwinTreesModel" 23 ("[" ++ (FieldType.array .long).toString) ∈ aw from (show "[" ++ (FieldType.array .long).toString = "[[J" by decide) ▸ w417) (List.mem_of_getElem? (i := 7) rfl) w535 5 3 rfl rfl rfl 1806 (1806, .inr (.inl (fun _ => 0))) (fun _ => rfl) rfl rfl 6 (by decide) (by decide) (by decide) (by decide) (by decide) (by decide) (by decide) (Nat.le_of_ble_eq_true rfl) (Nat.le_of_ble_eq_true rfl) dM_init_39 (fun qw329 gw330 maw331 mbw332 mcw333 mdw334 => ?_)
  have hP7 := hP6.multi maw331 mbw332 mcw333 mdw334
  refine j_putF O hN uwM hP7.1 rfl 3 (by decide) w450 rfl tM ftM fnM rfl rfl (.array (.array .long)) (by decide +kernel) rfl rfl (Nat.le_of_ble_eq_true rfl) [.ref qw302, .ref qw311, .ref qw320, .ref qw329, .int 0, .int 0, .null, .null, .null, .null, .null, .int 0, .null, .null, .null, .null, .null, .null, .null, .int 0, .int 0, .null, .null, .int 0, .null, .int 0, .int 0, .int 0, .int 0] rfl dM_init_43 (fun gw335 ew336 => ?_)
  have hw337 := gUp_self (e' := .inr (6, [.ref qw302, .ref qw311, .ref qw320, .ref qw329, .int 0, .int 0, .null, .null, .null, .null, .null, .int 0, .null, .null, .null, .null, .null, .null, .null, .int 0, .int 0, .null, .null, .int 0, .null, .int 0, .int 0, .int 0, .int 0])) hP7.1
  rw [← ew336] at hw337
  have hP8 := hP7.put (fs' := [.ref qw302, .ref qw311, .ref qw320, .ref qw329, .int 0, .int 0, .null, .null, .null, .null, .null, .int 0, .null, .null, .null, .null, .null, .null, .null, .int 0, .int 0, .null, .null, .int 0, .null, .int 0, .int 0, .int 0, .int 0])
  rw [← ew336] at hP8
  refine j_aload_n O 0 dM_init_46 rfl rfl ?_
  refine j_sipush O (v := 301) dM_init_47 (by decide) ?_
  refine j_newa (atype := .int) O w63 (.int) rfl 0 rfl rfl 301 (301, .inl (fun _ => 0)) (fun _ => rfl) (by decide) (by decide) (by decide) (Nat.le_of_ble_eq_true rfl) (Nat.le_of_ble_eq_true rfl) dM_init_50 (fun qw338 gw339 hqw340 ew341 => ?_)
  have hw342 := gNew_old (e' := .inl (t 0, 301, .inl (fun _ => 0))) hw337 hqw340
  rw [← ew341] at hw342
  have hw343 := gNew_self (g := gw335) (a := qw338) (e := .inl (t 0, 301, .inl (fun _ => 0)))
  rw [← ew341] at hw343
  have hP9 := hP8.new (e := .inl (t 0, 301, .inl (fun _ => 0))) hqw340
  rw [← ew341] at hP9
  refine j_putF O hN uwM hw342 rfl 6 (by decide) w453 rfl tM ftM fnM rfl rfl (.array .int) (by decide +kernel) rfl rfl (Nat.le_of_ble_eq_true rfl) [.ref qw302, .ref qw311, .ref qw320, .ref qw329, .int 0, .int 0, .ref qw338, .null, .null, .null, .null, .int 0, .null, .null, .null, .null, .null, .null, .null, .int 0, .int 0, .null, .null, .int 0, .null, .int 0, .int 0, .int 0, .int 0] rfl dM_init_52 (fun gw344 ew345 => ?_)
  have hw346 := gUp_self (e' := .inr (6, [.ref qw302, .ref qw311, .ref qw320, .ref qw329, .int 0, .int 0, .ref qw338, .null, .null, .null, .null, .int 0, .null, .null, .null, .null, .null, .null, .null, .int 0, .int 0, .null, .null, .int 0, .null, .int 0, .int 0, .int 0, .int 0])) hw342
  rw [← ew345] at hw346
  have hP10 := hP9.put (fs' := [.ref qw302, .ref qw311, .ref qw320, .ref qw329, .int 0, .int 0, .ref qw338, .null, .null, .null, .null, .int 0, .null, .null, .null, .null, .null, .null, .null, .int 0, .int 0, .null, .null, .int 0, .null, .int 0, .int 0, .int 0, .int 0])
  rw [← ew345] at hP10
  refine j_aload_n O 0 dM_init_55 rfl rfl ?_
  refine j_sipush O (v := 1806) dM_init_56 (by decide) ?_
  refine j_newa (atype := .long) O w535 (.long) rfl 3 rfl rfl 1806 (1806, .inr (.inl (fun _ => 0))) (fun _ => rfl) (by decide) (by decide) (by decide) (Nat.le_of_ble_eq_true rfl) (Nat.le_of_ble_eq_true rfl) dM_init_59 (fun qw347 gw348 hqw349 ew350 => ?_)
  have hw351 := gNew_old (e' := .inl (t 3, 1806, .inr (.inl (fun _ => 0)))) hw346 hqw349
  rw [← ew350] at hw351
  have hw352 := gNew_self (g := gw344) (a := qw347) (e := .inl (t 3, 1806, .inr (.inl (fun _ => 0))))
  rw [← ew350] at hw352
  have hP11 := hP10.new (e := .inl (t 3, 1806, .inr (.inl (fun _ => 0)))) hqw349
  rw [← ew350] at hP11
  refine j_putF O hN uwM hw351 rfl 7 (by decide) w454 rfl tM ftM fnM rfl rfl (.array .long) (by decide +kernel) rfl rfl (Nat.le_of_ble_eq_true rfl) [.ref qw302, .ref qw311, .ref qw320, .ref qw329, .int 0, .int 0, .ref qw338, .ref qw347, .null, .null, .null, .int 0, .null, .null, .null, .null, .null, .null, .null, .int 0, .int 0, .null, .null, .int 0, .null, .int 0, .int 0, .int 0, .int 0] rfl dM_init_61 (fun gw353 ew354 => ?_)
  have hw355 := gUp_self (e' := .inr (6, [.ref qw302, .ref qw311, .ref qw320, .ref qw329, .int 0, .int 0, .ref qw338, .ref qw347, .null, .null, .null, .int 0, .null, .null, .null, .null, .null, .null, .null, .int 0, .int 0, .null, .null, .int 0, .null, .int 0, .int 0, .int 0, .int 0])) hw351
  rw [← ew354] at hw355
  have hP12 := hP11.put (fs' := [.ref qw302, .ref qw311, .ref qw320, .ref qw329, .int 0, .int 0, .ref qw338, .ref qw347, .null, .null, .null, .int 0, .null, .null, .null, .null, .null, .null, .null, .int 0, .int 0, .null, .null, .int 0, .null, .int 0, .int 0, .int 0, .int 0])
  rw [← ew354] at hP12
  refine j_aload_n O 0 dM_init_64 rfl rfl ?_
  refine j_sipush O (v := 600) dM_init_65 (by decide) ?_
  refine j_newa (atype := .int) O w63 (.int) rfl 0 rfl rfl 600 (600, .inl (fun _ => 0)) (fun _ => rfl) (by decide) (by decide) (by decide) (Nat.le_of_ble_eq_true rfl) (Nat.le_of_ble_eq_true rfl) dM_init_68 (fun qw356 gw357 hqw358 ew359 => ?_)
  have hw360 := gNew_old (e' := .inl (t 0, 600, .inl (fun _ => 0))) hw355 hqw358
  rw [← ew359] at hw360
  have hw361 := gNew_self (g := gw353) (a := qw356) (e := .inl (t 0, 600, .inl (fun _ => 0)))
  rw [← ew359] at hw361
  have hP13 := hP12.new (e := .inl (t 0, 600, .inl (fun _ => 0))) hqw358
  rw [← ew359] at hP13
  refine j_putF O hN uwM hw360 rfl 8 (by decide) w455 rfl tM ftM fnM rfl rfl (.array .int) (by decide +kernel) rfl rfl (Nat.le_of_ble_eq_true rfl) [.ref qw302, .ref qw311, .ref qw320, .ref qw329, .int 0, .int 0, .ref qw338, .ref qw347, .ref qw356, .null, .null, .int 0, .null, .null, .null, .null, .null, .null, .null, .int 0, .int 0, .null, .null, .int 0, .null, .int 0, .int 0, .int 0, .int 0] rfl dM_init_70 (fun gw362 ew363 => ?_)
  have hw364 := gUp_self (e' := .inr (6, [.ref qw302, .ref qw311, .ref qw320, .ref qw329, .int 0, .int 0, .ref qw338, .ref qw347, .ref qw356, .null, .null, .int 0, .null, .null, .null, .null, .null, .null, .null, .int 0, .int 0, .null, .null, .int 0, .null, .int 0, .int 0, .int 0, .int 0])) hw360
  rw [← ew363] at hw364
  have hP14 := hP13.put (fs' := [.ref qw302, .ref qw311, .ref qw320, .ref qw329, .int 0, .int 0, .ref qw338, .ref qw347, .ref qw356, .null, .null, .int 0, .null, .null, .null, .null, .null, .null, .null, .int 0, .int 0, .null, .null, .int 0, .null, .int 0, .int 0, .int 0, .int 0])
  rw [← ew363] at hP14
  refine j_aload_n O 0 dM_init_73 rfl rfl ?_
  refine j_sipush O (v := 600) dM_init_74 (by decide) ?_
  refine j_newa (atype := .int) O w63 (.int) rfl 0 rfl rfl 600 (600, .inl (fun _ => 0)) (fun _ => rfl) (by decide) (by decide) (by decide) (Nat.le_of_ble_eq_true rfl) (Nat.le_of_ble_eq_true rfl) dM_init_77 (fun qw365 gw366 hqw367 ew368 => ?_)
  have hw369 := gNew_old (e' := .inl (t 0, 600, .inl (fun _ => 0))) hw364 hqw367
  rw [← ew368] at hw369
  have hw370 := gNew_self (g := gw362) (a := qw365) (e := .inl (t 0, 600, .inl (fun _ => 0)))
  rw [← ew368] at hw370
  have hP15 := hP14.new (e := .inl (t 0, 600, .inl (fun _ => 0))) hqw367
  rw [← ew368] at hP15
  refine j_putF O hN uwM hw369 rfl 9 (by decide) w456 rfl tM ftM fnM rfl rfl (.array .int) (by decide +kernel) rfl rfl (Nat.le_of_ble_eq_true rfl) [.ref qw302, .ref qw311, .ref qw320, .ref qw329, .int 0, .int 0, .ref qw338, .ref qw347, .ref qw356, .ref qw365, .null, .int 0, .null, .null, .null, .null, .null, .null, .null, .int 0, .int 0, .null, .null, .int 0, .null, .int 0, .int 0, .int 0, .int 0] rfl dM_init_79 (fun gw371 ew372 => ?_)
  have hw373 := gUp_self (e' := .inr (6, [.ref qw302, .ref qw311, .ref qw320, .ref qw329, .int 0, .int 0, .ref qw338, .ref qw347, .ref qw356, .ref qw365, .null, .int 0, .null, .null, .null, .null, .null, .null, .null, .int 0, .int 0, .null, .null, .int 0, .null, .int 0, .int 0, .int 0, .int 0])) hw369
  rw [← ew372] at hw373
  have hP16 := hP15.put (fs' := [.ref qw302, .ref qw311, .ref qw320, .ref qw329, .int 0, .int 0, .ref qw338, .ref qw347, .ref qw356, .ref qw365, .null, .int 0, .null, .null, .null, .null, .null, .null, .null, .int 0, .int 0, .null, .null, .int 0, .null, .int 0, .int 0, .int 0, .int 0])
  rw [← ew372] at hP16
  refine j_aload_n O 0 dM_init_82 rfl rfl ?_
  refine j_sipush O (v := 600) dM_init_83 (by decide) ?_
  refine j_newa (atype := .int) O w63 (.int) rfl 0 rfl rfl 600 (600, .inl (fun _ => 0)) (fun _ => rfl) (by decide) (by decide) (by decide) (Nat.le_of_ble_eq_true rfl) (Nat.le_of_ble_eq_true rfl) dM_init_86 (fun qw374 gw375 hqw376 ew377 => ?_)
  have hw378 := gNew_old (e' := .inl (t 0, 600, .inl (fun _ => 0))) hw373 hqw376
  rw [← ew377] at hw378
  have hw379 := gNew_self (g := gw371) (a := qw374) (e := .inl (t 0, 600, .inl (fun _ => 0)))
  rw [← ew377] at hw379
  have hP17 := hP16.new (e := .inl (t 0, 600, .inl (fun _ => 0))) hqw376
  rw [← ew377] at hP17
  refine j_putF O hN uwM hw378 rfl 10 (by decide) w457 rfl tM ftM fnM rfl rfl (.array .int) (by decide +kernel) rfl rfl (Nat.le_of_ble_eq_true rfl) [.ref qw302, .ref qw311, .ref qw320, .ref qw329, .int 0, .int 0, .ref qw338, .ref qw347, .ref qw356, .ref qw365, .ref qw374, .int 0, .null, .null, .null, .null, .null, .null, .null, .int 0, .int 0, .null, .null, .int 0, .null, .int 0, .int 0, .int 0, .int 0] rfl dM_init_88 (fun gw380 ew381 => ?_)
  have hw382 := gUp_self (e' := .inr (6, [.ref qw302, .ref qw311, .ref qw320, .ref qw329, .int 0, .int 0, .ref qw338, .ref qw347, .ref qw356, .ref qw365, .ref qw374, .int 0, .null, .null, .null, .null, .null, .null, .null, .int 0, .int 0, .null, .null, .int 0, .null, .int 0, .int 0, .int 0, .int 0])) hw378
  rw [← ew381] at hw382
  have hP18 := hP17.put (fs' := [.ref qw302, .ref qw311, .ref qw320, .ref qw329, .int 0, .int 0, .ref qw338, .ref qw347, .ref qw356, .ref qw365, .ref qw374, .int 0, .null, .null, .null, .null, .null, .null, .null, .int 0, .int 0, .null, .null, .int 0, .null, .int 0, .int 0, .int 0, .int 0])
  rw [← ew381] at hP18
  refine j_aload_n O 0 dM_init_91 rfl rfl ?_
  refine j_ldc O 60000 w418 dM_init_92 ?_
  refine j_newa (atype := .int) O w63 (.int) rfl 0 rfl rfl 60000 (60000, .inl (fun _ => 0)) (fun _ => rfl) (by decide) (by decide) (by decide) (Nat.le_of_ble_eq_true rfl) (Nat.le_of_ble_eq_true rfl) dM_init_94 (fun qw383 gw384 hqw385 ew386 => ?_)
  have hw387 := gNew_old (e' := .inl (t 0, 60000, .inl (fun _ => 0))) hw382 hqw385
  rw [← ew386] at hw387
  have hw388 := gNew_self (g := gw380) (a := qw383) (e := .inl (t 0, 60000, .inl (fun _ => 0)))
  rw [← ew386] at hw388
  have hP19 := hP18.new (e := .inl (t 0, 60000, .inl (fun _ => 0))) hqw385
  rw [← ew386] at hP19
  refine j_putF O hN uwM hw387 rfl 12 (by decide) w459 rfl tM ftM fnM rfl rfl (.array .int) (by decide +kernel) rfl rfl (Nat.le_of_ble_eq_true rfl) [.ref qw302, .ref qw311, .ref qw320, .ref qw329, .int 0, .int 0, .ref qw338, .ref qw347, .ref qw356, .ref qw365, .ref qw374, .int 0, .ref qw383, .null, .null, .null, .null, .null, .null, .int 0, .int 0, .null, .null, .int 0, .null, .int 0, .int 0, .int 0, .int 0] rfl dM_init_96 (fun gw389 ew390 => ?_)
  have hw391 := gUp_self (e' := .inr (6, [.ref qw302, .ref qw311, .ref qw320, .ref qw329, .int 0, .int 0, .ref qw338, .ref qw347, .ref qw356, .ref qw365, .ref qw374, .int 0, .ref qw383, .null, .null, .null, .null, .null, .null, .int 0, .int 0, .null, .null, .int 0, .null, .int 0, .int 0, .int 0, .int 0])) hw387
  rw [← ew390] at hw391
  have hP20 := hP19.put (fs' := [.ref qw302, .ref qw311, .ref qw320, .ref qw329, .int 0, .int 0, .ref qw338, .ref qw347, .ref qw356, .ref qw365, .ref qw374, .int 0, .ref qw383, .null, .null, .null, .null, .null, .null, .int 0, .int 0, .null, .null, .int 0, .null, .int 0, .int 0, .int 0, .int 0])
  rw [← ew390] at hP20
  refine j_aload_n O 0 dM_init_99 rfl rfl ?_
  refine j_ldc O 60000 w418 dM_init_100 ?_
  refine j_newa (atype := .int) O w63 (.int) rfl 0 rfl rfl 60000 (60000, .inl (fun _ => 0)) (fun _ => rfl) (by decide) (by decide) (by decide) (Nat.le_of_ble_eq_true rfl) (Nat.le_of_ble_eq_true rfl) dM_init_102 (fun qw392 gw393 hqw394 ew395 => ?_)
  have hw396 := gNew_old (e' := .inl (t 0, 60000, .inl (fun _ => 0))) hw391 hqw394
  rw [← ew395] at hw396
  have hw397 := gNew_self (g := gw389) (a := qw392) (e := .inl (t 0, 60000, .inl (fun _ => 0)))
  rw [← ew395] at hw397
  have hP21 := hP20.new (e := .inl (t 0, 60000, .inl (fun _ => 0))) hqw394
  rw [← ew395] at hP21
  refine j_putF O hN uwM hw396 rfl 13 (by decide) w460 rfl tM ftM fnM rfl rfl (.array .int) (by decide +kernel) rfl rfl (Nat.le_of_ble_eq_true rfl) [.ref qw302, .ref qw311, .ref qw320, .ref qw329, .int 0, .int 0, .ref qw338, .ref qw347, .ref qw356, .ref qw365, .ref qw374, .int 0, .ref qw383, .ref qw392, .null, .null, .null, .null, .null, .int 0, .int 0, .null, .null, .int 0, .null, .int 0, .int 0, .int 0, .int 0] rfl dM_init_104 (fun gw398 ew399 => ?_)
  have hw400 := gUp_self (e' := .inr (6, [.ref qw302, .ref qw311, .ref qw320, .ref qw329, .int 0, .int 0, .ref qw338, .ref qw347, .ref qw356, .ref qw365, .ref qw374, .int 0, .ref qw383, .ref qw392, .null, .null, .null, .null, .null, .int 0, .int 0, .null, .null, .int 0, .null, .int 0, .int 0, .int 0, .int 0])) hw396
  rw [← ew399] at hw400
  have hP22 := hP21.put (fs' := [.ref qw302, .ref qw311, .ref qw320, .ref qw329, .int 0, .int 0, .ref qw338, .ref qw347, .ref qw356, .ref qw365, .ref qw374, .int 0, .ref qw383, .ref qw392, .null, .null, .null, .null, .null, .int 0, .int 0, .null, .null, .int 0, .null, .int 0, .int 0, .int 0, .int 0])
  rw [← ew399] at hP22
  refine j_aload_n O 0 dM_init_107 rfl rfl ?_
  refine j_ldc O 60000 w418 dM_init_108 ?_
  refine j_newa (atype := .int) O w63 (.int) rfl 0 rfl rfl 60000 (60000, .inl (fun _ => 0)) (fun _ => rfl) (by decide) (by decide) (by decide) (Nat.le_of_ble_eq_true rfl) (Nat.le_of_ble_eq_true rfl) dM_init_110 (fun qw401 gw402 hqw403 ew404 => ?_)
  have hw405 := gNew_old (e' := .inl (t 0, 60000, .inl (fun _ => 0))) hw400 hqw403
  rw [← ew404] at hw405
  have hw406 := gNew_self (g := gw398) (a := qw401) (e := .inl (t 0, 60000, .inl (fun _ => 0)))
  rw [← ew404] at hw406
  have hP23 := hP22.new (e := .inl (t 0, 60000, .inl (fun _ => 0))) hqw403
  rw [← ew404] at hP23
  refine j_putF O hN uwM hw405 rfl 14 (by decide) w461 rfl tM ftM fnM rfl rfl (.array .int) (by decide +kernel) rfl rfl (Nat.le_of_ble_eq_true rfl) [.ref qw302, .ref qw311, .ref qw320, .ref qw329, .int 0, .int 0, .ref qw338, .ref qw347, .ref qw356, .ref qw365, .ref qw374, .int 0, .ref qw383, .ref qw392, .ref qw401, .null, .null, .null, .null, .int 0, .int 0, .null, .null, .int 0, .null, .int 0, .int 0, .int 0, .int 0] rfl dM_init_112 (fun gw407 ew408 => ?_)
  have hw409 := gUp_self (e' := .inr (6, [.ref qw302, .ref qw311, .ref qw320, .ref qw329, .int 0, .int 0, .ref qw338, .ref qw347, .ref qw356, .ref qw365, .ref qw374, .int 0, .ref qw383, .ref qw392, .ref qw401, .null, .null, .null, .null, .int 0, .int 0, .null, .null, .int 0, .null, .int 0, .int 0, .int 0, .int 0])) hw405
  rw [← ew408] at hw409
  have hP24 := hP23.put (fs' := [.ref qw302, .ref qw311, .ref qw320, .ref qw329, .int 0, .int 0, .ref qw338, .ref qw347, .ref qw356, .ref qw365, .ref qw374, .int 0, .ref qw383, .ref qw392, .ref qw401, .null, .null, .null, .null, .int 0, .int 0, .null, .null, .int 0, .null, .int 0, .int 0, .int 0, .int 0])
  rw [← ew408] at hP24
  refine j_aload_n O 0 dM_init_115 rfl rfl ?_
  refine j_ldc O 60000 w418 dM_init_116 ?_
  refine j_newa (atype := .int) O w63 (.int) rfl 0 rfl rfl 60000 (60000, .inl (fun _ => 0)) (fun _ => rfl) (by decide) (by decide) (by decide) (Nat.le_of_ble_eq_true rfl) (Nat.le_of_ble_eq_true rfl) dM_init_118 (fun qw410 gw411 hqw412 ew413 => ?_)
  have hw414 := gNew_old (e' := .inl (t 0, 60000, .inl (fun _ => 0))) hw409 hqw412
  rw [← ew413] at hw414
  have hw415 := gNew_self (g := gw407) (a := qw410) (e := .inl (t 0, 60000, .inl (fun _ => 0)))
  rw [← ew413] at hw415
  have hP25 := hP24.new (e := .inl (t 0, 60000, .inl (fun _ => 0))) hqw412
  rw [← ew413] at hP25
  refine j_putF O hN uwM hw414 rfl 15 (by decide) w462 rfl tM ftM fnM rfl rfl (.array .int) (by decide +kernel) rfl rfl (Nat.le_of_ble_eq_true rfl) [.ref qw302, .ref qw311, .ref qw320, .ref qw329, .int 0, .int 0, .ref qw338, .ref qw347, .ref qw356, .ref qw365, .ref qw374, .int 0, .ref qw383, .ref qw392, .ref qw401, .ref qw410, .null, .null, .null, .int 0, .int 0, .null, .null, .int 0, .null, .int 0, .int 0, .int 0, .int 0] rfl dM_init_120 (fun gw416 ew417 => ?_)
  have hw418 := gUp_self (e' := .inr (6, [.ref qw302, .ref qw311, .ref qw320, .ref qw329, .int 0, .int 0, .ref qw338, .ref qw347, .ref qw356, .ref qw365, .ref qw374, .int 0, .ref qw383, .ref qw392, .ref qw401, .ref qw410, .null, .null, .null, .int 0, .int 0, .null, .null, .int 0, .null, .int 0, .int 0, .int 0, .int 0])) hw414
  rw [← ew417] at hw418
  have hP26 := hP25.put (fs' := [.ref qw302, .ref qw311, .ref qw320, .ref qw329, .int 0, .int 0, .ref qw338, .ref qw347, .ref qw356, .ref qw365, .ref qw374, .int 0, .ref qw383, .ref qw392, .ref qw401, .ref qw410, .null, .null, .null, .int 0, .int 0, .null, .null, .int 0, .null, .int 0, .int 0, .int 0, .int 0])
  rw [← ew417] at hP26
  refine j_aload_n O 0 dM_init_123 rfl rfl ?_
  refine j_ldc O 60000 w418 dM_init_124 ?_
  refine j_newa (atype := .int) O w63 (.int) rfl 0 rfl rfl 60000 (60000, .inl (fun _ => 0)) (fun _ => rfl) (by decide) (by decide) (by decide) (Nat.le_of_ble_eq_true rfl) (Nat.le_of_ble_eq_true rfl) dM_init_126 (fun qw419 gw420 hqw421 ew422 => ?_)
  have hw423 := gNew_old (e' := .inl (t 0, 60000, .inl (fun _ => 0))) hw418 hqw421
  rw [← ew422] at hw423
  have hw424 := gNew_self (g := gw416) (a := qw419) (e := .inl (t 0, 60000, .inl (fun _ => 0)))
  rw [← ew422] at hw424
  have hP27 := hP26.new (e := .inl (t 0, 60000, .inl (fun _ => 0))) hqw421
  rw [← ew422] at hP27
  refine j_putF O hN uwM hw423 rfl 16 (by decide) w463 rfl tM ftM fnM rfl rfl (.array .int) (by decide +kernel) rfl rfl (Nat.le_of_ble_eq_true rfl) [.ref qw302, .ref qw311, .ref qw320, .ref qw329, .int 0, .int 0, .ref qw338, .ref qw347, .ref qw356, .ref qw365, .ref qw374, .int 0, .ref qw383, .ref qw392, .ref qw401, .ref qw410, .ref qw419, .null, .null, .int 0, .int 0, .null, .null, .int 0, .null, .int 0, .int 0, .int 0, .int 0] rfl dM_init_128 (fun gw425 ew426 => ?_)
  have hw427 := gUp_self (e' := .inr (6, [.ref qw302, .ref qw311, .ref qw320, .ref qw329, .int 0, .int 0, .ref qw338, .ref qw347, .ref qw356, .ref qw365, .ref qw374, .int 0, .ref qw383, .ref qw392, .ref qw401, .ref qw410, .ref qw419, .null, .null, .int 0, .int 0, .null, .null, .int 0, .null, .int 0, .int 0, .int 0, .int 0])) hw423
  rw [← ew426] at hw427
  have hP28 := hP27.put (fs' := [.ref qw302, .ref qw311, .ref qw320, .ref qw329, .int 0, .int 0, .ref qw338, .ref qw347, .ref qw356, .ref qw365, .ref qw374, .int 0, .ref qw383, .ref qw392, .ref qw401, .ref qw410, .ref qw419, .null, .null, .int 0, .int 0, .null, .null, .int 0, .null, .int 0, .int 0, .int 0, .int 0])
  rw [← ew426] at hP28
  refine j_aload_n O 0 dM_init_131 rfl rfl ?_
  refine j_ldc O 60000 w418 dM_init_132 ?_
  refine j_newa (atype := .long) O w535 (.long) rfl 3 rfl rfl 60000 (60000, .inr (.inl (fun _ => 0))) (fun _ => rfl) (by decide) (by decide) (by decide) (Nat.le_of_ble_eq_true rfl) (Nat.le_of_ble_eq_true rfl) dM_init_134 (fun qw428 gw429 hqw430 ew431 => ?_)
  have hw432 := gNew_old (e' := .inl (t 3, 60000, .inr (.inl (fun _ => 0)))) hw427 hqw430
  rw [← ew431] at hw432
  have hw433 := gNew_self (g := gw425) (a := qw428) (e := .inl (t 3, 60000, .inr (.inl (fun _ => 0))))
  rw [← ew431] at hw433
  have hP29 := hP28.new (e := .inl (t 3, 60000, .inr (.inl (fun _ => 0)))) hqw430
  rw [← ew431] at hP29
  refine j_putF O hN uwM hw432 rfl 17 (by decide) w464 rfl tM ftM fnM rfl rfl (.array .long) (by decide +kernel) rfl rfl (Nat.le_of_ble_eq_true rfl) [.ref qw302, .ref qw311, .ref qw320, .ref qw329, .int 0, .int 0, .ref qw338, .ref qw347, .ref qw356, .ref qw365, .ref qw374, .int 0, .ref qw383, .ref qw392, .ref qw401, .ref qw410, .ref qw419, .ref qw428, .null, .int 0, .int 0, .null, .null, .int 0, .null, .int 0, .int 0, .int 0, .int 0] rfl dM_init_136 (fun gw434 ew435 => ?_)
  have hw436 := gUp_self (e' := .inr (6, [.ref qw302, .ref qw311, .ref qw320, .ref qw329, .int 0, .int 0, .ref qw338, .ref qw347, .ref qw356, .ref qw365, .ref qw374, .int 0, .ref qw383, .ref qw392, .ref qw401, .ref qw410, .ref qw419, .ref qw428, .null, .int 0, .int 0, .null, .null, .int 0, .null, .int 0, .int 0, .int 0, .int 0])) hw432
  rw [← ew435] at hw436
  have hP30 := hP29.put (fs' := [.ref qw302, .ref qw311, .ref qw320, .ref qw329, .int 0, .int 0, .ref qw338, .ref qw347, .ref qw356, .ref qw365, .ref qw374, .int 0, .ref qw383, .ref qw392, .ref qw401, .ref qw410, .ref qw419, .ref qw428, .null, .int 0, .int 0, .null, .null, .int 0, .null, .int 0, .int 0, .int 0, .int 0])
  rw [← ew435] at hP30
  refine j_aload_n O 0 dM_init_139 rfl rfl ?_
  refine j_sipush O (v := 4096) dM_init_140 (by decide) ?_
  refine j_newa (atype := .int) O w63 (.int) rfl 0 rfl rfl 4096 (4096, .inl (fun _ => 0)) (fun _ => rfl) (by decide) (by decide) (by decide) (Nat.le_of_ble_eq_true rfl) (Nat.le_of_ble_eq_true rfl) dM_init_143 (fun qw437 gw438 hqw439 ew440 => ?_)
  have hw441 := gNew_old (e' := .inl (t 0, 4096, .inl (fun _ => 0))) hw436 hqw439
  rw [← ew440] at hw441
  have hw442 := gNew_self (g := gw434) (a := qw437) (e := .inl (t 0, 4096, .inl (fun _ => 0)))
  rw [← ew440] at hw442
  have hP31 := hP30.new (e := .inl (t 0, 4096, .inl (fun _ => 0))) hqw439
  rw [← ew440] at hP31
  refine j_putF O hN uwM hw441 rfl 18 (by decide) w465 rfl tM ftM fnM rfl rfl (.array .int) (by decide +kernel) rfl rfl (Nat.le_of_ble_eq_true rfl) [.ref qw302, .ref qw311, .ref qw320, .ref qw329, .int 0, .int 0, .ref qw338, .ref qw347, .ref qw356, .ref qw365, .ref qw374, .int 0, .ref qw383, .ref qw392, .ref qw401, .ref qw410, .ref qw419, .ref qw428, .ref qw437, .int 0, .int 0, .null, .null, .int 0, .null, .int 0, .int 0, .int 0, .int 0] rfl dM_init_145 (fun gw443 ew444 => ?_)
  have hw445 := gUp_self (e' := .inr (6, [.ref qw302, .ref qw311, .ref qw320, .ref qw329, .int 0, .int 0, .ref qw338, .ref qw347, .ref qw356, .ref qw365, .ref qw374, .int 0, .ref qw383, .ref qw392, .ref qw401, .ref qw410, .ref qw419, .ref qw428, .ref qw437, .int 0, .int 0, .null, .null, .int 0, .null, .int 0, .int 0, .int 0, .int 0])) hw441
  rw [← ew444] at hw445
  have hP32 := hP31.put (fs' := [.ref qw302, .ref qw311, .ref qw320, .ref qw329, .int 0, .int 0, .ref qw338, .ref qw347, .ref qw356, .ref qw365, .ref qw374, .int 0, .ref qw383, .ref qw392, .ref qw401, .ref qw410, .ref qw419, .ref qw428, .ref qw437, .int 0, .int 0, .null, .null, .int 0, .null, .int 0, .int 0, .int 0, .int 0])
  rw [← ew444] at hP32
  refine j_aload_n O 0 dM_init_148 rfl rfl ?_
  refine j_sipush O (v := 301) dM_init_149 (by decide) ?_
  refine j_newa (atype := .int) O w63 (.int) rfl 0 rfl rfl 301 (301, .inl (fun _ => 0)) (fun _ => rfl) (by decide) (by decide) (by decide) (Nat.le_of_ble_eq_true rfl) (Nat.le_of_ble_eq_true rfl) dM_init_152 (fun qw446 gw447 hqw448 ew449 => ?_)
  have hw450 := gNew_old (e' := .inl (t 0, 301, .inl (fun _ => 0))) hw445 hqw448
  rw [← ew449] at hw450
  have hw451 := gNew_self (g := gw443) (a := qw446) (e := .inl (t 0, 301, .inl (fun _ => 0)))
  rw [← ew449] at hw451
  have hP33 := hP32.new (e := .inl (t 0, 301, .inl (fun _ => 0))) hqw448
  rw [← ew449] at hP33
  refine j_put O uwM hw450 rfl 21 (by decide) w468 rfl tM ftM fnM rfl (.array .int) (by decide +kernel) rfl rfl (Nat.le_of_ble_eq_true rfl) [.ref qw302, .ref qw311, .ref qw320, .ref qw329, .int 0, .int 0, .ref qw338, .ref qw347, .ref qw356, .ref qw365, .ref qw374, .int 0, .ref qw383, .ref qw392, .ref qw401, .ref qw410, .ref qw419, .ref qw428, .ref qw437, .int 0, .int 0, .ref qw446, .null, .int 0, .null, .int 0, .int 0, .int 0, .int 0] rfl dM_init_154 (fun gw452 ew453 => ?_)
  have hw454 := gUp_self (e' := .inr (6, [.ref qw302, .ref qw311, .ref qw320, .ref qw329, .int 0, .int 0, .ref qw338, .ref qw347, .ref qw356, .ref qw365, .ref qw374, .int 0, .ref qw383, .ref qw392, .ref qw401, .ref qw410, .ref qw419, .ref qw428, .ref qw437, .int 0, .int 0, .ref qw446, .null, .int 0, .null, .int 0, .int 0, .int 0, .int 0])) hw450
  rw [← ew453] at hw454
  have hP34 := hP33.put (fs' := [.ref qw302, .ref qw311, .ref qw320, .ref qw329, .int 0, .int 0, .ref qw338, .ref qw347, .ref qw356, .ref qw365, .ref qw374, .int 0, .ref qw383, .ref qw392, .ref qw401, .ref qw410, .ref qw419, .ref qw428, .ref qw437, .int 0, .int 0, .ref qw446, .null, .int 0, .null, .int 0, .int 0, .int 0, .int 0])
  rw [← ew453] at hP34
  refine j_aload_n O 0 dM_init_157 rfl rfl ?_
  refine j_sipush O (v := 301) dM_init_158 (by decide) ?_
  refine j_newa (atype := .int) O w63 (.int) rfl 0 rfl rfl 301 (301, .inl (fun _ => 0)) (fun _ => rfl) (by decide) (by decide) (by decide) (Nat.le_of_ble_eq_true rfl) (Nat.le_of_ble_eq_true rfl) dM_init_161 (fun qw455 gw456 hqw457 ew458 => ?_)
  have hw459 := gNew_old (e' := .inl (t 0, 301, .inl (fun _ => 0))) hw454 hqw457
  rw [← ew458] at hw459
  have hw460 := gNew_self (g := gw452) (a := qw455) (e := .inl (t 0, 301, .inl (fun _ => 0)))
  rw [← ew458] at hw460
  have hP35 := hP34.new (e := .inl (t 0, 301, .inl (fun _ => 0))) hqw457
  rw [← ew458] at hP35
  refine j_put O uwM hw459 rfl 22 (by decide) w469 rfl tM ftM fnM rfl (.array .int) (by decide +kernel) rfl rfl (Nat.le_of_ble_eq_true rfl) [.ref qw302, .ref qw311, .ref qw320, .ref qw329, .int 0, .int 0, .ref qw338, .ref qw347, .ref qw356, .ref qw365, .ref qw374, .int 0, .ref qw383, .ref qw392, .ref qw401, .ref qw410, .ref qw419, .ref qw428, .ref qw437, .int 0, .int 0, .ref qw446, .ref qw455, .int 0, .null, .int 0, .int 0, .int 0, .int 0] rfl dM_init_163 (fun gw461 ew462 => ?_)
  have hw463 := gUp_self (e' := .inr (6, [.ref qw302, .ref qw311, .ref qw320, .ref qw329, .int 0, .int 0, .ref qw338, .ref qw347, .ref qw356, .ref qw365, .ref qw374, .int 0, .ref qw383, .ref qw392, .ref qw401, .ref qw410, .ref qw419, .ref qw428, .ref qw437, .int 0, .int 0, .ref qw446, .ref qw455, .int 0, .null, .int 0, .int 0, .int 0, .int 0])) hw459
  rw [← ew462] at hw463
  have hP36 := hP35.put (fs' := [.ref qw302, .ref qw311, .ref qw320, .ref qw329, .int 0, .int 0, .ref qw338, .ref qw347, .ref qw356, .ref qw365, .ref qw374, .int 0, .ref qw383, .ref qw392, .ref qw401, .ref qw410, .ref qw419, .ref qw428, .ref qw437, .int 0, .int 0, .ref qw446, .ref qw455, .int 0, .null, .int 0, .int 0, .int 0, .int 0])
  rw [← ew462] at hP36
  refine j_aload_n O 0 dM_init_166 rfl rfl ?_
  refine j_sipush O (v := 2100) dM_init_167 (by decide) ?_
  refine j_newa (atype := .long) O w535 (.long) rfl 3 rfl rfl 2100 (2100, .inr (.inl (fun _ => 0))) (fun _ => rfl) (by decide) (by decide) (by decide) (Nat.le_of_ble_eq_true rfl) (Nat.le_of_ble_eq_true rfl) dM_init_170 (fun qw464 gw465 hqw466 ew467 => ?_)
  have hw468 := gNew_old (e' := .inl (t 3, 2100, .inr (.inl (fun _ => 0)))) hw463 hqw466
  rw [← ew467] at hw468
  have hw469 := gNew_self (g := gw461) (a := qw464) (e := .inl (t 3, 2100, .inr (.inl (fun _ => 0))))
  rw [← ew467] at hw469
  have hP37 := hP36.new (e := .inl (t 3, 2100, .inr (.inl (fun _ => 0)))) hqw466
  rw [← ew467] at hP37
  refine j_putF O hN uwM hw468 rfl 24 (by decide) w471 rfl tM ftM fnM rfl rfl (.array .long) (by decide +kernel) rfl rfl (Nat.le_of_ble_eq_true rfl) [.ref qw302, .ref qw311, .ref qw320, .ref qw329, .int 0, .int 0, .ref qw338, .ref qw347, .ref qw356, .ref qw365, .ref qw374, .int 0, .ref qw383, .ref qw392, .ref qw401, .ref qw410, .ref qw419, .ref qw428, .ref qw437, .int 0, .int 0, .ref qw446, .ref qw455, .int 0, .ref qw464, .int 0, .int 0, .int 0, .int 0] rfl dM_init_172 (fun gw470 ew471 => ?_)
  have hw472 := gUp_self (e' := .inr (6, [.ref qw302, .ref qw311, .ref qw320, .ref qw329, .int 0, .int 0, .ref qw338, .ref qw347, .ref qw356, .ref qw365, .ref qw374, .int 0, .ref qw383, .ref qw392, .ref qw401, .ref qw410, .ref qw419, .ref qw428, .ref qw437, .int 0, .int 0, .ref qw446, .ref qw455, .int 0, .ref qw464, .int 0, .int 0, .int 0, .int 0])) hw468
  rw [← ew471] at hw472
  have hP38 := hP37.put (fs' := [.ref qw302, .ref qw311, .ref qw320, .ref qw329, .int 0, .int 0, .ref qw338, .ref qw347, .ref qw356, .ref qw365, .ref qw374, .int 0, .ref qw383, .ref qw392, .ref qw401, .ref qw410, .ref qw419, .ref qw428, .ref qw437, .int 0, .int 0, .ref qw446, .ref qw455, .int 0, .ref qw464, .int 0, .int 0, .int 0, .int 0])
  rw [← ew471] at hP38
  refine j_iconst O (v := 0) dM_init_175 (by decide) ?_
  refine j_istore_n O 1 [(1, .int 0), (0, .ref T)] dM_init_176 rfl (by decide) rfl ?_
  have hnd := hP38.2.2
  have hin := hP38.2.1
  have hobj := hP38.1
  obtain ⟨u, eu⟩ : ∃ u : Nat → Nat, u = fun i => ([T, qw464, qw455, qw446, qw437, qw428, qw419, qw410, qw401, qw392, qw383, qw374, qw365, qw356, qw347, qw338, qw329, (qw329 + 1 + 0), (qw329 + 1 + 1), (qw329 + 1 + 2), (qw329 + 1 + 3), (qw329 + 1 + 4), (qw329 + 1 + 5), qw320, (qw320 + 1 + 0), (qw320 + 1 + 1), (qw320 + 1 + 2), (qw320 + 1 + 3), (qw320 + 1 + 4), (qw320 + 1 + 5), qw311, qw302] : List Nat).getD (([31, 30, 23, 16, 15, 14, 13, 12, 11, 10, 9, 8, 7, 6, 5, 4, 3, 2, 1, 0, 24, 25, 26, 27, 28, 29, 17, 18, 19, 20, 21, 22] : List Nat).getD i 0) 0 := ⟨_, rfl⟩
  have hpt : ∀ i, i < 32 → ([31, 30, 23, 16, 15, 14, 13, 12, 11, 10, 9, 8, 7, 6, 5, 4, 3, 2, 1, 0, 24, 25, 26, 27, 28, 29, 17, 18, 19, 20, 21, 22] : List Nat).getD i 0 < 32 := by decide
  have hpn : ∀ i, i < 32 → ∀ j, j < 32 → i ≠ j → ([31, 30, 23, 16, 15, 14, 13, 12, 11, 10, 9, 8, 7, 6, 5, 4, 3, 2, 1, 0, 24, 25, 26, 27, 28, 29, 17, 18, 19, 20, 21, 22] : List Nat).getD i 0 ≠ ([31, 30, 23, 16, 15, 14, 13, 12, 11, 10, 9, 8, 7, 6, 5, 4, 3, 2, 1, 0, 24, 25, 26, 27, 28, 29, 17, 18, 19, 20, 21, 22] : List Nat).getD j 0 := by decide
  have hnd2 : ([T, qw464, qw455, qw446, qw437, qw428, qw419, qw410, qw401, qw392, qw383, qw374, qw365, qw356, qw347, qw338, qw329, (qw329 + 1 + 0), (qw329 + 1 + 1), (qw329 + 1 + 2), (qw329 + 1 + 3), (qw329 + 1 + 4), (qw329 + 1 + 5), qw320, (qw320 + 1 + 0), (qw320 + 1 + 1), (qw320 + 1 + 2), (qw320 + 1 + 3), (qw320 + 1 + 4), (qw320 + 1 + 5), qw311, qw302] : List Nat).Nodup := hnd
  have hne : ∀ i j, i < 32 → j < 32 → i ≠ j → u i ≠ u j := fun i j hi hj hij e => by
    have h1 := hpt i hi
    have h2 := hpt j hj
    have h3 := hpn i hi j hj hij
    rw [eu] at e
    dsimp only at e
    generalize ([31, 30, 23, 16, 15, 14, 13, 12, 11, 10, 9, 8, 7, 6, 5, 4, 3, 2, 1, 0, 24, 25, 26, 27, 28, 29, 17, 18, 19, 20, 21, 22] : List Nat).getD i 0 = a at *
    generalize ([31, 30, 23, 16, 15, 14, 13, 12, 11, 10, 9, 8, 7, 6, 5, 4, 3, 2, 1, 0, 24, 25, 26, 27, 28, 29, 17, 18, 19, 20, 21, 22] : List Nat).getD j 0 = b at *
    have hl : ([T, qw464, qw455, qw446, qw437, qw428, qw419, qw410, qw401, qw392, qw383, qw374, qw365, qw356, qw347, qw338, qw329, (qw329 + 1 + 0), (qw329 + 1 + 1), (qw329 + 1 + 2), (qw329 + 1 + 3), (qw329 + 1 + 4), (qw329 + 1 + 5), qw320, (qw320 + 1 + 0), (qw320 + 1 + 1), (qw320 + 1 + 2), (qw320 + 1 + 3), (qw320 + 1 + 4), (qw320 + 1 + 5), qw311, qw302] : List Nat).length = 32 := rfl
    rw [List.getD_eq_getElem?_getD, List.getD_eq_getElem?_getD, List.getElem?_eq_getElem (by rw [hl]; exact h1), List.getElem?_eq_getElem (by rw [hl]; exact h2)] at e
    have hpw := List.pairwise_iff_getElem.mp hnd2
    rcases Nat.lt_or_gt_of_ne h3 with z | z
    · exact hpw a b (by rw [hl]; exact h1) (by rw [hl]; exact h2) z e
    · exact hpw b a (by rw [hl]; exact h2) (by rw [hl]; exact h1) z e.symm
  have e0 : u 0 = qw302 := by rw [eu]; rfl
  have e1 : u 1 = qw311 := by rw [eu]; rfl
  have e2 : u 2 = qw320 := by rw [eu]; rfl
  have e3 : u 3 = qw329 := by rw [eu]; rfl
  have e4 : u 4 = qw338 := by rw [eu]; rfl
  have e5 : u 5 = qw347 := by rw [eu]; rfl
  have e6 : u 6 = qw356 := by rw [eu]; rfl
  have e7 : u 7 = qw365 := by rw [eu]; rfl
  have e8 : u 8 = qw374 := by rw [eu]; rfl
  have e9 : u 9 = qw383 := by rw [eu]; rfl
  have e10 : u 10 = qw392 := by rw [eu]; rfl
  have e11 : u 11 = qw401 := by rw [eu]; rfl
  have e12 : u 12 = qw410 := by rw [eu]; rfl
  have e13 : u 13 = qw419 := by rw [eu]; rfl
  have e14 : u 14 = qw428 := by rw [eu]; rfl
  have e15 : u 15 = qw437 := by rw [eu]; rfl
  have e16 : u 16 = qw446 := by rw [eu]; rfl
  have e17 : u 17 = qw455 := by rw [eu]; rfl
  have e18 : u 18 = qw464 := by rw [eu]; rfl
  have e19 : u 19 = T := by rw [eu]; rfl
  have h6 : ∀ i, i < 6 → i = 0 ∨ i = 1 ∨ i = 2 ∨ i = 3 ∨ i = 4 ∨ i = 5 := fun i hi => by omega
  have u20 : ∀ i, i < 6 → u (20 + i) = qw320 + 1 + i := fun i hi => by rcases h6 i hi with rfl | rfl | rfl | rfl | rfl | rfl <;> (rw [eu]; rfl)
  have u26 : ∀ i, i < 6 → u (26 + i) = qw329 + 1 + i := fun i hi => by rcases h6 i hi with rfl | rfl | rfl | rfl | rfl | rfl <;> (rw [eu]; rfl)
  have k0 : gAt gw470 (u 0) (eI t 6 (fun _ => 0)) := by rw [e0]; exact hin _ (List.mem_of_getElem? (i := 30) rfl)
  have k1 : gAt gw470 (u 1) (eI t 6 (fun _ => 0)) := by rw [e1]; exact hin _ (List.mem_of_getElem? (i := 29) rfl)
  have k2 : gAt gw470 (u 2) (eII t 6 (fun j => some (qw320 + 1 + j))) := by rw [e2]; exact hin _ (List.mem_of_getElem? (i := 22) rfl)
  have k3 : gAt gw470 (u 3) (eLL t 6 (fun j => some (qw329 + 1 + j))) := by rw [e3]; exact hin _ (List.mem_of_getElem? (i := 15) rfl)
  have k4 : gAt gw470 (u 4) (eI t 301 (fun _ => 0)) := by rw [e4]; exact hin _ (List.mem_of_getElem? (i := 14) rfl)
  have k5 : gAt gw470 (u 5) (eL t 1806 (fun _ => 0)) := by rw [e5]; exact hin _ (List.mem_of_getElem? (i := 13) rfl)
  have k6 : gAt gw470 (u 6) (eI t 600 (fun _ => 0)) := by rw [e6]; exact hin _ (List.mem_of_getElem? (i := 12) rfl)
  have k7 : gAt gw470 (u 7) (eI t 600 (fun _ => 0)) := by rw [e7]; exact hin _ (List.mem_of_getElem? (i := 11) rfl)
  have k8 : gAt gw470 (u 8) (eI t 600 (fun _ => 0)) := by rw [e8]; exact hin _ (List.mem_of_getElem? (i := 10) rfl)
  have k9 : gAt gw470 (u 9) (eI t 60000 (fun _ => 0)) := by rw [e9]; exact hin _ (List.mem_of_getElem? (i := 9) rfl)
  have k10 : gAt gw470 (u 10) (eI t 60000 (fun _ => 0)) := by rw [e10]; exact hin _ (List.mem_of_getElem? (i := 8) rfl)
  have k11 : gAt gw470 (u 11) (eI t 60000 (fun _ => 0)) := by rw [e11]; exact hin _ (List.mem_of_getElem? (i := 7) rfl)
  have k12 : gAt gw470 (u 12) (eI t 60000 (fun _ => 0)) := by rw [e12]; exact hin _ (List.mem_of_getElem? (i := 6) rfl)
  have k13 : gAt gw470 (u 13) (eI t 60000 (fun _ => 0)) := by rw [e13]; exact hin _ (List.mem_of_getElem? (i := 5) rfl)
  have k14 : gAt gw470 (u 14) (eL t 60000 (fun _ => 0)) := by rw [e14]; exact hin _ (List.mem_of_getElem? (i := 4) rfl)
  have k15 : gAt gw470 (u 15) (eI t 4096 (fun _ => 0)) := by rw [e15]; exact hin _ (List.mem_of_getElem? (i := 3) rfl)
  have k16 : gAt gw470 (u 16) (eI t 301 (fun _ => 0)) := by rw [e16]; exact hin _ (List.mem_of_getElem? (i := 2) rfl)
  have k17 : gAt gw470 (u 17) (eI t 301 (fun _ => 0)) := by rw [e17]; exact hin _ (List.mem_of_getElem? (i := 1) rfl)
  have k18 : gAt gw470 (u 18) (eL t 2100 (fun _ => 0)) := by rw [e18]; exact hin _ (List.mem_of_getElem? (i := 0) rfl)
  have k19 : gAt gw470 (u 19) (eM u 0 0 0 0 0 0 0 0 0 0) := by
    unfold eM
    rw [e0, e1, e2, e3, e4, e5, e6, e7, e8, e9, e10, e11, e12, e13, e14, e15, e16, e17, e18, e19]
    exact hobj
  have hRT : RT t gw470 u (tbk 0) := by
    refine ⟨⟨_, k0, fun i hi => rfl⟩, ⟨_, k1, fun i hi => rfl⟩, ⟨_, k2, fun i hi => by rw [u20 i hi]⟩, ⟨_, k3, fun i hi => by rw [u26 i hi]⟩, fun i hi => ⟨(fun _ => 0), (fun _ => 0), ?_, ?_, fun r hr => absurd hr (Nat.not_lt_zero _)⟩⟩
    · rw [u20 i hi]
      rcases h6 i hi with rfl | rfl | rfl | rfl | rfl | rfl
      · exact hin _ (List.mem_of_getElem? (i := 23) rfl)
      · exact hin _ (List.mem_of_getElem? (i := 24) rfl)
      · exact hin _ (List.mem_of_getElem? (i := 25) rfl)
      · exact hin _ (List.mem_of_getElem? (i := 26) rfl)
      · exact hin _ (List.mem_of_getElem? (i := 27) rfl)
      · exact hin _ (List.mem_of_getElem? (i := 28) rfl)
    · rw [u26 i hi]
      rcases h6 i hi with rfl | rfl | rfl | rfl | rfl | rfl
      · exact hin _ (List.mem_of_getElem? (i := 16) rfl)
      · exact hin _ (List.mem_of_getElem? (i := 17) rfl)
      · exact hin _ (List.mem_of_getElem? (i := 18) rfl)
      · exact hin _ (List.mem_of_getElem? (i := 19) rfl)
      · exact hin _ (List.mem_of_getElem? (i := 20) rfl)
      · exact hin _ (List.mem_of_getElem? (i := 21) rfl)
  have hRD : RD t gw470 u [] := ⟨_, _, _, k6, k7, k8, fun i hi => (by cases hi), Nat.zero_le _⟩
  have hRS : RS t gw470 u (encL []) := ⟨⟨_, _, _, _, _, _, _, k9, k10, k11, k12, k13, k14, k15, RSa.nil _ _ _ _ _ _ (fun j hj => rfl)⟩, Nat.zero_le _, Nat.zero_le _, fun x hx => (by cases hx)⟩
  have hVO : VOK [] := ⟨List.Pairwise.nil, fun v hv => (by cases hv), fun n hn => absurd hn (Nat.not_lt_zero _)⟩
  have hSB : SB t gw470 u (nI 0) (wk s00.1 0) := ⟨⟨0, 0, 0, 0, 0, 0, 0, k19⟩, ⟨_, k16⟩, ⟨_, k17⟩, ⟨_, k18⟩, ⟨_, k4⟩, ⟨_, k5⟩, hRS, hVO⟩
  refine J.pk [1, 0] rfl ?_
  show J X 2 (zz D t A) gw470 31 383371 177 [(0, .ref T), (1, .int 0)] []
  rw [← e19]
  have HK : ∀ g9 : GH, SB t g9 u (nI 0) (wk s00.1 6) → RT t g9 u (tbk 6) → RD t g9 u [] → J X 2 (zz D t A) g9 31 383371 202 [(0, .ref (u 19))] [] := fun g9 hS9 hT9 hD9 => j_vret O M (Nat.le_of_ble_eq_true rfl) (Nat.le_of_ble_eq_true rfl) ⟨rfl, u, wk s00.1 6, e19, tbk6 hT9, hD9, hS9, s00_wk hS9.2.2.2.2.2.2.2.1, hne⟩ dM_init_202
  exact M_init_loop (g := g) (u := u) (k0 := 31) (n0 := 383371) O hne ⟨(Nat.le_of_ble_eq_true rfl), (Nat.le_of_ble_eq_true rfl), (Nat.le_of_ble_eq_true rfl), (Nat.le_of_ble_eq_true rfl)⟩ HK 6 0 gw470 rfl hSB hRT hRD
