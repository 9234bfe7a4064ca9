/-! THE CLAIM OUT OF ONE WALK OF THE LAW'S BODY. Your part is whole_start (and what it stands on); all else here is the same for every law, but numbers. -/
def R_law : String := "TwinTreesLaw"
def lw_P (b : Addr) (xs : List Int32) (args : Array Value) (s : State) : Prop := args = #[.ref b] ∧ s.IntsAt b xs ∧ xs.length ≤ 3072 ∧ (Jvm.Cond.and given_1 narrow_1).before args s = true
def lw_Q (_ : Array Value) (s : State) (o : Outcome) (t : State) : Prop := o = .returned (some (.int 1)) ∧ Framed s o t [] 600000 7302250
def lw_Z (below : List Frame) (a : Array Value) (s : State) : State → Prop := fun t => ∃ o, t.status = .running ∧ Ended t below o ∧ lw_Q a s o t
/-- the law's own end, with 1 on the stack, nothing written that was there before, its room as the claim has it -/
theorem lw_ret {p : Program} {l : Launch} {e : Env} {s : State} {m : MethodId} {below : List Frame} {meth : Method} {c : Code} {b : Nat} (hx : p.tables.exec = Jvm.exec) (hb : c.code = code) (hr : meth.sig.returnType = ret) (hlocks : meth.locks = false) {pc : Nat} {H : Heap} {ls : Array Slot} (hdg : decode code pc = .ok (.ireturn, 1)) : W p l e room_1 s m #[Value.ref b] below meth c H [] 600000 7302250 (lw_Z below #[Value.ref b] s) (F0 m pc ls [.int 1]) := by
  intro T hT X
  obtain ⟨fs, hret, hrun, hended, hW, hframe⟩ := X.leave (v := some (.int 1)) (hlocks := hlocks) (fun h => by rw [hr] at h; cases h)
  have hmeth' : T.vm.method? m = some meth := X.method'
  refine ⟨T.setFrames fs, ?_, .returned (some (.int 1)), hrun, hended, rfl, ⟨_, rfl⟩, hW, hframe⟩
  jvm_step X.here [X.here.top, hx, hb, hdg, hmeth', hr, ret, narrow_b1]
  (try refine ⟨rfl, ?_⟩); (try refine ⟨rfl, ?_⟩)
  first | (intro acts; rw [hret _ acts rfl rfl rfl]) | rw [hret _ _ rfl rfl rfl]
  exact Steps.refl _
/-- what holds at the law's entry: the machine, the code, the tables' words (any of lw_tbl by 'hts w (by decide +kernel)'), the script of L ints xs at the cell b, what the Statement gives of the start (any of its parts by flat_of_before) -/
def lw_At (p : Program) (s : State) (m : MethodId) (meth : Method) (c : Code) (b L : Nat) (xs : Nat → Int32) : Prop :=
  p.tables.exec = Jvm.exec ∧ c.code = code ∧ meth.sig.returnType = ret ∧ c.maxLocals = 4 ∧ s.vm.findClass R_law = some m.cls ∧ (∀ w ∈ lw_tbl, w.before #[Value.ref b] s = true) ∧ va_X b L xs s s.heap ∧ b < s.heap.size ∧ meth.locks = false ∧ (Jvm.Cond.and given_1 narrow_1).before #[Value.ref b] s = true
theorem ao_same {ty : FieldType} {A : Array Value} {u V : State} (e : u.vm = V.vm) (h : va_Nw (.arrayOver ty) u) : (Cond.arrayOver ty).before A V = true := by
  unfold va_Nw at h
  simp only [Cond.before, Cond.holds, Cond.value] at h ⊢
  rw [← e]
  exact h
theorem ao_warm {ty : FieldType} {s V : State} (hW : s.WarmedH V.vm) (h : va_Nw (.arrayOver ty) s) : va_Nw (.arrayOver ty) V := ao_same (u := s.setVm V.vm) rfl (by unfold va_Nw; rw [Cond.arrayOver_setVmC hW.alike]; exact h)
theorem nw0 : Cond.methodLinkNest "TwinTrees" 21 ⟨"TwinTrees$Store", "<init>", "()V"⟩ "TwinTrees" ∈ lw_tbl := List.mem_of_getElem? (i := 45) (by decide +kernel)
theorem nw1 : Cond.methodLinkNest "TwinTrees" 28 ⟨"TwinTrees$Differences", "<init>", "()V"⟩ "TwinTrees" ∈ lw_tbl := List.mem_of_getElem? (i := 68) (by decide +kernel)
theorem nw2 : Cond.methodLinkNest "TwinTrees" 35 ⟨"TwinTrees$RowList", "<init>", "()V"⟩ "TwinTrees" ∈ lw_tbl := List.mem_of_getElem? (i := 91) (by decide +kernel)
theorem nw3 : Cond.methodLinkNest "TwinTrees$Row" 20 ⟨"TwinTrees", "levelOf", "(I)I"⟩ "TwinTrees" ∈ lw_tbl := List.mem_of_getElem? (i := 293) (by decide +kernel)
theorem nw4 : Cond.arrayOver (.object "TwinTrees$Node") ∈ lw_tbl := List.mem_of_getElem? (i := 42) (by decide +kernel)
theorem nw5 : Cond.arrayOver (.object "TwinTrees$Row") ∈ lw_tbl := List.mem_of_getElem? (i := 96) (by decide +kernel)
theorem nw6 : Cond.arrayOver (.array .int) ∈ lw_tbl := List.mem_of_getElem? (i := 435) (by decide +kernel)
theorem nw7 : Cond.arrayOver (.array .long) ∈ lw_tbl := List.mem_of_getElem? (i := 437) (by decide +kernel)
theorem nw8 : Cond.sameMethod "[I" "java/lang/Object" "clone" "()Ljava/lang/Object;" ∈ lw_tbl := List.mem_of_getElem? (i := 332) (by decide +kernel)
theorem nw9 : Cond.castable "[I" "java/lang/Cloneable" ∈ lw_tbl := List.mem_of_getElem? (i := 336) (by decide +kernel)
theorem law_zN {D : va_G} {t : Nat → ClassId} {A : Nat → Prop} {s : State} {args : Array Value} (hts : ∀ w ∈ lw_tbl, w.before args s = true) : zN (zz D t A) s := by
  intro w hw
  have hw : w ∈ nwA := hw
  simp only [nwA, List.mem_cons, List.not_mem_nil, or_false] at hw
  rcases hw with rfl | rfl | rfl | rfl | rfl | rfl | rfl | rfl | rfl | rfl
  · exact ⟨fun A u V e h => va_tabs rfl e h, fun s V hW h => va_Nw.warmM hW h, va_Nw.of rfl (hts _ nw0)⟩
  · exact ⟨fun A u V e h => va_tabs rfl e h, fun s V hW h => va_Nw.warmM hW h, va_Nw.of rfl (hts _ nw1)⟩
  · exact ⟨fun A u V e h => va_tabs rfl e h, fun s V hW h => va_Nw.warmM hW h, va_Nw.of rfl (hts _ nw2)⟩
  · exact ⟨fun A u V e h => va_tabs rfl e h, fun s V hW h => va_Nw.warmM hW h, va_Nw.of rfl (hts _ nw3)⟩
  · exact ⟨fun A u V e h => ao_same e h, fun s V hW h => ao_warm hW h, hts _ nw4⟩
  · exact ⟨fun A u V e h => ao_same e h, fun s V hW h => ao_warm hW h, hts _ nw5⟩
  · exact ⟨fun A u V e h => ao_same e h, fun s V hW h => ao_warm hW h, hts _ nw6⟩
  · exact ⟨fun A u V e h => ao_same e h, fun s V hW h => ao_warm hW h, hts _ nw7⟩
  · exact ⟨fun A u V e h => va_tabs rfl e h, fun s V hW h => va_tabs rfl (rfl : (s.setVm V.vm).vm = V.vm) (Cond.sameMethod_setVm hW.alike (by decide) h), va_Nw.of rfl (hts _ nw8)⟩
  · exact ⟨fun A u V e h => va_tabs rfl e h, fun s V hW h => va_Nw.warmC hW h, va_Nw.of rfl (hts _ nw9)⟩
theorem law_K {s : State} {args : Array Value} (hts : ∀ w ∈ lw_tbl, w.before args s = true) : ∃ (D : va_G) (t : Nat → ClassId), va_K D clA (tysA t) s := by
  have haw : ∀ w ∈ aw, w.before args s = true := fun w h => hts w (aw_tbl w h)
  obtain ⟨c0, i0, hk0⟩ := u_known (C := kT) (T := fT) (N := 8) (n := 8) haw uwT (haw _ w34)
  obtain ⟨c1, i1, hk1⟩ := u_known (C := kD) (T := fD) (N := 4) (n := 4) haw uwD (haw _ w65)
  obtain ⟨c2, i2, hk2⟩ := u_known (C := kN) (T := fN) (N := 12) (n := 12) haw uwN (haw _ w124)
  obtain ⟨c3, i3, hk3⟩ := u_known (C := kR) (T := fR) (N := 5) (n := 5) haw uwR (haw _ w275)
  obtain ⟨c4, i4, hk4⟩ := u_known (C := kQ) (T := fQ) (N := 2) (n := 2) haw uwQ (haw _ w87)
  obtain ⟨c5, i5, hk5⟩ := u_known (C := kS) (T := fS) (N := 4) (n := 4) haw uwS (haw _ w43)
  obtain ⟨c6, i6, hk6⟩ := u_known (C := kM) (T := fM) (N := 29) (n := 29) haw uwM (haw _ w411)
  obtain ⟨a0, m0, x0, y0, y0', y0''⟩ := Cond.arrayClass_spec (haw _ w63)
  obtain ⟨x1, a1, m1, z1, z1', y1, y1', y1''⟩ := Cond.arrayOver_spec (hts _ nw5)
  obtain ⟨x2, a2, m2, z2, z2', y2, y2', y2''⟩ := Cond.arrayOver_spec (hts _ nw4)
  obtain ⟨a3, m3, x3, y3, y3', y3''⟩ := Cond.arrayClass_spec (haw _ w535)
  obtain ⟨x4, a4, m4, z4, y4, y4', y4''⟩ := ao_arr (hts _ nw6)
  obtain ⟨x5, a5, m5, z5, y5, y5', y5''⟩ := ao_arr (hts _ nw7)
  refine ⟨(fun k => if k = 0 then c0 else if k = 1 then c1 else if k = 2 then c2 else if k = 3 then c3 else if k = 4 then c4 else if k = 5 then c5 else c6, fun k => if k = 0 then i0 else if k = 1 then i1 else if k = 2 then i2 else if k = 3 then i3 else if k = 4 then i4 else if k = 5 then i5 else i6), fun k => if k = 0 then a0 else if k = 1 then a1 else if k = 2 then a2 else if k = 3 then a3 else if k = 4 then a4 else a5, fun k q hq => ?_, fun k q hq => ?_⟩
  · match k, hq with
    | 0, hq => cases hq; exact hk0
    | 1, hq => cases hq; exact hk1
    | 2, hq => cases hq; exact hk2
    | 3, hq => cases hq; exact hk3
    | 4, hq => cases hq; exact hk4
    | 5, hq => cases hq; exact hk5
    | 6, hq => cases hq; exact hk6
    | k + 7, hq => simp [clA] at hq
  · match k, hq with
    | 0, hq => cases hq; exact ⟨fun N z => ⟨(fun k h => by cases h), m0, y0', x0, y0''⟩, y0⟩
    | 1, hq => cases hq; exact ⟨fun N z => ⟨(fun k h => by cases h), m1, y1, x1, y1'⟩, m1, x1, y1, y1', z1, y1''⟩
    | 2, hq => cases hq; exact ⟨fun N z => ⟨(fun k h => by cases h), m2, y2, x2, y2'⟩, m2, x2, y2, y2', z2, y2''⟩
    | 3, hq => cases hq; exact ⟨fun N z => ⟨(fun k h => by cases h), m3, y3', x3, y3''⟩, y3⟩
    | 4, hq => cases hq; exact ⟨fun N z => ⟨(fun k h => by cases h), m4, y4, x4, y4'⟩, y4''⟩
    | 5, hq => cases hq; exact ⟨fun N z => ⟨(fun k h => by cases h), m5, y5, x5, y5'⟩, y5''⟩
    | k + 6, hq => simp [tysA] at hq
-- ===== YOUR PART BEGINS =====
set_option maxRecDepth 100000 in
set_option maxHeartbeats 1000000 in
theorem whole_start {p : Program} {e : Env} {s : State} {m : MethodId} {below : List Frame} {meth : Method} {c : Code} (l : Launch) {b L : Nat} {xs : Nat → Int32} (hL : L ≤ 3072) (C0 : lw_At p s m meth c b L xs) : W p l e room_1 s m #[Value.ref b] below meth c s.heap [] 0 0 (lw_Z below #[Value.ref b] s) (entryFrame m ([Value.ref b] : List Value).toArray 4) := by
  obtain ⟨hx, hb, hr, hml, hown, hts, hX, hbl, hlocks, hgv⟩ := id C0
  obtain ⟨D, t, hK⟩ := law_K hts
  have hbA : ¬ (fun q : Nat => s.heap.size ≤ q) b := Nat.not_le.mpr hbl
  have O : Ok (p, l, e, room_1, s, m, #[Value.ref b], below, meth, c, lw_Z below #[Value.ref b] s) bL_law 4 "TwinTreesLaw" (zz D t (fun q => s.heap.size ≤ q)) room_1 := ⟨⟨hx, hb, hml, hown, fun w h => hts w (aw_tbl w h)⟩, hK, fun q h => h, rfl, law_zN hts⟩
  have HE : ∀ (k n : Nat) (g : GH), k ≤ 600000 → n ≤ 7302250 → J (p, l, e, room_1, s, m, #[Value.ref b], below, meth, c, lw_Z below #[Value.ref b] s) 4 (zz D t (fun q => s.heap.size ≤ q)) g k n 518 [(0, .ref b)] [] := by
    intro k n g h1 h2
    refine j_iconst O (v := 1) dL_law_518 (by decide) ?_
    intro H locs ls ha hs hl
    refine va_forget (fun q hq => hs.2.2 q hq) ?_
    refine W.widen h1 h2 ?_
    exact lw_ret hx hb hr hlocks dL_law_519
  have K : J (p, l, e, room_1, s, m, #[Value.ref b], below, meth, c, lw_Z below #[Value.ref b] s) 4 (zz D t (fun q => s.heap.size ≤ q)) (([] : List Nat), fun _ => .inr (0, [])) 0 0 0 [(0, .ref b)] [] := by
    generalize hXe : (p, l, e, room_1, s, m, #[Value.ref b], below, meth, c, lw_Z below #[Value.ref b] s) = X at O HE ⊢
    have hX2 : va_X b L xs X.2.2.2.2.1 X.2.2.2.2.1.heap := by rw [← hXe]; exact hX
    have hbl2 : b < X.2.2.2.2.1.heap.size := by rw [← hXe]; exact hbl
    generalize hAe : (fun q : Nat => s.heap.size ≤ q) = A at O HE hbA ⊢
    refine j_new (ci := 0) O uwT tT ftT w33 w34 w23 rfl [.null, .null, .null, .null, .null, .null, .null, .int 0] (fun j hj => by rcases (show j = 0 ∨ j = 1 ∨ j = 2 ∨ j = 3 ∨ j = 4 ∨ j = 5 ∨ j = 6 ∨ j = 7 by omega) with rfl | rfl | rfl | rfl | rfl | rfl | rfl | rfl <;> rfl) (Nat.le_of_ble_eq_true rfl) (Nat.le_of_ble_eq_true rfl) dL_law_0 (fun qw79 gw80 hqw81 ew82 => ?_)
    have hw83 := gNew_self (g := (([] : List Nat), (fun _ => .inr (0, []) : Nat → va_E))) (a := qw79) (e := .inr (0, [.null, .null, .null, .null, .null, .null, .null, .int 0]))
    rw [← ew82] at hw83
    refine j_dup O dL_law_3 rfl ?_
    refine j_callI O [] (c_T_init X.2.1 D t A gw80 qw79 hw83) w37 0 rfl rfl rfl w23 w35 w36 rfl (by decide +kernel) ⟨(Nat.le_of_ble_eq_true rfl), (Nat.le_of_ble_eq_true rfl)⟩ rfl (Nat.le_of_ble_eq_true rfl) dL_law_4 ⟨(Nat.le_of_ble_eq_true rfl), (Nat.le_of_ble_eq_true rfl)⟩ (fun vw84 gw85 hpw86 => ?_)
    obtain ⟨rfl, p1, w1, ep, hT⟩ := hpw86
    refine j_astore_n O 1 [(1, .ref qw79), (0, .ref b)] dL_law_7 rfl (by decide) rfl ?_
    refine j_new (ci := 6) O uwM tM ftM w410 w411 w28 rfl [.null, .null, .null, .null, .int 0, .int 0, .null, .null, .null, .null, .null, .int 0, .null, .null, .null, .null, .null, .null, .null, .int 0, .int 0, .null, .null, .int 0, .null, .int 0, .int 0, .int 0, .int 0] (fun j hj => by rcases (show j = 0 ∨ j = 1 ∨ j = 2 ∨ j = 3 ∨ j = 4 ∨ j = 5 ∨ j = 6 ∨ j = 7 ∨ j = 8 ∨ j = 9 ∨ j = 10 ∨ j = 11 ∨ j = 12 ∨ j = 13 ∨ j = 14 ∨ j = 15 ∨ j = 16 ∨ j = 17 ∨ j = 18 ∨ j = 19 ∨ j = 20 ∨ j = 21 ∨ j = 22 ∨ j = 23 ∨ j = 24 ∨ j = 25 ∨ j = 26 ∨ j = 27 ∨ j = 28 by omega) with rfl | rfl | rfl | rfl | rfl | rfl | rfl | rfl | rfl | rfl | rfl | rfl | rfl | rfl | rfl | rfl | rfl | rfl | rfl | rfl | rfl | rfl | rfl | rfl | rfl | rfl | rfl | rfl | rfl <;> rfl) (Nat.le_of_ble_eq_true rfl) (Nat.le_of_ble_eq_true rfl) dL_law_8 (fun qw87 gw88 hqw89 ew90 => ?_)
    have hw91 := gNew_self (g := gw85) (a := qw87) (e := .inr (6, [.null, .null, .null, .null, .int 0, .int 0, .null, .null, .null, .null, .null, .int 0, .null, .null, .null, .null, .null, .null, .null, .int 0, .int 0, .null, .null, .int 0, .null, .int 0, .int 0, .int 0, .int 0]))
    rw [← ew90] at hw91
    subst ew90
    refine J.split hqw89 ?_
    refine j_dup O dL_law_11 rfl ?_
    refine J.comm ?_
    refine j_callIF O [] (fun A1 => c_M_init X.2.1 D t A1 ([qw87], fun _ => .inr (6, [.null, .null, .null, .null, .int 0, .int 0, .null, .null, .null, .null, .null, .int 0, .null, .null, .null, .null, .null, .null, .null, .int 0, .int 0, .null, .null, .int 0, .null, .int 0, .int 0, .int 0, .int 0])) qw87 ⟨List.mem_singleton.mpr rfl, rfl⟩) w414 0 rfl rfl rfl w28 w412 w413 rfl (by decide +kernel) ⟨(Nat.le_of_ble_eq_true rfl), (Nat.le_of_ble_eq_true rfl)⟩ rfl (Nat.le_of_ble_eq_true rfl) dL_law_12 ⟨(Nat.le_of_ble_eq_true rfl), (Nat.le_of_ble_eq_true rfl)⟩ (fun v9 g9 hp9 => ?_)
    obtain ⟨rfl, u1, V1, eu, hR⟩ := hp9
    refine J.comm ?_
    refine j_astore_n O 2 [(2, .ref qw87), (1, .ref qw79), (0, .ref b)] dL_law_15 rfl (by decide) rfl ?_
    refine j_iconst O (v := 0) dL_law_16 (by decide) ?_
    refine j_istore_n O 3 [(3, .int 0), (2, .ref qw87), (1, .ref qw79), (0, .ref b)] dL_law_17 rfl (by decide) rfl ?_
    refine J.pk [3, 2, 1, 0] rfl ?_
    refine J.widen (k' := 100) (n' := 400000) (Nat.le_of_ble_eq_true rfl) (Nat.le_of_ble_eq_true rfl) ?_
    rw [← ep, ← eu]
    exact law_loop (p := p1) (u := u1) O hX2 hbl2 hbA hL HE (L + 1) 0 s00 gw85 g9 w1 0 V1 (by omega) (Nat.zero_le _) hT hR aOK_s00 (by decide) (Nat.le_refl _)
  have hl := lv_entry ([.ref b]) (n := 4) (Nat.le_of_ble_eq_true rfl)
  rw [lg_entry_eq]
  generalize (lg_sl ([.ref b]) ++ List.replicate (4 - (lg_sl ([.ref b])).length) Slot.unset).toArray = ls at hl ⊢
  have hl : lv_has ls 4 [(0, .ref b)] := hl
  exact K s.heap [] ls (gW_iff.mpr ⟨fun a ha => (by cases ha), List.nodup_nil, fun a ha => (by cases ha)⟩) va_S.rf hl
-- ===== YOUR PART ENDS =====
set_option maxHeartbeats 4000000 in
theorem lw_walk (l : Launch) (b : Addr) (xs : List Int32) : MetFree l x (headSpec (Jvm.Cond.code x code maxLocals ret :: tables_1) room_1) (lw_P b xs) (fun _ _ _ _ _ => True) lw_Q := by
  refine MetFree.of_bodyS (code := code) (maxLocals := maxLocals) (ret := ret) (by decide) ?_ ?_
  · intro args s m h hn
    obtain ⟨meth, c, h1, h2, h3, h4, h5, h6, -, -⟩ := Cond.code_spec hn (atoms_spec (ws := Jvm.Cond.code x code maxLocals ret :: tables_1) h _ List.mem_cons_self)
    exact ⟨meth, c, h1, h2, h3, h4, h5, h6⟩
  · intro p e s m args below meth c s₁ B hml0 hP _
    obtain ⟨rfl, hx, hbd, hgv⟩ := hP
    obtain ⟨scr, harrAt, hlist, hof, hsmall⟩ := hx
    obtain ⟨hcb, hkn, -, -⟩ := State.arrayAt?_spec harrAt
    have hown : s.vm.findClass R_law = some m.cls := findClass_of_methodNamed B.named
    have hts0 : ∀ c ∈ (Jvm.Cond.code x code maxLocals ret :: tables_1), c.before #[Value.ref b] s = true := atoms_spec (ws := Jvm.Cond.code x code maxLocals ret :: tables_1) B.pre
    have hts : ∀ w ∈ lw_tbl, w.before #[Value.ref b] s = true := k2_hts_sels lw_privs (fun w hw => hts0 w (List.mem_cons_of_mem _ hw)) lw_privs_ok
    have hml : c.maxLocals = 4 := B.maxLocals_eq (hts0 _ List.mem_cons_self)
    have X₀ : Stand p l e room_1 s m #[Value.ref b] below meth c s₁ [] 0 0 := Stand.of_body B
    have hh0 : s₁.heap = s.heap := by rw [B.state]; rfl
    have hsz : scr.slots.size = xs.length := by rw [← Array.length_toList, hlist, List.length_map]
    have hval : ∀ j : Nat, j < xs.length → scr.slots[j]? = some (.int (xs.getD j 0)) := fun j hj => by
      rw [← Array.getElem?_toList, hlist]
      simp [hj]
    have hbl : b < s.heap.size := (Array.getElem?_eq_some_iff.mp hcb).1
    have hX : va_X b xs.length (fun j => xs.getD j 0) s s.heap := ⟨scr, hcb, hof, hkn, hsz, hval⟩
    have K : W p l e room_1 s m #[Value.ref b] below meth c s₁.heap [] 0 0 (lw_Z below #[Value.ref b] s) (entryFrame m ([Value.ref b] : List Value).toArray 4) := by
      rw [hh0]
      exact whole_start l hbd ⟨B.exec, B.bytes, B.returns, hml, hown, hts, hX, hbl, B.notSynchronized, hgv⟩
    obtain ⟨t, a1, o, b1, b2, b3⟩ := K s₁ rfl X₀
    exact ⟨t, o, a1, b1, b2, b3⟩
theorem lw_pre_spec {args : Array Value} {s : State} (h : (Jvm.Cond.and given_1 narrow_1).before args s = true) (hr : rest_1_c.before args s = true) : ∃ (b : Addr) (xs : List Int32), lw_P b xs args s := by
  have hs := flat_of_before _ h
  have hq := flat_of_before _ hr
  have hc : (Cond.count 1).before args s = true := hs _ (by decide +kernel)
  have harr : (Cond.arrayOf (.arg 0) .int).before args s = true := hs _ (by decide +kernel)
  have hle : (Cond.le (.length (.arg 0)) (.int 3072)).before args s = true := hs _ (by decide +kernel)
  have hlen : (Cond.isInt (.length (.arg 0))).before args s = true := hq _ (by decide +kernel)
  have hall : (Cond.all (.arg 0) (.isInt (.elem (.arg 0) (.index 0)))).before args s = true := hq _ (by decide +kernel)
  obtain ⟨b, xs, hb, hx⟩ := State.ints_of_pre rfl harr hlen hall
  have hsm : xs.length < 2 ^ 31 := hx.choose_spec.2.2.2
  have hev : (Term.length (.arg 0)).eval args s none [] s = some (.int xs.length.toInt32) := hx.length_eval hb
  have hv := Cond.le_ints hev (show (Term.int 3072).eval args s none [] s = some (.int 3072) from rfl)
  have hd : xs.length.toInt32 ≤ 3072 := by
    simpa [Cond.before, Cond.holds, hv] using hle
  have hN : xs.length ≤ 3072 := (Int32.ofNat_le_ofNat hsm (by decide)).mp (show Int32.ofNat xs.length ≤ Int32.ofNat 3072 from hd)
  exact ⟨b, xs, Cond.one_arg hc (show args[0]? = some (.ref b) from hb), hx, hN, h⟩
theorem lw_comes (l : Launch) : Comes l x (Jvm.Cond.code x code maxLocals ret :: tables_1) room_1 (fun tb e args s => Calls_1 tb e args s ∧ rest_1 tb e args s ∧ Pre_1 tb e args s)
    (fun _ _ args s o t => lw_Q args s o t) := by
  intro p e ha hc hk s m args below hf hfit hheap happ hpre
  obtain ⟨b, xs, hP⟩ := lw_pre_spec hpre.2.2 hpre.2.1
  obtain ⟨k, o, h1, h2, h3, hQ⟩ := lw_walk l b xs p e ha hc hk s m args below hf ((Spec.applies_iff_loose hf).mp happ).1 hP trivial
  exact ⟨k, o, h1, h2, h3, hQ⟩
theorem lw_frame {s t : State} {o : Outcome} {args : Array Value} (h : Framed s o t [] 600000 7302250) :
    Framed s o t (fieldLocs frame_1_writes args s ++ arrayLocs frame_1_arrays args s ++ staticLocs frame_1_statics s) 600000 7302250 := h
theorem lw_limb (L : Cond) (hL : ∀ (args : Array Value) (s t : State), L.after args s (.returned (some (.int 1))) t = true) :
    ArmFor flags0 classFile x code maxLocals ret World_1 tables_1 room_1 Calls_1 rest_1 Pre_1
      (fun tb e a s o t => postC L tb e a s o t ∧ Framed s o t (fieldLocs frame_1_writes a s ++ arrayLocs frame_1_arrays a s ++ staticLocs frame_1_statics s) 600000 7302250) := by
  intro l _ _ _ p e ha hc hk s m args below hf hfit hheap happ hpre
  obtain ⟨k, o, h1, h2, h3, rfl, hF⟩ := lw_comes l p e ha hc hk s m args below hf hfit hheap happ hpre
  exact ⟨k, _, h1, h2, h3, hL args s _, lw_frame hF⟩
theorem i_vc : Claimed_1_1 ∧ Claimed_1_2 := ⟨lw_limb limb_1_1 (fun args s t => by simp [limb_1_1, Cond.after, Cond.holds, Cond.value]), lw_limb limb_1_2 (fun args s t => Cond.after_iff.mpr (by
  first | (rw [show limb_1_2 = Cond.eq .result (.int 1) from rfl, Cond.eq_ints (x := 1) (y := 1) rfl rfl]; simp; done) | (simp [limb_1_2, Cond.value, Term.eval]; done)))⟩
