/-- a table all of whose nodes are stored is laid without a change -/
theorem vst_same {V N : List NV} (h : ∀ v ∈ N, v ∈ V) : vst V N = V := by
  unfold vst news
  rw [List.filter_eq_nil_iff.mpr (fun v hv => by simp [h v hv]), List.append_nil]
theorem fit_same {V N : List NV} (h : ∀ v ∈ N, v ∈ V) (h1 : szL V ≤ 60000) (h2 : V.length ≤ 60000) : ¬ nofitA V N := by
  have e : news V N = [] := by
    unfold news
    rw [List.filter_eq_nil_iff.mpr (fun v hv => by simp [h v hv])]
  unfold nofitA
  rw [e]
  simp [szL] at *
  omega
theorem RS.le {t : Nat → ClassId} {g : GH} {u : Nat → Nat} {V : List NV} (h : RS t g u (encL V)) : V.length ≤ 60000 ∧ szL V ≤ 60000 := by
  have h1 := h.2.1
  have h2 := h.2.2.1
  rw [encL_len] at h1
  rw [siz_encL] at h2
  exact ⟨h1, h2⟩
set_option maxRecDepth 100000 in
set_option maxHeartbeats 1000000 in
theorem c_M_measure (l : Launch) (D : va_G) (t : Nat → ClassId) (A : Nat → Prop) (g : GH) (u : Nat → Nat) (s : AS) (V : List NV) (x y : Int32) (hW : RW t g u s V) (hA : aOK s) : Ct l yM_measure sM_measure { frames := 4, cells := 0, slots := 0, locals := 240 } (zz D t A) [.ref (u 19), .int x, .int y] g 0 0 (fun v g' => v = some (.int (aMeas s x y)) ∧ RW t g' u s V) := by
  refine Ct.of (cc := bM_measure) (maxL := 3) (ret := (some .int)) (by decide) (Nat.le_of_ble_eq_true rfl) (fun X hlX O M hNn => ?_)
  show J X 3 (zz D t A) g 0 0 0 [(0, .ref (u 19)), (1, .int x), (2, .int y)] []
  obtain ⟨hRT, hD, ⟨⟨oc, om, lm, mm, ta, co, si, hM⟩, ⟨fv, hv⟩, ⟨fl, hl⟩, ⟨fm, hm⟩, ⟨fo, ho⟩, ⟨fp, hp⟩, hR, hV⟩, hpm, hne⟩ := id hW
  obtain ⟨htb, hrc, hso⟩ := id hA
  refine j_iload_n O 1 dM_measure_0 rfl rfl ?_
  refine j_iconst O (v := 0) dM_measure_1 (by decide) ?_
  refine j_iconst O (v := 5) dM_measure_2 (by decide) ?_
  refine j_callS O [.int x, .int 0, .int 5] (c_M_in X.2.1 D t A g x 0 5) w540 w541 w28 w542 3 rfl rfl rfl (by decide +kernel) ⟨(Nat.le_of_ble_eq_true rfl), (Nat.le_of_ble_eq_true rfl)⟩ rfl (Nat.le_of_ble_eq_true rfl) dM_measure_3 ⟨(Nat.le_of_ble_eq_true rfl), (Nat.le_of_ble_eq_true rfl)⟩ (fun vw294 gw295 hpw296 => ?_)
  obtain ⟨rfl, hgw297⟩ := hpw296
  have hgw297 := hgw297.symm
  subst hgw297
  refine j_if_eq O 18 dM_measure_6 (by decide) (fun c1 => ?_) (fun c1 => ?_)
  · have hx0 : ¬ (0 ≤ x ∧ x ≤ 5) := fun z => by rw [if_pos z] at c1; exact absurd c1 (by decide)
    have er : aMeas s x y = -1 := if_neg (fun z => hx0 ((in5 x).mpr z))
    rw [er] at M
    refine j_iconst O (v := -1) dM_measure_18 (by decide) ?_
    exact j_iret O M (Nat.le_of_ble_eq_true rfl) (Nat.le_of_ble_eq_true rfl) ⟨rfl, hW⟩ dM_measure_19
  · have hx0 : 0 ≤ x ∧ x ≤ 5 := by
      by_cases z : 0 ≤ x ∧ x ≤ 5
      · exact z
      · rw [if_neg z] at c1; exact absurd rfl c1
    have hx := (in5 _).mp hx0
    obtain ⟨i, i6, rfl⟩ := tb_of hx
    have ei : ix (nI i) = i := ix_nI (by omega)
    have er : aMeas s (nI i) y = if y = 0 then nI (s.1 i).2.length else if y = 1 then nI (s.1 i).1 else if y = 2 then nI (hgt (s.1 i).2) else if y = 3 then nI (ndl (s.1 i).2).length else -1 := by
      unfold aMeas
      rw [if_pos hx, ei]
    rw [er] at M
    refine j_iload_n O 2 dM_measure_9 rfl rfl ?_
    refine j_iconst O (v := 0) dM_measure_10 (by decide) ?_
    refine j_iconst O (v := 3) dM_measure_11 (by decide) ?_
    refine j_callS O [.int y, .int 0, .int 3] (c_M_in X.2.1 D t A g y 0 3) w540 w541 w28 w542 3 rfl rfl rfl (by decide +kernel) ⟨(Nat.le_of_ble_eq_true rfl), (Nat.le_of_ble_eq_true rfl)⟩ rfl (Nat.le_of_ble_eq_true rfl) dM_measure_12 ⟨(Nat.le_of_ble_eq_true rfl), (Nat.le_of_ble_eq_true rfl)⟩ (fun vw298 gw299 hpw300 => ?_)
    obtain ⟨rfl, hgw301⟩ := hpw300
    have hgw301 := hgw301.symm
    subst hgw301
    refine j_if_ne O 20 dM_measure_15 (by decide) (fun c2 => ?_) (fun c2 => ?_)
    · have hy0 : 0 ≤ y ∧ y ≤ 3 := by
        by_cases z : 0 ≤ y ∧ y ≤ 3
        · exact z
        · rw [if_neg z] at c2; exact absurd rfl c2
      refine j_aload_n O 0 dM_measure_20 rfl rfl ?_
      refine j_iload_n O 1 dM_measure_21 rfl rfl ?_
      have hin : ∀ v ∈ ndl (s.1 i).2, v ∈ V := fun v hv => hpm.mem_iff.mpr (hso.1 i i6 v hv)
      have hle := hR.le
      have hvs := vst_same hin
      refine j_callV O [.int (nI i)] (c_M_lay X.2.1 D t A g u oc om (nI s.2.2.length) lm mm ta co si i (s.1 i).1 s.1 (s.1 i).2 V fv fl fm hM hv hl hm hR hV hRT i6 rfl (htb i i6) (hrc i i6) hne) hM rfl w419 w420 w10 w28 w421 1 rfl rfl rfl (by decide +kernel) ⟨(Nat.le_of_ble_eq_true rfl), (Nat.le_of_ble_eq_true rfl)⟩ rfl (Nat.le_of_ble_eq_true rfl) dM_measure_22 ⟨(Nat.le_of_ble_eq_true rfl), (Nat.le_of_ble_eq_true rfl)⟩ (fun vw302 gw303 hpw304 => ?_)
      have hpost := hpw304
      rcases hpost with ⟨-, hnf, -⟩ | ⟨rfl, m1, fv1, fl1, fm1, hLY, hf0, kp⟩
      · exact absurd hnf (fit_same hin hle.2 hle.1)
      rw [hvs] at hLY hf0
      have hkp : ∀ k e, (4 ≤ k ∧ k < 9) → gAt g (u k) e → gAt gw303 (u k) e := fun k e hk q => lU_kp hne kp (by omega) q
      have hSB := hLY.sb ⟨_, hkp 4 _ (by omega) ho⟩ ⟨_, hkp 5 _ (by omega) hp⟩
      have hRT1 := hRT.lU hne kp
      have hW1 : RW t gw303 u s V := ⟨hRT1, hD.keep hkp, hSB, hpm, hne⟩
      obtain ⟨⟨si1, hM1⟩, hv1, hl1, hm1, hR1, hV1⟩ := id hLY
      obtain ⟨⟨fC, hC, hCv⟩, ⟨fN, hNn0, hNv⟩, -⟩ := id hRT1
      have hNi := hNv i i6
      have hCi := hCv i i6
      refine j_pop O dM_measure_25 rfl ?_
      refine j_iload_n O 2 dM_measure_26 rfl rfl ?_
      refine j_if_ne O 39 dM_measure_27 (by decide) (fun d1 => ?_) (fun d1 => ?_)
      · rw [if_neg d1] at M
        refine j_iload_n O 2 dM_measure_39 rfl rfl ?_
        refine j_iconst O (v := 1) dM_measure_40 (by decide) ?_
        refine j_icmp_ne O 53 dM_measure_41 (by decide) (fun d2 => ?_) (fun d2 => ?_)
        · rw [if_neg d2] at M
          refine j_iload_n O 2 dM_measure_53 rfl rfl ?_
          refine j_iconst O (v := 2) dM_measure_54 (by decide) ?_
          refine j_icmp_ne O 65 dM_measure_55 (by decide) (fun d3 => ?_) (fun d3 => ?_)
          · have y3 : y = 3 := by
              have e0 : (0 : Int32).toInt = 0 := by decide
              have e1 : (1 : Int32).toInt = 1 := by decide
              have e2 : (2 : Int32).toInt = 2 := by decide
              have e3 : (3 : Int32).toInt = 3 := by decide
              have q0 := Int32.le_iff_toInt_le.mp hy0.1
              have q3 := Int32.le_iff_toInt_le.mp hy0.2
              have n0 : ¬ y.toInt = 0 := fun z => d1 (Int32.toInt_inj.mp (by omega))
              have n1 : ¬ y.toInt = 1 := fun z => d2 (Int32.toInt_inj.mp (by omega))
              have n2 : ¬ y.toInt = 2 := fun z => d3 (Int32.toInt_inj.mp (by omega))
              exact Int32.toInt_inj.mp (by omega)
            rw [if_neg d3, if_pos y3] at M
            refine j_aload_n O 0 dM_measure_65 rfl rfl ?_
            refine j_get O uwM hM1 rfl 27 (by decide) w474 rfl rfl dM_measure_66 ?_
            exact j_iret O M (Nat.le_of_ble_eq_true rfl) (Nat.le_of_ble_eq_true rfl) ⟨rfl, hW1⟩ dM_measure_69
          · have y0 : y = 2 := d3
            rw [if_pos y0] at M
            refine j_aload_n O 0 dM_measure_58 rfl rfl ?_
            refine j_get O uwM hM1 rfl 26 (by decide) w473 rfl rfl dM_measure_59 ?_
            refine j_goto O 69 dM_measure_62 (by decide) ?_
            exact j_iret O M (Nat.le_of_ble_eq_true rfl) (Nat.le_of_ble_eq_true rfl) ⟨rfl, hW1⟩ dM_measure_69
        · have y0 : y = 1 := d2
          rw [if_pos y0] at M
          refine j_aload_n O 0 dM_measure_44 rfl rfl ?_
          refine j_get O uwM hM1 rfl 0 (by decide) w447 rfl rfl dM_measure_45 ?_
          refine j_iload_n O 1 dM_measure_48 rfl rfl ?_
          refine j_iald O hC 0 rfl (by omega) (by omega) dM_measure_49 ?_
          refine j_eqi (nI (s.1 i).1) hCi ?_
          refine j_goto O 69 dM_measure_50 (by decide) ?_
          exact j_iret O M (Nat.le_of_ble_eq_true rfl) (Nat.le_of_ble_eq_true rfl) ⟨rfl, hW1⟩ dM_measure_69
      · have y0 : y = 0 := d1
        rw [if_pos y0] at M
        refine j_aload_n O 0 dM_measure_30 rfl rfl ?_
        refine j_get O uwM hM1 rfl 1 (by decide) w448 rfl rfl dM_measure_31 ?_
        refine j_iload_n O 1 dM_measure_34 rfl rfl ?_
        refine j_iald O hNn0 0 rfl (by omega) (by omega) dM_measure_35 ?_
        refine j_eqi (nI (s.1 i).2.length) hNi ?_
        refine j_goto O 69 dM_measure_36 (by decide) ?_
        exact j_iret O M (Nat.le_of_ble_eq_true rfl) (Nat.le_of_ble_eq_true rfl) ⟨rfl, hW1⟩ dM_measure_69
    · have hy0 : ¬ (0 ≤ y ∧ y ≤ 3) := fun z => by rw [if_pos z] at c2; exact absurd c2 (by decide)
      rw [if_neg (fun q => hy0 (by rw [q]; decide)), if_neg (fun q => hy0 (by rw [q]; decide)), if_neg (fun q => hy0 (by rw [q]; decide)), if_neg (fun q => hy0 (by rw [q]; decide))] at M
      refine j_iconst O (v := -1) dM_measure_18 (by decide) ?_
      exact j_iret O M (Nat.le_of_ble_eq_true rfl) (Nat.le_of_ble_eq_true rfl) ⟨rfl, hW⟩ dM_measure_19
