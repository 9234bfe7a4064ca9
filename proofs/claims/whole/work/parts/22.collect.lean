/-- what a comparison finds: (key, side, bits) -/
def mrg : Nat → List RV → List RV → List (Int32 × Int32 × Int32)
  | 0, _, _ => []
  | _ + 1, [], [] => []
  | n + 1, r :: rs, [] => (r.1, 1, 0) :: mrg n rs []
  | n + 1, [], s :: ss => (s.1, 0, 0) :: mrg n [] ss
  | n + 1, r :: rs, s :: ss => if r.1 < s.1 then (r.1, 1, 0) :: mrg n rs (s :: ss) else if s.1 < r.1 then (s.1, 0, 0) :: mrg n (r :: rs) ss else if unl r s = 0 then mrg n rs ss else (r.1, 2, unl r s) :: mrg n rs ss
theorem mrg_len : ∀ (n : Nat) (rs ss : List RV), (mrg n rs ss).length ≤ rs.length + ss.length
  | 0, _, _ => Nat.zero_le _
  | _ + 1, [], [] => Nat.zero_le _
  | n + 1, r :: rs, [] => by have := mrg_len n rs []; simp [mrg] at *; omega
  | n + 1, [], s :: ss => by have := mrg_len n [] ss; simp [mrg] at *; omega
  | n + 1, r :: rs, s :: ss => by
    have h1 := mrg_len n rs (s :: ss)
    have h2 := mrg_len n (r :: rs) ss
    have h3 := mrg_len n rs ss
    rw [mrg]
    split
    · simp at *; omega
    · split
      · simp at *; omega
      · split
        · simp at *; omega
        · simp at *; omega
theorem four_ne {x a b c d : Nat} (h1 : x ≠ a) (h2 : x ≠ b) (h3 : x ≠ c) (h4 : x ≠ d) : x ∉ [a, b, c, d] := fun q => by
  simp only [List.mem_cons, List.not_mem_nil, or_false] at q
  rcases q with z | z | z | z
  · exact h1 z
  · exact h2 z
  · exact h3 z
  · exact h4 z
/-- the three arrays hold these differences -/
def dfs (fk fs fu : Nat → Int32) (ds : List (Int32 × Int32 × Int32)) : Prop := ∀ i (h : i < ds.length), fk i = ds[i].1 ∧ fs i = ds[i].2.1 ∧ fu i = ds[i].2.2
theorem dfs.push {fk fs fu : Nat → Int32} {ds : List (Int32 × Int32 × Int32)} (h : dfs fk fs fu ds) (x y z : Int32) : dfs (upd fk ds.length x) (upd fs ds.length y) (upd fu ds.length z) (ds ++ [(x, y, z)]) := by
  intro i hi
  rw [List.length_append] at hi
  rcases Nat.lt_or_ge i ds.length with q | q
  · rw [pk_un (by omega), pk_un (by omega), pk_un (by omega), List.getElem_append_left q]
    exact h i q
  · have e : i = ds.length := by simp at hi; omega
    subst e
    rw [pk_us, pk_us, pk_us, List.getElem_append_right (Nat.le_refl _)]
    simp
set_option maxRecDepth 100000 in
set_option maxHeartbeats 1000000 in
theorem collect_loop {X : CX} {D : va_G} {t : Nat → ClassId} {A : Nat → Prop} {rm : Room} {g : GH} {d k s u qa qb ba bb : Nat} {fa fb : Nat → Option Nat} {ra rb : List RV} {I : Nat → Prop} {dn : Int32} {fk0 fs0 fu0 : Nat → Int32} (O : Ok X bD_collect 6 "TwinTrees$Differences" (zz D t A) rm) (M : Om X (zz D t A) none 0 0 (fun v g' => v = none ∧ ∃ fk fs fu, gAt g' d (eDf k s u (nI (mrg (ra.length + rb.length) ra rb).length)) ∧ gAt g' k (eI t 600 fk) ∧ gAt g' s (eI t 600 fs) ∧ gAt g' u (eI t 600 fu) ∧ dfs fk fs fu (mrg (ra.length + rb.length) ra rb) ∧ Kp [d, k, s, u] g g')) (hqa : gAt g qa (eRL ba (nI ra.length))) (hba : gAt g ba (eRs t 300 fa)) (hra : rowsI t g I fa 0 ra) (hqb : gAt g qb (eRL bb (nI rb.length))) (hbb : gAt g bb (eRs t 300 fb)) (hrb : rowsI t g I fb 0 rb) (hIn : ¬ I d ∧ ¬ I k ∧ ¬ I s ∧ ¬ I u) (n1 : k ≠ s) (n2 : k ≠ u) (n3 : s ≠ u) (la : ra.length ≤ 300) (lb : rb.length ≤ 300) (hwa : ∀ r ∈ ra, r.2.1.length ≤ 6) (hwb : ∀ r ∈ rb, r.2.1.length ≤ 6) (hd0 : gAt g d (eDf k s u dn)) (hk0 : gAt g k (eI t 600 fk0)) (hs0 : gAt g s (eI t 600 fs0)) (hu0 : gAt g u (eI t 600 fu0)) (hrm : 1 ≤ rm.frames ∧ 40 ≤ rm.locals) : ∀ (n i j : Nat) (g1 : GH) (ds : List (Int32 × Int32 × Int32)) (fk fs fu : Nat → Int32), i ≤ ra.length → j ≤ rb.length → (ra.length - i) + (rb.length - j) ≤ n → ds ++ mrg n (ra.drop i) (rb.drop j) = mrg (ra.length + rb.length) ra rb → gAt g1 d (eDf k s u (nI ds.length)) → gAt g1 k (eI t 600 fk) → gAt g1 s (eI t 600 fs) → gAt g1 u (eI t 600 fu) → dfs fk fs fu ds → ds.length ≤ i + j → Kp [d, k, s, u] g g1 → J X 6 (zz D t A) g1 0 0 10 [(0, .ref d), (1, .ref qa), (2, .ref qb), (3, .int (nI i)), (4, .int (nI j))] [] := by
  intro n
  induction n with
  | zero =>
    intro i j g1 ds fk fs fu hi hj hn hds hd hk hs hu hdf hdl kp
    have ei : i = ra.length := by omega
    have ej : j = rb.length := by omega
    subst ei; subst ej
    rw [mrg, List.append_nil] at hds
    have hqa1 := kp.2 qa _ (four_ne (hqa.ne hd0 (by simp)) (hqa.ne hk0 (by simp)) (hqa.ne hs0 (by simp)) (hqa.ne hu0 (by simp))) hqa
    have hqb1 := kp.2 qb _ (four_ne (hqb.ne hd0 (by simp)) (hqb.ne hk0 (by simp)) (hqb.ne hs0 (by simp)) (hqb.ne hu0 (by simp))) hqb
    refine j_iload_n O 3 dD_collect_10 rfl rfl ?_
    refine j_aload_n O 1 dD_collect_11 rfl rfl ?_
    refine j_get O uwQ hqa1 rfl 1 (by decide) w96 rfl rfl dD_collect_12 ?_
    refine j_icmp_lt O 27 dD_collect_15 (by decide) (fun c => absurd c (nI_nlt (Nat.le_refl _) (by omega))) (fun c => ?_)
    refine j_iload O dD_collect_18 rfl ?_
    refine j_aload_n O 2 dD_collect_20 rfl rfl ?_
    refine j_get O uwQ hqb1 rfl 1 (by decide) w96 rfl rfl dD_collect_21 ?_
    refine j_icmp_ge O 187 dD_collect_24 (by decide) (fun c => ?_) (fun c => absurd (nI_le (Nat.le_refl _) (by omega)) c)
    exact j_vret O M (Nat.le_of_ble_eq_true rfl) (Nat.le_of_ble_eq_true rfl) ⟨rfl, fk, fs, fu, by rw [← hds]; exact hd, hk, hs, hu, by rw [← hds]; exact hdf, kp⟩ dD_collect_187
  | succ n ih =>
    intro i j g1 ds fk fs fu hi hj hn hds hd hk hs hu hdf hdl kp
    have hqa1 := kp.2 qa _ (four_ne (hqa.ne hd0 (by simp)) (hqa.ne hk0 (by simp)) (hqa.ne hs0 (by simp)) (hqa.ne hu0 (by simp))) hqa
    have hqb1 := kp.2 qb _ (four_ne (hqb.ne hd0 (by simp)) (hqb.ne hk0 (by simp)) (hqb.ne hs0 (by simp)) (hqb.ne hu0 (by simp))) hqb
    have hba1 := kp.2 ba _ (four_ne (hba.ne hd0 (by simp)) (hba.ne hk0 (by simp)) (hba.ne hs0 (by simp)) (hba.ne hu0 (by simp))) hba
    have hbb1 := kp.2 bb _ (four_ne (hbb.ne hd0 (by simp)) (hbb.ne hk0 (by simp)) (hbb.ne hs0 (by simp)) (hbb.ne hu0 (by simp))) hbb
    have hIk : ∀ (x : Nat) (e : va_E), I x → gAt g x e → gAt g1 x e := fun x e hx he => kp.2 x e (four_ne (fun z => hIn.1 (z ▸ hx)) (fun z => hIn.2.1 (z ▸ hx)) (fun z => hIn.2.2.1 (z ▸ hx)) (fun z => hIn.2.2.2 (z ▸ hx))) he
    have hra1 := hra.keep (fun _ z => z) hIk
    have hrb1 := hrb.keep (fun _ z => z) hIk
    have hlen := mrg_len (n + 1) (ra.drop i) (rb.drop j)
    rcases Nat.lt_or_ge i ra.length with hia | hia <;> rcases Nat.lt_or_ge j rb.length with hjb | hjb
    · obtain ⟨x, hfx, hx⟩ := hra1 i hia
      rw [Nat.zero_add] at hfx
      obtain ⟨xc, xf, hxc, -, -⟩ := hx.at
      have eda : ra.drop i = ra[i] :: ra.drop (i + 1) := List.drop_eq_getElem_cons hia
      obtain ⟨y, hfy, hy⟩ := hrb1 j hjb
      rw [Nat.zero_add] at hfy
      obtain ⟨yc, yf, hyc, -, -⟩ := hy.at
      have edb : rb.drop j = rb[j] :: rb.drop (j + 1) := List.drop_eq_getElem_cons hjb
      refine j_iload_n O 3 dD_collect_10 rfl rfl ?_
      refine j_aload_n O 1 dD_collect_11 rfl rfl ?_
      refine j_get O uwQ hqa1 rfl 1 (by decide) w96 rfl rfl dD_collect_12 ?_
      refine j_icmp_lt O 27 dD_collect_15 (by decide) (fun c => ?_) (fun c => absurd (nI_lt hia (by omega)) c)
      refine j_iload O dD_collect_27 rfl ?_
      refine j_aload_n O 2 dD_collect_29 rfl rfl ?_
      refine j_get O uwQ hqb1 rfl 1 (by decide) w96 rfl rfl dD_collect_30 ?_
      refine j_icmp_ge O 66 dD_collect_33 (by decide) (fun c => absurd c (nI_ge hjb (by omega))) (fun c => ?_)
      refine j_iload_n O 3 dD_collect_36 rfl rfl ?_
      refine j_aload_n O 1 dD_collect_37 rfl rfl ?_
      refine j_get O uwQ hqa1 rfl 1 (by decide) w96 rfl rfl dD_collect_38 ?_
      refine j_icmp_ge O 87 dD_collect_41 (by decide) (fun c => absurd c (nI_ge hia (by omega))) (fun c => ?_)
      refine j_aload_n O 1 dD_collect_44 rfl rfl ?_
      refine j_get O uwQ hqa1 rfl 0 (by decide) w93 rfl rfl dD_collect_45 ?_
      refine j_iload_n O 3 dD_collect_48 rfl rfl ?_
      refine j_aald O hba1 1 rfl (by omega) (by omega) dD_collect_49 ?_
      refine j_some x hfx ?_
      refine j_get O uwR hxc rfl 0 (by decide) w286 rfl rfl dD_collect_50 ?_
      refine j_aload_n O 2 dD_collect_53 rfl rfl ?_
      refine j_get O uwQ hqb1 rfl 0 (by decide) w93 rfl rfl dD_collect_54 ?_
      refine j_iload O dD_collect_57 rfl ?_
      refine j_aald O hbb1 1 rfl (by omega) (by omega) dD_collect_59 ?_
      refine j_some y hfy ?_
      refine j_get O uwR hyc rfl 0 (by decide) w286 rfl rfl dD_collect_60 ?_
      refine j_icmp_ge O 87 dD_collect_63 (by decide) (fun c1 => ?_) (fun c1 => ?_)
      · refine j_iload_n O 3 dD_collect_87 rfl rfl ?_
        refine j_aload_n O 1 dD_collect_88 rfl rfl ?_
        refine j_get O uwQ hqa1 rfl 1 (by decide) w96 rfl rfl dD_collect_89 ?_
        refine j_icmp_ge O 117 dD_collect_92 (by decide) (fun c => absurd c (nI_ge hia (by omega))) (fun c => ?_)
        refine j_aload_n O 2 dD_collect_95 rfl rfl ?_
        refine j_get O uwQ hqb1 rfl 0 (by decide) w93 rfl rfl dD_collect_96 ?_
        refine j_iload O dD_collect_99 rfl ?_
        refine j_aald O hbb1 1 rfl (by omega) (by omega) dD_collect_101 ?_
        refine j_some y hfy ?_
        refine j_get O uwR hyc rfl 0 (by decide) w286 rfl rfl dD_collect_102 ?_
        refine j_aload_n O 1 dD_collect_105 rfl rfl ?_
        refine j_get O uwQ hqa1 rfl 0 (by decide) w93 rfl rfl dD_collect_106 ?_
        refine j_iload_n O 3 dD_collect_109 rfl rfl ?_
        refine j_aald O hba1 1 rfl (by omega) (by omega) dD_collect_110 ?_
        refine j_some x hfx ?_
        refine j_get O uwR hxc rfl 0 (by decide) w286 rfl rfl dD_collect_111 ?_
        refine j_icmp_ge O 139 dD_collect_114 (by decide) (fun c2 => ?_) (fun c2 => ?_)
        · refine j_aload_n O 1 dD_collect_139 rfl rfl ?_
          refine j_get O uwQ hqa1 rfl 0 (by decide) w93 rfl rfl dD_collect_140 ?_
          refine j_iload_n O 3 dD_collect_143 rfl rfl ?_
          refine j_aald O hba1 1 rfl (by omega) (by omega) dD_collect_144 ?_
          refine j_some x hfx ?_
          refine j_aload_n O 2 dD_collect_145 rfl rfl ?_
          refine j_get O uwQ hqb1 rfl 0 (by decide) w93 rfl rfl dD_collect_146 ?_
          refine j_iload O dD_collect_149 rfl ?_
          refine j_aald O hbb1 1 rfl (by omega) (by omega) dD_collect_151 ?_
          refine j_some y hfy ?_
          refine j_callV O [.ref y] (c_unlikeCells X.2.1 D t A g1 x y ra[i] rb[j] hx.at hy.at (by have := hwa ra[i] (List.getElem_mem _); omega) (by have := hwb rb[j] (List.getElem_mem _); omega)) hxc rfl w393 w121 w122 w31 w123 1 rfl rfl rfl (by decide +kernel) ⟨(by show 0 + 1 ≤ _; omega), (by show 8 + (_ + 11) + 0 ≤ _; omega)⟩ rfl (Nat.le_of_ble_eq_true rfl) dD_collect_152 ⟨(by show 0 + 0 ≤ _; omega), (by show 0 + 0 ≤ _; omega)⟩ (fun vw7 gw8 hpw9 => ?_)
          obtain ⟨rfl, hgw10⟩ := hpw9
          have hgw10 := hgw10.symm
          subst hgw10
          refine j_istore O [(5, .int (unl ra[i] rb[j])), (0, .ref d), (1, .ref qa), (2, .ref qb), (3, .int (nI i)), (4, .int (nI j))] dD_collect_155 (by decide) rfl ?_
          refine j_iload O dD_collect_157 rfl ?_
          refine j_if_eq O 178 dD_collect_159 (by decide) (fun c3 => ?_) (fun c3 => ?_)
          · refine j_iinc O (nI (i + 1)) [(3, .int (nI (i + 1))), (5, .int (unl ra[i] rb[j])), (0, .ref d), (1, .ref qa), (2, .ref qb), (4, .int (nI j))] dD_collect_178 rfl (nI_1 _) (by decide) rfl ?_
            refine j_iinc O (nI (j + 1)) [(4, .int (nI (j + 1))), (3, .int (nI (i + 1))), (5, .int (unl ra[i] rb[j])), (0, .ref d), (1, .ref qa), (2, .ref qb)] dD_collect_181 rfl (nI_1 _) (by decide) rfl ?_
            refine j_goto O 10 dD_collect_184 (by decide) ?_
            refine J.pk [3, 4, 5, 1, 0] rfl ?_
            have hn2 : mrg (n + 1) (ra.drop i) (rb.drop j) = mrg n (ra.drop (i + 1)) (rb.drop (j + 1)) := by rw [eda, edb, mrg, if_neg (Int32.not_lt.mpr c1), if_neg (Int32.not_lt.mpr c2), if_pos c3]
            rw [hn2] at hds
            exact ih (i + 1) (j + 1) _ _ _ _ _ (by omega) (by omega) (by omega) hds hd hk hs hu hdf (by omega) kp
          · refine j_aload_n O 0 dD_collect_162 rfl rfl ?_
            refine j_aload_n O 1 dD_collect_163 rfl rfl ?_
            refine j_get O uwQ hqa1 rfl 0 (by decide) w93 rfl rfl dD_collect_164 ?_
            refine j_iload_n O 3 dD_collect_167 rfl rfl ?_
            refine j_aald O hba1 1 rfl (by omega) (by omega) dD_collect_168 ?_
            refine j_some x hfx ?_
            refine j_get O uwR hxc rfl 0 (by decide) w286 rfl rfl dD_collect_169 ?_
            refine j_iconst O (v := 2) dD_collect_172 (by decide) ?_
            refine j_iload O dD_collect_173 rfl ?_
            refine j_callV O [.int (ra[i].1), .int 2, .int (unl ra[i] rb[j])] (c_note X.2.1 D t A g1 d k s u ds.length fk fs fu ra[i].1 2 (unl ra[i] rb[j]) hd hk hs hu n1 n2 n3 (by omega)) hd rfl w390 w391 w9 w25 w392 3 rfl rfl rfl (by decide +kernel) ⟨(by show 0 + 1 ≤ _; omega), (by show 8 + (_ + 11) + 0 ≤ _; omega)⟩ rfl (Nat.le_of_ble_eq_true rfl) dD_collect_175 ⟨(by show 0 + 0 ≤ _; omega), (by show 0 + 0 ≤ _; omega)⟩ (fun vw11 gw12 hpw13 => ?_)
            obtain ⟨rfl, hd2, hk2, hs2, hu2, kp2⟩ := hpw13
            refine j_iinc O (nI (i + 1)) [(3, .int (nI (i + 1))), (5, .int (unl ra[i] rb[j])), (0, .ref d), (1, .ref qa), (2, .ref qb), (4, .int (nI j))] dD_collect_178 rfl (nI_1 _) (by decide) rfl ?_
            refine j_iinc O (nI (j + 1)) [(4, .int (nI (j + 1))), (3, .int (nI (i + 1))), (5, .int (unl ra[i] rb[j])), (0, .ref d), (1, .ref qa), (2, .ref qb)] dD_collect_181 rfl (nI_1 _) (by decide) rfl ?_
            refine j_goto O 10 dD_collect_184 (by decide) ?_
            refine J.pk [3, 4, 5, 1, 0] rfl ?_
            have e : nI (ds.length + 1) = nI (ds ++ [(ra[i].1, 2, (unl ra[i] rb[j]))]).length := by rw [List.length_append]; rfl
            rw [e] at hd2
            exact ih (i + 1) (j + 1) _ _ _ _ _ (by omega) (by omega) (by omega) (by rw [← hds, eda, edb, mrg, if_neg (Int32.not_lt.mpr c1), if_neg (Int32.not_lt.mpr c2), if_neg c3, List.append_assoc]; rfl) hd2 hk2 hs2 hu2 (hdf.push _ _ _) (by rw [List.length_append]; simp; omega) (kp.tr kp2)
        · refine j_aload_n O 0 dD_collect_117 rfl rfl ?_
          refine j_aload_n O 2 dD_collect_118 rfl rfl ?_
          refine j_get O uwQ hqb1 rfl 0 (by decide) w93 rfl rfl dD_collect_119 ?_
          refine j_iload O dD_collect_122 rfl ?_
          refine j_aald O hbb1 1 rfl (by omega) (by omega) dD_collect_124 ?_
          refine j_some y hfy ?_
          refine j_get O uwR hyc rfl 0 (by decide) w286 rfl rfl dD_collect_125 ?_
          refine j_iconst O (v := 0) dD_collect_128 (by decide) ?_
          refine j_iconst O (v := 0) dD_collect_129 (by decide) ?_
          refine j_callV O [.int (rb[j].1), .int 0, .int 0] (c_note X.2.1 D t A g1 d k s u ds.length fk fs fu rb[j].1 0 0 hd hk hs hu n1 n2 n3 (by omega)) hd rfl w390 w391 w9 w25 w392 3 rfl rfl rfl (by decide +kernel) ⟨(by show 0 + 1 ≤ _; omega), (by show 8 + (_ + 11) + 0 ≤ _; omega)⟩ rfl (Nat.le_of_ble_eq_true rfl) dD_collect_130 ⟨(by show 0 + 0 ≤ _; omega), (by show 0 + 0 ≤ _; omega)⟩ (fun vw4 gw5 hpw6 => ?_)
          obtain ⟨rfl, hd2, hk2, hs2, hu2, kp2⟩ := hpw6
          refine j_iinc O (nI (j + 1)) [(4, .int (nI (j + 1))), (0, .ref d), (1, .ref qa), (2, .ref qb), (3, .int (nI i))] dD_collect_133 rfl (nI_1 _) (by decide) rfl ?_
          refine j_goto O 10 dD_collect_136 (by decide) ?_
          refine J.pk [1, 2, 3, 4, 0] rfl ?_
          have e : nI (ds.length + 1) = nI (ds ++ [(rb[j].1, 0, 0)]).length := by rw [List.length_append]; rfl
          rw [e] at hd2
          exact ih (i) (j + 1) _ _ _ _ _ (by omega) (by omega) (by omega) (by rw [← hds, eda, edb, mrg, if_neg (Int32.not_lt.mpr c1), if_pos (Int32.not_le.mp c2), ← eda, List.append_assoc]; rfl) hd2 hk2 hs2 hu2 (hdf.push _ _ _) (by rw [List.length_append]; simp; omega) (kp.tr kp2)
      · refine j_aload_n O 0 dD_collect_66 rfl rfl ?_
        refine j_aload_n O 1 dD_collect_67 rfl rfl ?_
        refine j_get O uwQ hqa1 rfl 0 (by decide) w93 rfl rfl dD_collect_68 ?_
        refine j_iload_n O 3 dD_collect_71 rfl rfl ?_
        refine j_aald O hba1 1 rfl (by omega) (by omega) dD_collect_72 ?_
        refine j_some x hfx ?_
        refine j_get O uwR hxc rfl 0 (by decide) w286 rfl rfl dD_collect_73 ?_
        refine j_iconst O (v := 1) dD_collect_76 (by decide) ?_
        refine j_iconst O (v := 0) dD_collect_77 (by decide) ?_
        refine j_callV O [.int (ra[i].1), .int 1, .int 0] (c_note X.2.1 D t A g1 d k s u ds.length fk fs fu ra[i].1 1 0 hd hk hs hu n1 n2 n3 (by omega)) hd rfl w390 w391 w9 w25 w392 3 rfl rfl rfl (by decide +kernel) ⟨(by show 0 + 1 ≤ _; omega), (by show 8 + (_ + 11) + 0 ≤ _; omega)⟩ rfl (Nat.le_of_ble_eq_true rfl) dD_collect_78 ⟨(by show 0 + 0 ≤ _; omega), (by show 0 + 0 ≤ _; omega)⟩ (fun vw1 gw2 hpw3 => ?_)
        obtain ⟨rfl, hd2, hk2, hs2, hu2, kp2⟩ := hpw3
        refine j_iinc O (nI (i + 1)) [(3, .int (nI (i + 1))), (0, .ref d), (1, .ref qa), (2, .ref qb), (4, .int (nI j))] dD_collect_81 rfl (nI_1 _) (by decide) rfl ?_
        refine j_goto O 10 dD_collect_84 (by decide) ?_
        refine J.pk [1, 2, 3, 0, 4] rfl ?_
        have e : nI (ds.length + 1) = nI (ds ++ [(ra[i].1, 1, 0)]).length := by rw [List.length_append]; rfl
        rw [e] at hd2
        exact ih (i + 1) (j) _ _ _ _ _ (by omega) (by omega) (by omega) (by rw [← hds, eda, edb, mrg, if_pos (Int32.not_le.mp c1), ← edb, List.append_assoc]; rfl) hd2 hk2 hs2 hu2 (hdf.push _ _ _) (by rw [List.length_append]; simp; omega) (kp.tr kp2)
    · obtain ⟨x, hfx, hx⟩ := hra1 i hia
      rw [Nat.zero_add] at hfx
      obtain ⟨xc, xf, hxc, -, -⟩ := hx.at
      have eda : ra.drop i = ra[i] :: ra.drop (i + 1) := List.drop_eq_getElem_cons hia
      have edb : rb.drop j = [] := List.drop_eq_nil_of_le hjb
      refine j_iload_n O 3 dD_collect_10 rfl rfl ?_
      refine j_aload_n O 1 dD_collect_11 rfl rfl ?_
      refine j_get O uwQ hqa1 rfl 1 (by decide) w96 rfl rfl dD_collect_12 ?_
      refine j_icmp_lt O 27 dD_collect_15 (by decide) (fun c => ?_) (fun c => absurd (nI_lt hia (by omega)) c)
      refine j_iload O dD_collect_27 rfl ?_
      refine j_aload_n O 2 dD_collect_29 rfl rfl ?_
      refine j_get O uwQ hqb1 rfl 1 (by decide) w96 rfl rfl dD_collect_30 ?_
      refine j_icmp_ge O 66 dD_collect_33 (by decide) (fun c => ?_) (fun c => absurd (nI_le hjb (by omega)) c)
      refine j_aload_n O 0 dD_collect_66 rfl rfl ?_
      refine j_aload_n O 1 dD_collect_67 rfl rfl ?_
      refine j_get O uwQ hqa1 rfl 0 (by decide) w93 rfl rfl dD_collect_68 ?_
      refine j_iload_n O 3 dD_collect_71 rfl rfl ?_
      refine j_aald O hba1 1 rfl (by omega) (by omega) dD_collect_72 ?_
      refine j_some x hfx ?_
      refine j_get O uwR hxc rfl 0 (by decide) w286 rfl rfl dD_collect_73 ?_
      refine j_iconst O (v := 1) dD_collect_76 (by decide) ?_
      refine j_iconst O (v := 0) dD_collect_77 (by decide) ?_
      refine j_callV O [.int (ra[i].1), .int 1, .int 0] (c_note X.2.1 D t A g1 d k s u ds.length fk fs fu ra[i].1 1 0 hd hk hs hu n1 n2 n3 (by omega)) hd rfl w390 w391 w9 w25 w392 3 rfl rfl rfl (by decide +kernel) ⟨(by show 0 + 1 ≤ _; omega), (by show 8 + (_ + 11) + 0 ≤ _; omega)⟩ rfl (Nat.le_of_ble_eq_true rfl) dD_collect_78 ⟨(by show 0 + 0 ≤ _; omega), (by show 0 + 0 ≤ _; omega)⟩ (fun vw14 gw15 hpw16 => ?_)
      obtain ⟨rfl, hd2, hk2, hs2, hu2, kp2⟩ := hpw16
      refine j_iinc O (nI (i + 1)) [(3, .int (nI (i + 1))), (0, .ref d), (1, .ref qa), (2, .ref qb), (4, .int (nI j))] dD_collect_81 rfl (nI_1 _) (by decide) rfl ?_
      refine j_goto O 10 dD_collect_84 (by decide) ?_
      refine J.pk [1, 2, 3, 0, 4] rfl ?_
      have e : nI (ds.length + 1) = nI (ds ++ [(ra[i].1, 1, 0)]).length := by rw [List.length_append]; rfl
      rw [e] at hd2
      exact ih (i + 1) (j) _ _ _ _ _ (by omega) (by omega) (by omega) (by rw [← hds, eda, edb, mrg, List.append_assoc]; rfl) hd2 hk2 hs2 hu2 (hdf.push _ _ _) (by rw [List.length_append]; simp; omega) (kp.tr kp2)
    · obtain ⟨y, hfy, hy⟩ := hrb1 j hjb
      rw [Nat.zero_add] at hfy
      obtain ⟨yc, yf, hyc, -, -⟩ := hy.at
      have edb : rb.drop j = rb[j] :: rb.drop (j + 1) := List.drop_eq_getElem_cons hjb
      have eda : ra.drop i = [] := List.drop_eq_nil_of_le hia
      refine j_iload_n O 3 dD_collect_10 rfl rfl ?_
      refine j_aload_n O 1 dD_collect_11 rfl rfl ?_
      refine j_get O uwQ hqa1 rfl 1 (by decide) w96 rfl rfl dD_collect_12 ?_
      refine j_icmp_lt O 27 dD_collect_15 (by decide) (fun c => absurd c (nI_nlt hia (by omega))) (fun c => ?_)
      refine j_iload O dD_collect_18 rfl ?_
      refine j_aload_n O 2 dD_collect_20 rfl rfl ?_
      refine j_get O uwQ hqb1 rfl 1 (by decide) w96 rfl rfl dD_collect_21 ?_
      refine j_icmp_ge O 187 dD_collect_24 (by decide) (fun c => absurd c (nI_ge hjb (by omega))) (fun c => ?_)
      refine j_iload O dD_collect_27 rfl ?_
      refine j_aload_n O 2 dD_collect_29 rfl rfl ?_
      refine j_get O uwQ hqb1 rfl 1 (by decide) w96 rfl rfl dD_collect_30 ?_
      refine j_icmp_ge O 66 dD_collect_33 (by decide) (fun c => absurd c (nI_ge hjb (by omega))) (fun c => ?_)
      refine j_iload_n O 3 dD_collect_36 rfl rfl ?_
      refine j_aload_n O 1 dD_collect_37 rfl rfl ?_
      refine j_get O uwQ hqa1 rfl 1 (by decide) w96 rfl rfl dD_collect_38 ?_
      refine j_icmp_ge O 87 dD_collect_41 (by decide) (fun c => ?_) (fun c => absurd (nI_le hia (by omega)) c)
      refine j_iload_n O 3 dD_collect_87 rfl rfl ?_
      refine j_aload_n O 1 dD_collect_88 rfl rfl ?_
      refine j_get O uwQ hqa1 rfl 1 (by decide) w96 rfl rfl dD_collect_89 ?_
      refine j_icmp_ge O 117 dD_collect_92 (by decide) (fun c => ?_) (fun c => absurd (nI_le hia (by omega)) c)
      refine j_aload_n O 0 dD_collect_117 rfl rfl ?_
      refine j_aload_n O 2 dD_collect_118 rfl rfl ?_
      refine j_get O uwQ hqb1 rfl 0 (by decide) w93 rfl rfl dD_collect_119 ?_
      refine j_iload O dD_collect_122 rfl ?_
      refine j_aald O hbb1 1 rfl (by omega) (by omega) dD_collect_124 ?_
      refine j_some y hfy ?_
      refine j_get O uwR hyc rfl 0 (by decide) w286 rfl rfl dD_collect_125 ?_
      refine j_iconst O (v := 0) dD_collect_128 (by decide) ?_
      refine j_iconst O (v := 0) dD_collect_129 (by decide) ?_
      refine j_callV O [.int (rb[j].1), .int 0, .int 0] (c_note X.2.1 D t A g1 d k s u ds.length fk fs fu rb[j].1 0 0 hd hk hs hu n1 n2 n3 (by omega)) hd rfl w390 w391 w9 w25 w392 3 rfl rfl rfl (by decide +kernel) ⟨(by show 0 + 1 ≤ _; omega), (by show 8 + (_ + 11) + 0 ≤ _; omega)⟩ rfl (Nat.le_of_ble_eq_true rfl) dD_collect_130 ⟨(by show 0 + 0 ≤ _; omega), (by show 0 + 0 ≤ _; omega)⟩ (fun vw17 gw18 hpw19 => ?_)
      obtain ⟨rfl, hd2, hk2, hs2, hu2, kp2⟩ := hpw19
      refine j_iinc O (nI (j + 1)) [(4, .int (nI (j + 1))), (0, .ref d), (1, .ref qa), (2, .ref qb), (3, .int (nI i))] dD_collect_133 rfl (nI_1 _) (by decide) rfl ?_
      refine j_goto O 10 dD_collect_136 (by decide) ?_
      refine J.pk [1, 2, 3, 4, 0] rfl ?_
      have e : nI (ds.length + 1) = nI (ds ++ [(rb[j].1, 0, 0)]).length := by rw [List.length_append]; rfl
      rw [e] at hd2
      exact ih (i) (j + 1) _ _ _ _ _ (by omega) (by omega) (by omega) (by rw [← hds, eda, edb, mrg, List.append_assoc]; rfl) hd2 hk2 hs2 hu2 (hdf.push _ _ _) (by rw [List.length_append]; simp; omega) (kp.tr kp2)
    · have eda : ra.drop i = [] := List.drop_eq_nil_of_le hia
      have edb : rb.drop j = [] := List.drop_eq_nil_of_le hjb
      rw [eda, edb, mrg, List.append_nil] at hds
      refine j_iload_n O 3 dD_collect_10 rfl rfl ?_
      refine j_aload_n O 1 dD_collect_11 rfl rfl ?_
      refine j_get O uwQ hqa1 rfl 1 (by decide) w96 rfl rfl dD_collect_12 ?_
      refine j_icmp_lt O 27 dD_collect_15 (by decide) (fun c => absurd c (nI_nlt hia (by omega))) (fun c => ?_)
      refine j_iload O dD_collect_18 rfl ?_
      refine j_aload_n O 2 dD_collect_20 rfl rfl ?_
      refine j_get O uwQ hqb1 rfl 1 (by decide) w96 rfl rfl dD_collect_21 ?_
      refine j_icmp_ge O 187 dD_collect_24 (by decide) (fun c => ?_) (fun c => absurd (nI_le hjb (by omega)) c)
      exact j_vret O M (Nat.le_of_ble_eq_true rfl) (Nat.le_of_ble_eq_true rfl) ⟨rfl, fk, fs, fu, by rw [← hds]; exact hd, hk, hs, hu, by rw [← hds]; exact hdf, kp⟩ dD_collect_187
set_option maxRecDepth 100000 in
set_option maxHeartbeats 1000000 in
theorem c_collect (l : Launch) (D : va_G) (t : Nat → ClassId) (A : Nat → Prop) (g : GH) (d k s u qa qb ba bb : Nat) (fa fb : Nat → Option Nat) (ra rb : List RV) (I : Nat → Prop) (dn : Int32) (fk0 fs0 fu0 : Nat → Int32) (hqa : gAt g qa (eRL ba (nI ra.length))) (hba : gAt g ba (eRs t 300 fa)) (hra : rowsI t g I fa 0 ra) (hqb : gAt g qb (eRL bb (nI rb.length))) (hbb : gAt g bb (eRs t 300 fb)) (hrb : rowsI t g I fb 0 rb) (hIn : ¬ I d ∧ ¬ I k ∧ ¬ I s ∧ ¬ I u) (n1 : k ≠ s) (n2 : k ≠ u) (n3 : s ≠ u) (la : ra.length ≤ 300) (lb : rb.length ≤ 300) (hwa : ∀ r ∈ ra, r.2.1.length ≤ 6) (hwb : ∀ r ∈ rb, r.2.1.length ≤ 6) (hd0 : gAt g d (eDf k s u dn)) (hk0 : gAt g k (eI t 600 fk0)) (hs0 : gAt g s (eI t 600 fs0)) (hu0 : gAt g u (eI t 600 fu0)) : Ct l yD_collect sD_collect { frames := 1, cells := 0, slots := 0, locals := 40 } (zz D t A) [.ref d, .ref qa, .ref qb] g 0 0 (fun v g' => v = none ∧ ∃ fk fs fu, gAt g' d (eDf k s u (nI (mrg (ra.length + rb.length) ra rb).length)) ∧ gAt g' k (eI t 600 fk) ∧ gAt g' s (eI t 600 fs) ∧ gAt g' u (eI t 600 fu) ∧ dfs fk fs fu (mrg (ra.length + rb.length) ra rb) ∧ Kp [d, k, s, u] g g') := by
  refine Ct.of (cc := bD_collect) (maxL := 6) (ret := none) (by decide) (Nat.le_of_ble_eq_true rfl) (fun X hl O M hN => ?_)
  show J X 6 (zz D t A) g 0 0 0 [(0, .ref d), (1, .ref qa), (2, .ref qb)] []
  have kp0 : Kp [d, k, s, u] g g := Kp.rf
  refine j_aload_n O 0 dD_collect_0 rfl rfl ?_
  refine j_iconst O (v := 0) dD_collect_1 (by decide) ?_
  refine j_put O uwD hd0 rfl 3 (by decide) w75 rfl tD ftD fnD rfl (.int) (by decide +kernel) rfl rfl (Nat.le_of_ble_eq_true rfl) [.ref k, .ref s, .ref u, .int 0] rfl dD_collect_2 (fun gw20 ew21 => ?_)
  have hw22 := gUp_ne (e' := .inr (1, [.ref k, .ref s, .ref u, .int 0])) hk0 (hk0.ne hd0 (by simp))
  rw [← ew21] at hw22
  have hw23 := gUp_ne (e' := .inr (1, [.ref k, .ref s, .ref u, .int 0])) hs0 (hs0.ne hd0 (by simp))
  rw [← ew21] at hw23
  have hw24 := gUp_ne (e' := .inr (1, [.ref k, .ref s, .ref u, .int 0])) hu0 (hu0.ne hd0 (by simp))
  rw [← ew21] at hw24
  have hw25 := gUp_self (e' := .inr (1, [.ref k, .ref s, .ref u, .int 0])) hd0
  rw [← ew21] at hw25
  have kpw26 := kp0.up (a := d) (e := .inr (1, [.ref k, .ref s, .ref u, .int 0])) (by simp)
  rw [← ew21] at kpw26
  refine j_iconst O (v := 0) dD_collect_5 (by decide) ?_
  refine j_istore_n O 3 [(3, .int 0), (0, .ref d), (1, .ref qa), (2, .ref qb)] dD_collect_6 rfl (by decide) rfl ?_
  refine j_iconst O (v := 0) dD_collect_7 (by decide) ?_
  refine j_istore O [(4, .int 0), (3, .int 0), (0, .ref d), (1, .ref qa), (2, .ref qb)] dD_collect_8 (by decide) rfl ?_
  refine J.pk [2, 3, 4, 1, 0] rfl ?_
  exact collect_loop O M hqa hba hra hqb hbb hrb hIn n1 n2 n3 la lb hwa hwb hd0 hk0 hs0 hu0 ⟨by decide, by decide⟩ (ra.length + rb.length) 0 0 _ [] fk0 fs0 fu0 (Nat.zero_le _) (Nat.zero_le _) (by omega) rfl hw25 hw22 hw23 hw24 (fun i hi => absurd hi (Nat.not_lt_zero _)) (Nat.zero_le _) kpw26
