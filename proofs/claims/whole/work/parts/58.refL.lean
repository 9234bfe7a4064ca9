theorem RT.keep {t : Nat → ClassId} {g g' : GH} {u : Nat → Nat} {tb : TB} (h : RT t g u tb) (hk : ∀ k, (k < 4 ∨ (20 ≤ k ∧ k < 32)) → ∀ e, gAt g (u k) e → gAt g' (u k) e) : RT t g' u tb := by
  obtain ⟨⟨f0, a0, b0⟩, ⟨f1, a1, b1⟩, ⟨f2, a2, b2⟩, ⟨f3, a3, b3⟩, h4⟩ := h
  refine ⟨⟨f0, hk 0 (by omega) _ a0, b0⟩, ⟨f1, hk 1 (by omega) _ a1, b1⟩, ⟨f2, hk 2 (by omega) _ a2, b2⟩, ⟨f3, hk 3 (by omega) _ a3, b3⟩, fun i hi => ?_⟩
  obtain ⟨fk, fc, c1, c2, c3⟩ := h4 i hi
  exact ⟨fk, fc, hk _ (by omega) _ c1, hk _ (by omega) _ c2, c3⟩
set_option maxRecDepth 100000 in
set_option maxHeartbeats 1000000 in
theorem M_cmp_loop {X : CX} {D : va_G} {t : Nat → ClassId} {A : Nat → Prop} {rm : Room} {g : GH} {k0 n0 : Nat} {u : Nat → Nat} {oc om df nn us lm mm ta co si : Int32} {s : AS} {i j : Nat} (O : Ok X bM_compare 10 "TwinTreesModel" (zz D t A) rm) (hM : gAt g (u 19) (eM u oc om df nn us lm mm ta co si)) (hRT : RT t g u s.1) (i6 : i < 6) (j6 : j < 6) (hwe : (s.1 i).1 = (s.1 j).1) (hti : tOK (s.1 i)) (htj : tOK (s.1 j)) (hci : ∀ r ∈ (s.1 i).2, rowC r) (hcj : ∀ r ∈ (s.1 j).2, rowC r) (hne : ∀ i j, i < 32 → j < 32 → i ≠ j → u i ≠ u j) (HK : ∀ (g1 : GH) (f6 f7 f8 : Nat → Int32), gAt g1 (u 6) (eI t 600 f6) → gAt g1 (u 7) (eI t 600 f7) → gAt g1 (u 8) (eI t 600 f8) → dfs f6 f7 f8 (mrg ((s.1 i).2.length + (s.1 j).2.length) (s.1 i).2 (s.1 j).2) → Kp [u 6, u 7, u 8] g g1 → J X 10 (zz D t A) g1 k0 n0 344 [(0, .ref (u 19)), (5, .int (nI (mrg ((s.1 i).2.length + (s.1 j).2.length) (s.1 i).2 (s.1 j).2).length))] []) : ∀ (k a b : Nat) (g1 : GH) (ds : List (Int32 × Int32 × Int32)) (f6 f7 f8 : Nat → Int32), a ≤ (s.1 i).2.length → b ≤ (s.1 j).2.length → ((s.1 i).2.length - a) + ((s.1 j).2.length - b) ≤ k → ds ++ mrg k ((s.1 i).2.drop a) ((s.1 j).2.drop b) = (mrg ((s.1 i).2.length + (s.1 j).2.length) (s.1 i).2 (s.1 j).2) → gAt g1 (u 6) (eI t 600 f6) → gAt g1 (u 7) (eI t 600 f7) → gAt g1 (u 8) (eI t 600 f8) → dfs f6 f7 f8 ds → ds.length ≤ a + b → Kp [u 6, u 7, u 8] g g1 → J X 10 (zz D t A) g1 k0 n0 43 [(0, .ref (u 19)), (1, .int (nI i)), (2, .int (nI j)), (3, .int (nI a)), (4, .int (nI b)), (5, .int (nI ds.length))] [] := by
  obtain ⟨i1, i2, i3, i4, i5⟩ := hti
  obtain ⟨j1, j2, j3, j4, j5⟩ := htj
  have hkk : ∀ g1, Kp [u 6, u 7, u 8] g g1 → ∀ k, k < 32 → k ≠ 6 → k ≠ 7 → k ≠ 8 → ∀ e, gAt g (u k) e → gAt g1 (u k) e := fun g1 hk k h0 h1 h2 h3 e he => hk.2 _ e (three_ne (hne k 6 h0 (by omega) h1) (hne k 7 h0 (by omega) h2) (hne k 8 h0 (by omega) h3)) he
  intro k
  induction k with
  | zero =>
    intro a b g1 ds f6 f7 f8 ha hb hk hds h6 h7 h8 hdf hdl kp
    have ea : a = (s.1 i).2.length := by omega
    have eb : b = (s.1 j).2.length := by omega
    subst ea; subst eb
    rw [mrg, List.append_nil] at hds
    have hM1 := hkk g1 kp 19 (by omega) (by omega) (by omega) (by omega) _ hM
    have hRT1 : RT t g1 u s.1 := hRT.keep (fun k hk e he => hkk g1 kp k (by omega) (by omega) (by omega) (by omega) e he)
    obtain ⟨⟨fC, hC, hCv⟩, ⟨fN, hNn0, hNv⟩, ⟨fK, hK, hKv⟩, ⟨fL, hL, hLv⟩, hrow⟩ := id hRT1
    have hNi := hNv i i6
    have hNj := hNv j j6
    refine j_iload_n O 3 dM_compare_43 rfl rfl ?_
    refine j_aload_n O 0 dM_compare_44 rfl rfl ?_
    refine j_get O uwM hM1 rfl 1 (by decide) w448 rfl rfl dM_compare_45 ?_
    refine j_iload_n O 1 dM_compare_48 rfl rfl ?_
    refine j_iald O hNn0 0 rfl (by omega) (by omega) dM_compare_49 ?_
    refine j_eqi (nI (s.1 i).2.length) hNi ?_
    refine j_icmp_lt O 64 dM_compare_50 (by decide) (fun c => absurd c (nI_nlt (Nat.le_refl _) (by omega))) (fun c => ?_)
    refine j_iload O dM_compare_53 rfl ?_
    refine j_aload_n O 0 dM_compare_55 rfl rfl ?_
    refine j_get O uwM hM1 rfl 1 (by decide) w448 rfl rfl dM_compare_56 ?_
    refine j_iload_n O 2 dM_compare_59 rfl rfl ?_
    refine j_iald O hNn0 0 rfl (by omega) (by omega) dM_compare_60 ?_
    refine j_eqi (nI (s.1 j).2.length) hNj ?_
    refine j_icmp_ge O 344 dM_compare_61 (by decide) (fun c => ?_) (fun c => absurd (nI_le (Nat.le_refl _) (by omega)) c)
    refine J.pk [0, 5] rfl ?_
    rw [hds]
    exact HK g1 f6 f7 f8 h6 h7 h8 (by rw [← hds]; exact hdf) kp
  | succ k ih =>
    intro a b g1 ds f6 f7 f8 ha hb hk hds h6 h7 h8 hdf hdl kp
    have hM1 := hkk g1 kp 19 (by omega) (by omega) (by omega) (by omega) _ hM
    have hRT1 : RT t g1 u s.1 := hRT.keep (fun k hk e he => hkk g1 kp k (by omega) (by omega) (by omega) (by omega) e he)
    obtain ⟨⟨fC, hC, hCv⟩, ⟨fN, hNn0, hNv⟩, ⟨fK, hK, hKv⟩, ⟨fL, hL, hLv⟩, hrow⟩ := id hRT1
    have hNi := hNv i i6
    have hNj := hNv j j6
    have hKi := hKv i i6
    have hKj := hKv j j6
    rcases Nat.lt_or_ge a (s.1 i).2.length with ha1 | ha1 <;> rcases Nat.lt_or_ge b (s.1 j).2.length with hb1 | hb1
    · have da : (s.1 i).2.drop a = (s.1 i).2[a] :: (s.1 i).2.drop (a + 1) := List.drop_eq_getElem_cons ha1
      have db : (s.1 j).2.drop b = (s.1 j).2[b] :: (s.1 j).2.drop (b + 1) := List.drop_eq_getElem_cons hb1
      obtain ⟨fk, fc, hk1, -, htab⟩ := hrow i i6
      obtain ⟨gk, gc, hk2, -, htab2⟩ := hrow j j6
      have hka := (htab a ha1).1
      have hkb := (htab2 b hb1).1
      have nea : ¬ nI a = nI (s.1 i).2.length := fun z => by have := nI_inj (by omega) (by omega) z; omega
      have neb : ¬ nI b = nI (s.1 j).2.length := fun z => by have := nI_inj (by omega) (by omega) z; omega
      refine j_iload_n O 3 dM_compare_43 rfl rfl ?_
      refine j_aload_n O 0 dM_compare_44 rfl rfl ?_
      refine j_get O uwM hM1 rfl 1 (by decide) w448 rfl rfl dM_compare_45 ?_
      refine j_iload_n O 1 dM_compare_48 rfl rfl ?_
      refine j_iald O hNn0 0 rfl (by omega) (by omega) dM_compare_49 ?_
      refine j_eqi (nI (s.1 i).2.length) hNi ?_
      refine j_icmp_lt O 64 dM_compare_50 (by decide) (fun c => ?_) (fun c => absurd (nI_lt ha1 (by omega)) c)
      refine j_iload_n O 3 dM_compare_64 rfl rfl ?_
      refine j_aload_n O 0 dM_compare_65 rfl rfl ?_
      refine j_get O uwM hM1 rfl 1 (by decide) w448 rfl rfl dM_compare_66 ?_
      refine j_iload_n O 1 dM_compare_69 rfl rfl ?_
      refine j_iald O hNn0 0 rfl (by omega) (by omega) dM_compare_70 ?_
      refine j_eqi (nI (s.1 i).2.length) hNi ?_
      refine j_icmp_ge O 109 dM_compare_71 (by decide) (fun c => absurd c (nI_ge ha1 (by omega))) (fun c => ?_)
      refine j_iload O dM_compare_74 rfl ?_
      refine j_aload_n O 0 dM_compare_76 rfl rfl ?_
      refine j_get O uwM hM1 rfl 1 (by decide) w448 rfl rfl dM_compare_77 ?_
      refine j_iload_n O 2 dM_compare_80 rfl rfl ?_
      refine j_iald O hNn0 0 rfl (by omega) (by omega) dM_compare_81 ?_
      refine j_eqi (nI (s.1 j).2.length) hNj ?_
      refine j_icmp_eq O 105 dM_compare_82 (by decide) (fun c => absurd c neb) (fun c => ?_)
      refine j_aload_n O 0 dM_compare_85 rfl rfl ?_
      refine j_get O uwM hM1 rfl 2 (by decide) w449 rfl rfl dM_compare_86 ?_
      refine j_iload_n O 1 dM_compare_89 rfl rfl ?_
      refine j_aaldA O hK 4 rfl (by omega) (by omega) dM_compare_90 ?_
      refine j_some (u (20 + i)) hKi ?_
      refine j_iload_n O 3 dM_compare_91 rfl rfl ?_
      refine j_iald O hk1 0 rfl (by omega) (by omega) dM_compare_92 ?_
      refine j_eqi ((s.1 i).2[a].1) hka ?_
      refine j_aload_n O 0 dM_compare_93 rfl rfl ?_
      refine j_get O uwM hM1 rfl 2 (by decide) w449 rfl rfl dM_compare_94 ?_
      refine j_iload_n O 2 dM_compare_97 rfl rfl ?_
      refine j_aaldA O hK 4 rfl (by omega) (by omega) dM_compare_98 ?_
      refine j_some (u (20 + j)) hKj ?_
      refine j_iload O dM_compare_99 rfl ?_
      refine j_iald O hk2 0 rfl (by omega) (by omega) dM_compare_101 ?_
      refine j_eqi ((s.1 j).2[b].1) hkb ?_
      refine j_icmp_gt O 109 dM_compare_102 (by decide) (fun c1 => ?_) (fun c1 => ?_)
      · refine j_iconst O (v := 0) dM_compare_109 (by decide) ?_
        refine j_istore O [(6, .int 0), (0, .ref (u 19)), (1, .int (nI i)), (2, .int (nI j)), (3, .int (nI a)), (4, .int (nI b)), (5, .int (nI ds.length))] dM_compare_110 (by decide) rfl ?_
        refine j_iload O dM_compare_112 rfl ?_
        refine j_aload_n O 0 dM_compare_114 rfl rfl ?_
        refine j_get O uwM hM1 rfl 1 (by decide) w448 rfl rfl dM_compare_115 ?_
        refine j_iload_n O 2 dM_compare_118 rfl rfl ?_
        refine j_iald O hNn0 0 rfl (by omega) (by omega) dM_compare_119 ?_
        refine j_eqi (nI (s.1 j).2.length) hNj ?_
        refine j_icmp_ge O 157 dM_compare_120 (by decide) (fun c => absurd c (nI_ge hb1 (by omega))) (fun c => ?_)
        refine j_iload_n O 3 dM_compare_123 rfl rfl ?_
        refine j_aload_n O 0 dM_compare_124 rfl rfl ?_
        refine j_get O uwM hM1 rfl 1 (by decide) w448 rfl rfl dM_compare_125 ?_
        refine j_iload_n O 1 dM_compare_128 rfl rfl ?_
        refine j_iald O hNn0 0 rfl (by omega) (by omega) dM_compare_129 ?_
        refine j_eqi (nI (s.1 i).2.length) hNi ?_
        refine j_icmp_eq O 153 dM_compare_130 (by decide) (fun c => absurd c nea) (fun c => ?_)
        refine j_aload_n O 0 dM_compare_133 rfl rfl ?_
        refine j_get O uwM hM1 rfl 2 (by decide) w449 rfl rfl dM_compare_134 ?_
        refine j_iload_n O 2 dM_compare_137 rfl rfl ?_
        refine j_aaldA O hK 4 rfl (by omega) (by omega) dM_compare_138 ?_
        refine j_some (u (20 + j)) hKj ?_
        refine j_iload O dM_compare_139 rfl ?_
        refine j_iald O hk2 0 rfl (by omega) (by omega) dM_compare_141 ?_
        refine j_eqi ((s.1 j).2[b].1) hkb ?_
        refine j_aload_n O 0 dM_compare_142 rfl rfl ?_
        refine j_get O uwM hM1 rfl 2 (by decide) w449 rfl rfl dM_compare_143 ?_
        refine j_iload_n O 1 dM_compare_146 rfl rfl ?_
        refine j_aaldA O hK 4 rfl (by omega) (by omega) dM_compare_147 ?_
        refine j_some (u (20 + i)) hKi ?_
        refine j_iload_n O 3 dM_compare_148 rfl rfl ?_
        refine j_iald O hk1 0 rfl (by omega) (by omega) dM_compare_149 ?_
        refine j_eqi ((s.1 i).2[a].1) hka ?_
        have hlt : (s.1 j).2[b].1 < (s.1 i).2[a].1 := c1
        refine j_icmp_gt O 157 dM_compare_150 (by decide) (fun c => absurd hlt (lt_asym32 c)) (fun c => ?_)
        refine j_iconst O (v := 1) dM_compare_153 (by decide) ?_
        refine j_goto O 158 dM_compare_154 (by decide) ?_
        refine j_istore O [(7, .int 1), (6, .int 0), (0, .ref (u 19)), (1, .int (nI i)), (2, .int (nI j)), (3, .int (nI a)), (4, .int (nI b)), (5, .int (nI ds.length))] dM_compare_158 (by decide) rfl ?_
        refine j_iconst O (v := 0) dM_compare_160 (by decide) ?_
        refine j_istore O [(8, .int 0), (7, .int 1), (6, .int 0), (0, .ref (u 19)), (1, .int (nI i)), (2, .int (nI j)), (3, .int (nI a)), (4, .int (nI b)), (5, .int (nI ds.length))] dM_compare_161 (by decide) rfl ?_
        refine j_iconst O (v := 0) dM_compare_163 (by decide) ?_
        refine j_istore O [(9, .int 0), (8, .int 0), (7, .int 1), (6, .int 0), (0, .ref (u 19)), (1, .int (nI i)), (2, .int (nI j)), (3, .int (nI a)), (4, .int (nI b)), (5, .int (nI ds.length))] dM_compare_164 (by decide) rfl ?_
        refine j_iload O dM_compare_166 rfl ?_
        refine j_aload_n O 0 dM_compare_168 rfl rfl ?_
        refine j_get O uwM hM1 rfl 0 (by decide) w447 rfl rfl dM_compare_169 ?_
        refine j_iload_n O 1 dM_compare_172 rfl rfl ?_
        refine j_iald O hC 0 rfl (by omega) (by omega) dM_compare_173 ?_
        refine j_eqi (nI (s.1 i).1) (hCv i i6) ?_
        refine j_icmp_ge O 235 dM_compare_174 (by decide) (fun c => absurd c (nI_ge (a := 0) (by omega) (by omega))) (fun c => ?_)
        refine j_iload O dM_compare_177 rfl ?_
        refine j_if_eq O 235 dM_compare_179 (by decide) (fun c => ?_) (fun c => absurd rfl c)
        refine j_iload O dM_compare_235 rfl ?_
        refine j_if_gt O 250 dM_compare_237 (by decide) (fun c => absurd c (by decide)) (fun c => ?_)
        refine j_iload O dM_compare_240 rfl ?_
        refine j_if_eq O 250 dM_compare_242 (by decide) (fun c => ?_) (fun c => absurd rfl c)
        refine J.pk [4, 5, 6, 7, 8, 9, 3, 2, 1] rfl ?_
        refine note01 O hM1 hRT1 i6 j6 hb1 i5 j5 hne h6 h7 h8 (by omega) (fun g2 h6b h7b h8b kp2 => ?_)
        refine j_iload O dM_compare_325 rfl ?_
        refine j_if_eq O 333 dM_compare_327 (by decide) (fun c => ?_) (fun c => absurd rfl c)
        refine j_iload O dM_compare_333 rfl ?_
        refine j_if_eq O 341 dM_compare_335 (by decide) (fun c => absurd c (by decide)) (fun c => ?_)
        refine j_iinc O (nI (b + 1)) [(4, .int (nI (b + 1))), (0, .ref (u 19)), (1, .int (nI i)), (2, .int (nI j)), (3, .int (nI a)), (5, .int (nI (ds.length + 1))), (6, .int 0), (7, .int 1)] dM_compare_338 rfl (nI_1 _) (by decide) rfl ?_
        refine j_goto O 43 dM_compare_341 (by decide) ?_
        refine J.pk [1, 2, 3, 4, 0, 5] rfl ?_
        have hih := ih a (b + 1) g2 (ds ++ [((s.1 j).2[b].1, 0, 0)]) _ _ _ (by omega) (by omega) (by omega) (by rw [← hds, List.append_assoc, List.singleton_append]; congr 1; rw [da, db, mrg, if_neg (lt_asym32 hlt), if_pos hlt]) h6b h7b h8b (hdf.push _ _ _) (by rw [List.length_append, List.length_singleton]; omega) (kp.tr kp2)
        rw [List.length_append, List.length_singleton] at hih
        exact hih
      · refine j_iconst O (v := 1) dM_compare_105 (by decide) ?_
        refine j_goto O 110 dM_compare_106 (by decide) ?_
        refine j_istore O [(6, .int 1), (0, .ref (u 19)), (1, .int (nI i)), (2, .int (nI j)), (3, .int (nI a)), (4, .int (nI b)), (5, .int (nI ds.length))] dM_compare_110 (by decide) rfl ?_
        refine j_iload O dM_compare_112 rfl ?_
        refine j_aload_n O 0 dM_compare_114 rfl rfl ?_
        refine j_get O uwM hM1 rfl 1 (by decide) w448 rfl rfl dM_compare_115 ?_
        refine j_iload_n O 2 dM_compare_118 rfl rfl ?_
        refine j_iald O hNn0 0 rfl (by omega) (by omega) dM_compare_119 ?_
        refine j_eqi (nI (s.1 j).2.length) hNj ?_
        refine j_icmp_ge O 157 dM_compare_120 (by decide) (fun c => absurd c (nI_ge hb1 (by omega))) (fun c => ?_)
        refine j_iload_n O 3 dM_compare_123 rfl rfl ?_
        refine j_aload_n O 0 dM_compare_124 rfl rfl ?_
        refine j_get O uwM hM1 rfl 1 (by decide) w448 rfl rfl dM_compare_125 ?_
        refine j_iload_n O 1 dM_compare_128 rfl rfl ?_
        refine j_iald O hNn0 0 rfl (by omega) (by omega) dM_compare_129 ?_
        refine j_eqi (nI (s.1 i).2.length) hNi ?_
        refine j_icmp_eq O 153 dM_compare_130 (by decide) (fun c => absurd c nea) (fun c => ?_)
        refine j_aload_n O 0 dM_compare_133 rfl rfl ?_
        refine j_get O uwM hM1 rfl 2 (by decide) w449 rfl rfl dM_compare_134 ?_
        refine j_iload_n O 2 dM_compare_137 rfl rfl ?_
        refine j_aaldA O hK 4 rfl (by omega) (by omega) dM_compare_138 ?_
        refine j_some (u (20 + j)) hKj ?_
        refine j_iload O dM_compare_139 rfl ?_
        refine j_iald O hk2 0 rfl (by omega) (by omega) dM_compare_141 ?_
        refine j_eqi ((s.1 j).2[b].1) hkb ?_
        refine j_aload_n O 0 dM_compare_142 rfl rfl ?_
        refine j_get O uwM hM1 rfl 2 (by decide) w449 rfl rfl dM_compare_143 ?_
        refine j_iload_n O 1 dM_compare_146 rfl rfl ?_
        refine j_aaldA O hK 4 rfl (by omega) (by omega) dM_compare_147 ?_
        refine j_some (u (20 + i)) hKi ?_
        refine j_iload_n O 3 dM_compare_148 rfl rfl ?_
        refine j_iald O hk1 0 rfl (by omega) (by omega) dM_compare_149 ?_
        refine j_eqi ((s.1 i).2[a].1) hka ?_
        refine j_icmp_gt O 157 dM_compare_150 (by decide) (fun c2 => ?_) (fun c2 => ?_)
        · have hlt : (s.1 i).2[a].1 < (s.1 j).2[b].1 := c2
          refine j_iconst O (v := 0) dM_compare_157 (by decide) ?_
          refine j_istore O [(7, .int 0), (6, .int 1), (0, .ref (u 19)), (1, .int (nI i)), (2, .int (nI j)), (3, .int (nI a)), (4, .int (nI b)), (5, .int (nI ds.length))] dM_compare_158 (by decide) rfl ?_
          refine j_iconst O (v := 0) dM_compare_160 (by decide) ?_
          refine j_istore O [(8, .int 0), (7, .int 0), (6, .int 1), (0, .ref (u 19)), (1, .int (nI i)), (2, .int (nI j)), (3, .int (nI a)), (4, .int (nI b)), (5, .int (nI ds.length))] dM_compare_161 (by decide) rfl ?_
          refine j_iconst O (v := 0) dM_compare_163 (by decide) ?_
          refine j_istore O [(9, .int 0), (8, .int 0), (7, .int 0), (6, .int 1), (0, .ref (u 19)), (1, .int (nI i)), (2, .int (nI j)), (3, .int (nI a)), (4, .int (nI b)), (5, .int (nI ds.length))] dM_compare_164 (by decide) rfl ?_
          refine j_iload O dM_compare_166 rfl ?_
          refine j_aload_n O 0 dM_compare_168 rfl rfl ?_
          refine j_get O uwM hM1 rfl 0 (by decide) w447 rfl rfl dM_compare_169 ?_
          refine j_iload_n O 1 dM_compare_172 rfl rfl ?_
          refine j_iald O hC 0 rfl (by omega) (by omega) dM_compare_173 ?_
          refine j_eqi (nI (s.1 i).1) (hCv i i6) ?_
          refine j_icmp_ge O 235 dM_compare_174 (by decide) (fun c => absurd c (nI_ge (a := 0) (by omega) (by omega))) (fun c => ?_)
          refine j_iload O dM_compare_177 rfl ?_
          refine j_if_eq O 235 dM_compare_179 (by decide) (fun c => absurd c (by decide)) (fun c => ?_)
          refine j_iload O dM_compare_182 rfl ?_
          refine j_if_eq O 235 dM_compare_184 (by decide) (fun c => ?_) (fun c => absurd rfl c)
          refine j_iload O dM_compare_235 rfl ?_
          refine j_if_gt O 250 dM_compare_237 (by decide) (fun c => absurd c (by decide)) (fun c => ?_)
          refine j_iload O dM_compare_240 rfl ?_
          refine j_if_eq O 250 dM_compare_242 (by decide) (fun c => absurd c (by decide)) (fun c => ?_)
          refine j_iload O dM_compare_245 rfl ?_
          refine j_if_ne O 325 dM_compare_247 (by decide) (fun c => absurd rfl c) (fun c => ?_)
          refine J.pk [4, 5, 6, 7, 8, 9, 3, 2, 1] rfl ?_
          refine note10 O hM1 hRT1 i6 j6 ha1 i5 j5 hne h6 h7 h8 (by omega) (fun g2 h6b h7b h8b kp2 => ?_)
          refine j_iload O dM_compare_325 rfl ?_
          refine j_if_eq O 333 dM_compare_327 (by decide) (fun c => absurd c (by decide)) (fun c => ?_)
          refine j_iinc O (nI (a + 1)) [(3, .int (nI (a + 1))), (0, .ref (u 19)), (1, .int (nI i)), (2, .int (nI j)), (4, .int (nI b)), (5, .int (nI (ds.length + 1))), (6, .int 1), (7, .int 0)] dM_compare_330 rfl (nI_1 _) (by decide) rfl ?_
          refine j_iload O dM_compare_333 rfl ?_
          refine j_if_eq O 341 dM_compare_335 (by decide) (fun c => ?_) (fun c => absurd rfl c)
          refine j_goto O 43 dM_compare_341 (by decide) ?_
          refine J.pk [1, 2, 3, 0, 4, 5] rfl ?_
          have hih := ih (a + 1) b g2 (ds ++ [((s.1 i).2[a].1, 1, 0)]) _ _ _ (by omega) (by omega) (by omega) (by rw [← hds, List.append_assoc, List.singleton_append]; congr 1; rw [da, db, mrg, if_pos hlt]) h6b h7b h8b (hdf.push _ _ _) (by rw [List.length_append, List.length_singleton]; omega) (kp.tr kp2)
          rw [List.length_append, List.length_singleton] at hih
          exact hih
        · have n1 : ¬ (s.1 i).2[a].1 < (s.1 j).2[b].1 := c2
          have n2 : ¬ (s.1 j).2[b].1 < (s.1 i).2[a].1 := c1
          have hub := unl_btR (hci _ (List.getElem_mem ha1)) (hcj _ (List.getElem_mem hb1)) (by rw [i3 _ (List.getElem_mem ha1), j3 _ (List.getElem_mem hb1), hwe]) (by rw [i3 _ (List.getElem_mem ha1)]; exact i2)
          rw [i3 _ (List.getElem_mem ha1)] at hub
          have hbp := btR_pos (s.1 i).2[a] (s.1 j).2[b] i2
          refine j_iconst O (v := 1) dM_compare_153 (by decide) ?_
          refine j_goto O 158 dM_compare_154 (by decide) ?_
          refine j_istore O [(7, .int 1), (6, .int 1), (0, .ref (u 19)), (1, .int (nI i)), (2, .int (nI j)), (3, .int (nI a)), (4, .int (nI b)), (5, .int (nI ds.length))] dM_compare_158 (by decide) rfl ?_
          refine j_iconst O (v := 0) dM_compare_160 (by decide) ?_
          refine j_istore O [(8, .int 0), (7, .int 1), (6, .int 1), (0, .ref (u 19)), (1, .int (nI i)), (2, .int (nI j)), (3, .int (nI a)), (4, .int (nI b)), (5, .int (nI ds.length))] dM_compare_161 (by decide) rfl ?_
          refine j_iconst O (v := 0) dM_compare_163 (by decide) ?_
          refine j_istore O [(9, .int 0), (8, .int 0), (7, .int 1), (6, .int 1), (0, .ref (u 19)), (1, .int (nI i)), (2, .int (nI j)), (3, .int (nI a)), (4, .int (nI b)), (5, .int (nI ds.length))] dM_compare_164 (by decide) rfl ?_
          refine J.pk [4, 5, 6, 7, 8, 9, 3, 2, 1, 0] rfl ?_
          refine cmp_bits O hM1 hRT1 i6 j6 ha1 hb1 hwe i2 i5 j5 ?_ (s.1 i).1 0 (by omega)
          refine j_iload O dM_compare_235 rfl ?_
          refine j_if_gt O 250 dM_compare_237 (by decide) (fun c3 => ?_) (fun c3 => ?_)
          · have hn0 := hbp.mp c3
            rw [hub] at hn0
            refine J.pk [0, 1, 2, 3, 4, 5, 6, 7, 8] rfl ?_
            refine note11 O hM1 hRT1 i6 j6 ha1 i5 j5 hne h6 h7 h8 (by omega) (fun g2 h6b h7b h8b kp2 => ?_)
            refine j_iload O dM_compare_325 rfl ?_
            refine j_if_eq O 333 dM_compare_327 (by decide) (fun c => absurd c (by decide)) (fun c => ?_)
            refine j_iinc O (nI (a + 1)) [(3, .int (nI (a + 1))), (0, .ref (u 19)), (1, .int (nI i)), (2, .int (nI j)), (4, .int (nI b)), (5, .int (nI (ds.length + 1))), (6, .int 1), (7, .int 1)] dM_compare_330 rfl (nI_1 _) (by decide) rfl ?_
            refine j_iload O dM_compare_333 rfl ?_
            refine j_if_eq O 341 dM_compare_335 (by decide) (fun c => absurd c (by decide)) (fun c => ?_)
            refine j_iinc O (nI (b + 1)) [(4, .int (nI (b + 1))), (3, .int (nI (a + 1))), (0, .ref (u 19)), (1, .int (nI i)), (2, .int (nI j)), (5, .int (nI (ds.length + 1))), (6, .int 1), (7, .int 1)] dM_compare_338 rfl (nI_1 _) (by decide) rfl ?_
            refine j_goto O 43 dM_compare_341 (by decide) ?_
            refine J.pk [2, 3, 4, 1, 0, 5] rfl ?_
            have hih := ih (a + 1) (b + 1) g2 (ds ++ [((s.1 i).2[a].1, 2, btR (s.1 i).2[a] (s.1 j).2[b] (s.1 i).1)]) _ _ _ (by omega) (by omega) (by omega) (by rw [← hds, List.append_assoc, List.singleton_append]; congr 1; rw [da, db, mrg, if_neg n1, if_neg n2, if_neg hn0, hub]) h6b h7b h8b (hdf.push _ _ _) (by rw [List.length_append, List.length_singleton]; omega) (kp.tr kp2)
            rw [List.length_append, List.length_singleton] at hih
            exact hih
          · have hz : unl (s.1 i).2[a] (s.1 j).2[b] = 0 := by
              rw [← hub]
              exact Classical.not_not.mp (fun z => c3 (hbp.mpr z))
            refine j_iload O dM_compare_240 rfl ?_
            refine j_if_eq O 250 dM_compare_242 (by decide) (fun c => absurd c (by decide)) (fun c => ?_)
            refine j_iload O dM_compare_245 rfl ?_
            refine j_if_ne O 325 dM_compare_247 (by decide) (fun c => ?_) (fun c => absurd c (by decide))
            refine j_iload O dM_compare_325 rfl ?_
            refine j_if_eq O 333 dM_compare_327 (by decide) (fun c => absurd c (by decide)) (fun c => ?_)
            refine j_iinc O (nI (a + 1)) [(3, .int (nI (a + 1))), (0, .ref (u 19)), (1, .int (nI i)), (2, .int (nI j)), (4, .int (nI b)), (5, .int (nI ds.length)), (6, .int 1), (7, .int 1), (8, .int (btR (s.1 i).2[a] (s.1 j).2[b] (s.1 i).1))] dM_compare_330 rfl (nI_1 _) (by decide) rfl ?_
            refine j_iload O dM_compare_333 rfl ?_
            refine j_if_eq O 341 dM_compare_335 (by decide) (fun c => absurd c (by decide)) (fun c => ?_)
            refine j_iinc O (nI (b + 1)) [(4, .int (nI (b + 1))), (3, .int (nI (a + 1))), (0, .ref (u 19)), (1, .int (nI i)), (2, .int (nI j)), (5, .int (nI ds.length)), (6, .int 1), (7, .int 1), (8, .int (btR (s.1 i).2[a] (s.1 j).2[b] (s.1 i).1))] dM_compare_338 rfl (nI_1 _) (by decide) rfl ?_
            refine j_goto O 43 dM_compare_341 (by decide) ?_
            refine J.pk [2, 3, 4, 1, 0, 5] rfl ?_
            have hih := ih (a + 1) (b + 1) g1 ds f6 f7 f8 (by omega) (by omega) (by omega) (by rw [← hds]; congr 1; rw [da, db, mrg, if_neg n1, if_neg n2, if_pos hz]) h6 h7 h8 hdf (by omega) kp
            exact hih
    · have da : (s.1 i).2.drop a = (s.1 i).2[a] :: (s.1 i).2.drop (a + 1) := List.drop_eq_getElem_cons ha1
      have nb : (s.1 j).2.drop b = [] := List.drop_eq_nil_of_le hb1
      have eb : b = (s.1 j).2.length := by omega
      refine j_iload_n O 3 dM_compare_43 rfl rfl ?_
      refine j_aload_n O 0 dM_compare_44 rfl rfl ?_
      refine j_get O uwM hM1 rfl 1 (by decide) w448 rfl rfl dM_compare_45 ?_
      refine j_iload_n O 1 dM_compare_48 rfl rfl ?_
      refine j_iald O hNn0 0 rfl (by omega) (by omega) dM_compare_49 ?_
      refine j_eqi (nI (s.1 i).2.length) hNi ?_
      refine j_icmp_lt O 64 dM_compare_50 (by decide) (fun c => ?_) (fun c => absurd (nI_lt ha1 (by omega)) c)
      refine j_iload_n O 3 dM_compare_64 rfl rfl ?_
      refine j_aload_n O 0 dM_compare_65 rfl rfl ?_
      refine j_get O uwM hM1 rfl 1 (by decide) w448 rfl rfl dM_compare_66 ?_
      refine j_iload_n O 1 dM_compare_69 rfl rfl ?_
      refine j_iald O hNn0 0 rfl (by omega) (by omega) dM_compare_70 ?_
      refine j_eqi (nI (s.1 i).2.length) hNi ?_
      refine j_icmp_ge O 109 dM_compare_71 (by decide) (fun c => absurd c (nI_ge ha1 (by omega))) (fun c => ?_)
      refine j_iload O dM_compare_74 rfl ?_
      refine j_aload_n O 0 dM_compare_76 rfl rfl ?_
      refine j_get O uwM hM1 rfl 1 (by decide) w448 rfl rfl dM_compare_77 ?_
      refine j_iload_n O 2 dM_compare_80 rfl rfl ?_
      refine j_iald O hNn0 0 rfl (by omega) (by omega) dM_compare_81 ?_
      refine j_eqi (nI (s.1 j).2.length) hNj ?_
      refine j_icmp_eq O 105 dM_compare_82 (by decide) (fun c => ?_) (fun c => absurd (by rw [eb]) c)
      refine j_iconst O (v := 1) dM_compare_105 (by decide) ?_
      refine j_goto O 110 dM_compare_106 (by decide) ?_
      refine j_istore O [(6, .int 1), (0, .ref (u 19)), (1, .int (nI i)), (2, .int (nI j)), (3, .int (nI a)), (4, .int (nI b)), (5, .int (nI ds.length))] dM_compare_110 (by decide) rfl ?_
      refine j_iload O dM_compare_112 rfl ?_
      refine j_aload_n O 0 dM_compare_114 rfl rfl ?_
      refine j_get O uwM hM1 rfl 1 (by decide) w448 rfl rfl dM_compare_115 ?_
      refine j_iload_n O 2 dM_compare_118 rfl rfl ?_
      refine j_iald O hNn0 0 rfl (by omega) (by omega) dM_compare_119 ?_
      refine j_eqi (nI (s.1 j).2.length) hNj ?_
      refine j_icmp_ge O 157 dM_compare_120 (by decide) (fun c => ?_) (fun c => absurd (nI_le hb1 (by omega)) c)
      refine j_iconst O (v := 0) dM_compare_157 (by decide) ?_
      refine j_istore O [(7, .int 0), (6, .int 1), (0, .ref (u 19)), (1, .int (nI i)), (2, .int (nI j)), (3, .int (nI a)), (4, .int (nI b)), (5, .int (nI ds.length))] dM_compare_158 (by decide) rfl ?_
      refine j_iconst O (v := 0) dM_compare_160 (by decide) ?_
      refine j_istore O [(8, .int 0), (7, .int 0), (6, .int 1), (0, .ref (u 19)), (1, .int (nI i)), (2, .int (nI j)), (3, .int (nI a)), (4, .int (nI b)), (5, .int (nI ds.length))] dM_compare_161 (by decide) rfl ?_
      refine j_iconst O (v := 0) dM_compare_163 (by decide) ?_
      refine j_istore O [(9, .int 0), (8, .int 0), (7, .int 0), (6, .int 1), (0, .ref (u 19)), (1, .int (nI i)), (2, .int (nI j)), (3, .int (nI a)), (4, .int (nI b)), (5, .int (nI ds.length))] dM_compare_164 (by decide) rfl ?_
      refine j_iload O dM_compare_166 rfl ?_
      refine j_aload_n O 0 dM_compare_168 rfl rfl ?_
      refine j_get O uwM hM1 rfl 0 (by decide) w447 rfl rfl dM_compare_169 ?_
      refine j_iload_n O 1 dM_compare_172 rfl rfl ?_
      refine j_iald O hC 0 rfl (by omega) (by omega) dM_compare_173 ?_
      refine j_eqi (nI (s.1 i).1) (hCv i i6) ?_
      refine j_icmp_ge O 235 dM_compare_174 (by decide) (fun c => absurd c (nI_ge (a := 0) (by omega) (by omega))) (fun c => ?_)
      refine j_iload O dM_compare_177 rfl ?_
      refine j_if_eq O 235 dM_compare_179 (by decide) (fun c => absurd c (by decide)) (fun c => ?_)
      refine j_iload O dM_compare_182 rfl ?_
      refine j_if_eq O 235 dM_compare_184 (by decide) (fun c => ?_) (fun c => absurd rfl c)
      refine j_iload O dM_compare_235 rfl ?_
      refine j_if_gt O 250 dM_compare_237 (by decide) (fun c => absurd c (by decide)) (fun c => ?_)
      refine j_iload O dM_compare_240 rfl ?_
      refine j_if_eq O 250 dM_compare_242 (by decide) (fun c => absurd c (by decide)) (fun c => ?_)
      refine j_iload O dM_compare_245 rfl ?_
      refine j_if_ne O 325 dM_compare_247 (by decide) (fun c => absurd rfl c) (fun c => ?_)
      refine J.pk [4, 5, 6, 7, 8, 9, 3, 2, 1] rfl ?_
      refine note10 O hM1 hRT1 i6 j6 ha1 i5 j5 hne h6 h7 h8 (by omega) (fun g2 h6b h7b h8b kp2 => ?_)
      refine j_iload O dM_compare_325 rfl ?_
      refine j_if_eq O 333 dM_compare_327 (by decide) (fun c => absurd c (by decide)) (fun c => ?_)
      refine j_iinc O (nI (a + 1)) [(3, .int (nI (a + 1))), (0, .ref (u 19)), (1, .int (nI i)), (2, .int (nI j)), (4, .int (nI b)), (5, .int (nI (ds.length + 1))), (6, .int 1), (7, .int 0)] dM_compare_330 rfl (nI_1 _) (by decide) rfl ?_
      refine j_iload O dM_compare_333 rfl ?_
      refine j_if_eq O 341 dM_compare_335 (by decide) (fun c => ?_) (fun c => absurd rfl c)
      refine j_goto O 43 dM_compare_341 (by decide) ?_
      refine J.pk [1, 2, 3, 0, 4, 5] rfl ?_
      have hih := ih (a + 1) b g2 (ds ++ [((s.1 i).2[a].1, 1, 0)]) _ _ _ (by omega) (by omega) (by omega) (by rw [← hds, List.append_assoc, List.singleton_append]; congr 1; rw [da, nb, mrg]) h6b h7b h8b (hdf.push _ _ _) (by rw [List.length_append, List.length_singleton]; omega) (kp.tr kp2)
      rw [List.length_append, List.length_singleton] at hih
      exact hih
    · have db : (s.1 j).2.drop b = (s.1 j).2[b] :: (s.1 j).2.drop (b + 1) := List.drop_eq_getElem_cons hb1
      have na : (s.1 i).2.drop a = [] := List.drop_eq_nil_of_le ha1
      have ea : a = (s.1 i).2.length := by omega
      refine j_iload_n O 3 dM_compare_43 rfl rfl ?_
      refine j_aload_n O 0 dM_compare_44 rfl rfl ?_
      refine j_get O uwM hM1 rfl 1 (by decide) w448 rfl rfl dM_compare_45 ?_
      refine j_iload_n O 1 dM_compare_48 rfl rfl ?_
      refine j_iald O hNn0 0 rfl (by omega) (by omega) dM_compare_49 ?_
      refine j_eqi (nI (s.1 i).2.length) hNi ?_
      refine j_icmp_lt O 64 dM_compare_50 (by decide) (fun c => absurd c (nI_nlt ha1 (by omega))) (fun c => ?_)
      refine j_iload O dM_compare_53 rfl ?_
      refine j_aload_n O 0 dM_compare_55 rfl rfl ?_
      refine j_get O uwM hM1 rfl 1 (by decide) w448 rfl rfl dM_compare_56 ?_
      refine j_iload_n O 2 dM_compare_59 rfl rfl ?_
      refine j_iald O hNn0 0 rfl (by omega) (by omega) dM_compare_60 ?_
      refine j_eqi (nI (s.1 j).2.length) hNj ?_
      refine j_icmp_ge O 344 dM_compare_61 (by decide) (fun c => absurd c (nI_ge hb1 (by omega))) (fun c => ?_)
      refine j_iload_n O 3 dM_compare_64 rfl rfl ?_
      refine j_aload_n O 0 dM_compare_65 rfl rfl ?_
      refine j_get O uwM hM1 rfl 1 (by decide) w448 rfl rfl dM_compare_66 ?_
      refine j_iload_n O 1 dM_compare_69 rfl rfl ?_
      refine j_iald O hNn0 0 rfl (by omega) (by omega) dM_compare_70 ?_
      refine j_eqi (nI (s.1 i).2.length) hNi ?_
      refine j_icmp_ge O 109 dM_compare_71 (by decide) (fun c => ?_) (fun c => absurd (nI_le ha1 (by omega)) c)
      refine j_iconst O (v := 0) dM_compare_109 (by decide) ?_
      refine j_istore O [(6, .int 0), (0, .ref (u 19)), (1, .int (nI i)), (2, .int (nI j)), (3, .int (nI a)), (4, .int (nI b)), (5, .int (nI ds.length))] dM_compare_110 (by decide) rfl ?_
      refine j_iload O dM_compare_112 rfl ?_
      refine j_aload_n O 0 dM_compare_114 rfl rfl ?_
      refine j_get O uwM hM1 rfl 1 (by decide) w448 rfl rfl dM_compare_115 ?_
      refine j_iload_n O 2 dM_compare_118 rfl rfl ?_
      refine j_iald O hNn0 0 rfl (by omega) (by omega) dM_compare_119 ?_
      refine j_eqi (nI (s.1 j).2.length) hNj ?_
      refine j_icmp_ge O 157 dM_compare_120 (by decide) (fun c => absurd c (nI_ge hb1 (by omega))) (fun c => ?_)
      refine j_iload_n O 3 dM_compare_123 rfl rfl ?_
      refine j_aload_n O 0 dM_compare_124 rfl rfl ?_
      refine j_get O uwM hM1 rfl 1 (by decide) w448 rfl rfl dM_compare_125 ?_
      refine j_iload_n O 1 dM_compare_128 rfl rfl ?_
      refine j_iald O hNn0 0 rfl (by omega) (by omega) dM_compare_129 ?_
      refine j_eqi (nI (s.1 i).2.length) hNi ?_
      refine j_icmp_eq O 153 dM_compare_130 (by decide) (fun c => ?_) (fun c => absurd (by rw [ea]) c)
      refine j_iconst O (v := 1) dM_compare_153 (by decide) ?_
      refine j_goto O 158 dM_compare_154 (by decide) ?_
      refine j_istore O [(7, .int 1), (6, .int 0), (0, .ref (u 19)), (1, .int (nI i)), (2, .int (nI j)), (3, .int (nI a)), (4, .int (nI b)), (5, .int (nI ds.length))] dM_compare_158 (by decide) rfl ?_
      refine j_iconst O (v := 0) dM_compare_160 (by decide) ?_
      refine j_istore O [(8, .int 0), (7, .int 1), (6, .int 0), (0, .ref (u 19)), (1, .int (nI i)), (2, .int (nI j)), (3, .int (nI a)), (4, .int (nI b)), (5, .int (nI ds.length))] dM_compare_161 (by decide) rfl ?_
      refine j_iconst O (v := 0) dM_compare_163 (by decide) ?_
      refine j_istore O [(9, .int 0), (8, .int 0), (7, .int 1), (6, .int 0), (0, .ref (u 19)), (1, .int (nI i)), (2, .int (nI j)), (3, .int (nI a)), (4, .int (nI b)), (5, .int (nI ds.length))] dM_compare_164 (by decide) rfl ?_
      refine j_iload O dM_compare_166 rfl ?_
      refine j_aload_n O 0 dM_compare_168 rfl rfl ?_
      refine j_get O uwM hM1 rfl 0 (by decide) w447 rfl rfl dM_compare_169 ?_
      refine j_iload_n O 1 dM_compare_172 rfl rfl ?_
      refine j_iald O hC 0 rfl (by omega) (by omega) dM_compare_173 ?_
      refine j_eqi (nI (s.1 i).1) (hCv i i6) ?_
      refine j_icmp_ge O 235 dM_compare_174 (by decide) (fun c => absurd c (nI_ge (a := 0) (by omega) (by omega))) (fun c => ?_)
      refine j_iload O dM_compare_177 rfl ?_
      refine j_if_eq O 235 dM_compare_179 (by decide) (fun c => ?_) (fun c => absurd rfl c)
      refine j_iload O dM_compare_235 rfl ?_
      refine j_if_gt O 250 dM_compare_237 (by decide) (fun c => absurd c (by decide)) (fun c => ?_)
      refine j_iload O dM_compare_240 rfl ?_
      refine j_if_eq O 250 dM_compare_242 (by decide) (fun c => ?_) (fun c => absurd rfl c)
      refine J.pk [4, 5, 6, 7, 8, 9, 3, 2, 1] rfl ?_
      refine note01 O hM1 hRT1 i6 j6 hb1 i5 j5 hne h6 h7 h8 (by omega) (fun g2 h6b h7b h8b kp2 => ?_)
      refine j_iload O dM_compare_325 rfl ?_
      refine j_if_eq O 333 dM_compare_327 (by decide) (fun c => ?_) (fun c => absurd rfl c)
      refine j_iload O dM_compare_333 rfl ?_
      refine j_if_eq O 341 dM_compare_335 (by decide) (fun c => absurd c (by decide)) (fun c => ?_)
      refine j_iinc O (nI (b + 1)) [(4, .int (nI (b + 1))), (0, .ref (u 19)), (1, .int (nI i)), (2, .int (nI j)), (3, .int (nI a)), (5, .int (nI (ds.length + 1))), (6, .int 0), (7, .int 1)] dM_compare_338 rfl (nI_1 _) (by decide) rfl ?_
      refine j_goto O 43 dM_compare_341 (by decide) ?_
      refine J.pk [1, 2, 3, 4, 0, 5] rfl ?_
      have hih := ih a (b + 1) g2 (ds ++ [((s.1 j).2[b].1, 0, 0)]) _ _ _ (by omega) (by omega) (by omega) (by rw [← hds, List.append_assoc, List.singleton_append]; congr 1; rw [db, na, mrg]) h6b h7b h8b (hdf.push _ _ _) (by rw [List.length_append, List.length_singleton]; omega) (kp.tr kp2)
      rw [List.length_append, List.length_singleton] at hih
      exact hih
    · have ea : a = (s.1 i).2.length := by omega
      have eb : b = (s.1 j).2.length := by omega
      have na : (s.1 i).2.drop a = [] := List.drop_eq_nil_of_le ha1
      have nb : (s.1 j).2.drop b = [] := List.drop_eq_nil_of_le hb1
      rw [na, nb, mrg, List.append_nil] at hds
      subst ea; subst eb
      refine j_iload_n O 3 dM_compare_43 rfl rfl ?_
      refine j_aload_n O 0 dM_compare_44 rfl rfl ?_
      refine j_get O uwM hM1 rfl 1 (by decide) w448 rfl rfl dM_compare_45 ?_
      refine j_iload_n O 1 dM_compare_48 rfl rfl ?_
      refine j_iald O hNn0 0 rfl (by omega) (by omega) dM_compare_49 ?_
      refine j_eqi (nI (s.1 i).2.length) hNi ?_
      refine j_icmp_lt O 64 dM_compare_50 (by decide) (fun c => absurd c (nI_nlt (Nat.le_refl _) (by omega))) (fun c => ?_)
      refine j_iload O dM_compare_53 rfl ?_
      refine j_aload_n O 0 dM_compare_55 rfl rfl ?_
      refine j_get O uwM hM1 rfl 1 (by decide) w448 rfl rfl dM_compare_56 ?_
      refine j_iload_n O 2 dM_compare_59 rfl rfl ?_
      refine j_iald O hNn0 0 rfl (by omega) (by omega) dM_compare_60 ?_
      refine j_eqi (nI (s.1 j).2.length) hNj ?_
      refine j_icmp_ge O 344 dM_compare_61 (by decide) (fun c => ?_) (fun c => absurd (nI_le (Nat.le_refl _) (by omega)) c)
      refine J.pk [0, 5] rfl ?_
      rw [hds]
      exact HK g1 f6 f7 f8 h6 h7 h8 (by rw [← hds]; exact hdf) kp
