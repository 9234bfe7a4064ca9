set_option maxRecDepth 100000 in
set_option maxHeartbeats 1000000 in
theorem cmp_bits {X : CX} {D : va_G} {t : Nat → ClassId} {A : Nat → Prop} {rm : Room} {g : GH} {k0 n0 : Nat} {u : Nat → Nat} {oc om df nn us lm mm ta co si : Int32} {s : AS} {i j a b n : Nat} (O : Ok X bM_compare 10 "TwinTreesModel" (zz D t A) rm) (hM : gAt g (u 19) (eM u oc om df nn us lm mm ta co si)) (hRT : RT t g u s.1) (i6 : i < 6) (j6 : j < 6) (ha : a < (s.1 i).2.length) (hb : b < (s.1 j).2.length) (hwe : (s.1 i).1 = (s.1 j).1) (hw6 : (s.1 i).1 ≤ 6) (ha3 : (s.1 i).2.length ≤ 300) (hb3 : (s.1 j).2.length ≤ 300) (HK : J X 10 (zz D t A) g k0 n0 235 [(0, .ref (u 19)), (1, .int (nI i)), (2, .int (nI j)), (3, .int (nI a)), (4, .int (nI b)), (5, .int (nI n)), (6, .int 1), (7, .int 1), (8, .int (btR (s.1 i).2[a] (s.1 j).2[b] (s.1 i).1))] []) : ∀ (m c : Nat), c + m = (s.1 i).1 → J X 10 (zz D t A) g k0 n0 166 [(0, .ref (u 19)), (1, .int (nI i)), (2, .int (nI j)), (3, .int (nI a)), (4, .int (nI b)), (5, .int (nI n)), (6, .int 1), (7, .int 1), (8, .int (btR (s.1 i).2[a] (s.1 j).2[b] c)), (9, .int (nI c))] [] := by
  obtain ⟨⟨fC, hC, hCv⟩, -, -, ⟨fL, hL, hLv⟩, hrow⟩ := id hRT
  obtain ⟨fk, fc, -, hc, htab⟩ := hrow i i6
  obtain ⟨gk, gc, -, hc2, htab2⟩ := hrow j j6
  have hCi := hCv i i6
  have hLi := hLv i i6
  have hLj := hLv j j6
  intro m
  induction m with
  | zero =>
    intro c hm
    have e : c = (s.1 i).1 := by omega
    subst e
    refine j_iload O dM_compare_166 rfl ?_
    refine j_aload_n O 0 dM_compare_168 rfl rfl ?_
    refine j_get O uwM hM rfl 0 (by decide) w447 rfl rfl dM_compare_169 ?_
    refine j_iload_n O 1 dM_compare_172 rfl rfl ?_
    refine j_iald O hC 0 rfl (by omega) (by omega) dM_compare_173 ?_
    refine j_eqi (nI (s.1 i).1) hCi ?_
    refine j_icmp_ge O 235 dM_compare_174 (by decide) (fun c => ?_) (fun c => absurd (nI_le (Nat.le_refl _) (by omega)) c)
    refine J.pk [0, 1, 2, 3, 4, 5, 6, 7, 8] rfl ?_
    exact HK
  | succ m ih =>
    intro c hm
    have e1 := (htab a ha).2 c (by omega)
    have e2 := (htab2 b hb).2 c (by omega)
    refine j_iload O dM_compare_166 rfl ?_
    refine j_aload_n O 0 dM_compare_168 rfl rfl ?_
    refine j_get O uwM hM rfl 0 (by decide) w447 rfl rfl dM_compare_169 ?_
    refine j_iload_n O 1 dM_compare_172 rfl rfl ?_
    refine j_iald O hC 0 rfl (by omega) (by omega) dM_compare_173 ?_
    refine j_eqi (nI (s.1 i).1) hCi ?_
    refine j_icmp_ge O 235 dM_compare_174 (by decide) (fun cc => absurd cc (nI_ge (by omega) (by omega))) (fun cc => ?_)
    refine j_iload O dM_compare_177 rfl ?_
    refine j_if_eq O 235 dM_compare_179 (by decide) (fun cc => absurd cc (by decide)) (fun cc => ?_)
    refine j_iload O dM_compare_182 rfl ?_
    refine j_if_eq O 235 dM_compare_184 (by decide) (fun cc => absurd cc (by decide)) (fun cc => ?_)
    refine j_aload_n O 0 dM_compare_187 rfl rfl ?_
    refine j_get O uwM hM rfl 3 (by decide) w450 rfl rfl dM_compare_188 ?_
    refine j_iload_n O 1 dM_compare_191 rfl rfl ?_
    refine j_aaldA O hL 5 rfl (by omega) (by omega) dM_compare_192 ?_
    refine j_some (u (26 + i)) hLi ?_
    refine j_bipush O (v := 6) dM_compare_193 (by decide) ?_
    refine j_iload_n O 3 dM_compare_195 rfl rfl ?_
    refine j_imul O dM_compare_196 ?_
    refine j_eqi (nI (6 * a)) (pk_mul 6 _) ?_
    refine j_iload O dM_compare_197 rfl ?_
    refine j_iadd O dM_compare_199 ?_
    refine j_eqi (nI (6 * a + c)) (nI_add _ _) ?_
    refine j_lald O hc 3 rfl (by omega) (by omega) dM_compare_200 ?_
    refine j_eql (cv (s.1 i).2[a] c) e1 ?_
    refine j_aload_n O 0 dM_compare_201 rfl rfl ?_
    refine j_get O uwM hM rfl 3 (by decide) w450 rfl rfl dM_compare_202 ?_
    refine j_iload_n O 2 dM_compare_205 rfl rfl ?_
    refine j_aaldA O hL 5 rfl (by omega) (by omega) dM_compare_206 ?_
    refine j_some (u (26 + j)) hLj ?_
    refine j_bipush O (v := 6) dM_compare_207 (by decide) ?_
    refine j_iload O dM_compare_209 rfl ?_
    refine j_imul O dM_compare_211 ?_
    refine j_eqi (nI (6 * b)) (pk_mul 6 _) ?_
    refine j_iload O dM_compare_212 rfl ?_
    refine j_iadd O dM_compare_214 ?_
    refine j_eqi (nI (6 * b + c)) (nI_add _ _) ?_
    refine j_lald O hc2 3 rfl (by omega) (by omega) dM_compare_215 ?_
    refine j_eql (cv (s.1 j).2[b] c) e2 ?_
    refine j_lcmp O dM_compare_216 ?_
    refine j_if_eq O 229 dM_compare_217 (by decide) (fun c1 => ?_) (fun c1 => ?_)
    · have heq : cv (s.1 i).2[a] c = cv (s.1 j).2[b] c := by
        unfold lg_cmp at c1
        split at c1
        · exact absurd c1 (by decide)
        · split at c1
          · next z => exact z
          · exact absurd c1 (by decide)
      have eb : btR (s.1 i).2[a] (s.1 j).2[b] (c + 1) = btR (s.1 i).2[a] (s.1 j).2[b] c := by rw [btR, if_pos heq]
      have hih := ih (c + 1) (by omega)
      rw [eb] at hih
      refine j_iinc O (nI (c + 1)) [(9, .int (nI (c + 1))), (0, .ref (u 19)), (1, .int (nI i)), (2, .int (nI j)), (3, .int (nI a)), (4, .int (nI b)), (5, .int (nI n)), (6, .int 1), (7, .int 1), (8, .int (btR (s.1 i).2[a] (s.1 j).2[b] c))] dM_compare_229 rfl (nI_1 _) (by decide) rfl ?_
      refine j_goto O 166 dM_compare_232 (by decide) ?_
      refine J.pk [1, 2, 3, 4, 5, 6, 7, 8, 9, 0] rfl ?_
      exact hih
    · have hne : ¬ cv (s.1 i).2[a] c = cv (s.1 j).2[b] c := fun z => c1 (by rw [z]; unfold lg_cmp; simp)
      have eb : btR (s.1 i).2[a] (s.1 j).2[b] (c + 1) = btR (s.1 i).2[a] (s.1 j).2[b] c ||| ((1 : Int32) <<< (nI c &&& 31)) := by rw [btR, if_neg hne]
      have hih := ih (c + 1) (by omega)
      rw [eb] at hih
      refine j_iload O dM_compare_220 rfl ?_
      refine j_iconst O (v := 1) dM_compare_222 (by decide) ?_
      refine j_iload O dM_compare_223 rfl ?_
      refine j_ishl O dM_compare_225 ?_
      refine j_ior O dM_compare_226 ?_
      refine j_istore O [(8, .int ((btR (s.1 i).2[a] (s.1 j).2[b] c) ||| ((1 : Int32) <<< ((nI c) &&& 31)))), (0, .ref (u 19)), (1, .int (nI i)), (2, .int (nI j)), (3, .int (nI a)), (4, .int (nI b)), (5, .int (nI n)), (6, .int 1), (7, .int 1), (9, .int (nI c))] dM_compare_227 (by decide) rfl ?_
      refine j_iinc O (nI (c + 1)) [(9, .int (nI (c + 1))), (8, .int ((btR (s.1 i).2[a] (s.1 j).2[b] c) ||| ((1 : Int32) <<< ((nI c) &&& 31)))), (0, .ref (u 19)), (1, .int (nI i)), (2, .int (nI j)), (3, .int (nI a)), (4, .int (nI b)), (5, .int (nI n)), (6, .int 1), (7, .int 1)] dM_compare_229 rfl (nI_1 _) (by decide) rfl ?_
      refine j_goto O 166 dM_compare_232 (by decide) ?_
      refine J.pk [2, 3, 4, 5, 6, 7, 8, 9, 1, 0] rfl ?_
      exact hih
