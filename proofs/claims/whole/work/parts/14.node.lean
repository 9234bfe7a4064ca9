abbrev NV : Type := Nat × List RV
abbrev NM : Type := Nat → Option NV
abbrev MU : Type := Int64 × Int32 × Int32 × Option Nat
abbrev nCell (h : Nat) (rs : List RV) (ra ba : Nat) (mu : MU) : va_E := eNode (nI h) ra ba (nI rs.length) (nI (nsz h rs)) (lastK rs) (nI (lastL rs)) (nprt h rs) mu.1 mu.2.1 mu.2.2.1 mu.2.2.2
theorem nsz0_take (rs : List RV) (i : Nat) (h : i < rs.length) : nsz 0 (rs.take (i + 1)) = nsz 0 (rs.take i) + (1 + rs[i].2.1.length) := by
  show List.foldl _ 0 _ = List.foldl _ 0 _ + _
  rw [List.take_succ_eq_append_getElem h, List.foldl_append]
  rfl
theorem lastK_at {rs : List RV} {n : Nat} (h : rs.length = n + 1) : lastK rs = (rs[n]'(by omega)).1 := by
  have e : rs[rs.length - 1]? = some (rs[n]'(by omega)) := by rw [show rs.length - 1 = n by omega]; exact List.getElem?_eq_getElem _
  simp only [lastK, List.getLast?_eq_getElem?, e]
theorem lastL_at {rs : List RV} {n : Nat} (h : rs.length = n + 1) : lastL rs = lvl (rs[n]'(by omega)).1 := by
  have e : rs[rs.length - 1]? = some (rs[n]'(by omega)) := by rw [show rs.length - 1 = n by omega]; exact List.getElem?_eq_getElem _
  simp only [lastL, List.getLast?_eq_getElem?, e]
set_option maxRecDepth 100000 in
set_option maxHeartbeats 4000000 in
theorem Node_init_loop {X : CX} {D : va_G} {t : Nat → ClassId} {A : Nat → Prop} {rm : Room} {g : GH} {a s ra ba fr ns : Nat} {fs : Nat → Option Nat} {rs : List RV} {pr : Int32} (O : Ok X bN_init 7 "TwinTrees$Node" (zz D t A) rm) (M : Om X (zz D t A) none 2 rs.length (fun v g' => v = none ∧ ∃ ra ba f', ra ∉ g.1 ∧ ba ∉ g.1 ∧ gAt g' a (eNode 0 ra ba (nI rs.length) (nI (nsz 0 rs)) (lastK rs) (nI (lastL rs)) pr 0 0 0 none) ∧ gAt g' ra (eRs t rs.length f') ∧ (∀ i, i < rs.length → f' i = fs (fr + i)) ∧ gAt g' ba (eNs t 0 (fun _ => none)) ∧ Kp [a] g g')) (hN : On X) (hra : ra ∉ g.1) (hba : ba ∉ g.1) (hns : fr + rs.length ≤ ns) (hn31 : ns < 2 ^ 31) (hsz : nsz 0 rs < 2 ^ 31) : ∀ (k i : Nat) (g1 : GH) (fc : Nat → Option Nat), i + k = rs.length → gAt g1 a (.inr (2, [.int 0, .ref ra, .ref ba, .int 0, .int 0, .int 0, .int 0, .int 0, .long 0, .int 0, .int 0, .null])) → gAt g1 s (eRs t ns fs) → gAt g1 ra (eRs t rs.length fc) → gAt g1 ba (eNs t 0 (fun _ => none)) → s ≠ ra → ba ≠ ra → rowsIn t g1 fs fr rs → (∀ j, j < i → fc j = fs (fr + j)) → Kp [a] g g1 → J X 7 (zz D t A) g1 2 rs.length 53 [(0, .ref a), (1, .ref s), (2, .int (nI fr)), (3, .int (nI (fr + rs.length))), (4, .int pr), (5, .int (nI (nsz 0 (rs.take i)))), (6, .int (nI (fr + i)))] [] := by
  intro k
  induction k with
  | zero =>
    intro i g1 fc hi ha hs hra1 hba1 hne hne2 hr hfc kp0
    have hi : i = rs.length := by omega
    subst hi
    refine j_iload O dN_init_53 rfl ?_
    refine j_iload_n O 3 dN_init_55 rfl rfl ?_
    refine j_icmp_ge O 93 dN_init_56 (by decide) (fun c1 => ?_) (fun c1 => ?_)
    · rcases Nat.eq_zero_or_pos rs.length with hz | hz
      · have hem : rs = [] := List.eq_nil_of_length_eq_zero hz
        refine j_aload_n O 0 dN_init_93 rfl rfl ?_
        refine j_iload_n O 3 dN_init_94 rfl rfl ?_
        refine j_iload_n O 2 dN_init_95 rfl rfl ?_
        refine j_isub O dN_init_96 ?_
        refine j_eqi (nI (fr + rs.length - fr)) (pk_sub (by omega)) ?_
        refine j_eqi (nI rs.length) (by rw [show fr + rs.length - fr = rs.length by omega]) ?_
        refine j_putF O hN uwN ha rfl 3 (by decide) w137 rfl tN ftN fnN rfl rfl (.int) (by decide +kernel) rfl rfl (Nat.le_of_ble_eq_true rfl) [.int 0, .ref ra, .ref ba, .int (nI rs.length), .int 0, .int 0, .int 0, .int 0, .long 0, .int 0, .int 0, .null] rfl dN_init_97 (fun g1 e2 => ?_)
        have h3 := gUp_ne (e' := .inr (2, [.int 0, .ref ra, .ref ba, .int (nI rs.length), .int 0, .int 0, .int 0, .int 0, .long 0, .int 0, .int 0, .null])) hs (hs.ne ha (by simp))
        rw [← e2] at h3
        have h4 := gUp_ne (e' := .inr (2, [.int 0, .ref ra, .ref ba, .int (nI rs.length), .int 0, .int 0, .int 0, .int 0, .long 0, .int 0, .int 0, .null])) hra1 (hra1.ne ha (by simp))
        rw [← e2] at h4
        have h5 := gUp_ne (e' := .inr (2, [.int 0, .ref ra, .ref ba, .int (nI rs.length), .int 0, .int 0, .int 0, .int 0, .long 0, .int 0, .int 0, .null])) hba1 (hba1.ne ha (by simp))
        rw [← e2] at h5
        have h6 := gUp_self (e' := .inr (2, [.int 0, .ref ra, .ref ba, .int (nI rs.length), .int 0, .int 0, .int 0, .int 0, .long 0, .int 0, .int 0, .null])) ha
        rw [← e2] at h6
        have kp7 := kp0.up (a := a) (e := .inr (2, [.int 0, .ref ra, .ref ba, .int (nI rs.length), .int 0, .int 0, .int 0, .int 0, .long 0, .int 0, .int 0, .null])) (by simp)
        rw [← e2] at kp7
        refine j_aload_n O 0 dN_init_100 rfl rfl ?_
        refine j_iload O dN_init_101 rfl ?_
        refine j_eqi (nI (nsz 0 rs)) (by rw [List.take_length]) ?_
        refine j_putF O hN uwN h6 rfl 4 (by decide) w139 rfl tN ftN fnN rfl rfl (.int) (by decide +kernel) rfl rfl (Nat.le_of_ble_eq_true rfl) [.int 0, .ref ra, .ref ba, .int (nI rs.length), .int (nI (nsz 0 rs)), .int 0, .int 0, .int 0, .long 0, .int 0, .int 0, .null] rfl dN_init_103 (fun g8 e9 => ?_)
        have h10 := gUp_ne (e' := .inr (2, [.int 0, .ref ra, .ref ba, .int (nI rs.length), .int (nI (nsz 0 rs)), .int 0, .int 0, .int 0, .long 0, .int 0, .int 0, .null])) h3 (h3.ne h6 (by simp))
        rw [← e9] at h10
        have h11 := gUp_ne (e' := .inr (2, [.int 0, .ref ra, .ref ba, .int (nI rs.length), .int (nI (nsz 0 rs)), .int 0, .int 0, .int 0, .long 0, .int 0, .int 0, .null])) h4 (h4.ne h6 (by simp))
        rw [← e9] at h11
        have h12 := gUp_ne (e' := .inr (2, [.int 0, .ref ra, .ref ba, .int (nI rs.length), .int (nI (nsz 0 rs)), .int 0, .int 0, .int 0, .long 0, .int 0, .int 0, .null])) h5 (h5.ne h6 (by simp))
        rw [← e9] at h12
        have h13 := gUp_self (e' := .inr (2, [.int 0, .ref ra, .ref ba, .int (nI rs.length), .int (nI (nsz 0 rs)), .int 0, .int 0, .int 0, .long 0, .int 0, .int 0, .null])) h6
        rw [← e9] at h13
        have kp14 := kp7.up (a := a) (e := .inr (2, [.int 0, .ref ra, .ref ba, .int (nI rs.length), .int (nI (nsz 0 rs)), .int 0, .int 0, .int 0, .long 0, .int 0, .int 0, .null])) (by simp)
        rw [← e9] at kp14
        refine j_aload_n O 0 dN_init_106 rfl rfl ?_
        refine j_iload_n O 2 dN_init_107 rfl rfl ?_
        refine j_iload_n O 3 dN_init_108 rfl rfl ?_
        refine j_icmp_ge O 123 dN_init_109 (by decide) (fun c2 => ?_) (fun c2 => ?_)
        · refine j_iconst O (v := 0) dN_init_123 (by decide) ?_
          refine j_eqi (lastK rs) (by rw [hem]; rfl) ?_
          refine j_putF O hN uwN h13 rfl 5 (by decide) w141 rfl tN ftN fnN rfl rfl (.int) (by decide +kernel) rfl rfl (Nat.le_of_ble_eq_true rfl) [.int 0, .ref ra, .ref ba, .int (nI rs.length), .int (nI (nsz 0 rs)), .int (lastK rs), .int 0, .int 0, .long 0, .int 0, .int 0, .null] rfl dN_init_124 (fun g15 e16 => ?_)
          have h17 := gUp_ne (e' := .inr (2, [.int 0, .ref ra, .ref ba, .int (nI rs.length), .int (nI (nsz 0 rs)), .int (lastK rs), .int 0, .int 0, .long 0, .int 0, .int 0, .null])) h10 (h10.ne h13 (by simp))
          rw [← e16] at h17
          have h18 := gUp_ne (e' := .inr (2, [.int 0, .ref ra, .ref ba, .int (nI rs.length), .int (nI (nsz 0 rs)), .int (lastK rs), .int 0, .int 0, .long 0, .int 0, .int 0, .null])) h11 (h11.ne h13 (by simp))
          rw [← e16] at h18
          have h19 := gUp_ne (e' := .inr (2, [.int 0, .ref ra, .ref ba, .int (nI rs.length), .int (nI (nsz 0 rs)), .int (lastK rs), .int 0, .int 0, .long 0, .int 0, .int 0, .null])) h12 (h12.ne h13 (by simp))
          rw [← e16] at h19
          have h20 := gUp_self (e' := .inr (2, [.int 0, .ref ra, .ref ba, .int (nI rs.length), .int (nI (nsz 0 rs)), .int (lastK rs), .int 0, .int 0, .long 0, .int 0, .int 0, .null])) h13
          rw [← e16] at h20
          have kp21 := kp14.up (a := a) (e := .inr (2, [.int 0, .ref ra, .ref ba, .int (nI rs.length), .int (nI (nsz 0 rs)), .int (lastK rs), .int 0, .int 0, .long 0, .int 0, .int 0, .null])) (by simp)
          rw [← e16] at kp21
          refine j_aload_n O 0 dN_init_127 rfl rfl ?_
          refine j_iload_n O 2 dN_init_128 rfl rfl ?_
          refine j_iload_n O 3 dN_init_129 rfl rfl ?_
          refine j_icmp_ge O 144 dN_init_130 (by decide) (fun c3 => ?_) (fun c3 => ?_)
          · refine j_iconst O (v := 0) dN_init_144 (by decide) ?_
            refine j_eqi (nI (lastL rs)) (by rw [hem]; rfl) ?_
            refine j_putF O hN uwN h20 rfl 6 (by decide) w143 rfl tN ftN fnN rfl rfl (.int) (by decide +kernel) rfl rfl (Nat.le_of_ble_eq_true rfl) [.int 0, .ref ra, .ref ba, .int (nI rs.length), .int (nI (nsz 0 rs)), .int (lastK rs), .int (nI (lastL rs)), .int 0, .long 0, .int 0, .int 0, .null] rfl dN_init_145 (fun g22 e23 => ?_)
            have h24 := gUp_ne (e' := .inr (2, [.int 0, .ref ra, .ref ba, .int (nI rs.length), .int (nI (nsz 0 rs)), .int (lastK rs), .int (nI (lastL rs)), .int 0, .long 0, .int 0, .int 0, .null])) h17 (h17.ne h20 (by simp))
            rw [← e23] at h24
            have h25 := gUp_ne (e' := .inr (2, [.int 0, .ref ra, .ref ba, .int (nI rs.length), .int (nI (nsz 0 rs)), .int (lastK rs), .int (nI (lastL rs)), .int 0, .long 0, .int 0, .int 0, .null])) h18 (h18.ne h20 (by simp))
            rw [← e23] at h25
            have h26 := gUp_ne (e' := .inr (2, [.int 0, .ref ra, .ref ba, .int (nI rs.length), .int (nI (nsz 0 rs)), .int (lastK rs), .int (nI (lastL rs)), .int 0, .long 0, .int 0, .int 0, .null])) h19 (h19.ne h20 (by simp))
            rw [← e23] at h26
            have h27 := gUp_self (e' := .inr (2, [.int 0, .ref ra, .ref ba, .int (nI rs.length), .int (nI (nsz 0 rs)), .int (lastK rs), .int (nI (lastL rs)), .int 0, .long 0, .int 0, .int 0, .null])) h20
            rw [← e23] at h27
            have kp28 := kp21.up (a := a) (e := .inr (2, [.int 0, .ref ra, .ref ba, .int (nI rs.length), .int (nI (nsz 0 rs)), .int (lastK rs), .int (nI (lastL rs)), .int 0, .long 0, .int 0, .int 0, .null])) (by simp)
            rw [← e23] at kp28
            refine j_aload_n O 0 dN_init_148 rfl rfl ?_
            refine j_iload O dN_init_149 rfl ?_
            refine j_putF O hN uwN h27 rfl 7 (by decide) w145 rfl tN ftN fnN rfl rfl (.int) (by decide +kernel) rfl rfl (Nat.le_of_ble_eq_true rfl) [.int 0, .ref ra, .ref ba, .int (nI rs.length), .int (nI (nsz 0 rs)), .int (lastK rs), .int (nI (lastL rs)), .int pr, .long 0, .int 0, .int 0, .null] rfl dN_init_151 (fun g29 e30 => ?_)
            have h31 := gUp_ne (e' := .inr (2, [.int 0, .ref ra, .ref ba, .int (nI rs.length), .int (nI (nsz 0 rs)), .int (lastK rs), .int (nI (lastL rs)), .int pr, .long 0, .int 0, .int 0, .null])) h24 (h24.ne h27 (by simp))
            rw [← e30] at h31
            have h32 := gUp_ne (e' := .inr (2, [.int 0, .ref ra, .ref ba, .int (nI rs.length), .int (nI (nsz 0 rs)), .int (lastK rs), .int (nI (lastL rs)), .int pr, .long 0, .int 0, .int 0, .null])) h25 (h25.ne h27 (by simp))
            rw [← e30] at h32
            have h33 := gUp_ne (e' := .inr (2, [.int 0, .ref ra, .ref ba, .int (nI rs.length), .int (nI (nsz 0 rs)), .int (lastK rs), .int (nI (lastL rs)), .int pr, .long 0, .int 0, .int 0, .null])) h26 (h26.ne h27 (by simp))
            rw [← e30] at h33
            have h34 := gUp_self (e' := .inr (2, [.int 0, .ref ra, .ref ba, .int (nI rs.length), .int (nI (nsz 0 rs)), .int (lastK rs), .int (nI (lastL rs)), .int pr, .long 0, .int 0, .int 0, .null])) h27
            rw [← e30] at h34
            have kp35 := kp28.up (a := a) (e := .inr (2, [.int 0, .ref ra, .ref ba, .int (nI rs.length), .int (nI (nsz 0 rs)), .int (lastK rs), .int (nI (lastL rs)), .int pr, .long 0, .int 0, .int 0, .null])) (by simp)
            rw [← e30] at kp35
            exact j_vret O M (Nat.le_of_ble_eq_true rfl) (Nat.le_refl _) ⟨rfl, ra, ba, fc, hra, hba, h34, h32, hfc, h33, kp35⟩ dN_init_154
          · exact absurd (nI_le (by omega) (by omega)) c3
        · exact absurd (nI_le (by omega) (by omega)) c2
      · have kx0 : Kp [a] g1 g1 := Kp.rf
        refine j_aload_n O 0 dN_init_93 rfl rfl ?_
        refine j_iload_n O 3 dN_init_94 rfl rfl ?_
        refine j_iload_n O 2 dN_init_95 rfl rfl ?_
        refine j_isub O dN_init_96 ?_
        refine j_eqi (nI (fr + rs.length - fr)) (pk_sub (by omega)) ?_
        refine j_eqi (nI rs.length) (by rw [show fr + rs.length - fr = rs.length by omega]) ?_
        refine j_putF O hN uwN ha rfl 3 (by decide) w137 rfl tN ftN fnN rfl rfl (.int) (by decide +kernel) rfl rfl (Nat.le_of_ble_eq_true rfl) [.int 0, .ref ra, .ref ba, .int (nI rs.length), .int 0, .int 0, .int 0, .int 0, .long 0, .int 0, .int 0, .null] rfl dN_init_97 (fun g36 e37 => ?_)
        have h38 := gUp_ne (e' := .inr (2, [.int 0, .ref ra, .ref ba, .int (nI rs.length), .int 0, .int 0, .int 0, .int 0, .long 0, .int 0, .int 0, .null])) hs (hs.ne ha (by simp))
        rw [← e37] at h38
        have h39 := gUp_ne (e' := .inr (2, [.int 0, .ref ra, .ref ba, .int (nI rs.length), .int 0, .int 0, .int 0, .int 0, .long 0, .int 0, .int 0, .null])) hra1 (hra1.ne ha (by simp))
        rw [← e37] at h39
        have h40 := gUp_ne (e' := .inr (2, [.int 0, .ref ra, .ref ba, .int (nI rs.length), .int 0, .int 0, .int 0, .int 0, .long 0, .int 0, .int 0, .null])) hba1 (hba1.ne ha (by simp))
        rw [← e37] at h40
        have h41 := gUp_self (e' := .inr (2, [.int 0, .ref ra, .ref ba, .int (nI rs.length), .int 0, .int 0, .int 0, .int 0, .long 0, .int 0, .int 0, .null])) ha
        rw [← e37] at h41
        have kp42 := kp0.up (a := a) (e := .inr (2, [.int 0, .ref ra, .ref ba, .int (nI rs.length), .int 0, .int 0, .int 0, .int 0, .long 0, .int 0, .int 0, .null])) (by simp)
        rw [← e37] at kp42
        have kx43 := kx0.up (a := a) (e := .inr (2, [.int 0, .ref ra, .ref ba, .int (nI rs.length), .int 0, .int 0, .int 0, .int 0, .long 0, .int 0, .int 0, .null])) (by simp)
        rw [← e37] at kx43
        refine j_aload_n O 0 dN_init_100 rfl rfl ?_
        refine j_iload O dN_init_101 rfl ?_
        refine j_eqi (nI (nsz 0 rs)) (by rw [List.take_length]) ?_
        refine j_putF O hN uwN h41 rfl 4 (by decide) w139 rfl tN ftN fnN rfl rfl (.int) (by decide +kernel) rfl rfl (Nat.le_of_ble_eq_true rfl) [.int 0, .ref ra, .ref ba, .int (nI rs.length), .int (nI (nsz 0 rs)), .int 0, .int 0, .int 0, .long 0, .int 0, .int 0, .null] rfl dN_init_103 (fun g44 e45 => ?_)
        have h46 := gUp_ne (e' := .inr (2, [.int 0, .ref ra, .ref ba, .int (nI rs.length), .int (nI (nsz 0 rs)), .int 0, .int 0, .int 0, .long 0, .int 0, .int 0, .null])) h38 (h38.ne h41 (by simp))
        rw [← e45] at h46
        have h47 := gUp_ne (e' := .inr (2, [.int 0, .ref ra, .ref ba, .int (nI rs.length), .int (nI (nsz 0 rs)), .int 0, .int 0, .int 0, .long 0, .int 0, .int 0, .null])) h39 (h39.ne h41 (by simp))
        rw [← e45] at h47
        have h48 := gUp_ne (e' := .inr (2, [.int 0, .ref ra, .ref ba, .int (nI rs.length), .int (nI (nsz 0 rs)), .int 0, .int 0, .int 0, .long 0, .int 0, .int 0, .null])) h40 (h40.ne h41 (by simp))
        rw [← e45] at h48
        have h49 := gUp_self (e' := .inr (2, [.int 0, .ref ra, .ref ba, .int (nI rs.length), .int (nI (nsz 0 rs)), .int 0, .int 0, .int 0, .long 0, .int 0, .int 0, .null])) h41
        rw [← e45] at h49
        have kp50 := kp42.up (a := a) (e := .inr (2, [.int 0, .ref ra, .ref ba, .int (nI rs.length), .int (nI (nsz 0 rs)), .int 0, .int 0, .int 0, .long 0, .int 0, .int 0, .null])) (by simp)
        rw [← e45] at kp50
        have kx51 := kx43.up (a := a) (e := .inr (2, [.int 0, .ref ra, .ref ba, .int (nI rs.length), .int (nI (nsz 0 rs)), .int 0, .int 0, .int 0, .long 0, .int 0, .int 0, .null])) (by simp)
        rw [← e45] at kx51
        refine j_aload_n O 0 dN_init_106 rfl rfl ?_
        refine j_iload_n O 2 dN_init_107 rfl rfl ?_
        refine j_iload_n O 3 dN_init_108 rfl rfl ?_
        refine j_icmp_ge O 123 dN_init_109 (by decide) (fun c2 => ?_) (fun c2 => ?_)
        · exact absurd c2 (nI_ge (by omega) (by omega))
        · obtain ⟨m, hm⟩ : ∃ m, rs.length = m + 1 := ⟨rs.length - 1, by omega⟩
          obtain ⟨x, hfx, hx⟩ := hr m (by omega)
          have hfx2 : fs (fr + rs.length - 1) = some x := by rw [show fr + rs.length - 1 = fr + m by omega]; exact hfx
          obtain ⟨c, fc2, hxc, -, -⟩ := hx
          refine j_aload_n O 1 dN_init_112 rfl rfl ?_
          refine j_iload_n O 3 dN_init_113 rfl rfl ?_
          refine j_iconst O (v := 1) dN_init_114 (by decide) ?_
          refine j_isub O dN_init_115 ?_
          refine j_eqi (nI (fr + rs.length - 1)) (pk_sub (b := 1) (by omega)) ?_
          have hxg := kx51.2 x _ (fun q => by simp only [List.mem_cons, List.not_mem_nil, or_false] at q; subst q; exact absurd (hxc.eq ha) (by simp)) hxc
          refine j_aald O h46 1 rfl (by omega) (by omega) dN_init_116 ?_
          refine j_some x hfx2 ?_
          refine j_get O uwR hxg rfl 0 (by decide) w285 rfl rfl dN_init_117 ?_
          refine j_goto O 124 dN_init_120 (by decide) ?_
          refine j_eqi (lastK rs) (lastK_at hm).symm ?_
          refine j_putF O hN uwN h49 rfl 5 (by decide) w141 rfl tN ftN fnN rfl rfl (.int) (by decide +kernel) rfl rfl (Nat.le_of_ble_eq_true rfl) [.int 0, .ref ra, .ref ba, .int (nI rs.length), .int (nI (nsz 0 rs)), .int (lastK rs), .int 0, .int 0, .long 0, .int 0, .int 0, .null] rfl dN_init_124 (fun g52 e53 => ?_)
          have h54 := gUp_ne (e' := .inr (2, [.int 0, .ref ra, .ref ba, .int (nI rs.length), .int (nI (nsz 0 rs)), .int (lastK rs), .int 0, .int 0, .long 0, .int 0, .int 0, .null])) h46 (h46.ne h49 (by simp))
          rw [← e53] at h54
          have h55 := gUp_ne (e' := .inr (2, [.int 0, .ref ra, .ref ba, .int (nI rs.length), .int (nI (nsz 0 rs)), .int (lastK rs), .int 0, .int 0, .long 0, .int 0, .int 0, .null])) h47 (h47.ne h49 (by simp))
          rw [← e53] at h55
          have h56 := gUp_ne (e' := .inr (2, [.int 0, .ref ra, .ref ba, .int (nI rs.length), .int (nI (nsz 0 rs)), .int (lastK rs), .int 0, .int 0, .long 0, .int 0, .int 0, .null])) h48 (h48.ne h49 (by simp))
          rw [← e53] at h56
          have h57 := gUp_ne (e' := .inr (2, [.int 0, .ref ra, .ref ba, .int (nI rs.length), .int (nI (nsz 0 rs)), .int (lastK rs), .int 0, .int 0, .long 0, .int 0, .int 0, .null])) hxg (hxg.ne h49 (by simp))
          rw [← e53] at h57
          have h58 := gUp_self (e' := .inr (2, [.int 0, .ref ra, .ref ba, .int (nI rs.length), .int (nI (nsz 0 rs)), .int (lastK rs), .int 0, .int 0, .long 0, .int 0, .int 0, .null])) h49
          rw [← e53] at h58
          have kp59 := kp50.up (a := a) (e := .inr (2, [.int 0, .ref ra, .ref ba, .int (nI rs.length), .int (nI (nsz 0 rs)), .int (lastK rs), .int 0, .int 0, .long 0, .int 0, .int 0, .null])) (by simp)
          rw [← e53] at kp59
          have kx60 := kx51.up (a := a) (e := .inr (2, [.int 0, .ref ra, .ref ba, .int (nI rs.length), .int (nI (nsz 0 rs)), .int (lastK rs), .int 0, .int 0, .long 0, .int 0, .int 0, .null])) (by simp)
          rw [← e53] at kx60
          refine j_aload_n O 0 dN_init_127 rfl rfl ?_
          refine j_iload_n O 2 dN_init_128 rfl rfl ?_
          refine j_iload_n O 3 dN_init_129 rfl rfl ?_
          refine j_icmp_ge O 144 dN_init_130 (by decide) (fun c3 => ?_) (fun c3 => ?_)
          · exact absurd c3 (nI_ge (by omega) (by omega))
          · refine j_aload_n O 1 dN_init_133 rfl rfl ?_
            refine j_iload_n O 3 dN_init_134 rfl rfl ?_
            refine j_iconst O (v := 1) dN_init_135 (by decide) ?_
            refine j_isub O dN_init_136 ?_
            refine j_eqi (nI (fr + rs.length - 1)) (pk_sub (b := 1) (by omega)) ?_
            refine j_aald O h54 1 rfl (by omega) (by omega) dN_init_137 ?_
            refine j_some x hfx2 ?_
            refine j_get O uwR h57 rfl 3 (by decide) w294 rfl rfl dN_init_138 ?_
            refine j_goto O 145 dN_init_141 (by decide) ?_
            refine j_eqi (nI (lastL rs)) (by rw [lastL_at hm]) ?_
            refine j_putF O hN uwN h58 rfl 6 (by decide) w143 rfl tN ftN fnN rfl rfl (.int) (by decide +kernel) rfl rfl (Nat.le_of_ble_eq_true rfl) [.int 0, .ref ra, .ref ba, .int (nI rs.length), .int (nI (nsz 0 rs)), .int (lastK rs), .int (nI (lastL rs)), .int 0, .long 0, .int 0, .int 0, .null] rfl dN_init_145 (fun g61 e62 => ?_)
            have h63 := gUp_ne (e' := .inr (2, [.int 0, .ref ra, .ref ba, .int (nI rs.length), .int (nI (nsz 0 rs)), .int (lastK rs), .int (nI (lastL rs)), .int 0, .long 0, .int 0, .int 0, .null])) h54 (h54.ne h58 (by simp))
            rw [← e62] at h63
            have h64 := gUp_ne (e' := .inr (2, [.int 0, .ref ra, .ref ba, .int (nI rs.length), .int (nI (nsz 0 rs)), .int (lastK rs), .int (nI (lastL rs)), .int 0, .long 0, .int 0, .int 0, .null])) h55 (h55.ne h58 (by simp))
            rw [← e62] at h64
            have h65 := gUp_ne (e' := .inr (2, [.int 0, .ref ra, .ref ba, .int (nI rs.length), .int (nI (nsz 0 rs)), .int (lastK rs), .int (nI (lastL rs)), .int 0, .long 0, .int 0, .int 0, .null])) h56 (h56.ne h58 (by simp))
            rw [← e62] at h65
            have h66 := gUp_ne (e' := .inr (2, [.int 0, .ref ra, .ref ba, .int (nI rs.length), .int (nI (nsz 0 rs)), .int (lastK rs), .int (nI (lastL rs)), .int 0, .long 0, .int 0, .int 0, .null])) h57 (h57.ne h58 (by simp))
            rw [← e62] at h66
            have h67 := gUp_self (e' := .inr (2, [.int 0, .ref ra, .ref ba, .int (nI rs.length), .int (nI (nsz 0 rs)), .int (lastK rs), .int (nI (lastL rs)), .int 0, .long 0, .int 0, .int 0, .null])) h58
            rw [← e62] at h67
            have kp68 := kp59.up (a := a) (e := .inr (2, [.int 0, .ref ra, .ref ba, .int (nI rs.length), .int (nI (nsz 0 rs)), .int (lastK rs), .int (nI (lastL rs)), .int 0, .long 0, .int 0, .int 0, .null])) (by simp)
            rw [← e62] at kp68
            have kx69 := kx60.up (a := a) (e := .inr (2, [.int 0, .ref ra, .ref ba, .int (nI rs.length), .int (nI (nsz 0 rs)), .int (lastK rs), .int (nI (lastL rs)), .int 0, .long 0, .int 0, .int 0, .null])) (by simp)
            rw [← e62] at kx69
            refine j_aload_n O 0 dN_init_148 rfl rfl ?_
            refine j_iload O dN_init_149 rfl ?_
            refine j_putF O hN uwN h67 rfl 7 (by decide) w145 rfl tN ftN fnN rfl rfl (.int) (by decide +kernel) rfl rfl (Nat.le_of_ble_eq_true rfl) [.int 0, .ref ra, .ref ba, .int (nI rs.length), .int (nI (nsz 0 rs)), .int (lastK rs), .int (nI (lastL rs)), .int pr, .long 0, .int 0, .int 0, .null] rfl dN_init_151 (fun g70 e71 => ?_)
            have h72 := gUp_ne (e' := .inr (2, [.int 0, .ref ra, .ref ba, .int (nI rs.length), .int (nI (nsz 0 rs)), .int (lastK rs), .int (nI (lastL rs)), .int pr, .long 0, .int 0, .int 0, .null])) h63 (h63.ne h67 (by simp))
            rw [← e71] at h72
            have h73 := gUp_ne (e' := .inr (2, [.int 0, .ref ra, .ref ba, .int (nI rs.length), .int (nI (nsz 0 rs)), .int (lastK rs), .int (nI (lastL rs)), .int pr, .long 0, .int 0, .int 0, .null])) h64 (h64.ne h67 (by simp))
            rw [← e71] at h73
            have h74 := gUp_ne (e' := .inr (2, [.int 0, .ref ra, .ref ba, .int (nI rs.length), .int (nI (nsz 0 rs)), .int (lastK rs), .int (nI (lastL rs)), .int pr, .long 0, .int 0, .int 0, .null])) h65 (h65.ne h67 (by simp))
            rw [← e71] at h74
            have h75 := gUp_ne (e' := .inr (2, [.int 0, .ref ra, .ref ba, .int (nI rs.length), .int (nI (nsz 0 rs)), .int (lastK rs), .int (nI (lastL rs)), .int pr, .long 0, .int 0, .int 0, .null])) h66 (h66.ne h67 (by simp))
            rw [← e71] at h75
            have h76 := gUp_self (e' := .inr (2, [.int 0, .ref ra, .ref ba, .int (nI rs.length), .int (nI (nsz 0 rs)), .int (lastK rs), .int (nI (lastL rs)), .int pr, .long 0, .int 0, .int 0, .null])) h67
            rw [← e71] at h76
            have kp77 := kp68.up (a := a) (e := .inr (2, [.int 0, .ref ra, .ref ba, .int (nI rs.length), .int (nI (nsz 0 rs)), .int (lastK rs), .int (nI (lastL rs)), .int pr, .long 0, .int 0, .int 0, .null])) (by simp)
            rw [← e71] at kp77
            have kx78 := kx69.up (a := a) (e := .inr (2, [.int 0, .ref ra, .ref ba, .int (nI rs.length), .int (nI (nsz 0 rs)), .int (lastK rs), .int (nI (lastL rs)), .int pr, .long 0, .int 0, .int 0, .null])) (by simp)
            rw [← e71] at kx78
            exact j_vret O M (Nat.le_of_ble_eq_true rfl) (Nat.le_refl _) ⟨rfl, ra, ba, fc, hra, hba, h76, h73, hfc, h74, kp77⟩ dN_init_154
    · exact absurd (nI_le (Nat.le_refl _) (by omega)) c1
  | succ k ih =>
    intro i g1 fc hi ha hs hra1 hba1 hne hne2 hr hfc kp0
    have hi1 : i < rs.length := by omega
    obtain ⟨x, hfx, hx⟩ := hr i hi1
    obtain ⟨c, fc2, hxc, hcc, -⟩ := id hx
    refine j_iload O dN_init_53 rfl ?_
    refine j_iload_n O 3 dN_init_55 rfl rfl ?_
    refine j_icmp_ge O 93 dN_init_56 (by decide) (fun c1 => ?_) (fun c1 => ?_)
    · exact absurd c1 (nI_ge (by omega) (by omega))
    · refine j_aload_n O 0 dN_init_59 rfl rfl ?_
      refine j_get O uwN ha rfl 1 (by decide) w133 rfl rfl dN_init_60 ?_
      refine j_iload O dN_init_63 rfl ?_
      refine j_iload_n O 2 dN_init_65 rfl rfl ?_
      refine j_isub O dN_init_66 ?_
      refine j_eqi (nI (fr + i - fr)) (pk_sub (by omega)) ?_
      refine j_eqi (nI i) (by rw [show fr + i - fr = i by omega]) ?_
      refine j_aload_n O 1 dN_init_67 rfl rfl ?_
      refine j_iload O dN_init_68 rfl ?_
      refine j_aald O hs 1 rfl (by omega) (by omega) dN_init_70 ?_
      refine j_some x hfx ?_
      refine j_aast O hra1 1 rfl hxc rfl hi1 (by omega) dN_init_71 (fun g79 e80 => ?_)
      have h81 := gUp_ne (e' := .inl (t 1, rs.length, .inr (.inr (.inr (.inr (va_up fc i (some x))))))) ha (ha.ne hra1 (by simp))
      rw [← e80] at h81
      have h82 := gUp_ne (e' := .inl (t 1, rs.length, .inr (.inr (.inr (.inr (va_up fc i (some x))))))) hs hne
      rw [← e80] at h82
      have h83 := gUp_ne (e' := .inl (t 1, rs.length, .inr (.inr (.inr (.inr (va_up fc i (some x))))))) hba1 hne2
      rw [← e80] at h83
      have h84 := gUp_ne (e' := .inl (t 1, rs.length, .inr (.inr (.inr (.inr (va_up fc i (some x))))))) hxc (hxc.ne hra1 (by simp))
      rw [← e80] at h84
      have h85 := gUp_ne (e' := .inl (t 1, rs.length, .inr (.inr (.inr (.inr (va_up fc i (some x))))))) hcc (hcc.ne hra1 (by simp))
      rw [← e80] at h85
      have h86 := gUp_self (e' := .inl (t 1, rs.length, .inr (.inr (.inr (.inr (va_up fc i (some x))))))) hra1
      rw [← e80] at h86
      have kp87 := kp0.upN (a := ra) (e := .inl (t 1, rs.length, .inr (.inr (.inr (.inr (va_up fc i (some x))))))) hra
      rw [← e80] at kp87
      refine j_iload O dN_init_72 rfl ?_
      refine j_iconst O (v := 1) dN_init_74 (by decide) ?_
      refine j_aload_n O 1 dN_init_75 rfl rfl ?_
      refine j_iload O dN_init_76 rfl ?_
      refine j_aald O h82 1 rfl (by omega) (by omega) dN_init_78 ?_
      refine j_some x hfx ?_
      refine j_get O uwR h84 rfl 1 (by decide) w290 rfl rfl dN_init_79 ?_
      refine j_alen O h85 0 rfl dN_init_82 ?_
      refine j_iadd O dN_init_83 ?_
      refine j_eqi (nI (1 + rs[i].2.1.length)) (nI_add 1 _) ?_
      refine j_iadd O dN_init_84 ?_
      refine j_eqi (nI (nsz 0 (rs.take i) + (1 + rs[i].2.1.length))) (nI_add _ _) ?_
      refine j_eqi (nI (nsz 0 (rs.take (i + 1)))) (by rw [nsz0_take rs i hi1]) ?_
      refine j_istore O [(5, .int (nI (nsz 0 (rs.take (i + 1))))), (0, .ref a), (1, .ref s), (2, .int (nI fr)), (3, .int (nI (fr + rs.length))), (4, .int pr), (6, .int (nI (fr + i)))] dN_init_85 (by decide) rfl ?_
      refine j_iinc O (nI (fr + i + 1)) [(6, .int (nI (fr + i + 1))), (5, .int (nI (nsz 0 (rs.take (i + 1))))), (0, .ref a), (1, .ref s), (2, .int (nI fr)), (3, .int (nI (fr + rs.length))), (4, .int pr)] dN_init_87 rfl (nI_1 _) (by decide) rfl ?_
      refine j_goto O 53 dN_init_90 (by decide) ?_
      rw [Nat.add_assoc fr i 1]
      refine J.pk [2, 3, 4, 5, 6, 1, 0] rfl ?_
      refine ih (i + 1) _ _ (by omega) h81 h82 h86 h83 hne hne2 (fun j hj => ?_) (fun j hj => ?_) kp87
      · obtain ⟨y, h1, h2⟩ := hr j hj
        refine ⟨y, h1, ?_⟩
        rw [e80]
        obtain ⟨c3, f3, a1, a2, a3⟩ := h2
        exact ⟨c3, f3, gUp_ne a1 (a1.ne hra1 (by simp)), gUp_ne a2 (a2.ne hra1 (by simp)), a3⟩
      · rcases Nat.lt_or_ge j i with z | z
        · rw [va_up_ne _ _ (by omega)]; exact hfc j z
        · have hj : j = i := by omega
          rw [hj, va_up_self]; exact hfx.symm
set_option maxRecDepth 100000 in
set_option maxHeartbeats 4000000 in
theorem c_Node_init (l : Launch) (D : va_G) (t : Nat → ClassId) (A : Nat → Prop) (g : GH) (a s fr ns : Nat) (fs : Nat → Option Nat) (rs : List RV) (pr : Int32) (ha : gAt g a (.inr (2, [.int 0, .null, .null, .int 0, .int 0, .int 0, .int 0, .int 0, .long 0, .int 0, .int 0, .null]))) (hs : gAt g s (eRs t ns fs)) (hr : rowsIn t g fs fr rs) (hns : fr + rs.length ≤ ns) (hn31 : ns < 2 ^ 27) (hsz : nsz 0 rs < 2 ^ 31) : Ct l yN_init sN_init { frames := 1, cells := 2, slots := rs.length, locals := 20 } (zz D t A) [.ref a, .ref s, .int (nI fr), .int (nI (fr + rs.length)), .int pr] g 2 rs.length (fun v g' => v = none ∧ ∃ ra ba f', ra ∉ g.1 ∧ ba ∉ g.1 ∧ gAt g' a (eNode 0 ra ba (nI rs.length) (nI (nsz 0 rs)) (lastK rs) (nI (lastL rs)) pr 0 0 0 none) ∧ gAt g' ra (eRs t rs.length f') ∧ (∀ i, i < rs.length → f' i = fs (fr + i)) ∧ gAt g' ba (eNs t 0 (fun _ => none)) ∧ Kp [a] g g') := by
  refine Ct.of (cc := bN_init) (maxL := 7) (ret := none) (by decide) (Nat.le_of_ble_eq_true rfl) (fun X hl O M hN => ?_)
  have hN := hN rfl
  show J X 7 (zz D t A) g 0 0 0 [(0, .ref a), (1, .ref s), (2, .int (nI fr)), (3, .int (nI (fr + rs.length))), (4, .int pr)] []
  have kp0 : Kp [a] g g := Kp.rf
  refine j_aload_n O 0 dN_init_0 rfl rfl ?_
  refine j_objInit O w128 w39 w40 dN_init_1 (Nat.le_of_ble_eq_true rfl) (Nat.le_of_ble_eq_true rfl) ?_
  refine j_aload_n O 0 dN_init_4 rfl rfl ?_
  refine j_lconst O (v := 0) dN_init_5 (by decide) ?_
  refine j_put O uwN ha rfl 8 (by decide) w147 rfl tN ftN fnN rfl (.long) (by decide +kernel) rfl rfl (Nat.le_of_ble_eq_true rfl) [.int 0, .null, .null, .int 0, .int 0, .int 0, .int 0, .int 0, .long 0, .int 0, .int 0, .null] rfl dN_init_6 (fun g88 e89 => ?_)
  have h90 := gUp_ne (e' := .inr (2, [.int 0, .null, .null, .int 0, .int 0, .int 0, .int 0, .int 0, .long 0, .int 0, .int 0, .null])) hs (hs.ne ha (by simp))
  rw [← e89] at h90
  have h91 := gUp_self (e' := .inr (2, [.int 0, .null, .null, .int 0, .int 0, .int 0, .int 0, .int 0, .long 0, .int 0, .int 0, .null])) ha
  rw [← e89] at h91
  have kp92 := kp0.up (a := a) (e := .inr (2, [.int 0, .null, .null, .int 0, .int 0, .int 0, .int 0, .int 0, .long 0, .int 0, .int 0, .null])) (by simp)
  rw [← e89] at kp92
  refine j_aload_n O 0 dN_init_9 rfl rfl ?_
  refine j_iconst O (v := 0) dN_init_10 (by decide) ?_
  refine j_put O uwN h91 rfl 9 (by decide) w149 rfl tN ftN fnN rfl (.boolean) (by decide +kernel) rfl rfl (Nat.le_of_ble_eq_true rfl) [.int 0, .null, .null, .int 0, .int 0, .int 0, .int 0, .int 0, .long 0, .int 0, .int 0, .null] rfl dN_init_11 (fun g93 e94 => ?_)
  have h95 := gUp_ne (e' := .inr (2, [.int 0, .null, .null, .int 0, .int 0, .int 0, .int 0, .int 0, .long 0, .int 0, .int 0, .null])) h90 (h90.ne h91 (by simp))
  rw [← e94] at h95
  have h96 := gUp_self (e' := .inr (2, [.int 0, .null, .null, .int 0, .int 0, .int 0, .int 0, .int 0, .long 0, .int 0, .int 0, .null])) h91
  rw [← e94] at h96
  have kp97 := kp92.up (a := a) (e := .inr (2, [.int 0, .null, .null, .int 0, .int 0, .int 0, .int 0, .int 0, .long 0, .int 0, .int 0, .null])) (by simp)
  rw [← e94] at kp97
  refine j_aload_n O 0 dN_init_14 rfl rfl ?_
  refine j_iconst O (v := 0) dN_init_15 (by decide) ?_
  refine j_put O uwN h96 rfl 10 (by decide) w151 rfl tN ftN fnN rfl (.int) (by decide +kernel) rfl rfl (Nat.le_of_ble_eq_true rfl) [.int 0, .null, .null, .int 0, .int 0, .int 0, .int 0, .int 0, .long 0, .int 0, .int 0, .null] rfl dN_init_16 (fun g98 e99 => ?_)
  have h100 := gUp_ne (e' := .inr (2, [.int 0, .null, .null, .int 0, .int 0, .int 0, .int 0, .int 0, .long 0, .int 0, .int 0, .null])) h95 (h95.ne h96 (by simp))
  rw [← e99] at h100
  have h101 := gUp_self (e' := .inr (2, [.int 0, .null, .null, .int 0, .int 0, .int 0, .int 0, .int 0, .long 0, .int 0, .int 0, .null])) h96
  rw [← e99] at h101
  have kp102 := kp97.up (a := a) (e := .inr (2, [.int 0, .null, .null, .int 0, .int 0, .int 0, .int 0, .int 0, .long 0, .int 0, .int 0, .null])) (by simp)
  rw [← e99] at kp102
  refine j_aload_n O 0 dN_init_19 rfl rfl ?_
  refine j_null O dN_init_20 ?_
  refine j_put O uwN h101 rfl 11 (by decide) w154 rfl tN ftN fnN rfl (.object "TwinTrees$Node") (by decide +kernel) rfl rfl (Nat.le_of_ble_eq_true rfl) [.int 0, .null, .null, .int 0, .int 0, .int 0, .int 0, .int 0, .long 0, .int 0, .int 0, .null] rfl dN_init_21 (fun g103 e104 => ?_)
  have h105 := gUp_ne (e' := .inr (2, [.int 0, .null, .null, .int 0, .int 0, .int 0, .int 0, .int 0, .long 0, .int 0, .int 0, .null])) h100 (h100.ne h101 (by simp))
  rw [← e104] at h105
  have h106 := gUp_self (e' := .inr (2, [.int 0, .null, .null, .int 0, .int 0, .int 0, .int 0, .int 0, .long 0, .int 0, .int 0, .null])) h101
  rw [← e104] at h106
  have kp107 := kp102.up (a := a) (e := .inr (2, [.int 0, .null, .null, .int 0, .int 0, .int 0, .int 0, .int 0, .long 0, .int 0, .int 0, .null])) (by simp)
  rw [← e104] at kp107
  refine j_aload_n O 0 dN_init_24 rfl rfl ?_
  refine j_iconst O (v := 0) dN_init_25 (by decide) ?_
  refine j_putF O hN uwN h106 rfl 0 (by decide) w131 rfl tN ftN fnN rfl rfl (.int) (by decide +kernel) rfl rfl (Nat.le_of_ble_eq_true rfl) [.int 0, .null, .null, .int 0, .int 0, .int 0, .int 0, .int 0, .long 0, .int 0, .int 0, .null] rfl dN_init_26 (fun g108 e109 => ?_)
  have h110 := gUp_ne (e' := .inr (2, [.int 0, .null, .null, .int 0, .int 0, .int 0, .int 0, .int 0, .long 0, .int 0, .int 0, .null])) h105 (h105.ne h106 (by simp))
  rw [← e109] at h110
  have h111 := gUp_self (e' := .inr (2, [.int 0, .null, .null, .int 0, .int 0, .int 0, .int 0, .int 0, .long 0, .int 0, .int 0, .null])) h106
  rw [← e109] at h111
  have kp112 := kp107.up (a := a) (e := .inr (2, [.int 0, .null, .null, .int 0, .int 0, .int 0, .int 0, .int 0, .long 0, .int 0, .int 0, .null])) (by simp)
  rw [← e109] at kp112
  refine j_aload_n O 0 dN_init_29 rfl rfl ?_
  refine j_iload_n O 3 dN_init_30 rfl rfl ?_
  refine j_iload_n O 2 dN_init_31 rfl rfl ?_
  refine j_isub O dN_init_32 ?_
  refine j_eqi (nI (fr + rs.length - fr)) (pk_sub (by omega)) ?_
  refine j_eqi (nI rs.length) (by rw [show fr + rs.length - fr = rs.length by omega]) ?_
  refine j_newq O w129 (List.mem_of_getElem? (i := 5) rfl) 1 rfl rs.length (nI_pos (by omega)) (nI_clamp (by omega)) (by omega) (Nat.le_of_ble_eq_true rfl) (by show _ ≤ rs.length; omega) dN_init_33 (fun q113 g114 hq115 e116 => ?_)
  have h117 := gNew_old (e' := .inl (t 1, rs.length, .inr (.inr (.inr (.inr (fun _ => none)))))) h111 hq115
  rw [← e116] at h117
  have h118 := gNew_old (e' := .inl (t 1, rs.length, .inr (.inr (.inr (.inr (fun _ => none)))))) h110 hq115
  rw [← e116] at h118
  have h119 := gNew_self (g := g108) (a := q113) (e := .inl (t 1, rs.length, .inr (.inr (.inr (.inr (fun _ => none))))))
  rw [← e116] at h119
  have kp120 := kp112.new (e := .inl (t 1, rs.length, .inr (.inr (.inr (.inr (fun _ => none)))))) hq115
  rw [← e116] at kp120
  refine j_putF O hN uwN h117 rfl 1 (by decide) w133 rfl tN ftN fnN rfl rfl (.array (.object "TwinTrees$Row")) (by decide +kernel) rfl rfl (Nat.le_of_ble_eq_true rfl) [.int 0, .ref q113, .null, .int 0, .int 0, .int 0, .int 0, .int 0, .long 0, .int 0, .int 0, .null] rfl dN_init_36 (fun g121 e122 => ?_)
  have h123 := gUp_ne (e' := .inr (2, [.int 0, .ref q113, .null, .int 0, .int 0, .int 0, .int 0, .int 0, .long 0, .int 0, .int 0, .null])) h118 (h118.ne h117 (by simp))
  rw [← e122] at h123
  have h124 := gUp_ne (e' := .inr (2, [.int 0, .ref q113, .null, .int 0, .int 0, .int 0, .int 0, .int 0, .long 0, .int 0, .int 0, .null])) h119 (Ne.symm (h111.nin hq115))
  rw [← e122] at h124
  have h125 := gUp_self (e' := .inr (2, [.int 0, .ref q113, .null, .int 0, .int 0, .int 0, .int 0, .int 0, .long 0, .int 0, .int 0, .null])) h117
  rw [← e122] at h125
  have kp126 := kp120.up (a := a) (e := .inr (2, [.int 0, .ref q113, .null, .int 0, .int 0, .int 0, .int 0, .int 0, .long 0, .int 0, .int 0, .null])) (by simp)
  rw [← e122] at kp126
  refine j_aload_n O 0 dN_init_39 rfl rfl ?_
  refine j_iconst O (v := 0) dN_init_40 (by decide) ?_
  refine j_newq O w130 (List.mem_of_getElem? (i := 4) rfl) 2 rfl 0 (by decide) (by decide) (by decide) (Nat.le_of_ble_eq_true rfl) (by show _ ≤ rs.length; omega) dN_init_41 (fun q127 g128 hq129 e130 => ?_)
  have h131 := gNew_old (e' := .inl (t 2, 0, .inr (.inr (.inr (.inr (fun _ => none)))))) h125 hq129
  rw [← e130] at h131
  have h132 := gNew_old (e' := .inl (t 2, 0, .inr (.inr (.inr (.inr (fun _ => none)))))) h123 hq129
  rw [← e130] at h132
  have h133 := gNew_old (e' := .inl (t 2, 0, .inr (.inr (.inr (.inr (fun _ => none)))))) h124 hq129
  rw [← e130] at h133
  have h134 := gNew_self (g := g121) (a := q127) (e := .inl (t 2, 0, .inr (.inr (.inr (.inr (fun _ => none))))))
  rw [← e130] at h134
  have kp135 := kp126.new (e := .inl (t 2, 0, .inr (.inr (.inr (.inr (fun _ => none)))))) hq129
  rw [← e130] at kp135
  refine j_putF O hN uwN h131 rfl 2 (by decide) w135 rfl tN ftN fnN rfl rfl (.array (.object "TwinTrees$Node")) (by decide +kernel) rfl rfl (Nat.le_of_ble_eq_true rfl) [.int 0, .ref q113, .ref q127, .int 0, .int 0, .int 0, .int 0, .int 0, .long 0, .int 0, .int 0, .null] rfl dN_init_44 (fun g136 e137 => ?_)
  have h138 := gUp_ne (e' := .inr (2, [.int 0, .ref q113, .ref q127, .int 0, .int 0, .int 0, .int 0, .int 0, .long 0, .int 0, .int 0, .null])) h132 (h132.ne h131 (by simp))
  rw [← e137] at h138
  have h139 := gUp_ne (e' := .inr (2, [.int 0, .ref q113, .ref q127, .int 0, .int 0, .int 0, .int 0, .int 0, .long 0, .int 0, .int 0, .null])) h133 (Ne.symm (h111.nin hq115))
  rw [← e137] at h139
  have h140 := gUp_ne (e' := .inr (2, [.int 0, .ref q113, .ref q127, .int 0, .int 0, .int 0, .int 0, .int 0, .long 0, .int 0, .int 0, .null])) h134 (Ne.symm (h125.nin hq129))
  rw [← e137] at h140
  have h141 := gUp_self (e' := .inr (2, [.int 0, .ref q113, .ref q127, .int 0, .int 0, .int 0, .int 0, .int 0, .long 0, .int 0, .int 0, .null])) h131
  rw [← e137] at h141
  have kp142 := kp135.up (a := a) (e := .inr (2, [.int 0, .ref q113, .ref q127, .int 0, .int 0, .int 0, .int 0, .int 0, .long 0, .int 0, .int 0, .null])) (by simp)
  rw [← e137] at kp142
  refine j_iconst O (v := 0) dN_init_47 (by decide) ?_
  refine j_istore O [(5, .int 0), (0, .ref a), (1, .ref s), (2, .int (nI fr)), (3, .int (nI (fr + rs.length))), (4, .int pr)] dN_init_48 (by decide) rfl ?_
  refine j_iload_n O 2 dN_init_50 rfl rfl ?_
  refine j_istore O [(6, .int (nI fr)), (5, .int 0), (0, .ref a), (1, .ref s), (2, .int (nI fr)), (3, .int (nI (fr + rs.length))), (4, .int pr)] dN_init_51 (by decide) rfl ?_
  refine J.pk [2, 3, 4, 5, 6, 1, 0] rfl ?_
  refine J.widen (k' := 2) (n' := rs.length) (Nat.le_of_ble_eq_true rfl) (by omega) ?_
  refine Node_init_loop O M hN (kp112.nin hq115) (kp126.nin hq129) hns (by omega) hsz _ 0 _ _ (Nat.zero_add _) h141 h138 h139 h140 (h110.nin hq115) (Ne.symm (h124.nin hq129)) (fun j hj => ?_) (fun j hj => by omega) kp142
  obtain ⟨y, h1, c3, f3, a1, a2, a3⟩ := hr j hj
  exact ⟨y, h1, c3, f3, kp142.2 _ _ (fun q => by simp only [List.mem_cons, List.not_mem_nil, or_false] at q; subst q; exact absurd (a1.eq ha) (by simp)) a1, kp142.2 _ _ (fun q => by simp only [List.mem_cons, List.not_mem_nil, or_false] at q; subst q; exact absurd (a2.eq ha) (by simp)) a2, a3⟩
/-- a node's cell, whatever its mutable part -/
def nodeC (g : GH) (b : Nat) (h : Nat) (rs : List RV) : Prop := ∃ (ra ba : Nat) (mu : MU), gAt g b (nCell h rs ra ba mu)
def nodesIn (g : GH) (f : Nat → Option Nat) (o h : Nat) (qs : List (List RV)) : Prop := ∀ i (hi : i < qs.length), ∃ b, f (o + i) = some b ∧ nodeC g b h qs[i]
theorem flat_take (qs : List (List RV)) (i : Nat) (h : i < qs.length) : (qs.take (i + 1)).flatten.length = (qs.take i).flatten.length + qs[i].length := by
  rw [List.take_succ_eq_append_getElem h, List.flatten_append, List.length_append]
  simp
theorem flat_last {qs : List (List RV)} {n : Nat} (h : qs.length = n + 1) (hn : qs[n]'(by omega) ≠ []) : qs.flatten.getLast? = (qs[n]'(by omega)).getLast? := by
  have e : qs = qs.take n ++ [qs[n]'(by omega)] := by
    rw [← List.take_succ_eq_append_getElem (by omega), ← h, List.take_length]
  conv => lhs; rw [e]
  rw [List.flatten_append, List.flatten_singleton, List.getLast?_append]
  cases hc : (qs[n]'(by omega)).getLast? with
  | none => rw [List.getLast?_eq_none_iff] at hc; exact absurd hc hn
  | some x => rfl
set_option maxRecDepth 100000 in
set_option maxHeartbeats 4000000 in
theorem Node_init2_loop {X : CX} {D : va_G} {t : Nat → ClassId} {A : Nat → Prop} {rm : Room} {g : GH} {a s ra ba fr ns h : Nat} {fs : Nat → Option Nat} {qs : List (List RV)} {pr hh : Int32} (O : Ok X bN_init2 8 "TwinTrees$Node" (zz D t A) rm) (M : Om X (zz D t A) none 2 qs.length (fun v g' => v = none ∧ ∃ ra ba f', ra ∉ g.1 ∧ ba ∉ g.1 ∧ gAt g' a (eNode hh ra ba (nI qs.flatten.length) (nI qs.length) (lastK qs.flatten) (nI (lastL qs.flatten)) pr 0 0 0 none) ∧ gAt g' ra (eRs t 0 (fun _ => none)) ∧ gAt g' ba (eNs t qs.length f') ∧ (∀ i, i < qs.length → f' i = fs (fr + i)) ∧ Kp [a] g g')) (hN : On X) (hra : ra ∉ g.1) (hba : ba ∉ g.1) (hns : fr + qs.length ≤ ns) (hn31 : ns < 2 ^ 31) (hq0 : ∃ m, qs.length = m + 1) (hqn : ∀ q ∈ qs, q ≠ []) (hsz : qs.flatten.length < 2 ^ 31) (hag : a ∈ g.1) : ∀ (k i : Nat) (g1 : GH) (fc : Nat → Option Nat), i + k = qs.length → gAt g1 a (.inr (2, [.int hh, .ref ra, .ref ba, .int 0, .int 0, .int 0, .int 0, .int 0, .long 0, .int 0, .int 0, .null])) → gAt g1 s (eNs t ns fs) → gAt g1 ra (eRs t 0 (fun _ => none)) → gAt g1 ba (eNs t qs.length fc) → s ≠ ba → ra ≠ ba → nodesIn g1 fs fr h qs → (∀ j (hj : j < qs.length), fs (fr + j) ≠ some a) → (∀ j, j < i → fc j = fs (fr + j)) → Kp [a] g g1 → J X 8 (zz D t A) g1 2 qs.length 54 [(0, .ref a), (2, .ref s), (3, .int (nI fr)), (4, .int (nI (fr + qs.length))), (5, .int pr), (6, .int (nI (qs.take i).flatten.length)), (7, .int (nI (fr + i)))] [] := by
  intro k
  induction k with
  | zero =>
    intro i g1 fc hi ha hs hra1 hba1 hne hne2 hr hxa hfc kp0
    have hi : i = qs.length := by omega
    subst hi
    obtain ⟨m, hm⟩ := hq0
    obtain ⟨x, hfx, xra, xba, xmu, hxc⟩ := hr m (by omega)
    have hxa2 : x ≠ a := fun q => hxa m (by omega) (by rw [hfx, q])
    have hfx2 : fs (fr + qs.length - 1) = some x := by rw [show fr + qs.length - 1 = fr + m by omega]; exact hfx
    have hmn : qs[m] ≠ [] := hqn _ (List.getElem_mem _)
    have hlk : lastK qs[m] = lastK qs.flatten := by unfold lastK; rw [flat_last hm hmn]
    have hll : lastL qs[m] = lastL qs.flatten := by unfold lastL; rw [flat_last hm hmn]
    refine j_iload O dN_init2_54 rfl ?_
    refine j_iload O dN_init2_56 rfl ?_
    refine j_icmp_ge O 92 dN_init2_58 (by decide) (fun c1 => ?_) (fun c1 => ?_)
    · refine j_aload_n O 0 dN_init2_92 rfl rfl ?_
      refine j_iload O dN_init2_93 rfl ?_
      refine j_eqi (nI qs.flatten.length) (by rw [List.take_length]) ?_
      refine j_putF O hN uwN ha rfl 3 (by decide) w137 rfl tN ftN fnN rfl rfl (.int) (by decide +kernel) rfl rfl (Nat.le_of_ble_eq_true rfl) [.int hh, .ref ra, .ref ba, .int (nI qs.flatten.length), .int 0, .int 0, .int 0, .int 0, .long 0, .int 0, .int 0, .null] rfl dN_init2_95 (fun g143 e144 => ?_)
      have h145 := gUp_ne (e' := .inr (2, [.int hh, .ref ra, .ref ba, .int (nI qs.flatten.length), .int 0, .int 0, .int 0, .int 0, .long 0, .int 0, .int 0, .null])) hs (hs.ne ha (by simp))
      rw [← e144] at h145
      have h146 := gUp_ne (e' := .inr (2, [.int hh, .ref ra, .ref ba, .int (nI qs.flatten.length), .int 0, .int 0, .int 0, .int 0, .long 0, .int 0, .int 0, .null])) hra1 (hra1.ne ha (by simp))
      rw [← e144] at h146
      have h147 := gUp_ne (e' := .inr (2, [.int hh, .ref ra, .ref ba, .int (nI qs.flatten.length), .int 0, .int 0, .int 0, .int 0, .long 0, .int 0, .int 0, .null])) hba1 (hba1.ne ha (by simp))
      rw [← e144] at h147
      have h148 := gUp_ne (e' := .inr (2, [.int hh, .ref ra, .ref ba, .int (nI qs.flatten.length), .int 0, .int 0, .int 0, .int 0, .long 0, .int 0, .int 0, .null])) hxc hxa2
      rw [← e144] at h148
      have h149 := gUp_self (e' := .inr (2, [.int hh, .ref ra, .ref ba, .int (nI qs.flatten.length), .int 0, .int 0, .int 0, .int 0, .long 0, .int 0, .int 0, .null])) ha
      rw [← e144] at h149
      have kp150 := kp0.up (a := a) (e := .inr (2, [.int hh, .ref ra, .ref ba, .int (nI qs.flatten.length), .int 0, .int 0, .int 0, .int 0, .long 0, .int 0, .int 0, .null])) (by simp)
      rw [← e144] at kp150
      refine j_aload_n O 0 dN_init2_98 rfl rfl ?_
      refine j_iload O dN_init2_99 rfl ?_
      refine j_iload_n O 3 dN_init2_101 rfl rfl ?_
      refine j_isub O dN_init2_102 ?_
      refine j_eqi (nI (fr + qs.length - fr)) (pk_sub (by omega)) ?_
      refine j_eqi (nI qs.length) (by rw [show fr + qs.length - fr = qs.length by omega]) ?_
      refine j_putF O hN uwN h149 rfl 4 (by decide) w139 rfl tN ftN fnN rfl rfl (.int) (by decide +kernel) rfl rfl (Nat.le_of_ble_eq_true rfl) [.int hh, .ref ra, .ref ba, .int (nI qs.flatten.length), .int (nI qs.length), .int 0, .int 0, .int 0, .long 0, .int 0, .int 0, .null] rfl dN_init2_103 (fun g151 e152 => ?_)
      have h153 := gUp_ne (e' := .inr (2, [.int hh, .ref ra, .ref ba, .int (nI qs.flatten.length), .int (nI qs.length), .int 0, .int 0, .int 0, .long 0, .int 0, .int 0, .null])) h145 (h145.ne h149 (by simp))
      rw [← e152] at h153
      have h154 := gUp_ne (e' := .inr (2, [.int hh, .ref ra, .ref ba, .int (nI qs.flatten.length), .int (nI qs.length), .int 0, .int 0, .int 0, .long 0, .int 0, .int 0, .null])) h146 (h146.ne h149 (by simp))
      rw [← e152] at h154
      have h155 := gUp_ne (e' := .inr (2, [.int hh, .ref ra, .ref ba, .int (nI qs.flatten.length), .int (nI qs.length), .int 0, .int 0, .int 0, .long 0, .int 0, .int 0, .null])) h147 (h147.ne h149 (by simp))
      rw [← e152] at h155
      have h156 := gUp_ne (e' := .inr (2, [.int hh, .ref ra, .ref ba, .int (nI qs.flatten.length), .int (nI qs.length), .int 0, .int 0, .int 0, .long 0, .int 0, .int 0, .null])) h148 hxa2
      rw [← e152] at h156
      have h157 := gUp_self (e' := .inr (2, [.int hh, .ref ra, .ref ba, .int (nI qs.flatten.length), .int (nI qs.length), .int 0, .int 0, .int 0, .long 0, .int 0, .int 0, .null])) h149
      rw [← e152] at h157
      have kp158 := kp150.up (a := a) (e := .inr (2, [.int hh, .ref ra, .ref ba, .int (nI qs.flatten.length), .int (nI qs.length), .int 0, .int 0, .int 0, .long 0, .int 0, .int 0, .null])) (by simp)
      rw [← e152] at kp158
      refine j_aload_n O 0 dN_init2_106 rfl rfl ?_
      refine j_iload_n O 3 dN_init2_107 rfl rfl ?_
      refine j_iload O dN_init2_108 rfl ?_
      refine j_icmp_ge O 125 dN_init2_110 (by decide) (fun c2 => ?_) (fun c2 => ?_)
      · exact absurd c2 (nI_ge (by omega) (by omega))
      · refine j_aload_n O 2 dN_init2_113 rfl rfl ?_
        refine j_iload O dN_init2_114 rfl ?_
        refine j_iconst O (v := 1) dN_init2_116 (by decide) ?_
        refine j_isub O dN_init2_117 ?_
        refine j_eqi (nI (fr + qs.length - 1)) (pk_sub (b := 1) (by omega)) ?_
        refine j_aald O h153 2 rfl (by omega) (by omega) dN_init2_118 ?_
        refine j_some x hfx2 ?_
        refine j_get O uwN h156 rfl 5 (by decide) w141 rfl rfl dN_init2_119 ?_
        refine j_goto O 126 dN_init2_122 (by decide) ?_
        refine j_eqi (lastK qs.flatten) hlk ?_
        refine j_putF O hN uwN h157 rfl 5 (by decide) w141 rfl tN ftN fnN rfl rfl (.int) (by decide +kernel) rfl rfl (Nat.le_of_ble_eq_true rfl) [.int hh, .ref ra, .ref ba, .int (nI qs.flatten.length), .int (nI qs.length), .int (lastK qs.flatten), .int 0, .int 0, .long 0, .int 0, .int 0, .null] rfl dN_init2_126 (fun g159 e160 => ?_)
        have h161 := gUp_ne (e' := .inr (2, [.int hh, .ref ra, .ref ba, .int (nI qs.flatten.length), .int (nI qs.length), .int (lastK qs.flatten), .int 0, .int 0, .long 0, .int 0, .int 0, .null])) h153 (h153.ne h157 (by simp))
        rw [← e160] at h161
        have h162 := gUp_ne (e' := .inr (2, [.int hh, .ref ra, .ref ba, .int (nI qs.flatten.length), .int (nI qs.length), .int (lastK qs.flatten), .int 0, .int 0, .long 0, .int 0, .int 0, .null])) h154 (h154.ne h157 (by simp))
        rw [← e160] at h162
        have h163 := gUp_ne (e' := .inr (2, [.int hh, .ref ra, .ref ba, .int (nI qs.flatten.length), .int (nI qs.length), .int (lastK qs.flatten), .int 0, .int 0, .long 0, .int 0, .int 0, .null])) h155 (h155.ne h157 (by simp))
        rw [← e160] at h163
        have h164 := gUp_ne (e' := .inr (2, [.int hh, .ref ra, .ref ba, .int (nI qs.flatten.length), .int (nI qs.length), .int (lastK qs.flatten), .int 0, .int 0, .long 0, .int 0, .int 0, .null])) h156 hxa2
        rw [← e160] at h164
        have h165 := gUp_self (e' := .inr (2, [.int hh, .ref ra, .ref ba, .int (nI qs.flatten.length), .int (nI qs.length), .int (lastK qs.flatten), .int 0, .int 0, .long 0, .int 0, .int 0, .null])) h157
        rw [← e160] at h165
        have kp166 := kp158.up (a := a) (e := .inr (2, [.int hh, .ref ra, .ref ba, .int (nI qs.flatten.length), .int (nI qs.length), .int (lastK qs.flatten), .int 0, .int 0, .long 0, .int 0, .int 0, .null])) (by simp)
        rw [← e160] at kp166
        refine j_aload_n O 0 dN_init2_129 rfl rfl ?_
        refine j_iload_n O 3 dN_init2_130 rfl rfl ?_
        refine j_iload O dN_init2_131 rfl ?_
        refine j_icmp_ge O 148 dN_init2_133 (by decide) (fun c3 => ?_) (fun c3 => ?_)
        · exact absurd c3 (nI_ge (by omega) (by omega))
        · refine j_aload_n O 2 dN_init2_136 rfl rfl ?_
          refine j_iload O dN_init2_137 rfl ?_
          refine j_iconst O (v := 1) dN_init2_139 (by decide) ?_
          refine j_isub O dN_init2_140 ?_
          refine j_eqi (nI (fr + qs.length - 1)) (pk_sub (b := 1) (by omega)) ?_
          refine j_aald O h161 2 rfl (by omega) (by omega) dN_init2_141 ?_
          refine j_some x hfx2 ?_
          refine j_get O uwN h164 rfl 6 (by decide) w143 rfl rfl dN_init2_142 ?_
          refine j_goto O 149 dN_init2_145 (by decide) ?_
          refine j_eqi (nI (lastL qs.flatten)) (by rw [hll]) ?_
          refine j_putF O hN uwN h165 rfl 6 (by decide) w143 rfl tN ftN fnN rfl rfl (.int) (by decide +kernel) rfl rfl (Nat.le_of_ble_eq_true rfl) [.int hh, .ref ra, .ref ba, .int (nI qs.flatten.length), .int (nI qs.length), .int (lastK qs.flatten), .int (nI (lastL qs.flatten)), .int 0, .long 0, .int 0, .int 0, .null] rfl dN_init2_149 (fun g167 e168 => ?_)
          have h169 := gUp_ne (e' := .inr (2, [.int hh, .ref ra, .ref ba, .int (nI qs.flatten.length), .int (nI qs.length), .int (lastK qs.flatten), .int (nI (lastL qs.flatten)), .int 0, .long 0, .int 0, .int 0, .null])) h161 (h161.ne h165 (by simp))
          rw [← e168] at h169
          have h170 := gUp_ne (e' := .inr (2, [.int hh, .ref ra, .ref ba, .int (nI qs.flatten.length), .int (nI qs.length), .int (lastK qs.flatten), .int (nI (lastL qs.flatten)), .int 0, .long 0, .int 0, .int 0, .null])) h162 (h162.ne h165 (by simp))
          rw [← e168] at h170
          have h171 := gUp_ne (e' := .inr (2, [.int hh, .ref ra, .ref ba, .int (nI qs.flatten.length), .int (nI qs.length), .int (lastK qs.flatten), .int (nI (lastL qs.flatten)), .int 0, .long 0, .int 0, .int 0, .null])) h163 (h163.ne h165 (by simp))
          rw [← e168] at h171
          have h172 := gUp_ne (e' := .inr (2, [.int hh, .ref ra, .ref ba, .int (nI qs.flatten.length), .int (nI qs.length), .int (lastK qs.flatten), .int (nI (lastL qs.flatten)), .int 0, .long 0, .int 0, .int 0, .null])) h164 hxa2
          rw [← e168] at h172
          have h173 := gUp_self (e' := .inr (2, [.int hh, .ref ra, .ref ba, .int (nI qs.flatten.length), .int (nI qs.length), .int (lastK qs.flatten), .int (nI (lastL qs.flatten)), .int 0, .long 0, .int 0, .int 0, .null])) h165
          rw [← e168] at h173
          have kp174 := kp166.up (a := a) (e := .inr (2, [.int hh, .ref ra, .ref ba, .int (nI qs.flatten.length), .int (nI qs.length), .int (lastK qs.flatten), .int (nI (lastL qs.flatten)), .int 0, .long 0, .int 0, .int 0, .null])) (by simp)
          rw [← e168] at kp174
          refine j_aload_n O 0 dN_init2_152 rfl rfl ?_
          refine j_iload O dN_init2_153 rfl ?_
          refine j_putF O hN uwN h173 rfl 7 (by decide) w145 rfl tN ftN fnN rfl rfl (.int) (by decide +kernel) rfl rfl (Nat.le_of_ble_eq_true rfl) [.int hh, .ref ra, .ref ba, .int (nI qs.flatten.length), .int (nI qs.length), .int (lastK qs.flatten), .int (nI (lastL qs.flatten)), .int pr, .long 0, .int 0, .int 0, .null] rfl dN_init2_155 (fun g175 e176 => ?_)
          have h177 := gUp_ne (e' := .inr (2, [.int hh, .ref ra, .ref ba, .int (nI qs.flatten.length), .int (nI qs.length), .int (lastK qs.flatten), .int (nI (lastL qs.flatten)), .int pr, .long 0, .int 0, .int 0, .null])) h169 (h169.ne h173 (by simp))
          rw [← e176] at h177
          have h178 := gUp_ne (e' := .inr (2, [.int hh, .ref ra, .ref ba, .int (nI qs.flatten.length), .int (nI qs.length), .int (lastK qs.flatten), .int (nI (lastL qs.flatten)), .int pr, .long 0, .int 0, .int 0, .null])) h170 (h170.ne h173 (by simp))
          rw [← e176] at h178
          have h179 := gUp_ne (e' := .inr (2, [.int hh, .ref ra, .ref ba, .int (nI qs.flatten.length), .int (nI qs.length), .int (lastK qs.flatten), .int (nI (lastL qs.flatten)), .int pr, .long 0, .int 0, .int 0, .null])) h171 (h171.ne h173 (by simp))
          rw [← e176] at h179
          have h180 := gUp_ne (e' := .inr (2, [.int hh, .ref ra, .ref ba, .int (nI qs.flatten.length), .int (nI qs.length), .int (lastK qs.flatten), .int (nI (lastL qs.flatten)), .int pr, .long 0, .int 0, .int 0, .null])) h172 hxa2
          rw [← e176] at h180
          have h181 := gUp_self (e' := .inr (2, [.int hh, .ref ra, .ref ba, .int (nI qs.flatten.length), .int (nI qs.length), .int (lastK qs.flatten), .int (nI (lastL qs.flatten)), .int pr, .long 0, .int 0, .int 0, .null])) h173
          rw [← e176] at h181
          have kp182 := kp174.up (a := a) (e := .inr (2, [.int hh, .ref ra, .ref ba, .int (nI qs.flatten.length), .int (nI qs.length), .int (lastK qs.flatten), .int (nI (lastL qs.flatten)), .int pr, .long 0, .int 0, .int 0, .null])) (by simp)
          rw [← e176] at kp182
          exact j_vret O M (Nat.le_of_ble_eq_true rfl) (Nat.le_refl _) ⟨rfl, ra, ba, fc, hra, hba, h181, h178, h179, hfc, kp182⟩ dN_init2_158
    · exact absurd (nI_le (Nat.le_refl _) (by omega)) c1
  | succ k ih =>
    intro i g1 fc hi ha hs hra1 hba1 hne hne2 hr hxa hfc kp0
    have hi1 : i < qs.length := by omega
    obtain ⟨x, hfx, xra, xba, xmu, hxc⟩ := hr i hi1
    have hxa2 : x ≠ a := fun q => hxa i hi1 (by rw [hfx, q])
    refine j_iload O dN_init2_54 rfl ?_
    refine j_iload O dN_init2_56 rfl ?_
    refine j_icmp_ge O 92 dN_init2_58 (by decide) (fun c1 => ?_) (fun c1 => ?_)
    · exact absurd c1 (nI_ge (by omega) (by omega))
    · refine j_aload_n O 0 dN_init2_61 rfl rfl ?_
      refine j_get O uwN ha rfl 2 (by decide) w135 rfl rfl dN_init2_62 ?_
      refine j_iload O dN_init2_65 rfl ?_
      refine j_iload_n O 3 dN_init2_67 rfl rfl ?_
      refine j_isub O dN_init2_68 ?_
      refine j_eqi (nI (fr + i - fr)) (pk_sub (by omega)) ?_
      refine j_eqi (nI i) (by rw [show fr + i - fr = i by omega]) ?_
      refine j_aload_n O 2 dN_init2_69 rfl rfl ?_
      refine j_iload O dN_init2_70 rfl ?_
      refine j_aald O hs 2 rfl (by omega) (by omega) dN_init2_72 ?_
      refine j_some x hfx ?_
      refine j_aast O hba1 2 rfl hxc rfl hi1 (by omega) dN_init2_73 (fun g183 e184 => ?_)
      have h185 := gUp_ne (e' := .inl (t 2, qs.length, .inr (.inr (.inr (.inr (va_up fc i (some x))))))) ha (ha.ne hba1 (by simp))
      rw [← e184] at h185
      have h186 := gUp_ne (e' := .inl (t 2, qs.length, .inr (.inr (.inr (.inr (va_up fc i (some x))))))) hs hne
      rw [← e184] at h186
      have h187 := gUp_ne (e' := .inl (t 2, qs.length, .inr (.inr (.inr (.inr (va_up fc i (some x))))))) hra1 hne2
      rw [← e184] at h187
      have h188 := gUp_ne (e' := .inl (t 2, qs.length, .inr (.inr (.inr (.inr (va_up fc i (some x))))))) hxc (hxc.ne hba1 (by simp))
      rw [← e184] at h188
      have h189 := gUp_self (e' := .inl (t 2, qs.length, .inr (.inr (.inr (.inr (va_up fc i (some x))))))) hba1
      rw [← e184] at h189
      have kp190 := kp0.upN (a := ba) (e := .inl (t 2, qs.length, .inr (.inr (.inr (.inr (va_up fc i (some x))))))) hba
      rw [← e184] at kp190
      refine j_iload O dN_init2_74 rfl ?_
      refine j_aload_n O 2 dN_init2_76 rfl rfl ?_
      refine j_iload O dN_init2_77 rfl ?_
      refine j_aald O h186 2 rfl (by omega) (by omega) dN_init2_79 ?_
      refine j_some x hfx ?_
      refine j_get O uwN h188 rfl 3 (by decide) w137 rfl rfl dN_init2_80 ?_
      refine j_iadd O dN_init2_83 ?_
      refine j_eqi (nI ((qs.take i).flatten.length + (qs[i].length))) (nI_add _ _) ?_
      refine j_eqi (nI (qs.take (i + 1)).flatten.length) (by rw [flat_take qs i hi1]) ?_
      refine j_istore O [(6, .int (nI (qs.take (i + 1)).flatten.length)), (0, .ref a), (2, .ref s), (3, .int (nI fr)), (4, .int (nI (fr + qs.length))), (5, .int pr), (7, .int (nI (fr + i)))] dN_init2_84 (by decide) rfl ?_
      refine j_iinc O (nI (fr + i + 1)) [(7, .int (nI (fr + i + 1))), (6, .int (nI (qs.take (i + 1)).flatten.length)), (0, .ref a), (2, .ref s), (3, .int (nI fr)), (4, .int (nI (fr + qs.length))), (5, .int pr)] dN_init2_86 rfl (nI_1 _) (by decide) rfl ?_
      refine j_goto O 54 dN_init2_89 (by decide) ?_
      rw [Nat.add_assoc fr i 1]
      refine J.pk [2, 3, 4, 5, 6, 1, 0] rfl ?_
      refine ih (i + 1) _ _ (by omega) h185 h186 h187 h189 hne hne2 (fun j hj => ?_) hxa (fun j hj => ?_) kp190
      · obtain ⟨y, h1, yra, yba, ymu, h2⟩ := hr j hj
        refine ⟨y, h1, yra, yba, ymu, ?_⟩
        rw [e184]
        exact gUp_ne h2 (h2.ne hba1 (by simp))
      · rcases Nat.lt_or_ge j i with z | z
        · rw [va_up_ne _ _ (by omega)]; exact hfc j z
        · have hj : j = i := by omega
          rw [hj, va_up_self]; exact hfx.symm
set_option maxRecDepth 100000 in
set_option maxHeartbeats 4000000 in
theorem c_Node_init2 (l : Launch) (D : va_G) (t : Nat → ClassId) (A : Nat → Prop) (g : GH) (a s fr ns h : Nat) (fs : Nat → Option Nat) (qs : List (List RV)) (pr hh : Int32) (ha : gAt g a (.inr (2, [.int 0, .null, .null, .int 0, .int 0, .int 0, .int 0, .int 0, .long 0, .int 0, .int 0, .null]))) (hs : gAt g s (eNs t ns fs)) (hr : nodesIn g fs fr h qs) (hxa : ∀ j (hj : j < qs.length), fs (fr + j) ≠ some a) (hns : fr + qs.length ≤ ns) (hn31 : ns < 2 ^ 27) (hq0 : ∃ m, qs.length = m + 1) (hqn : ∀ q ∈ qs, q ≠ []) (hsz : qs.flatten.length < 2 ^ 31) : Ct l yN_init2 sN_init2 { frames := 1, cells := 2, slots := qs.length, locals := 20 } (zz D t A) [.ref a, .int hh, .ref s, .int (nI fr), .int (nI (fr + qs.length)), .int pr] g 2 qs.length (fun v g' => v = none ∧ ∃ ra ba f', ra ∉ g.1 ∧ ba ∉ g.1 ∧ gAt g' a (eNode hh ra ba (nI qs.flatten.length) (nI qs.length) (lastK qs.flatten) (nI (lastL qs.flatten)) pr 0 0 0 none) ∧ gAt g' ra (eRs t 0 (fun _ => none)) ∧ gAt g' ba (eNs t qs.length f') ∧ (∀ i, i < qs.length → f' i = fs (fr + i)) ∧ Kp [a] g g') := by
  refine Ct.of (cc := bN_init2) (maxL := 8) (ret := none) (by decide) (Nat.le_of_ble_eq_true rfl) (fun X hl O M hN => ?_)
  have hN := hN rfl
  show J X 8 (zz D t A) g 0 0 0 [(0, .ref a), (1, .int hh), (2, .ref s), (3, .int (nI fr)), (4, .int (nI (fr + qs.length))), (5, .int pr)] []
  have kp0 : Kp [a] g g := Kp.rf
  refine j_aload_n O 0 dN_init2_0 rfl rfl ?_
  refine j_objInit O w128 w39 w40 dN_init2_1 (Nat.le_of_ble_eq_true rfl) (Nat.le_of_ble_eq_true rfl) ?_
  refine j_aload_n O 0 dN_init2_4 rfl rfl ?_
  refine j_lconst O (v := 0) dN_init2_5 (by decide) ?_
  refine j_put O uwN ha rfl 8 (by decide) w147 rfl tN ftN fnN rfl (.long) (by decide +kernel) rfl rfl (Nat.le_of_ble_eq_true rfl) [.int 0, .null, .null, .int 0, .int 0, .int 0, .int 0, .int 0, .long 0, .int 0, .int 0, .null] rfl dN_init2_6 (fun g191 e192 => ?_)
  have h193 := gUp_ne (e' := .inr (2, [.int 0, .null, .null, .int 0, .int 0, .int 0, .int 0, .int 0, .long 0, .int 0, .int 0, .null])) hs (hs.ne ha (by simp))
  rw [← e192] at h193
  have h194 := gUp_self (e' := .inr (2, [.int 0, .null, .null, .int 0, .int 0, .int 0, .int 0, .int 0, .long 0, .int 0, .int 0, .null])) ha
  rw [← e192] at h194
  have kp195 := kp0.up (a := a) (e := .inr (2, [.int 0, .null, .null, .int 0, .int 0, .int 0, .int 0, .int 0, .long 0, .int 0, .int 0, .null])) (by simp)
  rw [← e192] at kp195
  refine j_aload_n O 0 dN_init2_9 rfl rfl ?_
  refine j_iconst O (v := 0) dN_init2_10 (by decide) ?_
  refine j_put O uwN h194 rfl 9 (by decide) w149 rfl tN ftN fnN rfl (.boolean) (by decide +kernel) rfl rfl (Nat.le_of_ble_eq_true rfl) [.int 0, .null, .null, .int 0, .int 0, .int 0, .int 0, .int 0, .long 0, .int 0, .int 0, .null] rfl dN_init2_11 (fun g196 e197 => ?_)
  have h198 := gUp_ne (e' := .inr (2, [.int 0, .null, .null, .int 0, .int 0, .int 0, .int 0, .int 0, .long 0, .int 0, .int 0, .null])) h193 (h193.ne h194 (by simp))
  rw [← e197] at h198
  have h199 := gUp_self (e' := .inr (2, [.int 0, .null, .null, .int 0, .int 0, .int 0, .int 0, .int 0, .long 0, .int 0, .int 0, .null])) h194
  rw [← e197] at h199
  have kp200 := kp195.up (a := a) (e := .inr (2, [.int 0, .null, .null, .int 0, .int 0, .int 0, .int 0, .int 0, .long 0, .int 0, .int 0, .null])) (by simp)
  rw [← e197] at kp200
  refine j_aload_n O 0 dN_init2_14 rfl rfl ?_
  refine j_iconst O (v := 0) dN_init2_15 (by decide) ?_
  refine j_put O uwN h199 rfl 10 (by decide) w151 rfl tN ftN fnN rfl (.int) (by decide +kernel) rfl rfl (Nat.le_of_ble_eq_true rfl) [.int 0, .null, .null, .int 0, .int 0, .int 0, .int 0, .int 0, .long 0, .int 0, .int 0, .null] rfl dN_init2_16 (fun g201 e202 => ?_)
  have h203 := gUp_ne (e' := .inr (2, [.int 0, .null, .null, .int 0, .int 0, .int 0, .int 0, .int 0, .long 0, .int 0, .int 0, .null])) h198 (h198.ne h199 (by simp))
  rw [← e202] at h203
  have h204 := gUp_self (e' := .inr (2, [.int 0, .null, .null, .int 0, .int 0, .int 0, .int 0, .int 0, .long 0, .int 0, .int 0, .null])) h199
  rw [← e202] at h204
  have kp205 := kp200.up (a := a) (e := .inr (2, [.int 0, .null, .null, .int 0, .int 0, .int 0, .int 0, .int 0, .long 0, .int 0, .int 0, .null])) (by simp)
  rw [← e202] at kp205
  refine j_aload_n O 0 dN_init2_19 rfl rfl ?_
  refine j_null O dN_init2_20 ?_
  refine j_put O uwN h204 rfl 11 (by decide) w154 rfl tN ftN fnN rfl (.object "TwinTrees$Node") (by decide +kernel) rfl rfl (Nat.le_of_ble_eq_true rfl) [.int 0, .null, .null, .int 0, .int 0, .int 0, .int 0, .int 0, .long 0, .int 0, .int 0, .null] rfl dN_init2_21 (fun g206 e207 => ?_)
  have h208 := gUp_ne (e' := .inr (2, [.int 0, .null, .null, .int 0, .int 0, .int 0, .int 0, .int 0, .long 0, .int 0, .int 0, .null])) h203 (h203.ne h204 (by simp))
  rw [← e207] at h208
  have h209 := gUp_self (e' := .inr (2, [.int 0, .null, .null, .int 0, .int 0, .int 0, .int 0, .int 0, .long 0, .int 0, .int 0, .null])) h204
  rw [← e207] at h209
  have kp210 := kp205.up (a := a) (e := .inr (2, [.int 0, .null, .null, .int 0, .int 0, .int 0, .int 0, .int 0, .long 0, .int 0, .int 0, .null])) (by simp)
  rw [← e207] at kp210
  refine j_aload_n O 0 dN_init2_24 rfl rfl ?_
  refine j_iload_n O 1 dN_init2_25 rfl rfl ?_
  refine j_putF O hN uwN h209 rfl 0 (by decide) w131 rfl tN ftN fnN rfl rfl (.int) (by decide +kernel) rfl rfl (Nat.le_of_ble_eq_true rfl) [.int hh, .null, .null, .int 0, .int 0, .int 0, .int 0, .int 0, .long 0, .int 0, .int 0, .null] rfl dN_init2_26 (fun g211 e212 => ?_)
  have h213 := gUp_ne (e' := .inr (2, [.int hh, .null, .null, .int 0, .int 0, .int 0, .int 0, .int 0, .long 0, .int 0, .int 0, .null])) h208 (h208.ne h209 (by simp))
  rw [← e212] at h213
  have h214 := gUp_self (e' := .inr (2, [.int hh, .null, .null, .int 0, .int 0, .int 0, .int 0, .int 0, .long 0, .int 0, .int 0, .null])) h209
  rw [← e212] at h214
  have kp215 := kp210.up (a := a) (e := .inr (2, [.int hh, .null, .null, .int 0, .int 0, .int 0, .int 0, .int 0, .long 0, .int 0, .int 0, .null])) (by simp)
  rw [← e212] at kp215
  refine j_aload_n O 0 dN_init2_29 rfl rfl ?_
  refine j_iconst O (v := 0) dN_init2_30 (by decide) ?_
  refine j_newq O w129 (List.mem_of_getElem? (i := 5) rfl) 1 rfl 0 (by decide) (by decide) (by decide) (Nat.le_of_ble_eq_true rfl) (by show _ ≤ qs.length; omega) dN_init2_31 (fun q216 g217 hq218 e219 => ?_)
  have h220 := gNew_old (e' := .inl (t 1, 0, .inr (.inr (.inr (.inr (fun _ => none)))))) h214 hq218
  rw [← e219] at h220
  have h221 := gNew_old (e' := .inl (t 1, 0, .inr (.inr (.inr (.inr (fun _ => none)))))) h213 hq218
  rw [← e219] at h221
  have h222 := gNew_self (g := g211) (a := q216) (e := .inl (t 1, 0, .inr (.inr (.inr (.inr (fun _ => none))))))
  rw [← e219] at h222
  have kp223 := kp215.new (e := .inl (t 1, 0, .inr (.inr (.inr (.inr (fun _ => none)))))) hq218
  rw [← e219] at kp223
  refine j_putF O hN uwN h220 rfl 1 (by decide) w133 rfl tN ftN fnN rfl rfl (.array (.object "TwinTrees$Row")) (by decide +kernel) rfl rfl (Nat.le_of_ble_eq_true rfl) [.int hh, .ref q216, .null, .int 0, .int 0, .int 0, .int 0, .int 0, .long 0, .int 0, .int 0, .null] rfl dN_init2_34 (fun g224 e225 => ?_)
  have h226 := gUp_ne (e' := .inr (2, [.int hh, .ref q216, .null, .int 0, .int 0, .int 0, .int 0, .int 0, .long 0, .int 0, .int 0, .null])) h221 (h221.ne h220 (by simp))
  rw [← e225] at h226
  have h227 := gUp_ne (e' := .inr (2, [.int hh, .ref q216, .null, .int 0, .int 0, .int 0, .int 0, .int 0, .long 0, .int 0, .int 0, .null])) h222 (Ne.symm (h214.nin hq218))
  rw [← e225] at h227
  have h228 := gUp_self (e' := .inr (2, [.int hh, .ref q216, .null, .int 0, .int 0, .int 0, .int 0, .int 0, .long 0, .int 0, .int 0, .null])) h220
  rw [← e225] at h228
  have kp229 := kp223.up (a := a) (e := .inr (2, [.int hh, .ref q216, .null, .int 0, .int 0, .int 0, .int 0, .int 0, .long 0, .int 0, .int 0, .null])) (by simp)
  rw [← e225] at kp229
  refine j_aload_n O 0 dN_init2_37 rfl rfl ?_
  refine j_iload O dN_init2_38 rfl ?_
  refine j_iload_n O 3 dN_init2_40 rfl rfl ?_
  refine j_isub O dN_init2_41 ?_
  refine j_eqi (nI (fr + qs.length - fr)) (pk_sub (by omega)) ?_
  refine j_eqi (nI qs.length) (by rw [show fr + qs.length - fr = qs.length by omega]) ?_
  refine j_newq O w130 (List.mem_of_getElem? (i := 4) rfl) 2 rfl qs.length (nI_pos (by omega)) (nI_clamp (by omega)) (by omega) (Nat.le_of_ble_eq_true rfl) (by show _ ≤ qs.length; omega) dN_init2_42 (fun q230 g231 hq232 e233 => ?_)
  have h234 := gNew_old (e' := .inl (t 2, qs.length, .inr (.inr (.inr (.inr (fun _ => none)))))) h228 hq232
  rw [← e233] at h234
  have h235 := gNew_old (e' := .inl (t 2, qs.length, .inr (.inr (.inr (.inr (fun _ => none)))))) h226 hq232
  rw [← e233] at h235
  have h236 := gNew_old (e' := .inl (t 2, qs.length, .inr (.inr (.inr (.inr (fun _ => none)))))) h227 hq232
  rw [← e233] at h236
  have h237 := gNew_self (g := g224) (a := q230) (e := .inl (t 2, qs.length, .inr (.inr (.inr (.inr (fun _ => none))))))
  rw [← e233] at h237
  have kp238 := kp229.new (e := .inl (t 2, qs.length, .inr (.inr (.inr (.inr (fun _ => none)))))) hq232
  rw [← e233] at kp238
  refine j_putF O hN uwN h234 rfl 2 (by decide) w135 rfl tN ftN fnN rfl rfl (.array (.object "TwinTrees$Node")) (by decide +kernel) rfl rfl (Nat.le_of_ble_eq_true rfl) [.int hh, .ref q216, .ref q230, .int 0, .int 0, .int 0, .int 0, .int 0, .long 0, .int 0, .int 0, .null] rfl dN_init2_45 (fun g239 e240 => ?_)
  have h241 := gUp_ne (e' := .inr (2, [.int hh, .ref q216, .ref q230, .int 0, .int 0, .int 0, .int 0, .int 0, .long 0, .int 0, .int 0, .null])) h235 (h235.ne h234 (by simp))
  rw [← e240] at h241
  have h242 := gUp_ne (e' := .inr (2, [.int hh, .ref q216, .ref q230, .int 0, .int 0, .int 0, .int 0, .int 0, .long 0, .int 0, .int 0, .null])) h236 (Ne.symm (h214.nin hq218))
  rw [← e240] at h242
  have h243 := gUp_ne (e' := .inr (2, [.int hh, .ref q216, .ref q230, .int 0, .int 0, .int 0, .int 0, .int 0, .long 0, .int 0, .int 0, .null])) h237 (Ne.symm (h228.nin hq232))
  rw [← e240] at h243
  have h244 := gUp_self (e' := .inr (2, [.int hh, .ref q216, .ref q230, .int 0, .int 0, .int 0, .int 0, .int 0, .long 0, .int 0, .int 0, .null])) h234
  rw [← e240] at h244
  have kp245 := kp238.up (a := a) (e := .inr (2, [.int hh, .ref q216, .ref q230, .int 0, .int 0, .int 0, .int 0, .int 0, .long 0, .int 0, .int 0, .null])) (by simp)
  rw [← e240] at kp245
  refine j_iconst O (v := 0) dN_init2_48 (by decide) ?_
  refine j_istore O [(6, .int 0), (0, .ref a), (1, .int hh), (2, .ref s), (3, .int (nI fr)), (4, .int (nI (fr + qs.length))), (5, .int pr)] dN_init2_49 (by decide) rfl ?_
  refine j_iload_n O 3 dN_init2_51 rfl rfl ?_
  refine j_istore O [(7, .int (nI fr)), (6, .int 0), (0, .ref a), (1, .int hh), (2, .ref s), (3, .int (nI fr)), (4, .int (nI (fr + qs.length))), (5, .int pr)] dN_init2_52 (by decide) rfl ?_
  refine J.pk [2, 4, 5, 6, 7, 1, 0] rfl ?_
  refine J.widen (k' := 2) (n' := qs.length) (Nat.le_of_ble_eq_true rfl) (by omega) ?_
  refine Node_init2_loop (h := h) O M hN (kp215.nin hq218) (kp229.nin hq232) hns (by omega) hq0 hqn hsz ha.1 _ 0 _ _ (Nat.zero_add _) h244 h241 h242 h243 (h226.nin hq232) (h227.nin hq232) (fun j hj => ?_) hxa (fun j hj => by omega) kp245
  obtain ⟨y, h1, yra, yba, ymu, h2⟩ := hr j hj
  exact ⟨y, h1, yra, yba, ymu, kp245.2 _ _ (fun q => hxa j hj (by rw [h1]; simp only [List.mem_cons, List.not_mem_nil, or_false] at q; rw [q])) h2⟩
