theorem dT_init_0 : decode bT_init 0 = .ok (.aload_n 0, 1) := by decide +kernel
theorem dT_init_1 : decode bT_init 1 = .ok (.invokespecial 1, 3) := by decide +kernel
theorem dT_init_4 : decode bT_init 4 = .ok (.aload_n 0, 1) := by decide +kernel
theorem dT_init_5 : decode bT_init 5 = .ok (.bipush 6, 2) := by decide +kernel
theorem dT_init_7 : decode bT_init 7 = .ok (.newarray .int, 2) := by decide +kernel
theorem dT_init_9 : decode bT_init 9 = .ok (.putfield 9, 3) := by decide +kernel
theorem dT_init_12 : decode bT_init 12 = .ok (.aload_n 0, 1) := by decide +kernel
theorem dT_init_13 : decode bT_init 13 = .ok (.bipush 6, 2) := by decide +kernel
theorem dT_init_15 : decode bT_init 15 = .ok (.anewarray 13, 3) := by decide +kernel
theorem dT_init_18 : decode bT_init 18 = .ok (.putfield 15, 3) := by decide +kernel
theorem dT_init_21 : decode bT_init 21 = .ok (.aload_n 0, 1) := by decide +kernel
theorem dT_init_22 : decode bT_init 22 = .ok (.new 19, 3) := by decide +kernel
theorem dT_init_25 : decode bT_init 25 = .ok (.dup, 1) := by decide +kernel
theorem dT_init_26 : decode bT_init 26 = .ok (.invokespecial 21, 3) := by decide +kernel
theorem dT_init_29 : decode bT_init 29 = .ok (.putfield 22, 3) := by decide +kernel
theorem dT_init_32 : decode bT_init 32 = .ok (.aload_n 0, 1) := by decide +kernel
theorem dT_init_33 : decode bT_init 33 = .ok (.new 26, 3) := by decide +kernel
theorem dT_init_36 : decode bT_init 36 = .ok (.dup, 1) := by decide +kernel
theorem dT_init_37 : decode bT_init 37 = .ok (.invokespecial 28, 3) := by decide +kernel
theorem dT_init_40 : decode bT_init 40 = .ok (.putfield 29, 3) := by decide +kernel
theorem dT_init_43 : decode bT_init 43 = .ok (.aload_n 0, 1) := by decide +kernel
theorem dT_init_44 : decode bT_init 44 = .ok (.new 33, 3) := by decide +kernel
theorem dT_init_47 : decode bT_init 47 = .ok (.dup, 1) := by decide +kernel
theorem dT_init_48 : decode bT_init 48 = .ok (.invokespecial 35, 3) := by decide +kernel
theorem dT_init_51 : decode bT_init 51 = .ok (.putfield 36, 3) := by decide +kernel
theorem dT_init_54 : decode bT_init 54 = .ok (.aload_n 0, 1) := by decide +kernel
theorem dT_init_55 : decode bT_init 55 = .ok (.new 33, 3) := by decide +kernel
theorem dT_init_58 : decode bT_init 58 = .ok (.dup, 1) := by decide +kernel
theorem dT_init_59 : decode bT_init 59 = .ok (.invokespecial 35, 3) := by decide +kernel
theorem dT_init_62 : decode bT_init 62 = .ok (.putfield 40, 3) := by decide +kernel
theorem dT_init_65 : decode bT_init 65 = .ok (.aload_n 0, 1) := by decide +kernel
theorem dT_init_66 : decode bT_init 66 = .ok (.sipush 300, 3) := by decide +kernel
theorem dT_init_69 : decode bT_init 69 = .ok (.anewarray 13, 3) := by decide +kernel
theorem dT_init_72 : decode bT_init 72 = .ok (.putfield 43, 3) := by decide +kernel
theorem dT_init_75 : decode bT_init 75 = .ok (.aload_n 0, 1) := by decide +kernel
theorem dT_init_76 : decode bT_init 76 = .ok (.iconst 0, 1) := by decide +kernel
theorem dT_init_77 : decode bT_init 77 = .ok (.putfield 46, 3) := by decide +kernel
theorem dT_init_80 : decode bT_init 80 = .ok (.aload_n 0, 1) := by decide +kernel
theorem dT_init_81 : decode bT_init 81 = .ok (.getfield 22, 3) := by decide +kernel
theorem dT_init_84 : decode bT_init 84 = .ok (.iconst 0, 1) := by decide +kernel
theorem dT_init_85 : decode bT_init 85 = .ok (.anewarray 50, 3) := by decide +kernel
theorem dT_init_88 : decode bT_init 88 = .ok (.iconst 0, 1) := by decide +kernel
theorem dT_init_89 : decode bT_init 89 = .ok (.iconst 0, 1) := by decide +kernel
theorem dT_init_90 : decode bT_init 90 = .ok (.invokevirtual 52, 3) := by decide +kernel
theorem dT_init_93 : decode bT_init 93 = .ok (.astore_n 1, 1) := by decide +kernel
theorem dT_init_94 : decode bT_init 94 = .ok (.aload_n 0, 1) := by decide +kernel
theorem dT_init_95 : decode bT_init 95 = .ok (.getfield 22, 3) := by decide +kernel
theorem dT_init_98 : decode bT_init 98 = .ok (.invokevirtual 56, 3) := by decide +kernel
theorem dT_init_101 : decode bT_init 101 = .ok (.pop, 1) := by decide +kernel
theorem dT_init_102 : decode bT_init 102 = .ok (.iconst 0, 1) := by decide +kernel
theorem dT_init_103 : decode bT_init 103 = .ok (.istore_n 2, 1) := by decide +kernel
theorem dT_init_104 : decode bT_init 104 = .ok (.iload_n 2, 1) := by decide +kernel
theorem dT_init_105 : decode bT_init 105 = .ok (.bipush 6, 2) := by decide +kernel
theorem dT_init_107 : decode bT_init 107 = .ok (.if_icmp .ge 23, 3) := by decide +kernel
theorem dT_init_110 : decode bT_init 110 = .ok (.aload_n 0, 1) := by decide +kernel
theorem dT_init_111 : decode bT_init 111 = .ok (.getfield 9, 3) := by decide +kernel
theorem dT_init_114 : decode bT_init 114 = .ok (.iload_n 2, 1) := by decide +kernel
theorem dT_init_115 : decode bT_init 115 = .ok (.iconst 1, 1) := by decide +kernel
theorem dT_init_116 : decode bT_init 116 = .ok (.iastore, 1) := by decide +kernel
theorem dT_init_117 : decode bT_init 117 = .ok (.aload_n 0, 1) := by decide +kernel
theorem dT_init_118 : decode bT_init 118 = .ok (.getfield 15, 3) := by decide +kernel
theorem dT_init_121 : decode bT_init 121 = .ok (.iload_n 2, 1) := by decide +kernel
theorem dT_init_122 : decode bT_init 122 = .ok (.aload_n 1, 1) := by decide +kernel
theorem dT_init_123 : decode bT_init 123 = .ok (.aastore, 1) := by decide +kernel
theorem dT_init_124 : decode bT_init 124 = .ok (.iinc 2 1, 3) := by decide +kernel
theorem dT_init_127 : decode bT_init 127 = .ok (.goto (-23), 3) := by decide +kernel
theorem dT_init_130 : decode bT_init 130 = .ok (.return_, 1) := by decide +kernel
theorem dT_make_0 : decode bT_make 0 = .ok (.iload_n 1, 1) := by decide +kernel
theorem dT_make_1 : decode bT_make 1 = .ok (.invokestatic 60, 3) := by decide +kernel
theorem dT_make_4 : decode bT_make 4 = .ok (.ifCond .eq 14, 3) := by decide +kernel
theorem dT_make_7 : decode bT_make 7 = .ok (.iload_n 2, 1) := by decide +kernel
theorem dT_make_8 : decode bT_make 8 = .ok (.iconst 1, 1) := by decide +kernel
theorem dT_make_9 : decode bT_make 9 = .ok (.if_icmp .lt 9, 3) := by decide +kernel
theorem dT_make_12 : decode bT_make 12 = .ok (.iload_n 2, 1) := by decide +kernel
theorem dT_make_13 : decode bT_make 13 = .ok (.bipush 6, 2) := by decide +kernel
theorem dT_make_15 : decode bT_make 15 = .ok (.if_icmp .le 5, 3) := by decide +kernel
theorem dT_make_18 : decode bT_make 18 = .ok (.iconst (-1), 1) := by decide +kernel
theorem dT_make_19 : decode bT_make 19 = .ok (.ireturn, 1) := by decide +kernel
theorem dT_make_20 : decode bT_make 20 = .ok (.aload_n 0, 1) := by decide +kernel
theorem dT_make_21 : decode bT_make 21 = .ok (.getfield 36, 3) := by decide +kernel
theorem dT_make_24 : decode bT_make 24 = .ok (.iconst 0, 1) := by decide +kernel
theorem dT_make_25 : decode bT_make 25 = .ok (.putfield 64, 3) := by decide +kernel
theorem dT_make_28 : decode bT_make 28 = .ok (.aload_n 0, 1) := by decide +kernel
theorem dT_make_29 : decode bT_make 29 = .ok (.iload_n 1, 1) := by decide +kernel
theorem dT_make_30 : decode bT_make 30 = .ok (.invokevirtual 67, 3) := by decide +kernel
theorem dT_make_33 : decode bT_make 33 = .ok (.istore_n 3, 1) := by decide +kernel
theorem dT_make_34 : decode bT_make 34 = .ok (.iload_n 3, 1) := by decide +kernel
theorem dT_make_35 : decode bT_make 35 = .ok (.bipush (-3), 2) := by decide +kernel
theorem dT_make_37 : decode bT_make 37 = .ok (.if_icmp .eq 10, 3) := by decide +kernel
theorem dT_make_40 : decode bT_make 40 = .ok (.aload_n 0, 1) := by decide +kernel
theorem dT_make_41 : decode bT_make 41 = .ok (.getfield 9, 3) := by decide +kernel
theorem dT_make_44 : decode bT_make 44 = .ok (.iload_n 1, 1) := by decide +kernel
theorem dT_make_45 : decode bT_make 45 = .ok (.iload_n 2, 1) := by decide +kernel
theorem dT_make_46 : decode bT_make 46 = .ok (.iastore, 1) := by decide +kernel
theorem dT_make_47 : decode bT_make 47 = .ok (.iload_n 3, 1) := by decide +kernel
theorem dT_make_48 : decode bT_make 48 = .ok (.ireturn, 1) := by decide +kernel
theorem dT_isTable_0 : decode bT_isTable 0 = .ok (.iload_n 0, 1) := by decide +kernel
theorem dT_isTable_1 : decode bT_isTable 1 = .ok (.ifCond .lt 13, 3) := by decide +kernel
theorem dT_isTable_4 : decode bT_isTable 4 = .ok (.iload_n 0, 1) := by decide +kernel
theorem dT_isTable_5 : decode bT_isTable 5 = .ok (.bipush 6, 2) := by decide +kernel
theorem dT_isTable_7 : decode bT_isTable 7 = .ok (.if_icmp .ge 7, 3) := by decide +kernel
theorem dT_isTable_10 : decode bT_isTable 10 = .ok (.iconst 1, 1) := by decide +kernel
theorem dT_isTable_11 : decode bT_isTable 11 = .ok (.goto 4, 3) := by decide +kernel
theorem dT_isTable_14 : decode bT_isTable 14 = .ok (.iconst 0, 1) := by decide +kernel
theorem dT_isTable_15 : decode bT_isTable 15 = .ok (.ireturn, 1) := by decide +kernel
theorem dT_plantDraft_0 : decode bT_plantDraft 0 = .ok (.aload_n 0, 1) := by decide +kernel
theorem dT_plantDraft_1 : decode bT_plantDraft 1 = .ok (.invokevirtual 171, 3) := by decide +kernel
theorem dT_plantDraft_4 : decode bT_plantDraft 4 = .ok (.istore_n 2, 1) := by decide +kernel
theorem dT_plantDraft_5 : decode bT_plantDraft 5 = .ok (.iconst 1, 1) := by decide +kernel
theorem dT_plantDraft_6 : decode bT_plantDraft 6 = .ok (.istore_n 3, 1) := by decide +kernel
theorem dT_plantDraft_7 : decode bT_plantDraft 7 = .ok (.iload_n 3, 1) := by decide +kernel
theorem dT_plantDraft_8 : decode bT_plantDraft 8 = .ok (.iconst 5, 1) := by decide +kernel
theorem dT_plantDraft_9 : decode bT_plantDraft 9 = .ok (.if_icmp .gt 21, 3) := by decide +kernel
theorem dT_plantDraft_12 : decode bT_plantDraft 12 = .ok (.iload_n 2, 1) := by decide +kernel
theorem dT_plantDraft_13 : decode bT_plantDraft 13 = .ok (.iconst 1, 1) := by decide +kernel
theorem dT_plantDraft_14 : decode bT_plantDraft 14 = .ok (.if_icmp .le 16, 3) := by decide +kernel
theorem dT_plantDraft_17 : decode bT_plantDraft 17 = .ok (.aload_n 0, 1) := by decide +kernel
theorem dT_plantDraft_18 : decode bT_plantDraft 18 = .ok (.iload_n 3, 1) := by decide +kernel
theorem dT_plantDraft_19 : decode bT_plantDraft 19 = .ok (.iload_n 2, 1) := by decide +kernel
theorem dT_plantDraft_20 : decode bT_plantDraft 20 = .ok (.invokevirtual 174, 3) := by decide +kernel
theorem dT_plantDraft_23 : decode bT_plantDraft 23 = .ok (.istore_n 2, 1) := by decide +kernel
theorem dT_plantDraft_24 : decode bT_plantDraft 24 = .ok (.iinc 3 1, 3) := by decide +kernel
theorem dT_plantDraft_27 : decode bT_plantDraft 27 = .ok (.goto (-20), 3) := by decide +kernel
theorem dT_plantDraft_30 : decode bT_plantDraft 30 = .ok (.aload_n 0, 1) := by decide +kernel
theorem dT_plantDraft_31 : decode bT_plantDraft 31 = .ok (.getfield 22, 3) := by decide +kernel
theorem dT_plantDraft_34 : decode bT_plantDraft 34 = .ok (.invokevirtual 56, 3) := by decide +kernel
theorem dT_plantDraft_37 : decode bT_plantDraft 37 = .ok (.istore_n 3, 1) := by decide +kernel
theorem dT_plantDraft_38 : decode bT_plantDraft 38 = .ok (.iload_n 3, 1) := by decide +kernel
theorem dT_plantDraft_39 : decode bT_plantDraft 39 = .ok (.bipush (-3), 2) := by decide +kernel
theorem dT_plantDraft_41 : decode bT_plantDraft 41 = .ok (.if_icmp .eq 15, 3) := by decide +kernel
theorem dT_plantDraft_44 : decode bT_plantDraft 44 = .ok (.aload_n 0, 1) := by decide +kernel
theorem dT_plantDraft_45 : decode bT_plantDraft 45 = .ok (.getfield 15, 3) := by decide +kernel
theorem dT_plantDraft_48 : decode bT_plantDraft 48 = .ok (.iload_n 1, 1) := by decide +kernel
theorem dT_plantDraft_49 : decode bT_plantDraft 49 = .ok (.aload_n 0, 1) := by decide +kernel
theorem dT_plantDraft_50 : decode bT_plantDraft 50 = .ok (.getfield 43, 3) := by decide +kernel
theorem dT_plantDraft_53 : decode bT_plantDraft 53 = .ok (.iconst 0, 1) := by decide +kernel
theorem dT_plantDraft_54 : decode bT_plantDraft 54 = .ok (.aaload, 1) := by decide +kernel
theorem dT_plantDraft_55 : decode bT_plantDraft 55 = .ok (.aastore, 1) := by decide +kernel
theorem dT_plantDraft_56 : decode bT_plantDraft 56 = .ok (.iload_n 3, 1) := by decide +kernel
theorem dT_plantDraft_57 : decode bT_plantDraft 57 = .ok (.ireturn, 1) := by decide +kernel
theorem dT_groupRows_0 : decode bT_groupRows 0 = .ok (.aload_n 0, 1) := by decide +kernel
theorem dT_groupRows_1 : decode bT_groupRows 1 = .ok (.getfield 36, 3) := by decide +kernel
theorem dT_groupRows_4 : decode bT_groupRows 4 = .ok (.getfield 64, 3) := by decide +kernel
theorem dT_groupRows_7 : decode bT_groupRows 7 = .ok (.ifCond .ne 27, 3) := by decide +kernel
theorem dT_groupRows_10 : decode bT_groupRows 10 = .ok (.aload_n 0, 1) := by decide +kernel
theorem dT_groupRows_11 : decode bT_groupRows 11 = .ok (.getfield 43, 3) := by decide +kernel
theorem dT_groupRows_14 : decode bT_groupRows 14 = .ok (.iconst 0, 1) := by decide +kernel
theorem dT_groupRows_15 : decode bT_groupRows 15 = .ok (.aload_n 0, 1) := by decide +kernel
theorem dT_groupRows_16 : decode bT_groupRows 16 = .ok (.getfield 22, 3) := by decide +kernel
theorem dT_groupRows_19 : decode bT_groupRows 19 = .ok (.aload_n 0, 1) := by decide +kernel
theorem dT_groupRows_20 : decode bT_groupRows 20 = .ok (.getfield 36, 3) := by decide +kernel
theorem dT_groupRows_23 : decode bT_groupRows 23 = .ok (.getfield 93, 3) := by decide +kernel
theorem dT_groupRows_26 : decode bT_groupRows 26 = .ok (.iconst 0, 1) := by decide +kernel
theorem dT_groupRows_27 : decode bT_groupRows 27 = .ok (.iconst 0, 1) := by decide +kernel
theorem dT_groupRows_28 : decode bT_groupRows 28 = .ok (.invokevirtual 52, 3) := by decide +kernel
theorem dT_groupRows_31 : decode bT_groupRows 31 = .ok (.aastore, 1) := by decide +kernel
theorem dT_groupRows_32 : decode bT_groupRows 32 = .ok (.iconst 1, 1) := by decide +kernel
theorem dT_groupRows_33 : decode bT_groupRows 33 = .ok (.ireturn, 1) := by decide +kernel
theorem dT_groupRows_34 : decode bT_groupRows 34 = .ok (.iconst 0, 1) := by decide +kernel
theorem dT_groupRows_35 : decode bT_groupRows 35 = .ok (.istore_n 1, 1) := by decide +kernel
theorem dT_groupRows_36 : decode bT_groupRows 36 = .ok (.iconst 0, 1) := by decide +kernel
theorem dT_groupRows_37 : decode bT_groupRows 37 = .ok (.istore_n 2, 1) := by decide +kernel
theorem dT_groupRows_38 : decode bT_groupRows 38 = .ok (.iconst 0, 1) := by decide +kernel
theorem dT_groupRows_39 : decode bT_groupRows 39 = .ok (.istore_n 3, 1) := by decide +kernel
theorem dT_groupRows_40 : decode bT_groupRows 40 = .ok (.iload_n 3, 1) := by decide +kernel
theorem dT_groupRows_41 : decode bT_groupRows 41 = .ok (.aload_n 0, 1) := by decide +kernel
theorem dT_groupRows_42 : decode bT_groupRows 42 = .ok (.getfield 36, 3) := by decide +kernel
theorem dT_groupRows_45 : decode bT_groupRows 45 = .ok (.getfield 64, 3) := by decide +kernel
theorem dT_groupRows_48 : decode bT_groupRows 48 = .ok (.if_icmp .ge 69, 3) := by decide +kernel
theorem dT_groupRows_51 : decode bT_groupRows 51 = .ok (.aload_n 0, 1) := by decide +kernel
theorem dT_groupRows_52 : decode bT_groupRows 52 = .ok (.getfield 36, 3) := by decide +kernel
theorem dT_groupRows_55 : decode bT_groupRows 55 = .ok (.getfield 93, 3) := by decide +kernel
theorem dT_groupRows_58 : decode bT_groupRows 58 = .ok (.iload_n 3, 1) := by decide +kernel
theorem dT_groupRows_59 : decode bT_groupRows 59 = .ok (.aaload, 1) := by decide +kernel
theorem dT_groupRows_60 : decode bT_groupRows 60 = .ok (.getfield 178, 3) := by decide +kernel
theorem dT_groupRows_63 : decode bT_groupRows 63 = .ok (.iconst 1, 1) := by decide +kernel
theorem dT_groupRows_64 : decode bT_groupRows 64 = .ok (.if_icmp .ge 16, 3) := by decide +kernel
theorem dT_groupRows_67 : decode bT_groupRows 67 = .ok (.iload_n 3, 1) := by decide +kernel
theorem dT_groupRows_68 : decode bT_groupRows 68 = .ok (.iconst 1, 1) := by decide +kernel
theorem dT_groupRows_69 : decode bT_groupRows 69 = .ok (.iadd, 1) := by decide +kernel
theorem dT_groupRows_70 : decode bT_groupRows 70 = .ok (.aload_n 0, 1) := by decide +kernel
theorem dT_groupRows_71 : decode bT_groupRows 71 = .ok (.getfield 36, 3) := by decide +kernel
theorem dT_groupRows_74 : decode bT_groupRows 74 = .ok (.getfield 64, 3) := by decide +kernel
theorem dT_groupRows_77 : decode bT_groupRows 77 = .ok (.if_icmp .ne 34, 3) := by decide +kernel
theorem dT_groupRows_80 : decode bT_groupRows 80 = .ok (.aload_n 0, 1) := by decide +kernel
theorem dT_groupRows_81 : decode bT_groupRows 81 = .ok (.getfield 43, 3) := by decide +kernel
theorem dT_groupRows_84 : decode bT_groupRows 84 = .ok (.iload_n 1, 1) := by decide +kernel
theorem dT_groupRows_85 : decode bT_groupRows 85 = .ok (.aload_n 0, 1) := by decide +kernel
theorem dT_groupRows_86 : decode bT_groupRows 86 = .ok (.getfield 22, 3) := by decide +kernel
theorem dT_groupRows_89 : decode bT_groupRows 89 = .ok (.aload_n 0, 1) := by decide +kernel
theorem dT_groupRows_90 : decode bT_groupRows 90 = .ok (.getfield 36, 3) := by decide +kernel
theorem dT_groupRows_93 : decode bT_groupRows 93 = .ok (.getfield 93, 3) := by decide +kernel
theorem dT_groupRows_96 : decode bT_groupRows 96 = .ok (.iload_n 2, 1) := by decide +kernel
theorem dT_groupRows_97 : decode bT_groupRows 97 = .ok (.iload_n 3, 1) := by decide +kernel
theorem dT_groupRows_98 : decode bT_groupRows 98 = .ok (.iconst 1, 1) := by decide +kernel
theorem dT_groupRows_99 : decode bT_groupRows 99 = .ok (.iadd, 1) := by decide +kernel
theorem dT_groupRows_100 : decode bT_groupRows 100 = .ok (.invokevirtual 52, 3) := by decide +kernel
theorem dT_groupRows_103 : decode bT_groupRows 103 = .ok (.aastore, 1) := by decide +kernel
theorem dT_groupRows_104 : decode bT_groupRows 104 = .ok (.iinc 1 1, 3) := by decide +kernel
theorem dT_groupRows_107 : decode bT_groupRows 107 = .ok (.iload_n 3, 1) := by decide +kernel
theorem dT_groupRows_108 : decode bT_groupRows 108 = .ok (.iconst 1, 1) := by decide +kernel
theorem dT_groupRows_109 : decode bT_groupRows 109 = .ok (.iadd, 1) := by decide +kernel
theorem dT_groupRows_110 : decode bT_groupRows 110 = .ok (.istore_n 2, 1) := by decide +kernel
theorem dT_groupRows_111 : decode bT_groupRows 111 = .ok (.iinc 3 1, 3) := by decide +kernel
theorem dT_groupRows_114 : decode bT_groupRows 114 = .ok (.goto (-74), 3) := by decide +kernel
theorem dT_groupRows_117 : decode bT_groupRows 117 = .ok (.iload_n 1, 1) := by decide +kernel
theorem dT_groupRows_118 : decode bT_groupRows 118 = .ok (.ireturn, 1) := by decide +kernel
theorem dT_groupNodes_0 : decode bT_groupNodes 0 = .ok (.iconst 0, 1) := by decide +kernel
theorem dT_groupNodes_1 : decode bT_groupNodes 1 = .ok (.istore_n 3, 1) := by decide +kernel
theorem dT_groupNodes_2 : decode bT_groupNodes 2 = .ok (.iconst 0, 1) := by decide +kernel
theorem dT_groupNodes_3 : decode bT_groupNodes 3 = .ok (.istore 4, 2) := by decide +kernel
theorem dT_groupNodes_5 : decode bT_groupNodes 5 = .ok (.iconst 0, 1) := by decide +kernel
theorem dT_groupNodes_6 : decode bT_groupNodes 6 = .ok (.istore 5, 2) := by decide +kernel
theorem dT_groupNodes_8 : decode bT_groupNodes 8 = .ok (.iload 5, 2) := by decide +kernel
theorem dT_groupNodes_10 : decode bT_groupNodes 10 = .ok (.iload_n 2, 1) := by decide +kernel
theorem dT_groupNodes_11 : decode bT_groupNodes 11 = .ok (.if_icmp .ge 66, 3) := by decide +kernel
theorem dT_groupNodes_14 : decode bT_groupNodes 14 = .ok (.aload_n 0, 1) := by decide +kernel
theorem dT_groupNodes_15 : decode bT_groupNodes 15 = .ok (.getfield 43, 3) := by decide +kernel
theorem dT_groupNodes_18 : decode bT_groupNodes 18 = .ok (.iload 5, 2) := by decide +kernel
theorem dT_groupNodes_20 : decode bT_groupNodes 20 = .ok (.aaload, 1) := by decide +kernel
theorem dT_groupNodes_21 : decode bT_groupNodes 21 = .ok (.getfield 181, 3) := by decide +kernel
theorem dT_groupNodes_24 : decode bT_groupNodes 24 = .ok (.iload_n 1, 1) := by decide +kernel
theorem dT_groupNodes_25 : decode bT_groupNodes 25 = .ok (.iconst 1, 1) := by decide +kernel
theorem dT_groupNodes_26 : decode bT_groupNodes 26 = .ok (.iadd, 1) := by decide +kernel
theorem dT_groupNodes_27 : decode bT_groupNodes 27 = .ok (.if_icmp .ge 11, 3) := by decide +kernel
theorem dT_groupNodes_30 : decode bT_groupNodes 30 = .ok (.iload 5, 2) := by decide +kernel
theorem dT_groupNodes_32 : decode bT_groupNodes 32 = .ok (.iconst 1, 1) := by decide +kernel
theorem dT_groupNodes_33 : decode bT_groupNodes 33 = .ok (.iadd, 1) := by decide +kernel
theorem dT_groupNodes_34 : decode bT_groupNodes 34 = .ok (.iload_n 2, 1) := by decide +kernel
theorem dT_groupNodes_35 : decode bT_groupNodes 35 = .ok (.if_icmp .ne 36, 3) := by decide +kernel
theorem dT_groupNodes_38 : decode bT_groupNodes 38 = .ok (.aload_n 0, 1) := by decide +kernel
theorem dT_groupNodes_39 : decode bT_groupNodes 39 = .ok (.getfield 43, 3) := by decide +kernel
theorem dT_groupNodes_42 : decode bT_groupNodes 42 = .ok (.iload_n 3, 1) := by decide +kernel
theorem dT_groupNodes_43 : decode bT_groupNodes 43 = .ok (.aload_n 0, 1) := by decide +kernel
theorem dT_groupNodes_44 : decode bT_groupNodes 44 = .ok (.getfield 22, 3) := by decide +kernel
theorem dT_groupNodes_47 : decode bT_groupNodes 47 = .ok (.iload_n 1, 1) := by decide +kernel
theorem dT_groupNodes_48 : decode bT_groupNodes 48 = .ok (.aload_n 0, 1) := by decide +kernel
theorem dT_groupNodes_49 : decode bT_groupNodes 49 = .ok (.getfield 43, 3) := by decide +kernel
theorem dT_groupNodes_52 : decode bT_groupNodes 52 = .ok (.iload 4, 2) := by decide +kernel
theorem dT_groupNodes_54 : decode bT_groupNodes 54 = .ok (.iload 5, 2) := by decide +kernel
theorem dT_groupNodes_56 : decode bT_groupNodes 56 = .ok (.iconst 1, 1) := by decide +kernel
theorem dT_groupNodes_57 : decode bT_groupNodes 57 = .ok (.iadd, 1) := by decide +kernel
theorem dT_groupNodes_58 : decode bT_groupNodes 58 = .ok (.invokevirtual 184, 3) := by decide +kernel
theorem dT_groupNodes_61 : decode bT_groupNodes 61 = .ok (.aastore, 1) := by decide +kernel
theorem dT_groupNodes_62 : decode bT_groupNodes 62 = .ok (.iinc 3 1, 3) := by decide +kernel
theorem dT_groupNodes_65 : decode bT_groupNodes 65 = .ok (.iload 5, 2) := by decide +kernel
theorem dT_groupNodes_67 : decode bT_groupNodes 67 = .ok (.iconst 1, 1) := by decide +kernel
theorem dT_groupNodes_68 : decode bT_groupNodes 68 = .ok (.iadd, 1) := by decide +kernel
theorem dT_groupNodes_69 : decode bT_groupNodes 69 = .ok (.istore 4, 2) := by decide +kernel
theorem dT_groupNodes_71 : decode bT_groupNodes 71 = .ok (.iinc 5 1, 3) := by decide +kernel
theorem dT_groupNodes_74 : decode bT_groupNodes 74 = .ok (.goto (-66), 3) := by decide +kernel
theorem dT_groupNodes_77 : decode bT_groupNodes 77 = .ok (.iload_n 3, 1) := by decide +kernel
theorem dT_groupNodes_78 : decode bT_groupNodes 78 = .ok (.ireturn, 1) := by decide +kernel
theorem dT_put_0 : decode bT_put 0 = .ok (.aload_n 0, 1) := by decide +kernel
theorem dT_put_1 : decode bT_put 1 = .ok (.iload_n 1, 1) := by decide +kernel
theorem dT_put_2 : decode bT_put 2 = .ok (.iload_n 3, 1) := by decide +kernel
theorem dT_put_3 : decode bT_put 3 = .ok (.invokevirtual 71, 3) := by decide +kernel
theorem dT_put_6 : decode bT_put 6 = .ok (.ifCond .ne 5, 3) := by decide +kernel
theorem dT_put_9 : decode bT_put 9 = .ok (.iconst (-1), 1) := by decide +kernel
theorem dT_put_10 : decode bT_put 10 = .ok (.ireturn, 1) := by decide +kernel
theorem dT_put_11 : decode bT_put 11 = .ok (.aload_n 0, 1) := by decide +kernel
theorem dT_put_12 : decode bT_put 12 = .ok (.iload_n 1, 1) := by decide +kernel
theorem dT_put_13 : decode bT_put 13 = .ok (.invokevirtual 75, 3) := by decide +kernel
theorem dT_put_16 : decode bT_put 16 = .ok (.aload_n 0, 1) := by decide +kernel
theorem dT_put_17 : decode bT_put 17 = .ok (.getfield 36, 3) := by decide +kernel
theorem dT_put_20 : decode bT_put 20 = .ok (.iload_n 2, 1) := by decide +kernel
theorem dT_put_21 : decode bT_put 21 = .ok (.invokevirtual 79, 3) := by decide +kernel
theorem dT_put_24 : decode bT_put 24 = .ok (.istore 6, 2) := by decide +kernel
theorem dT_put_26 : decode bT_put 26 = .ok (.aload_n 0, 1) := by decide +kernel
theorem dT_put_27 : decode bT_put 27 = .ok (.getfield 36, 3) := by decide +kernel
theorem dT_put_30 : decode bT_put 30 = .ok (.iload 6, 2) := by decide +kernel
theorem dT_put_32 : decode bT_put 32 = .ok (.iload_n 2, 1) := by decide +kernel
theorem dT_put_33 : decode bT_put 33 = .ok (.invokevirtual 82, 3) := by decide +kernel
theorem dT_put_36 : decode bT_put 36 = .ok (.ifCond .ne 38, 3) := by decide +kernel
theorem dT_put_39 : decode bT_put 39 = .ok (.aload_n 0, 1) := by decide +kernel
theorem dT_put_40 : decode bT_put 40 = .ok (.getfield 36, 3) := by decide +kernel
theorem dT_put_43 : decode bT_put 43 = .ok (.getfield 64, 3) := by decide +kernel
theorem dT_put_46 : decode bT_put 46 = .ok (.sipush 300, 3) := by decide +kernel
theorem dT_put_49 : decode bT_put 49 = .ok (.if_icmp .lt 6, 3) := by decide +kernel
theorem dT_put_52 : decode bT_put 52 = .ok (.bipush (-3), 2) := by decide +kernel
theorem dT_put_54 : decode bT_put 54 = .ok (.ireturn, 1) := by decide +kernel
theorem dT_put_55 : decode bT_put 55 = .ok (.aload_n 0, 1) := by decide +kernel
theorem dT_put_56 : decode bT_put 56 = .ok (.getfield 36, 3) := by decide +kernel
theorem dT_put_59 : decode bT_put 59 = .ok (.iload 6, 2) := by decide +kernel
theorem dT_put_61 : decode bT_put 61 = .ok (.iload_n 2, 1) := by decide +kernel
theorem dT_put_62 : decode bT_put 62 = .ok (.aload_n 0, 1) := by decide +kernel
theorem dT_put_63 : decode bT_put 63 = .ok (.getfield 9, 3) := by decide +kernel
theorem dT_put_66 : decode bT_put 66 = .ok (.iload_n 1, 1) := by decide +kernel
theorem dT_put_67 : decode bT_put 67 = .ok (.iaload, 1) := by decide +kernel
theorem dT_put_68 : decode bT_put 68 = .ok (.invokestatic 85, 3) := by decide +kernel
theorem dT_put_71 : decode bT_put 71 = .ok (.invokevirtual 89, 3) := by decide +kernel
theorem dT_put_74 : decode bT_put 74 = .ok (.aload_n 0, 1) := by decide +kernel
theorem dT_put_75 : decode bT_put 75 = .ok (.getfield 36, 3) := by decide +kernel
theorem dT_put_78 : decode bT_put 78 = .ok (.getfield 93, 3) := by decide +kernel
theorem dT_put_81 : decode bT_put 81 = .ok (.iload 6, 2) := by decide +kernel
theorem dT_put_83 : decode bT_put 83 = .ok (.aload_n 0, 1) := by decide +kernel
theorem dT_put_84 : decode bT_put 84 = .ok (.getfield 36, 3) := by decide +kernel
theorem dT_put_87 : decode bT_put 87 = .ok (.getfield 93, 3) := by decide +kernel
theorem dT_put_90 : decode bT_put 90 = .ok (.iload 6, 2) := by decide +kernel
theorem dT_put_92 : decode bT_put 92 = .ok (.aaload, 1) := by decide +kernel
theorem dT_put_93 : decode bT_put 93 = .ok (.iload_n 3, 1) := by decide +kernel
theorem dT_put_94 : decode bT_put 94 = .ok (.iload 4, 2) := by decide +kernel
theorem dT_put_96 : decode bT_put 96 = .ok (.iload 5, 2) := by decide +kernel
theorem dT_put_98 : decode bT_put 98 = .ok (.invokevirtual 97, 3) := by decide +kernel
theorem dT_put_101 : decode bT_put 101 = .ok (.aastore, 1) := by decide +kernel
theorem dT_put_102 : decode bT_put 102 = .ok (.aload_n 0, 1) := by decide +kernel
theorem dT_put_103 : decode bT_put 103 = .ok (.iload_n 1, 1) := by decide +kernel
theorem dT_put_104 : decode bT_put 104 = .ok (.invokevirtual 67, 3) := by decide +kernel
theorem dT_put_107 : decode bT_put 107 = .ok (.ireturn, 1) := by decide +kernel
theorem dT_isColumn_0 : decode bT_isColumn 0 = .ok (.iload_n 1, 1) := by decide +kernel
theorem dT_isColumn_1 : decode bT_isColumn 1 = .ok (.invokestatic 60, 3) := by decide +kernel
theorem dT_isColumn_4 : decode bT_isColumn 4 = .ok (.ifCond .eq 21, 3) := by decide +kernel
theorem dT_isColumn_7 : decode bT_isColumn 7 = .ok (.iload_n 2, 1) := by decide +kernel
theorem dT_isColumn_8 : decode bT_isColumn 8 = .ok (.ifCond .lt 17, 3) := by decide +kernel
theorem dT_isColumn_11 : decode bT_isColumn 11 = .ok (.iload_n 2, 1) := by decide +kernel
theorem dT_isColumn_12 : decode bT_isColumn 12 = .ok (.aload_n 0, 1) := by decide +kernel
theorem dT_isColumn_13 : decode bT_isColumn 13 = .ok (.getfield 9, 3) := by decide +kernel
theorem dT_isColumn_16 : decode bT_isColumn 16 = .ok (.iload_n 1, 1) := by decide +kernel
theorem dT_isColumn_17 : decode bT_isColumn 17 = .ok (.iaload, 1) := by decide +kernel
theorem dT_isColumn_18 : decode bT_isColumn 18 = .ok (.if_icmp .ge 7, 3) := by decide +kernel
theorem dT_isColumn_21 : decode bT_isColumn 21 = .ok (.iconst 1, 1) := by decide +kernel
theorem dT_isColumn_22 : decode bT_isColumn 22 = .ok (.goto 4, 3) := by decide +kernel
theorem dT_isColumn_25 : decode bT_isColumn 25 = .ok (.iconst 0, 1) := by decide +kernel
theorem dT_isColumn_26 : decode bT_isColumn 26 = .ok (.ireturn, 1) := by decide +kernel
theorem dT_draftRowsOf_0 : decode bT_draftRowsOf 0 = .ok (.aload_n 0, 1) := by decide +kernel
theorem dT_draftRowsOf_1 : decode bT_draftRowsOf 1 = .ok (.getfield 36, 3) := by decide +kernel
theorem dT_draftRowsOf_4 : decode bT_draftRowsOf 4 = .ok (.iconst 0, 1) := by decide +kernel
theorem dT_draftRowsOf_5 : decode bT_draftRowsOf 5 = .ok (.putfield 64, 3) := by decide +kernel
theorem dT_draftRowsOf_8 : decode bT_draftRowsOf 8 = .ok (.aload_n 0, 1) := by decide +kernel
theorem dT_draftRowsOf_9 : decode bT_draftRowsOf 9 = .ok (.getfield 15, 3) := by decide +kernel
theorem dT_draftRowsOf_12 : decode bT_draftRowsOf 12 = .ok (.iload_n 1, 1) := by decide +kernel
theorem dT_draftRowsOf_13 : decode bT_draftRowsOf 13 = .ok (.aaload, 1) := by decide +kernel
theorem dT_draftRowsOf_14 : decode bT_draftRowsOf 14 = .ok (.aload_n 0, 1) := by decide +kernel
theorem dT_draftRowsOf_15 : decode bT_draftRowsOf 15 = .ok (.invokevirtual 126, 3) := by decide +kernel
theorem dT_draftRowsOf_18 : decode bT_draftRowsOf 18 = .ok (.aload_n 0, 1) := by decide +kernel
theorem dT_draftRowsOf_19 : decode bT_draftRowsOf 19 = .ok (.getfield 36, 3) := by decide +kernel
theorem dT_draftRowsOf_22 : decode bT_draftRowsOf 22 = .ok (.iconst 5, 1) := by decide +kernel
theorem dT_draftRowsOf_23 : decode bT_draftRowsOf 23 = .ok (.invokestatic 167, 3) := by decide +kernel
theorem dT_draftRowsOf_26 : decode bT_draftRowsOf 26 = .ok (.return_, 1) := by decide +kernel
theorem dT_newStamp_0 : decode bT_newStamp 0 = .ok (.aload_n 0, 1) := by decide +kernel
theorem dT_newStamp_1 : decode bT_newStamp 1 = .ok (.dup, 1) := by decide +kernel
theorem dT_newStamp_2 : decode bT_newStamp 2 = .ok (.getfield 46, 3) := by decide +kernel
theorem dT_newStamp_5 : decode bT_newStamp 5 = .ok (.iconst 1, 1) := by decide +kernel
theorem dT_newStamp_6 : decode bT_newStamp 6 = .ok (.iadd, 1) := by decide +kernel
theorem dT_newStamp_7 : decode bT_newStamp 7 = .ok (.putfield 46, 3) := by decide +kernel
theorem dT_newStamp_10 : decode bT_newStamp 10 = .ok (.aload_n 0, 1) := by decide +kernel
theorem dT_newStamp_11 : decode bT_newStamp 11 = .ok (.getfield 46, 3) := by decide +kernel
theorem dT_newStamp_14 : decode bT_newStamp 14 = .ok (.ireturn, 1) := by decide +kernel
theorem dT_gather_0 : decode bT_gather 0 = .ok (.iload_n 3, 1) := by decide +kernel
theorem dT_gather_1 : decode bT_gather 1 = .ok (.ifCond .lt 11, 3) := by decide +kernel
theorem dT_gather_4 : decode bT_gather 4 = .ok (.aload_n 0, 1) := by decide +kernel
theorem dT_gather_5 : decode bT_gather 5 = .ok (.getfield 188, 3) := by decide +kernel
theorem dT_gather_8 : decode bT_gather 8 = .ok (.iload_n 1, 1) := by decide +kernel
theorem dT_gather_9 : decode bT_gather 9 = .ok (.if_icmp .ne 4, 3) := by decide +kernel
theorem dT_gather_12 : decode bT_gather 12 = .ok (.return_, 1) := by decide +kernel
theorem dT_gather_13 : decode bT_gather 13 = .ok (.aload_n 0, 1) := by decide +kernel
theorem dT_gather_14 : decode bT_gather 14 = .ok (.getfield 194, 3) := by decide +kernel
theorem dT_gather_17 : decode bT_gather 17 = .ok (.astore 4, 2) := by decide +kernel
theorem dT_gather_19 : decode bT_gather 19 = .ok (.aload 4, 2) := by decide +kernel
theorem dT_gather_21 : decode bT_gather 21 = .ok (.arraylength, 1) := by decide +kernel
theorem dT_gather_22 : decode bT_gather 22 = .ok (.istore 5, 2) := by decide +kernel
theorem dT_gather_24 : decode bT_gather 24 = .ok (.iconst 0, 1) := by decide +kernel
theorem dT_gather_25 : decode bT_gather 25 = .ok (.istore 6, 2) := by decide +kernel
theorem dT_gather_27 : decode bT_gather 27 = .ok (.iload 6, 2) := by decide +kernel
theorem dT_gather_29 : decode bT_gather 29 = .ok (.iload 5, 2) := by decide +kernel
theorem dT_gather_31 : decode bT_gather 31 = .ok (.if_icmp .ge 22, 3) := by decide +kernel
theorem dT_gather_34 : decode bT_gather 34 = .ok (.aload 4, 2) := by decide +kernel
theorem dT_gather_36 : decode bT_gather 36 = .ok (.iload 6, 2) := by decide +kernel
theorem dT_gather_38 : decode bT_gather 38 = .ok (.aaload, 1) := by decide +kernel
theorem dT_gather_39 : decode bT_gather 39 = .ok (.astore 7, 2) := by decide +kernel
theorem dT_gather_41 : decode bT_gather 41 = .ok (.aload_n 2, 1) := by decide +kernel
theorem dT_gather_42 : decode bT_gather 42 = .ok (.aload 7, 2) := by decide +kernel
theorem dT_gather_44 : decode bT_gather 44 = .ok (.invokevirtual 195, 3) := by decide +kernel
theorem dT_gather_47 : decode bT_gather 47 = .ok (.iinc 6 1, 3) := by decide +kernel
theorem dT_gather_50 : decode bT_gather 50 = .ok (.goto (-23), 3) := by decide +kernel
theorem dT_gather_53 : decode bT_gather 53 = .ok (.aload_n 0, 1) := by decide +kernel
theorem dT_gather_54 : decode bT_gather 54 = .ok (.getfield 191, 3) := by decide +kernel
theorem dT_gather_57 : decode bT_gather 57 = .ok (.astore 4, 2) := by decide +kernel
theorem dT_gather_59 : decode bT_gather 59 = .ok (.aload 4, 2) := by decide +kernel
theorem dT_gather_61 : decode bT_gather 61 = .ok (.arraylength, 1) := by decide +kernel
theorem dT_gather_62 : decode bT_gather 62 = .ok (.istore 5, 2) := by decide +kernel
theorem dT_gather_64 : decode bT_gather 64 = .ok (.iconst 0, 1) := by decide +kernel
theorem dT_gather_65 : decode bT_gather 65 = .ok (.istore 6, 2) := by decide +kernel
theorem dT_gather_67 : decode bT_gather 67 = .ok (.iload 6, 2) := by decide +kernel
theorem dT_gather_69 : decode bT_gather 69 = .ok (.iload 5, 2) := by decide +kernel
theorem dT_gather_71 : decode bT_gather 71 = .ok (.if_icmp .ge 26, 3) := by decide +kernel
theorem dT_gather_74 : decode bT_gather 74 = .ok (.aload 4, 2) := by decide +kernel
theorem dT_gather_76 : decode bT_gather 76 = .ok (.iload 6, 2) := by decide +kernel
theorem dT_gather_78 : decode bT_gather 78 = .ok (.aaload, 1) := by decide +kernel
theorem dT_gather_79 : decode bT_gather 79 = .ok (.astore 7, 2) := by decide +kernel
theorem dT_gather_81 : decode bT_gather 81 = .ok (.aload 7, 2) := by decide +kernel
theorem dT_gather_83 : decode bT_gather 83 = .ok (.iload_n 1, 1) := by decide +kernel
theorem dT_gather_84 : decode bT_gather 84 = .ok (.aload_n 2, 1) := by decide +kernel
theorem dT_gather_85 : decode bT_gather 85 = .ok (.iload_n 3, 1) := by decide +kernel
theorem dT_gather_86 : decode bT_gather 86 = .ok (.iconst 1, 1) := by decide +kernel
theorem dT_gather_87 : decode bT_gather 87 = .ok (.isub, 1) := by decide +kernel
theorem dT_gather_88 : decode bT_gather 88 = .ok (.invokestatic 167, 3) := by decide +kernel
theorem dT_gather_91 : decode bT_gather 91 = .ok (.iinc 6 1, 3) := by decide +kernel
theorem dT_gather_94 : decode bT_gather 94 = .ok (.goto (-27), 3) := by decide +kernel
theorem dT_gather_97 : decode bT_gather 97 = .ok (.return_, 1) := by decide +kernel
theorem dT_blankRow_0 : decode bT_blankRow 0 = .ok (.new 50, 3) := by decide +kernel
theorem dT_blankRow_3 : decode bT_blankRow 3 = .ok (.dup, 1) := by decide +kernel
theorem dT_blankRow_4 : decode bT_blankRow 4 = .ok (.iload_n 0, 1) := by decide +kernel
theorem dT_blankRow_5 : decode bT_blankRow 5 = .ok (.iload_n 1, 1) := by decide +kernel
theorem dT_blankRow_6 : decode bT_blankRow 6 = .ok (.newarray .int, 2) := by decide +kernel
theorem dT_blankRow_8 : decode bT_blankRow 8 = .ok (.iconst 1, 1) := by decide +kernel
theorem dT_blankRow_9 : decode bT_blankRow 9 = .ok (.iload_n 1, 1) := by decide +kernel
theorem dT_blankRow_10 : decode bT_blankRow 10 = .ok (.ishl, 1) := by decide +kernel
theorem dT_blankRow_11 : decode bT_blankRow 11 = .ok (.iconst 1, 1) := by decide +kernel
theorem dT_blankRow_12 : decode bT_blankRow 12 = .ok (.isub, 1) := by decide +kernel
theorem dT_blankRow_13 : decode bT_blankRow 13 = .ok (.invokespecial 225, 3) := by decide +kernel
theorem dT_blankRow_16 : decode bT_blankRow 16 = .ok (.areturn, 1) := by decide +kernel
theorem dT_levelOf_0 : decode bT_levelOf 0 = .ok (.iload_n 0, 1) := by decide +kernel
theorem dT_levelOf_1 : decode bT_levelOf 1 = .ok (.ldc 228, 2) := by decide +kernel
theorem dT_levelOf_3 : decode bT_levelOf 3 = .ok (.imul, 1) := by decide +kernel
theorem dT_levelOf_4 : decode bT_levelOf 4 = .ok (.istore_n 1, 1) := by decide +kernel
theorem dT_levelOf_5 : decode bT_levelOf 5 = .ok (.iload_n 1, 1) := by decide +kernel
theorem dT_levelOf_6 : decode bT_levelOf 6 = .ok (.iload_n 1, 1) := by decide +kernel
theorem dT_levelOf_7 : decode bT_levelOf 7 = .ok (.bipush 15, 2) := by decide +kernel
theorem dT_levelOf_9 : decode bT_levelOf 9 = .ok (.iushr, 1) := by decide +kernel
theorem dT_levelOf_10 : decode bT_levelOf 10 = .ok (.ixor, 1) := by decide +kernel
theorem dT_levelOf_11 : decode bT_levelOf 11 = .ok (.istore_n 1, 1) := by decide +kernel
theorem dT_levelOf_12 : decode bT_levelOf 12 = .ok (.iload_n 1, 1) := by decide +kernel
theorem dT_levelOf_13 : decode bT_levelOf 13 = .ok (.ldc 229, 2) := by decide +kernel
theorem dT_levelOf_15 : decode bT_levelOf 15 = .ok (.imul, 1) := by decide +kernel
theorem dT_levelOf_16 : decode bT_levelOf 16 = .ok (.istore_n 1, 1) := by decide +kernel
theorem dT_levelOf_17 : decode bT_levelOf 17 = .ok (.iload_n 1, 1) := by decide +kernel
theorem dT_levelOf_18 : decode bT_levelOf 18 = .ok (.iload_n 1, 1) := by decide +kernel
theorem dT_levelOf_19 : decode bT_levelOf 19 = .ok (.bipush 13, 2) := by decide +kernel
theorem dT_levelOf_21 : decode bT_levelOf 21 = .ok (.iushr, 1) := by decide +kernel
theorem dT_levelOf_22 : decode bT_levelOf 22 = .ok (.ixor, 1) := by decide +kernel
theorem dT_levelOf_23 : decode bT_levelOf 23 = .ok (.istore_n 1, 1) := by decide +kernel
theorem dT_levelOf_24 : decode bT_levelOf 24 = .ok (.iconst 0, 1) := by decide +kernel
theorem dT_levelOf_25 : decode bT_levelOf 25 = .ok (.istore_n 2, 1) := by decide +kernel
theorem dT_levelOf_26 : decode bT_levelOf 26 = .ok (.iload_n 2, 1) := by decide +kernel
theorem dT_levelOf_27 : decode bT_levelOf 27 = .ok (.iconst 5, 1) := by decide +kernel
theorem dT_levelOf_28 : decode bT_levelOf 28 = .ok (.if_icmp .ge 19, 3) := by decide +kernel
theorem dT_levelOf_31 : decode bT_levelOf 31 = .ok (.iload_n 1, 1) := by decide +kernel
theorem dT_levelOf_32 : decode bT_levelOf 32 = .ok (.iconst 3, 1) := by decide +kernel
theorem dT_levelOf_33 : decode bT_levelOf 33 = .ok (.iand, 1) := by decide +kernel
theorem dT_levelOf_34 : decode bT_levelOf 34 = .ok (.ifCond .ne 13, 3) := by decide +kernel
theorem dT_levelOf_37 : decode bT_levelOf 37 = .ok (.iload_n 1, 1) := by decide +kernel
theorem dT_levelOf_38 : decode bT_levelOf 38 = .ok (.iconst 2, 1) := by decide +kernel
theorem dT_levelOf_39 : decode bT_levelOf 39 = .ok (.iushr, 1) := by decide +kernel
theorem dT_levelOf_40 : decode bT_levelOf 40 = .ok (.istore_n 1, 1) := by decide +kernel
theorem dT_levelOf_41 : decode bT_levelOf 41 = .ok (.iinc 2 1, 3) := by decide +kernel
theorem dT_levelOf_44 : decode bT_levelOf 44 = .ok (.goto (-18), 3) := by decide +kernel
theorem dT_levelOf_47 : decode bT_levelOf 47 = .ok (.iload_n 2, 1) := by decide +kernel
theorem dT_levelOf_48 : decode bT_levelOf 48 = .ok (.ireturn, 1) := by decide +kernel
theorem dT_remove_0 : decode bT_remove 0 = .ok (.iload_n 1, 1) := by decide +kernel
theorem dT_remove_1 : decode bT_remove 1 = .ok (.invokestatic 60, 3) := by decide +kernel
theorem dT_remove_4 : decode bT_remove 4 = .ok (.ifCond .ne 5, 3) := by decide +kernel
theorem dT_remove_7 : decode bT_remove 7 = .ok (.iconst (-1), 1) := by decide +kernel
theorem dT_remove_8 : decode bT_remove 8 = .ok (.ireturn, 1) := by decide +kernel
theorem dT_remove_9 : decode bT_remove 9 = .ok (.aload_n 0, 1) := by decide +kernel
theorem dT_remove_10 : decode bT_remove 10 = .ok (.iload_n 1, 1) := by decide +kernel
theorem dT_remove_11 : decode bT_remove 11 = .ok (.invokevirtual 75, 3) := by decide +kernel
theorem dT_remove_14 : decode bT_remove 14 = .ok (.aload_n 0, 1) := by decide +kernel
theorem dT_remove_15 : decode bT_remove 15 = .ok (.getfield 36, 3) := by decide +kernel
theorem dT_remove_18 : decode bT_remove 18 = .ok (.iload_n 2, 1) := by decide +kernel
theorem dT_remove_19 : decode bT_remove 19 = .ok (.invokevirtual 79, 3) := by decide +kernel
theorem dT_remove_22 : decode bT_remove 22 = .ok (.istore_n 3, 1) := by decide +kernel
theorem dT_remove_23 : decode bT_remove 23 = .ok (.aload_n 0, 1) := by decide +kernel
theorem dT_remove_24 : decode bT_remove 24 = .ok (.getfield 36, 3) := by decide +kernel
theorem dT_remove_27 : decode bT_remove 27 = .ok (.iload_n 3, 1) := by decide +kernel
theorem dT_remove_28 : decode bT_remove 28 = .ok (.iload_n 2, 1) := by decide +kernel
theorem dT_remove_29 : decode bT_remove 29 = .ok (.invokevirtual 82, 3) := by decide +kernel
theorem dT_remove_32 : decode bT_remove 32 = .ok (.ifCond .ne 6, 3) := by decide +kernel
theorem dT_remove_35 : decode bT_remove 35 = .ok (.bipush (-2), 2) := by decide +kernel
theorem dT_remove_37 : decode bT_remove 37 = .ok (.ireturn, 1) := by decide +kernel
theorem dT_remove_38 : decode bT_remove 38 = .ok (.aload_n 0, 1) := by decide +kernel
theorem dT_remove_39 : decode bT_remove 39 = .ok (.getfield 36, 3) := by decide +kernel
theorem dT_remove_42 : decode bT_remove 42 = .ok (.iload_n 3, 1) := by decide +kernel
theorem dT_remove_43 : decode bT_remove 43 = .ok (.invokevirtual 101, 3) := by decide +kernel
theorem dT_remove_46 : decode bT_remove 46 = .ok (.aload_n 0, 1) := by decide +kernel
theorem dT_remove_47 : decode bT_remove 47 = .ok (.iload_n 1, 1) := by decide +kernel
theorem dT_remove_48 : decode bT_remove 48 = .ok (.invokevirtual 67, 3) := by decide +kernel
theorem dT_remove_51 : decode bT_remove 51 = .ok (.ireturn, 1) := by decide +kernel
theorem dT_copy_0 : decode bT_copy 0 = .ok (.iload_n 1, 1) := by decide +kernel
theorem dT_copy_1 : decode bT_copy 1 = .ok (.invokestatic 60, 3) := by decide +kernel
theorem dT_copy_4 : decode bT_copy 4 = .ok (.ifCond .eq 10, 3) := by decide +kernel
theorem dT_copy_7 : decode bT_copy 7 = .ok (.iload_n 2, 1) := by decide +kernel
theorem dT_copy_8 : decode bT_copy 8 = .ok (.invokestatic 60, 3) := by decide +kernel
theorem dT_copy_11 : decode bT_copy 11 = .ok (.ifCond .ne 5, 3) := by decide +kernel
theorem dT_copy_14 : decode bT_copy 14 = .ok (.iconst (-1), 1) := by decide +kernel
theorem dT_copy_15 : decode bT_copy 15 = .ok (.ireturn, 1) := by decide +kernel
theorem dT_copy_16 : decode bT_copy 16 = .ok (.aload_n 0, 1) := by decide +kernel
theorem dT_copy_17 : decode bT_copy 17 = .ok (.getfield 9, 3) := by decide +kernel
theorem dT_copy_20 : decode bT_copy 20 = .ok (.iload_n 1, 1) := by decide +kernel
theorem dT_copy_21 : decode bT_copy 21 = .ok (.aload_n 0, 1) := by decide +kernel
theorem dT_copy_22 : decode bT_copy 22 = .ok (.getfield 9, 3) := by decide +kernel
theorem dT_copy_25 : decode bT_copy 25 = .ok (.iload_n 2, 1) := by decide +kernel
theorem dT_copy_26 : decode bT_copy 26 = .ok (.iaload, 1) := by decide +kernel
theorem dT_copy_27 : decode bT_copy 27 = .ok (.iastore, 1) := by decide +kernel
theorem dT_copy_28 : decode bT_copy 28 = .ok (.aload_n 0, 1) := by decide +kernel
theorem dT_copy_29 : decode bT_copy 29 = .ok (.getfield 15, 3) := by decide +kernel
theorem dT_copy_32 : decode bT_copy 32 = .ok (.iload_n 1, 1) := by decide +kernel
theorem dT_copy_33 : decode bT_copy 33 = .ok (.aload_n 0, 1) := by decide +kernel
theorem dT_copy_34 : decode bT_copy 34 = .ok (.getfield 15, 3) := by decide +kernel
theorem dT_copy_37 : decode bT_copy 37 = .ok (.iload_n 2, 1) := by decide +kernel
theorem dT_copy_38 : decode bT_copy 38 = .ok (.aaload, 1) := by decide +kernel
theorem dT_copy_39 : decode bT_copy 39 = .ok (.aastore, 1) := by decide +kernel
theorem dT_copy_40 : decode bT_copy 40 = .ok (.iconst 0, 1) := by decide +kernel
theorem dT_copy_41 : decode bT_copy 41 = .ok (.ireturn, 1) := by decide +kernel
theorem dT_get_0 : decode bT_get 0 = .ok (.aload_n 0, 1) := by decide +kernel
theorem dT_get_1 : decode bT_get 1 = .ok (.iload_n 1, 1) := by decide +kernel
theorem dT_get_2 : decode bT_get 2 = .ok (.iload_n 3, 1) := by decide +kernel
theorem dT_get_3 : decode bT_get 3 = .ok (.invokevirtual 71, 3) := by decide +kernel
theorem dT_get_6 : decode bT_get 6 = .ok (.ifCond .ne 7, 3) := by decide +kernel
theorem dT_get_9 : decode bT_get 9 = .ok (.ldc2_w 104, 3) := by decide +kernel
theorem dT_get_12 : decode bT_get 12 = .ok (.lreturn, 1) := by decide +kernel
theorem dT_get_13 : decode bT_get 13 = .ok (.aload_n 0, 1) := by decide +kernel
theorem dT_get_14 : decode bT_get 14 = .ok (.getfield 15, 3) := by decide +kernel
theorem dT_get_17 : decode bT_get 17 = .ok (.iload_n 1, 1) := by decide +kernel
theorem dT_get_18 : decode bT_get 18 = .ok (.aaload, 1) := by decide +kernel
theorem dT_get_19 : decode bT_get 19 = .ok (.iload_n 2, 1) := by decide +kernel
theorem dT_get_20 : decode bT_get 20 = .ok (.invokestatic 106, 3) := by decide +kernel
theorem dT_get_23 : decode bT_get 23 = .ok (.astore 4, 2) := by decide +kernel
theorem dT_get_25 : decode bT_get 25 = .ok (.aload 4, 2) := by decide +kernel
theorem dT_get_27 : decode bT_get 27 = .ok (.ifnonnull 7, 3) := by decide +kernel
theorem dT_get_30 : decode bT_get 30 = .ok (.ldc2_w 110, 3) := by decide +kernel
theorem dT_get_33 : decode bT_get 33 = .ok (.lreturn, 1) := by decide +kernel
theorem dT_get_34 : decode bT_get 34 = .ok (.aload 4, 2) := by decide +kernel
theorem dT_get_36 : decode bT_get 36 = .ok (.iload_n 3, 1) := by decide +kernel
theorem dT_get_37 : decode bT_get 37 = .ok (.invokevirtual 112, 3) := by decide +kernel
theorem dT_get_40 : decode bT_get 40 = .ok (.ifCond .eq 9, 3) := by decide +kernel
theorem dT_get_43 : decode bT_get 43 = .ok (.ldc2_w 115, 3) := by decide +kernel
theorem dT_get_46 : decode bT_get 46 = .ok (.goto 11, 3) := by decide +kernel
theorem dT_get_49 : decode bT_get 49 = .ok (.aload 4, 2) := by decide +kernel
theorem dT_get_51 : decode bT_get 51 = .ok (.getfield 117, 3) := by decide +kernel
theorem dT_get_54 : decode bT_get 54 = .ok (.iload_n 3, 1) := by decide +kernel
theorem dT_get_55 : decode bT_get 55 = .ok (.iaload, 1) := by decide +kernel
theorem dT_get_56 : decode bT_get 56 = .ok (.i2l, 1) := by decide +kernel
theorem dT_get_57 : decode bT_get 57 = .ok (.lreturn, 1) := by decide +kernel
theorem dT_rowWithKey_0 : decode bT_rowWithKey 0 = .ok (.aload_n 0, 1) := by decide +kernel
theorem dT_rowWithKey_1 : decode bT_rowWithKey 1 = .ok (.astore_n 2, 1) := by decide +kernel
theorem dT_rowWithKey_2 : decode bT_rowWithKey 2 = .ok (.iconst 5, 1) := by decide +kernel
theorem dT_rowWithKey_3 : decode bT_rowWithKey 3 = .ok (.istore_n 3, 1) := by decide +kernel
theorem dT_rowWithKey_4 : decode bT_rowWithKey 4 = .ok (.iload_n 3, 1) := by decide +kernel
theorem dT_rowWithKey_5 : decode bT_rowWithKey 5 = .ok (.ifCond .le 59, 3) := by decide +kernel
theorem dT_rowWithKey_8 : decode bT_rowWithKey 8 = .ok (.aload_n 2, 1) := by decide +kernel
theorem dT_rowWithKey_9 : decode bT_rowWithKey 9 = .ok (.getfield 123, 3) := by decide +kernel
theorem dT_rowWithKey_12 : decode bT_rowWithKey 12 = .ok (.ifCond .le 52, 3) := by decide +kernel
theorem dT_rowWithKey_15 : decode bT_rowWithKey 15 = .ok (.iconst 0, 1) := by decide +kernel
theorem dT_rowWithKey_16 : decode bT_rowWithKey 16 = .ok (.istore 4, 2) := by decide +kernel
theorem dT_rowWithKey_18 : decode bT_rowWithKey 18 = .ok (.iload 4, 2) := by decide +kernel
theorem dT_rowWithKey_20 : decode bT_rowWithKey 20 = .ok (.iconst 1, 1) := by decide +kernel
theorem dT_rowWithKey_21 : decode bT_rowWithKey 21 = .ok (.iadd, 1) := by decide +kernel
theorem dT_rowWithKey_22 : decode bT_rowWithKey 22 = .ok (.aload_n 2, 1) := by decide +kernel
theorem dT_rowWithKey_23 : decode bT_rowWithKey 23 = .ok (.getfield 191, 3) := by decide +kernel
theorem dT_rowWithKey_26 : decode bT_rowWithKey 26 = .ok (.arraylength, 1) := by decide +kernel
theorem dT_rowWithKey_27 : decode bT_rowWithKey 27 = .ok (.if_icmp .ge 23, 3) := by decide +kernel
theorem dT_rowWithKey_30 : decode bT_rowWithKey 30 = .ok (.aload_n 2, 1) := by decide +kernel
theorem dT_rowWithKey_31 : decode bT_rowWithKey 31 = .ok (.getfield 191, 3) := by decide +kernel
theorem dT_rowWithKey_34 : decode bT_rowWithKey 34 = .ok (.iload 4, 2) := by decide +kernel
theorem dT_rowWithKey_36 : decode bT_rowWithKey 36 = .ok (.aaload, 1) := by decide +kernel
theorem dT_rowWithKey_37 : decode bT_rowWithKey 37 = .ok (.getfield 199, 3) := by decide +kernel
theorem dT_rowWithKey_40 : decode bT_rowWithKey 40 = .ok (.iload_n 1, 1) := by decide +kernel
theorem dT_rowWithKey_41 : decode bT_rowWithKey 41 = .ok (.if_icmp .ge 9, 3) := by decide +kernel
theorem dT_rowWithKey_44 : decode bT_rowWithKey 44 = .ok (.iinc 4 1, 3) := by decide +kernel
theorem dT_rowWithKey_47 : decode bT_rowWithKey 47 = .ok (.goto (-29), 3) := by decide +kernel
theorem dT_rowWithKey_50 : decode bT_rowWithKey 50 = .ok (.aload_n 2, 1) := by decide +kernel
theorem dT_rowWithKey_51 : decode bT_rowWithKey 51 = .ok (.getfield 191, 3) := by decide +kernel
theorem dT_rowWithKey_54 : decode bT_rowWithKey 54 = .ok (.iload 4, 2) := by decide +kernel
theorem dT_rowWithKey_56 : decode bT_rowWithKey 56 = .ok (.aaload, 1) := by decide +kernel
theorem dT_rowWithKey_57 : decode bT_rowWithKey 57 = .ok (.astore_n 2, 1) := by decide +kernel
theorem dT_rowWithKey_58 : decode bT_rowWithKey 58 = .ok (.iinc 3 (-1), 3) := by decide +kernel
theorem dT_rowWithKey_61 : decode bT_rowWithKey 61 = .ok (.goto (-57), 3) := by decide +kernel
theorem dT_rowWithKey_64 : decode bT_rowWithKey 64 = .ok (.aload_n 2, 1) := by decide +kernel
theorem dT_rowWithKey_65 : decode bT_rowWithKey 65 = .ok (.getfield 194, 3) := by decide +kernel
theorem dT_rowWithKey_68 : decode bT_rowWithKey 68 = .ok (.astore_n 3, 1) := by decide +kernel
theorem dT_rowWithKey_69 : decode bT_rowWithKey 69 = .ok (.aload_n 3, 1) := by decide +kernel
theorem dT_rowWithKey_70 : decode bT_rowWithKey 70 = .ok (.arraylength, 1) := by decide +kernel
theorem dT_rowWithKey_71 : decode bT_rowWithKey 71 = .ok (.istore 4, 2) := by decide +kernel
theorem dT_rowWithKey_73 : decode bT_rowWithKey 73 = .ok (.iconst 0, 1) := by decide +kernel
theorem dT_rowWithKey_74 : decode bT_rowWithKey 74 = .ok (.istore 5, 2) := by decide +kernel
theorem dT_rowWithKey_76 : decode bT_rowWithKey 76 = .ok (.iload 5, 2) := by decide +kernel
theorem dT_rowWithKey_78 : decode bT_rowWithKey 78 = .ok (.iload 4, 2) := by decide +kernel
theorem dT_rowWithKey_80 : decode bT_rowWithKey 80 = .ok (.if_icmp .ge 27, 3) := by decide +kernel
theorem dT_rowWithKey_83 : decode bT_rowWithKey 83 = .ok (.aload_n 3, 1) := by decide +kernel
theorem dT_rowWithKey_84 : decode bT_rowWithKey 84 = .ok (.iload 5, 2) := by decide +kernel
theorem dT_rowWithKey_86 : decode bT_rowWithKey 86 = .ok (.aaload, 1) := by decide +kernel
theorem dT_rowWithKey_87 : decode bT_rowWithKey 87 = .ok (.astore 6, 2) := by decide +kernel
theorem dT_rowWithKey_89 : decode bT_rowWithKey 89 = .ok (.aload 6, 2) := by decide +kernel
theorem dT_rowWithKey_91 : decode bT_rowWithKey 91 = .ok (.getfield 202, 3) := by decide +kernel
theorem dT_rowWithKey_94 : decode bT_rowWithKey 94 = .ok (.iload_n 1, 1) := by decide +kernel
theorem dT_rowWithKey_95 : decode bT_rowWithKey 95 = .ok (.if_icmp .ne 6, 3) := by decide +kernel
theorem dT_rowWithKey_98 : decode bT_rowWithKey 98 = .ok (.aload 6, 2) := by decide +kernel
theorem dT_rowWithKey_100 : decode bT_rowWithKey 100 = .ok (.areturn, 1) := by decide +kernel
theorem dT_rowWithKey_101 : decode bT_rowWithKey 101 = .ok (.iinc 5 1, 3) := by decide +kernel
theorem dT_rowWithKey_104 : decode bT_rowWithKey 104 = .ok (.goto (-28), 3) := by decide +kernel
theorem dT_rowWithKey_107 : decode bT_rowWithKey 107 = .ok (.aconst_null, 1) := by decide +kernel
theorem dT_rowWithKey_108 : decode bT_rowWithKey 108 = .ok (.areturn, 1) := by decide +kernel
theorem dT_measure_0 : decode bT_measure 0 = .ok (.iload_n 1, 1) := by decide +kernel
theorem dT_measure_1 : decode bT_measure 1 = .ok (.invokestatic 60, 3) := by decide +kernel
theorem dT_measure_4 : decode bT_measure 4 = .ok (.ifCond .ne 5, 3) := by decide +kernel
theorem dT_measure_7 : decode bT_measure 7 = .ok (.iconst (-1), 1) := by decide +kernel
theorem dT_measure_8 : decode bT_measure 8 = .ok (.ireturn, 1) := by decide +kernel
theorem dT_measure_9 : decode bT_measure 9 = .ok (.aload_n 0, 1) := by decide +kernel
theorem dT_measure_10 : decode bT_measure 10 = .ok (.getfield 15, 3) := by decide +kernel
theorem dT_measure_13 : decode bT_measure 13 = .ok (.iload_n 1, 1) := by decide +kernel
theorem dT_measure_14 : decode bT_measure 14 = .ok (.aaload, 1) := by decide +kernel
theorem dT_measure_15 : decode bT_measure 15 = .ok (.astore_n 3, 1) := by decide +kernel
theorem dT_measure_16 : decode bT_measure 16 = .ok (.iload_n 2, 1) := by decide +kernel
theorem dT_measure_17 : decode bT_measure 17 = .ok (.tableswitch 58 0 3 #[31, 36, 43, 48], 31) := by decide +kernel
theorem dT_measure_48 : decode bT_measure 48 = .ok (.aload_n 3, 1) := by decide +kernel
theorem dT_measure_49 : decode bT_measure 49 = .ok (.getfield 120, 3) := by decide +kernel
theorem dT_measure_52 : decode bT_measure 52 = .ok (.ireturn, 1) := by decide +kernel
theorem dT_measure_53 : decode bT_measure 53 = .ok (.aload_n 0, 1) := by decide +kernel
theorem dT_measure_54 : decode bT_measure 54 = .ok (.getfield 9, 3) := by decide +kernel
theorem dT_measure_57 : decode bT_measure 57 = .ok (.iload_n 1, 1) := by decide +kernel
theorem dT_measure_58 : decode bT_measure 58 = .ok (.iaload, 1) := by decide +kernel
theorem dT_measure_59 : decode bT_measure 59 = .ok (.ireturn, 1) := by decide +kernel
theorem dT_measure_60 : decode bT_measure 60 = .ok (.aload_n 3, 1) := by decide +kernel
theorem dT_measure_61 : decode bT_measure 61 = .ok (.getfield 123, 3) := by decide +kernel
theorem dT_measure_64 : decode bT_measure 64 = .ok (.ireturn, 1) := by decide +kernel
theorem dT_measure_65 : decode bT_measure 65 = .ok (.aload_n 3, 1) := by decide +kernel
theorem dT_measure_66 : decode bT_measure 66 = .ok (.aload_n 0, 1) := by decide +kernel
theorem dT_measure_67 : decode bT_measure 67 = .ok (.invokevirtual 126, 3) := by decide +kernel
theorem dT_measure_70 : decode bT_measure 70 = .ok (.iconst 5, 1) := by decide +kernel
theorem dT_measure_71 : decode bT_measure 71 = .ok (.invokestatic 129, 3) := by decide +kernel
theorem dT_measure_74 : decode bT_measure 74 = .ok (.ireturn, 1) := by decide +kernel
theorem dT_measure_75 : decode bT_measure 75 = .ok (.iconst (-1), 1) := by decide +kernel
theorem dT_measure_76 : decode bT_measure 76 = .ok (.ireturn, 1) := by decide +kernel
theorem dT_stampTree_0 : decode bT_stampTree 0 = .ok (.iload_n 2, 1) := by decide +kernel
theorem dT_stampTree_1 : decode bT_stampTree 1 = .ok (.ifCond .lt 11, 3) := by decide +kernel
theorem dT_stampTree_4 : decode bT_stampTree 4 = .ok (.aload_n 0, 1) := by decide +kernel
theorem dT_stampTree_5 : decode bT_stampTree 5 = .ok (.getfield 188, 3) := by decide +kernel
theorem dT_stampTree_8 : decode bT_stampTree 8 = .ok (.iload_n 1, 1) := by decide +kernel
theorem dT_stampTree_9 : decode bT_stampTree 9 = .ok (.if_icmp .ne 5, 3) := by decide +kernel
theorem dT_stampTree_12 : decode bT_stampTree 12 = .ok (.iconst 0, 1) := by decide +kernel
theorem dT_stampTree_13 : decode bT_stampTree 13 = .ok (.ireturn, 1) := by decide +kernel
theorem dT_stampTree_14 : decode bT_stampTree 14 = .ok (.aload_n 0, 1) := by decide +kernel
theorem dT_stampTree_15 : decode bT_stampTree 15 = .ok (.iload_n 1, 1) := by decide +kernel
theorem dT_stampTree_16 : decode bT_stampTree 16 = .ok (.putfield 188, 3) := by decide +kernel
theorem dT_stampTree_19 : decode bT_stampTree 19 = .ok (.iconst 1, 1) := by decide +kernel
theorem dT_stampTree_20 : decode bT_stampTree 20 = .ok (.istore_n 3, 1) := by decide +kernel
theorem dT_stampTree_21 : decode bT_stampTree 21 = .ok (.aload_n 0, 1) := by decide +kernel
theorem dT_stampTree_22 : decode bT_stampTree 22 = .ok (.getfield 191, 3) := by decide +kernel
theorem dT_stampTree_25 : decode bT_stampTree 25 = .ok (.astore 4, 2) := by decide +kernel
theorem dT_stampTree_27 : decode bT_stampTree 27 = .ok (.aload 4, 2) := by decide +kernel
theorem dT_stampTree_29 : decode bT_stampTree 29 = .ok (.arraylength, 1) := by decide +kernel
theorem dT_stampTree_30 : decode bT_stampTree 30 = .ok (.istore 5, 2) := by decide +kernel
theorem dT_stampTree_32 : decode bT_stampTree 32 = .ok (.iconst 0, 1) := by decide +kernel
theorem dT_stampTree_33 : decode bT_stampTree 33 = .ok (.istore 6, 2) := by decide +kernel
theorem dT_stampTree_35 : decode bT_stampTree 35 = .ok (.iload 6, 2) := by decide +kernel
theorem dT_stampTree_37 : decode bT_stampTree 37 = .ok (.iload 5, 2) := by decide +kernel
theorem dT_stampTree_39 : decode bT_stampTree 39 = .ok (.if_icmp .ge 28, 3) := by decide +kernel
theorem dT_stampTree_42 : decode bT_stampTree 42 = .ok (.aload 4, 2) := by decide +kernel
theorem dT_stampTree_44 : decode bT_stampTree 44 = .ok (.iload 6, 2) := by decide +kernel
theorem dT_stampTree_46 : decode bT_stampTree 46 = .ok (.aaload, 1) := by decide +kernel
theorem dT_stampTree_47 : decode bT_stampTree 47 = .ok (.astore 7, 2) := by decide +kernel
theorem dT_stampTree_49 : decode bT_stampTree 49 = .ok (.iload_n 3, 1) := by decide +kernel
theorem dT_stampTree_50 : decode bT_stampTree 50 = .ok (.aload 7, 2) := by decide +kernel
theorem dT_stampTree_52 : decode bT_stampTree 52 = .ok (.iload_n 1, 1) := by decide +kernel
theorem dT_stampTree_53 : decode bT_stampTree 53 = .ok (.iload_n 2, 1) := by decide +kernel
theorem dT_stampTree_54 : decode bT_stampTree 54 = .ok (.iconst 1, 1) := by decide +kernel
theorem dT_stampTree_55 : decode bT_stampTree 55 = .ok (.isub, 1) := by decide +kernel
theorem dT_stampTree_56 : decode bT_stampTree 56 = .ok (.invokestatic 129, 3) := by decide +kernel
theorem dT_stampTree_59 : decode bT_stampTree 59 = .ok (.iadd, 1) := by decide +kernel
theorem dT_stampTree_60 : decode bT_stampTree 60 = .ok (.istore_n 3, 1) := by decide +kernel
theorem dT_stampTree_61 : decode bT_stampTree 61 = .ok (.iinc 6 1, 3) := by decide +kernel
theorem dT_stampTree_64 : decode bT_stampTree 64 = .ok (.goto (-29), 3) := by decide +kernel
theorem dT_stampTree_67 : decode bT_stampTree 67 = .ok (.iload_n 3, 1) := by decide +kernel
theorem dT_stampTree_68 : decode bT_stampTree 68 = .ok (.ireturn, 1) := by decide +kernel
theorem dT_address_0 : decode bT_address 0 = .ok (.iload_n 1, 1) := by decide +kernel
theorem dT_address_1 : decode bT_address 1 = .ok (.invokestatic 60, 3) := by decide +kernel
theorem dT_address_4 : decode bT_address 4 = .ok (.ifCond .eq 16, 3) := by decide +kernel
theorem dT_address_7 : decode bT_address 7 = .ok (.aload_n 0, 1) := by decide +kernel
theorem dT_address_8 : decode bT_address 8 = .ok (.getfield 15, 3) := by decide +kernel
theorem dT_address_11 : decode bT_address 11 = .ok (.iload_n 1, 1) := by decide +kernel
theorem dT_address_12 : decode bT_address 12 = .ok (.aaload, 1) := by decide +kernel
theorem dT_address_13 : decode bT_address 13 = .ok (.iconst 5, 1) := by decide +kernel
theorem dT_address_14 : decode bT_address 14 = .ok (.invokestatic 133, 3) := by decide +kernel
theorem dT_address_17 : decode bT_address 17 = .ok (.goto 4, 3) := by decide +kernel
theorem dT_address_20 : decode bT_address 20 = .ok (.lconst 0, 1) := by decide +kernel
theorem dT_address_21 : decode bT_address 21 = .ok (.lreturn, 1) := by decide +kernel
theorem dT_addressOf_0 : decode bT_addressOf 0 = .ok (.iload_n 1, 1) := by decide +kernel
theorem dT_addressOf_1 : decode bT_addressOf 1 = .ok (.ifCond .lt 10, 3) := by decide +kernel
theorem dT_addressOf_4 : decode bT_addressOf 4 = .ok (.aload_n 0, 1) := by decide +kernel
theorem dT_addressOf_5 : decode bT_addressOf 5 = .ok (.getfield 205, 3) := by decide +kernel
theorem dT_addressOf_8 : decode bT_addressOf 8 = .ok (.ifCond .eq 8, 3) := by decide +kernel
theorem dT_addressOf_11 : decode bT_addressOf 11 = .ok (.aload_n 0, 1) := by decide +kernel
theorem dT_addressOf_12 : decode bT_addressOf 12 = .ok (.getfield 209, 3) := by decide +kernel
theorem dT_addressOf_15 : decode bT_addressOf 15 = .ok (.lreturn, 1) := by decide +kernel
theorem dT_addressOf_16 : decode bT_addressOf 16 = .ok (.ldc2_w 213, 3) := by decide +kernel
theorem dT_addressOf_19 : decode bT_addressOf 19 = .ok (.aload_n 0, 1) := by decide +kernel
theorem dT_addressOf_20 : decode bT_addressOf 20 = .ok (.getfield 123, 3) := by decide +kernel
theorem dT_addressOf_23 : decode bT_addressOf 23 = .ok (.i2l, 1) := by decide +kernel
theorem dT_addressOf_24 : decode bT_addressOf 24 = .ok (.invokestatic 215, 3) := by decide +kernel
theorem dT_addressOf_27 : decode bT_addressOf 27 = .ok (.lstore_n 2, 1) := by decide +kernel
theorem dT_addressOf_28 : decode bT_addressOf 28 = .ok (.aload_n 0, 1) := by decide +kernel
theorem dT_addressOf_29 : decode bT_addressOf 29 = .ok (.getfield 194, 3) := by decide +kernel
theorem dT_addressOf_32 : decode bT_addressOf 32 = .ok (.astore 4, 2) := by decide +kernel
theorem dT_addressOf_34 : decode bT_addressOf 34 = .ok (.aload 4, 2) := by decide +kernel
theorem dT_addressOf_36 : decode bT_addressOf 36 = .ok (.arraylength, 1) := by decide +kernel
theorem dT_addressOf_37 : decode bT_addressOf 37 = .ok (.istore 5, 2) := by decide +kernel
theorem dT_addressOf_39 : decode bT_addressOf 39 = .ok (.iconst 0, 1) := by decide +kernel
theorem dT_addressOf_40 : decode bT_addressOf 40 = .ok (.istore 6, 2) := by decide +kernel
theorem dT_addressOf_42 : decode bT_addressOf 42 = .ok (.iload 6, 2) := by decide +kernel
theorem dT_addressOf_44 : decode bT_addressOf 44 = .ok (.iload 5, 2) := by decide +kernel
theorem dT_addressOf_46 : decode bT_addressOf 46 = .ok (.if_icmp .ge 23, 3) := by decide +kernel
theorem dT_addressOf_49 : decode bT_addressOf 49 = .ok (.aload 4, 2) := by decide +kernel
theorem dT_addressOf_51 : decode bT_addressOf 51 = .ok (.iload 6, 2) := by decide +kernel
theorem dT_addressOf_53 : decode bT_addressOf 53 = .ok (.aaload, 1) := by decide +kernel
theorem dT_addressOf_54 : decode bT_addressOf 54 = .ok (.astore 7, 2) := by decide +kernel
theorem dT_addressOf_56 : decode bT_addressOf 56 = .ok (.lload_n 2, 1) := by decide +kernel
theorem dT_addressOf_57 : decode bT_addressOf 57 = .ok (.aload 7, 2) := by decide +kernel
theorem dT_addressOf_59 : decode bT_addressOf 59 = .ok (.invokestatic 219, 3) := by decide +kernel
theorem dT_addressOf_62 : decode bT_addressOf 62 = .ok (.lstore_n 2, 1) := by decide +kernel
theorem dT_addressOf_63 : decode bT_addressOf 63 = .ok (.iinc 6 1, 3) := by decide +kernel
theorem dT_addressOf_66 : decode bT_addressOf 66 = .ok (.goto (-24), 3) := by decide +kernel
theorem dT_addressOf_69 : decode bT_addressOf 69 = .ok (.aload_n 0, 1) := by decide +kernel
theorem dT_addressOf_70 : decode bT_addressOf 70 = .ok (.getfield 191, 3) := by decide +kernel
theorem dT_addressOf_73 : decode bT_addressOf 73 = .ok (.astore 4, 2) := by decide +kernel
theorem dT_addressOf_75 : decode bT_addressOf 75 = .ok (.aload 4, 2) := by decide +kernel
theorem dT_addressOf_77 : decode bT_addressOf 77 = .ok (.arraylength, 1) := by decide +kernel
theorem dT_addressOf_78 : decode bT_addressOf 78 = .ok (.istore 5, 2) := by decide +kernel
theorem dT_addressOf_80 : decode bT_addressOf 80 = .ok (.iconst 0, 1) := by decide +kernel
theorem dT_addressOf_81 : decode bT_addressOf 81 = .ok (.istore 6, 2) := by decide +kernel
theorem dT_addressOf_83 : decode bT_addressOf 83 = .ok (.iload 6, 2) := by decide +kernel
theorem dT_addressOf_85 : decode bT_addressOf 85 = .ok (.iload 5, 2) := by decide +kernel
theorem dT_addressOf_87 : decode bT_addressOf 87 = .ok (.if_icmp .ge 29, 3) := by decide +kernel
theorem dT_addressOf_90 : decode bT_addressOf 90 = .ok (.aload 4, 2) := by decide +kernel
theorem dT_addressOf_92 : decode bT_addressOf 92 = .ok (.iload 6, 2) := by decide +kernel
theorem dT_addressOf_94 : decode bT_addressOf 94 = .ok (.aaload, 1) := by decide +kernel
theorem dT_addressOf_95 : decode bT_addressOf 95 = .ok (.astore 7, 2) := by decide +kernel
theorem dT_addressOf_97 : decode bT_addressOf 97 = .ok (.lload_n 2, 1) := by decide +kernel
theorem dT_addressOf_98 : decode bT_addressOf 98 = .ok (.aload 7, 2) := by decide +kernel
theorem dT_addressOf_100 : decode bT_addressOf 100 = .ok (.iload_n 1, 1) := by decide +kernel
theorem dT_addressOf_101 : decode bT_addressOf 101 = .ok (.iconst 1, 1) := by decide +kernel
theorem dT_addressOf_102 : decode bT_addressOf 102 = .ok (.isub, 1) := by decide +kernel
theorem dT_addressOf_103 : decode bT_addressOf 103 = .ok (.invokestatic 133, 3) := by decide +kernel
theorem dT_addressOf_106 : decode bT_addressOf 106 = .ok (.invokestatic 215, 3) := by decide +kernel
theorem dT_addressOf_109 : decode bT_addressOf 109 = .ok (.lstore_n 2, 1) := by decide +kernel
theorem dT_addressOf_110 : decode bT_addressOf 110 = .ok (.iinc 6 1, 3) := by decide +kernel
theorem dT_addressOf_113 : decode bT_addressOf 113 = .ok (.goto (-30), 3) := by decide +kernel
theorem dT_addressOf_116 : decode bT_addressOf 116 = .ok (.aload_n 0, 1) := by decide +kernel
theorem dT_addressOf_117 : decode bT_addressOf 117 = .ok (.lload_n 2, 1) := by decide +kernel
theorem dT_addressOf_118 : decode bT_addressOf 118 = .ok (.putfield 209, 3) := by decide +kernel
theorem dT_addressOf_121 : decode bT_addressOf 121 = .ok (.aload_n 0, 1) := by decide +kernel
theorem dT_addressOf_122 : decode bT_addressOf 122 = .ok (.iconst 1, 1) := by decide +kernel
theorem dT_addressOf_123 : decode bT_addressOf 123 = .ok (.putfield 205, 3) := by decide +kernel
theorem dT_addressOf_126 : decode bT_addressOf 126 = .ok (.lload_n 2, 1) := by decide +kernel
theorem dT_addressOf_127 : decode bT_addressOf 127 = .ok (.lreturn, 1) := by decide +kernel
theorem dT_mixed_0 : decode bT_mixed 0 = .ok (.lload_n 0, 1) := by decide +kernel
theorem dT_mixed_1 : decode bT_mixed 1 = .ok (.lload_n 2, 1) := by decide +kernel
theorem dT_mixed_2 : decode bT_mixed 2 = .ok (.lxor, 1) := by decide +kernel
theorem dT_mixed_3 : decode bT_mixed 3 = .ok (.ldc2_w 223, 3) := by decide +kernel
theorem dT_mixed_6 : decode bT_mixed 6 = .ok (.lmul, 1) := by decide +kernel
theorem dT_mixed_7 : decode bT_mixed 7 = .ok (.lreturn, 1) := by decide +kernel
theorem dT_mixedRow_0 : decode bT_mixedRow 0 = .ok (.lload_n 0, 1) := by decide +kernel
theorem dT_mixedRow_1 : decode bT_mixedRow 1 = .ok (.aload_n 2, 1) := by decide +kernel
theorem dT_mixedRow_2 : decode bT_mixedRow 2 = .ok (.getfield 202, 3) := by decide +kernel
theorem dT_mixedRow_5 : decode bT_mixedRow 5 = .ok (.i2l, 1) := by decide +kernel
theorem dT_mixedRow_6 : decode bT_mixedRow 6 = .ok (.invokestatic 215, 3) := by decide +kernel
theorem dT_mixedRow_9 : decode bT_mixedRow 9 = .ok (.lstore_n 3, 1) := by decide +kernel
theorem dT_mixedRow_10 : decode bT_mixedRow 10 = .ok (.iconst 0, 1) := by decide +kernel
theorem dT_mixedRow_11 : decode bT_mixedRow 11 = .ok (.istore 5, 2) := by decide +kernel
theorem dT_mixedRow_13 : decode bT_mixedRow 13 = .ok (.iload 5, 2) := by decide +kernel
theorem dT_mixedRow_15 : decode bT_mixedRow 15 = .ok (.aload_n 2, 1) := by decide +kernel
theorem dT_mixedRow_16 : decode bT_mixedRow 16 = .ok (.getfield 117, 3) := by decide +kernel
theorem dT_mixedRow_19 : decode bT_mixedRow 19 = .ok (.arraylength, 1) := by decide +kernel
theorem dT_mixedRow_20 : decode bT_mixedRow 20 = .ok (.if_icmp .ge 43, 3) := by decide +kernel
theorem dT_mixedRow_23 : decode bT_mixedRow 23 = .ok (.aload_n 2, 1) := by decide +kernel
theorem dT_mixedRow_24 : decode bT_mixedRow 24 = .ok (.iload 5, 2) := by decide +kernel
theorem dT_mixedRow_26 : decode bT_mixedRow 26 = .ok (.invokevirtual 112, 3) := by decide +kernel
theorem dT_mixedRow_29 : decode bT_mixedRow 29 = .ok (.ifCond .eq 11, 3) := by decide +kernel
theorem dT_mixedRow_32 : decode bT_mixedRow 32 = .ok (.lload_n 3, 1) := by decide +kernel
theorem dT_mixedRow_33 : decode bT_mixedRow 33 = .ok (.lconst 0, 1) := by decide +kernel
theorem dT_mixedRow_34 : decode bT_mixedRow 34 = .ok (.invokestatic 215, 3) := by decide +kernel
theorem dT_mixedRow_37 : decode bT_mixedRow 37 = .ok (.goto 19, 3) := by decide +kernel
theorem dT_mixedRow_40 : decode bT_mixedRow 40 = .ok (.lload_n 3, 1) := by decide +kernel
theorem dT_mixedRow_41 : decode bT_mixedRow 41 = .ok (.lconst 1, 1) := by decide +kernel
theorem dT_mixedRow_42 : decode bT_mixedRow 42 = .ok (.invokestatic 215, 3) := by decide +kernel
theorem dT_mixedRow_45 : decode bT_mixedRow 45 = .ok (.aload_n 2, 1) := by decide +kernel
theorem dT_mixedRow_46 : decode bT_mixedRow 46 = .ok (.getfield 117, 3) := by decide +kernel
theorem dT_mixedRow_49 : decode bT_mixedRow 49 = .ok (.iload 5, 2) := by decide +kernel
theorem dT_mixedRow_51 : decode bT_mixedRow 51 = .ok (.iaload, 1) := by decide +kernel
theorem dT_mixedRow_52 : decode bT_mixedRow 52 = .ok (.i2l, 1) := by decide +kernel
theorem dT_mixedRow_53 : decode bT_mixedRow 53 = .ok (.invokestatic 215, 3) := by decide +kernel
theorem dT_mixedRow_56 : decode bT_mixedRow 56 = .ok (.lstore_n 3, 1) := by decide +kernel
theorem dT_mixedRow_57 : decode bT_mixedRow 57 = .ok (.iinc 5 1, 3) := by decide +kernel
theorem dT_mixedRow_60 : decode bT_mixedRow 60 = .ok (.goto (-47), 3) := by decide +kernel
theorem dT_mixedRow_63 : decode bT_mixedRow 63 = .ok (.lload_n 3, 1) := by decide +kernel
theorem dT_mixedRow_64 : decode bT_mixedRow 64 = .ok (.lreturn, 1) := by decide +kernel
theorem dT_row_0 : decode bT_row 0 = .ok (.iload_n 1, 1) := by decide +kernel
theorem dT_row_1 : decode bT_row 1 = .ok (.invokestatic 60, 3) := by decide +kernel
theorem dT_row_4 : decode bT_row 4 = .ok (.ifCond .eq 20, 3) := by decide +kernel
theorem dT_row_7 : decode bT_row 7 = .ok (.iload_n 2, 1) := by decide +kernel
theorem dT_row_8 : decode bT_row 8 = .ok (.ifCond .lt 16, 3) := by decide +kernel
theorem dT_row_11 : decode bT_row 11 = .ok (.iload_n 2, 1) := by decide +kernel
theorem dT_row_12 : decode bT_row 12 = .ok (.aload_n 0, 1) := by decide +kernel
theorem dT_row_13 : decode bT_row 13 = .ok (.getfield 15, 3) := by decide +kernel
theorem dT_row_16 : decode bT_row 16 = .ok (.iload_n 1, 1) := by decide +kernel
theorem dT_row_17 : decode bT_row 17 = .ok (.aaload, 1) := by decide +kernel
theorem dT_row_18 : decode bT_row 18 = .ok (.getfield 120, 3) := by decide +kernel
theorem dT_row_21 : decode bT_row 21 = .ok (.if_icmp .lt 7, 3) := by decide +kernel
theorem dT_row_24 : decode bT_row 24 = .ok (.ldc2_w 115, 3) := by decide +kernel
theorem dT_row_27 : decode bT_row 27 = .ok (.lreturn, 1) := by decide +kernel
theorem dT_row_28 : decode bT_row 28 = .ok (.aload_n 0, 1) := by decide +kernel
theorem dT_row_29 : decode bT_row 29 = .ok (.getfield 15, 3) := by decide +kernel
theorem dT_row_32 : decode bT_row 32 = .ok (.iload_n 1, 1) := by decide +kernel
theorem dT_row_33 : decode bT_row 33 = .ok (.aaload, 1) := by decide +kernel
theorem dT_row_34 : decode bT_row 34 = .ok (.iload_n 2, 1) := by decide +kernel
theorem dT_row_35 : decode bT_row 35 = .ok (.invokestatic 137, 3) := by decide +kernel
theorem dT_row_38 : decode bT_row 38 = .ok (.lreturn, 1) := by decide +kernel
theorem dT_keyInOrder_0 : decode bT_keyInOrder 0 = .ok (.aload_n 0, 1) := by decide +kernel
theorem dT_keyInOrder_1 : decode bT_keyInOrder 1 = .ok (.astore_n 2, 1) := by decide +kernel
theorem dT_keyInOrder_2 : decode bT_keyInOrder 2 = .ok (.iload_n 1, 1) := by decide +kernel
theorem dT_keyInOrder_3 : decode bT_keyInOrder 3 = .ok (.istore_n 3, 1) := by decide +kernel
theorem dT_keyInOrder_4 : decode bT_keyInOrder 4 = .ok (.iconst 5, 1) := by decide +kernel
theorem dT_keyInOrder_5 : decode bT_keyInOrder 5 = .ok (.istore 4, 2) := by decide +kernel
theorem dT_keyInOrder_7 : decode bT_keyInOrder 7 = .ok (.iload 4, 2) := by decide +kernel
theorem dT_keyInOrder_9 : decode bT_keyInOrder 9 = .ok (.ifCond .le 72, 3) := by decide +kernel
theorem dT_keyInOrder_12 : decode bT_keyInOrder 12 = .ok (.aload_n 2, 1) := by decide +kernel
theorem dT_keyInOrder_13 : decode bT_keyInOrder 13 = .ok (.getfield 123, 3) := by decide +kernel
theorem dT_keyInOrder_16 : decode bT_keyInOrder 16 = .ok (.ifCond .le 65, 3) := by decide +kernel
theorem dT_keyInOrder_19 : decode bT_keyInOrder 19 = .ok (.iconst 0, 1) := by decide +kernel
theorem dT_keyInOrder_20 : decode bT_keyInOrder 20 = .ok (.istore 5, 2) := by decide +kernel
theorem dT_keyInOrder_22 : decode bT_keyInOrder 22 = .ok (.iload 5, 2) := by decide +kernel
theorem dT_keyInOrder_24 : decode bT_keyInOrder 24 = .ok (.iconst 1, 1) := by decide +kernel
theorem dT_keyInOrder_25 : decode bT_keyInOrder 25 = .ok (.iadd, 1) := by decide +kernel
theorem dT_keyInOrder_26 : decode bT_keyInOrder 26 = .ok (.aload_n 2, 1) := by decide +kernel
theorem dT_keyInOrder_27 : decode bT_keyInOrder 27 = .ok (.getfield 191, 3) := by decide +kernel
theorem dT_keyInOrder_30 : decode bT_keyInOrder 30 = .ok (.arraylength, 1) := by decide +kernel
theorem dT_keyInOrder_31 : decode bT_keyInOrder 31 = .ok (.if_icmp .ge 36, 3) := by decide +kernel
theorem dT_keyInOrder_34 : decode bT_keyInOrder 34 = .ok (.iload_n 3, 1) := by decide +kernel
theorem dT_keyInOrder_35 : decode bT_keyInOrder 35 = .ok (.aload_n 2, 1) := by decide +kernel
theorem dT_keyInOrder_36 : decode bT_keyInOrder 36 = .ok (.getfield 191, 3) := by decide +kernel
theorem dT_keyInOrder_39 : decode bT_keyInOrder 39 = .ok (.iload 5, 2) := by decide +kernel
theorem dT_keyInOrder_41 : decode bT_keyInOrder 41 = .ok (.aaload, 1) := by decide +kernel
theorem dT_keyInOrder_42 : decode bT_keyInOrder 42 = .ok (.getfield 120, 3) := by decide +kernel
theorem dT_keyInOrder_45 : decode bT_keyInOrder 45 = .ok (.if_icmp .lt 22, 3) := by decide +kernel
theorem dT_keyInOrder_48 : decode bT_keyInOrder 48 = .ok (.iload_n 3, 1) := by decide +kernel
theorem dT_keyInOrder_49 : decode bT_keyInOrder 49 = .ok (.aload_n 2, 1) := by decide +kernel
theorem dT_keyInOrder_50 : decode bT_keyInOrder 50 = .ok (.getfield 191, 3) := by decide +kernel
theorem dT_keyInOrder_53 : decode bT_keyInOrder 53 = .ok (.iload 5, 2) := by decide +kernel
theorem dT_keyInOrder_55 : decode bT_keyInOrder 55 = .ok (.aaload, 1) := by decide +kernel
theorem dT_keyInOrder_56 : decode bT_keyInOrder 56 = .ok (.getfield 120, 3) := by decide +kernel
theorem dT_keyInOrder_59 : decode bT_keyInOrder 59 = .ok (.isub, 1) := by decide +kernel
theorem dT_keyInOrder_60 : decode bT_keyInOrder 60 = .ok (.istore_n 3, 1) := by decide +kernel
theorem dT_keyInOrder_61 : decode bT_keyInOrder 61 = .ok (.iinc 5 1, 3) := by decide +kernel
theorem dT_keyInOrder_64 : decode bT_keyInOrder 64 = .ok (.goto (-42), 3) := by decide +kernel
theorem dT_keyInOrder_67 : decode bT_keyInOrder 67 = .ok (.aload_n 2, 1) := by decide +kernel
theorem dT_keyInOrder_68 : decode bT_keyInOrder 68 = .ok (.getfield 191, 3) := by decide +kernel
theorem dT_keyInOrder_71 : decode bT_keyInOrder 71 = .ok (.iload 5, 2) := by decide +kernel
theorem dT_keyInOrder_73 : decode bT_keyInOrder 73 = .ok (.aaload, 1) := by decide +kernel
theorem dT_keyInOrder_74 : decode bT_keyInOrder 74 = .ok (.astore_n 2, 1) := by decide +kernel
theorem dT_keyInOrder_75 : decode bT_keyInOrder 75 = .ok (.iinc 4 (-1), 3) := by decide +kernel
theorem dT_keyInOrder_78 : decode bT_keyInOrder 78 = .ok (.goto (-71), 3) := by decide +kernel
theorem dT_keyInOrder_81 : decode bT_keyInOrder 81 = .ok (.iload_n 3, 1) := by decide +kernel
theorem dT_keyInOrder_82 : decode bT_keyInOrder 82 = .ok (.aload_n 2, 1) := by decide +kernel
theorem dT_keyInOrder_83 : decode bT_keyInOrder 83 = .ok (.getfield 194, 3) := by decide +kernel
theorem dT_keyInOrder_86 : decode bT_keyInOrder 86 = .ok (.arraylength, 1) := by decide +kernel
theorem dT_keyInOrder_87 : decode bT_keyInOrder 87 = .ok (.if_icmp .ge 16, 3) := by decide +kernel
theorem dT_keyInOrder_90 : decode bT_keyInOrder 90 = .ok (.aload_n 2, 1) := by decide +kernel
theorem dT_keyInOrder_91 : decode bT_keyInOrder 91 = .ok (.getfield 194, 3) := by decide +kernel
theorem dT_keyInOrder_94 : decode bT_keyInOrder 94 = .ok (.iload_n 3, 1) := by decide +kernel
theorem dT_keyInOrder_95 : decode bT_keyInOrder 95 = .ok (.aaload, 1) := by decide +kernel
theorem dT_keyInOrder_96 : decode bT_keyInOrder 96 = .ok (.getfield 202, 3) := by decide +kernel
theorem dT_keyInOrder_99 : decode bT_keyInOrder 99 = .ok (.i2l, 1) := by decide +kernel
theorem dT_keyInOrder_100 : decode bT_keyInOrder 100 = .ok (.goto 6, 3) := by decide +kernel
theorem dT_keyInOrder_103 : decode bT_keyInOrder 103 = .ok (.ldc2_w 115, 3) := by decide +kernel
theorem dT_keyInOrder_106 : decode bT_keyInOrder 106 = .ok (.lreturn, 1) := by decide +kernel
theorem dT_compare_0 : decode bT_compare 0 = .ok (.iload_n 1, 1) := by decide +kernel
theorem dT_compare_1 : decode bT_compare 1 = .ok (.invokestatic 60, 3) := by decide +kernel
theorem dT_compare_4 : decode bT_compare 4 = .ok (.ifCond .eq 25, 3) := by decide +kernel
theorem dT_compare_7 : decode bT_compare 7 = .ok (.iload_n 2, 1) := by decide +kernel
theorem dT_compare_8 : decode bT_compare 8 = .ok (.invokestatic 60, 3) := by decide +kernel
theorem dT_compare_11 : decode bT_compare 11 = .ok (.ifCond .eq 18, 3) := by decide +kernel
theorem dT_compare_14 : decode bT_compare 14 = .ok (.aload_n 0, 1) := by decide +kernel
theorem dT_compare_15 : decode bT_compare 15 = .ok (.getfield 9, 3) := by decide +kernel
theorem dT_compare_18 : decode bT_compare 18 = .ok (.iload_n 1, 1) := by decide +kernel
theorem dT_compare_19 : decode bT_compare 19 = .ok (.iaload, 1) := by decide +kernel
theorem dT_compare_20 : decode bT_compare 20 = .ok (.aload_n 0, 1) := by decide +kernel
theorem dT_compare_21 : decode bT_compare 21 = .ok (.getfield 9, 3) := by decide +kernel
theorem dT_compare_24 : decode bT_compare 24 = .ok (.iload_n 2, 1) := by decide +kernel
theorem dT_compare_25 : decode bT_compare 25 = .ok (.iaload, 1) := by decide +kernel
theorem dT_compare_26 : decode bT_compare 26 = .ok (.if_icmp .eq 5, 3) := by decide +kernel
theorem dT_compare_29 : decode bT_compare 29 = .ok (.iconst (-1), 1) := by decide +kernel
theorem dT_compare_30 : decode bT_compare 30 = .ok (.ireturn, 1) := by decide +kernel
theorem dT_compare_31 : decode bT_compare 31 = .ok (.aload_n 0, 1) := by decide +kernel
theorem dT_compare_32 : decode bT_compare 32 = .ok (.iload_n 1, 1) := by decide +kernel
theorem dT_compare_33 : decode bT_compare 33 = .ok (.iload_n 2, 1) := by decide +kernel
theorem dT_compare_34 : decode bT_compare 34 = .ok (.aload_n 0, 1) := by decide +kernel
theorem dT_compare_35 : decode bT_compare 35 = .ok (.getfield 36, 3) := by decide +kernel
theorem dT_compare_38 : decode bT_compare 38 = .ok (.invokevirtual 140, 3) := by decide +kernel
theorem dT_compare_41 : decode bT_compare 41 = .ok (.aload_n 0, 1) := by decide +kernel
theorem dT_compare_42 : decode bT_compare 42 = .ok (.iload_n 2, 1) := by decide +kernel
theorem dT_compare_43 : decode bT_compare 43 = .ok (.iload_n 1, 1) := by decide +kernel
theorem dT_compare_44 : decode bT_compare 44 = .ok (.aload_n 0, 1) := by decide +kernel
theorem dT_compare_45 : decode bT_compare 45 = .ok (.getfield 40, 3) := by decide +kernel
theorem dT_compare_48 : decode bT_compare 48 = .ok (.invokevirtual 140, 3) := by decide +kernel
theorem dT_compare_51 : decode bT_compare 51 = .ok (.aload_n 0, 1) := by decide +kernel
theorem dT_compare_52 : decode bT_compare 52 = .ok (.getfield 29, 3) := by decide +kernel
theorem dT_compare_55 : decode bT_compare 55 = .ok (.aload_n 0, 1) := by decide +kernel
theorem dT_compare_56 : decode bT_compare 56 = .ok (.getfield 36, 3) := by decide +kernel
theorem dT_compare_59 : decode bT_compare 59 = .ok (.aload_n 0, 1) := by decide +kernel
theorem dT_compare_60 : decode bT_compare 60 = .ok (.getfield 40, 3) := by decide +kernel
theorem dT_compare_63 : decode bT_compare 63 = .ok (.invokevirtual 144, 3) := by decide +kernel
theorem dT_compare_66 : decode bT_compare 66 = .ok (.aload_n 0, 1) := by decide +kernel
theorem dT_compare_67 : decode bT_compare 67 = .ok (.getfield 29, 3) := by decide +kernel
theorem dT_compare_70 : decode bT_compare 70 = .ok (.getfield 148, 3) := by decide +kernel
theorem dT_compare_73 : decode bT_compare 73 = .ok (.ireturn, 1) := by decide +kernel
theorem dT_gatherUnshared_0 : decode bT_gatherUnshared 0 = .ok (.aload_n 0, 1) := by decide +kernel
theorem dT_gatherUnshared_1 : decode bT_gatherUnshared 1 = .ok (.invokevirtual 126, 3) := by decide +kernel
theorem dT_gatherUnshared_4 : decode bT_gatherUnshared 4 = .ok (.istore 4, 2) := by decide +kernel
theorem dT_gatherUnshared_6 : decode bT_gatherUnshared 6 = .ok (.aload_n 0, 1) := by decide +kernel
theorem dT_gatherUnshared_7 : decode bT_gatherUnshared 7 = .ok (.getfield 15, 3) := by decide +kernel
theorem dT_gatherUnshared_10 : decode bT_gatherUnshared 10 = .ok (.iload_n 2, 1) := by decide +kernel
theorem dT_gatherUnshared_11 : decode bT_gatherUnshared 11 = .ok (.aaload, 1) := by decide +kernel
theorem dT_gatherUnshared_12 : decode bT_gatherUnshared 12 = .ok (.iload 4, 2) := by decide +kernel
theorem dT_gatherUnshared_14 : decode bT_gatherUnshared 14 = .ok (.iconst 5, 1) := by decide +kernel
theorem dT_gatherUnshared_15 : decode bT_gatherUnshared 15 = .ok (.invokestatic 129, 3) := by decide +kernel
theorem dT_gatherUnshared_18 : decode bT_gatherUnshared 18 = .ok (.pop, 1) := by decide +kernel
theorem dT_gatherUnshared_19 : decode bT_gatherUnshared 19 = .ok (.aload_n 3, 1) := by decide +kernel
theorem dT_gatherUnshared_20 : decode bT_gatherUnshared 20 = .ok (.iconst 0, 1) := by decide +kernel
theorem dT_gatherUnshared_21 : decode bT_gatherUnshared 21 = .ok (.putfield 64, 3) := by decide +kernel
theorem dT_gatherUnshared_24 : decode bT_gatherUnshared 24 = .ok (.aload_n 0, 1) := by decide +kernel
theorem dT_gatherUnshared_25 : decode bT_gatherUnshared 25 = .ok (.getfield 15, 3) := by decide +kernel
theorem dT_gatherUnshared_28 : decode bT_gatherUnshared 28 = .ok (.iload_n 1, 1) := by decide +kernel
theorem dT_gatherUnshared_29 : decode bT_gatherUnshared 29 = .ok (.aaload, 1) := by decide +kernel
theorem dT_gatherUnshared_30 : decode bT_gatherUnshared 30 = .ok (.iload 4, 2) := by decide +kernel
theorem dT_gatherUnshared_32 : decode bT_gatherUnshared 32 = .ok (.aload_n 3, 1) := by decide +kernel
theorem dT_gatherUnshared_33 : decode bT_gatherUnshared 33 = .ok (.iconst 5, 1) := by decide +kernel
theorem dT_gatherUnshared_34 : decode bT_gatherUnshared 34 = .ok (.invokestatic 167, 3) := by decide +kernel
theorem dT_gatherUnshared_37 : decode bT_gatherUnshared 37 = .ok (.return_, 1) := by decide +kernel
theorem dT_difference_0 : decode bT_difference 0 = .ok (.iload_n 1, 1) := by decide +kernel
theorem dT_difference_1 : decode bT_difference 1 = .ok (.ifCond .lt 14, 3) := by decide +kernel
theorem dT_difference_4 : decode bT_difference 4 = .ok (.iload_n 1, 1) := by decide +kernel
theorem dT_difference_5 : decode bT_difference 5 = .ok (.aload_n 0, 1) := by decide +kernel
theorem dT_difference_6 : decode bT_difference 6 = .ok (.getfield 29, 3) := by decide +kernel
theorem dT_difference_9 : decode bT_difference 9 = .ok (.getfield 148, 3) := by decide +kernel
theorem dT_difference_12 : decode bT_difference 12 = .ok (.if_icmp .lt 7, 3) := by decide +kernel
theorem dT_difference_15 : decode bT_difference 15 = .ok (.ldc2_w 115, 3) := by decide +kernel
theorem dT_difference_18 : decode bT_difference 18 = .ok (.lreturn, 1) := by decide +kernel
theorem dT_difference_19 : decode bT_difference 19 = .ok (.iload_n 2, 1) := by decide +kernel
theorem dT_difference_20 : decode bT_difference 20 = .ok (.tableswitch 61 0 2 #[28, 39, 50], 28) := by decide +kernel
theorem dT_difference_48 : decode bT_difference 48 = .ok (.aload_n 0, 1) := by decide +kernel
theorem dT_difference_49 : decode bT_difference 49 = .ok (.getfield 29, 3) := by decide +kernel
theorem dT_difference_52 : decode bT_difference 52 = .ok (.getfield 149, 3) := by decide +kernel
theorem dT_difference_55 : decode bT_difference 55 = .ok (.iload_n 1, 1) := by decide +kernel
theorem dT_difference_56 : decode bT_difference 56 = .ok (.iaload, 1) := by decide +kernel
theorem dT_difference_57 : decode bT_difference 57 = .ok (.i2l, 1) := by decide +kernel
theorem dT_difference_58 : decode bT_difference 58 = .ok (.lreturn, 1) := by decide +kernel
theorem dT_difference_59 : decode bT_difference 59 = .ok (.aload_n 0, 1) := by decide +kernel
theorem dT_difference_60 : decode bT_difference 60 = .ok (.getfield 29, 3) := by decide +kernel
theorem dT_difference_63 : decode bT_difference 63 = .ok (.getfield 152, 3) := by decide +kernel
theorem dT_difference_66 : decode bT_difference 66 = .ok (.iload_n 1, 1) := by decide +kernel
theorem dT_difference_67 : decode bT_difference 67 = .ok (.iaload, 1) := by decide +kernel
theorem dT_difference_68 : decode bT_difference 68 = .ok (.i2l, 1) := by decide +kernel
theorem dT_difference_69 : decode bT_difference 69 = .ok (.lreturn, 1) := by decide +kernel
theorem dT_difference_70 : decode bT_difference 70 = .ok (.aload_n 0, 1) := by decide +kernel
theorem dT_difference_71 : decode bT_difference 71 = .ok (.getfield 29, 3) := by decide +kernel
theorem dT_difference_74 : decode bT_difference 74 = .ok (.getfield 155, 3) := by decide +kernel
theorem dT_difference_77 : decode bT_difference 77 = .ok (.iload_n 1, 1) := by decide +kernel
theorem dT_difference_78 : decode bT_difference 78 = .ok (.iaload, 1) := by decide +kernel
theorem dT_difference_79 : decode bT_difference 79 = .ok (.i2l, 1) := by decide +kernel
theorem dT_difference_80 : decode bT_difference 80 = .ok (.lreturn, 1) := by decide +kernel
theorem dT_difference_81 : decode bT_difference 81 = .ok (.ldc2_w 115, 3) := by decide +kernel
theorem dT_difference_84 : decode bT_difference 84 = .ok (.lreturn, 1) := by decide +kernel
theorem dT_sweep_0 : decode bT_sweep 0 = .ok (.aload_n 0, 1) := by decide +kernel
theorem dT_sweep_1 : decode bT_sweep 1 = .ok (.invokevirtual 126, 3) := by decide +kernel
theorem dT_sweep_4 : decode bT_sweep 4 = .ok (.istore_n 1, 1) := by decide +kernel
theorem dT_sweep_5 : decode bT_sweep 5 = .ok (.aload_n 0, 1) := by decide +kernel
theorem dT_sweep_6 : decode bT_sweep 6 = .ok (.getfield 15, 3) := by decide +kernel
theorem dT_sweep_9 : decode bT_sweep 9 = .ok (.astore_n 2, 1) := by decide +kernel
theorem dT_sweep_10 : decode bT_sweep 10 = .ok (.aload_n 2, 1) := by decide +kernel
theorem dT_sweep_11 : decode bT_sweep 11 = .ok (.arraylength, 1) := by decide +kernel
theorem dT_sweep_12 : decode bT_sweep 12 = .ok (.istore_n 3, 1) := by decide +kernel
theorem dT_sweep_13 : decode bT_sweep 13 = .ok (.iconst 0, 1) := by decide +kernel
theorem dT_sweep_14 : decode bT_sweep 14 = .ok (.istore 4, 2) := by decide +kernel
theorem dT_sweep_16 : decode bT_sweep 16 = .ok (.iload 4, 2) := by decide +kernel
theorem dT_sweep_18 : decode bT_sweep 18 = .ok (.iload_n 3, 1) := by decide +kernel
theorem dT_sweep_19 : decode bT_sweep 19 = .ok (.if_icmp .ge 23, 3) := by decide +kernel
theorem dT_sweep_22 : decode bT_sweep 22 = .ok (.aload_n 2, 1) := by decide +kernel
theorem dT_sweep_23 : decode bT_sweep 23 = .ok (.iload 4, 2) := by decide +kernel
theorem dT_sweep_25 : decode bT_sweep 25 = .ok (.aaload, 1) := by decide +kernel
theorem dT_sweep_26 : decode bT_sweep 26 = .ok (.astore 5, 2) := by decide +kernel
theorem dT_sweep_28 : decode bT_sweep 28 = .ok (.aload 5, 2) := by decide +kernel
theorem dT_sweep_30 : decode bT_sweep 30 = .ok (.iload_n 1, 1) := by decide +kernel
theorem dT_sweep_31 : decode bT_sweep 31 = .ok (.iconst 5, 1) := by decide +kernel
theorem dT_sweep_32 : decode bT_sweep 32 = .ok (.invokestatic 129, 3) := by decide +kernel
theorem dT_sweep_35 : decode bT_sweep 35 = .ok (.pop, 1) := by decide +kernel
theorem dT_sweep_36 : decode bT_sweep 36 = .ok (.iinc 4 1, 3) := by decide +kernel
theorem dT_sweep_39 : decode bT_sweep 39 = .ok (.goto (-23), 3) := by decide +kernel
theorem dT_sweep_42 : decode bT_sweep 42 = .ok (.aload_n 0, 1) := by decide +kernel
theorem dT_sweep_43 : decode bT_sweep 43 = .ok (.getfield 22, 3) := by decide +kernel
theorem dT_sweep_46 : decode bT_sweep 46 = .ok (.iload_n 1, 1) := by decide +kernel
theorem dT_sweep_47 : decode bT_sweep 47 = .ok (.invokevirtual 158, 3) := by decide +kernel
theorem dT_sweep_50 : decode bT_sweep 50 = .ok (.ireturn, 1) := by decide +kernel
theorem dT_count_0 : decode bT_count 0 = .ok (.iload_n 1, 1) := by decide +kernel
theorem dT_count_1 : decode bT_count 1 = .ok (.lookupswitch 43 #[(0, 27), (1, 35)], 27) := by decide +kernel
theorem dT_count_28 : decode bT_count 28 = .ok (.aload_n 0, 1) := by decide +kernel
theorem dT_count_29 : decode bT_count 29 = .ok (.getfield 22, 3) := by decide +kernel
theorem dT_count_32 : decode bT_count 32 = .ok (.getfield 161, 3) := by decide +kernel
theorem dT_count_35 : decode bT_count 35 = .ok (.ireturn, 1) := by decide +kernel
theorem dT_count_36 : decode bT_count 36 = .ok (.aload_n 0, 1) := by decide +kernel
theorem dT_count_37 : decode bT_count 37 = .ok (.getfield 22, 3) := by decide +kernel
theorem dT_count_40 : decode bT_count 40 = .ok (.getfield 164, 3) := by decide +kernel
theorem dT_count_43 : decode bT_count 43 = .ok (.ireturn, 1) := by decide +kernel
theorem dT_count_44 : decode bT_count 44 = .ok (.iconst (-1), 1) := by decide +kernel
theorem dT_count_45 : decode bT_count 45 = .ok (.ireturn, 1) := by decide +kernel
