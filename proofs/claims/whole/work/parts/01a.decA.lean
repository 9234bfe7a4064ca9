theorem dR_isLike_0 : decode bR_isLike 0 = .ok (.aload_n 0, 1) := by decide +kernel
theorem dR_isLike_1 : decode bR_isLike 1 = .ok (.aload_n 1, 1) := by decide +kernel
theorem dR_isLike_2 : decode bR_isLike 2 = .ok (.if_acmp .eq 35, 3) := by decide +kernel
theorem dR_isLike_5 : decode bR_isLike 5 = .ok (.aload_n 0, 1) := by decide +kernel
theorem dR_isLike_6 : decode bR_isLike 6 = .ok (.getfield 7, 3) := by decide +kernel
theorem dR_isLike_9 : decode bR_isLike 9 = .ok (.aload_n 1, 1) := by decide +kernel
theorem dR_isLike_10 : decode bR_isLike 10 = .ok (.getfield 7, 3) := by decide +kernel
theorem dR_isLike_13 : decode bR_isLike 13 = .ok (.if_icmp .ne 28, 3) := by decide +kernel
theorem dR_isLike_16 : decode bR_isLike 16 = .ok (.aload_n 0, 1) := by decide +kernel
theorem dR_isLike_17 : decode bR_isLike 17 = .ok (.getfield 13, 3) := by decide +kernel
theorem dR_isLike_20 : decode bR_isLike 20 = .ok (.arraylength, 1) := by decide +kernel
theorem dR_isLike_21 : decode bR_isLike 21 = .ok (.aload_n 1, 1) := by decide +kernel
theorem dR_isLike_22 : decode bR_isLike 22 = .ok (.getfield 13, 3) := by decide +kernel
theorem dR_isLike_25 : decode bR_isLike 25 = .ok (.arraylength, 1) := by decide +kernel
theorem dR_isLike_26 : decode bR_isLike 26 = .ok (.if_icmp .ne 15, 3) := by decide +kernel
theorem dR_isLike_29 : decode bR_isLike 29 = .ok (.aload_n 0, 1) := by decide +kernel
theorem dR_isLike_30 : decode bR_isLike 30 = .ok (.aload_n 1, 1) := by decide +kernel
theorem dR_isLike_31 : decode bR_isLike 31 = .ok (.invokevirtual 40, 3) := by decide +kernel
theorem dR_isLike_34 : decode bR_isLike 34 = .ok (.ifCond .ne 7, 3) := by decide +kernel
theorem dR_isLike_37 : decode bR_isLike 37 = .ok (.iconst 1, 1) := by decide +kernel
theorem dR_isLike_38 : decode bR_isLike 38 = .ok (.goto 4, 3) := by decide +kernel
theorem dR_isLike_41 : decode bR_isLike 41 = .ok (.iconst 0, 1) := by decide +kernel
theorem dR_isLike_42 : decode bR_isLike 42 = .ok (.ireturn, 1) := by decide +kernel
theorem dR_unlikeCells_0 : decode bR_unlikeCells 0 = .ok (.aload_n 0, 1) := by decide +kernel
theorem dR_unlikeCells_1 : decode bR_unlikeCells 1 = .ok (.getfield 17, 3) := by decide +kernel
theorem dR_unlikeCells_4 : decode bR_unlikeCells 4 = .ok (.aload_n 1, 1) := by decide +kernel
theorem dR_unlikeCells_5 : decode bR_unlikeCells 5 = .ok (.getfield 17, 3) := by decide +kernel
theorem dR_unlikeCells_8 : decode bR_unlikeCells 8 = .ok (.ixor, 1) := by decide +kernel
theorem dR_unlikeCells_9 : decode bR_unlikeCells 9 = .ok (.istore_n 2, 1) := by decide +kernel
theorem dR_unlikeCells_10 : decode bR_unlikeCells 10 = .ok (.iconst 0, 1) := by decide +kernel
theorem dR_unlikeCells_11 : decode bR_unlikeCells 11 = .ok (.istore_n 3, 1) := by decide +kernel
theorem dR_unlikeCells_12 : decode bR_unlikeCells 12 = .ok (.iload_n 3, 1) := by decide +kernel
theorem dR_unlikeCells_13 : decode bR_unlikeCells 13 = .ok (.aload_n 0, 1) := by decide +kernel
theorem dR_unlikeCells_14 : decode bR_unlikeCells 14 = .ok (.getfield 13, 3) := by decide +kernel
theorem dR_unlikeCells_17 : decode bR_unlikeCells 17 = .ok (.arraylength, 1) := by decide +kernel
theorem dR_unlikeCells_18 : decode bR_unlikeCells 18 = .ok (.if_icmp .ge 39, 3) := by decide +kernel
theorem dR_unlikeCells_21 : decode bR_unlikeCells 21 = .ok (.iload_n 3, 1) := by decide +kernel
theorem dR_unlikeCells_22 : decode bR_unlikeCells 22 = .ok (.aload_n 1, 1) := by decide +kernel
theorem dR_unlikeCells_23 : decode bR_unlikeCells 23 = .ok (.getfield 13, 3) := by decide +kernel
theorem dR_unlikeCells_26 : decode bR_unlikeCells 26 = .ok (.arraylength, 1) := by decide +kernel
theorem dR_unlikeCells_27 : decode bR_unlikeCells 27 = .ok (.if_icmp .ge 30, 3) := by decide +kernel
theorem dR_unlikeCells_30 : decode bR_unlikeCells 30 = .ok (.aload_n 0, 1) := by decide +kernel
theorem dR_unlikeCells_31 : decode bR_unlikeCells 31 = .ok (.getfield 13, 3) := by decide +kernel
theorem dR_unlikeCells_34 : decode bR_unlikeCells 34 = .ok (.iload_n 3, 1) := by decide +kernel
theorem dR_unlikeCells_35 : decode bR_unlikeCells 35 = .ok (.iaload, 1) := by decide +kernel
theorem dR_unlikeCells_36 : decode bR_unlikeCells 36 = .ok (.aload_n 1, 1) := by decide +kernel
theorem dR_unlikeCells_37 : decode bR_unlikeCells 37 = .ok (.getfield 13, 3) := by decide +kernel
theorem dR_unlikeCells_40 : decode bR_unlikeCells 40 = .ok (.iload_n 3, 1) := by decide +kernel
theorem dR_unlikeCells_41 : decode bR_unlikeCells 41 = .ok (.iaload, 1) := by decide +kernel
theorem dR_unlikeCells_42 : decode bR_unlikeCells 42 = .ok (.if_icmp .eq 9, 3) := by decide +kernel
theorem dR_unlikeCells_45 : decode bR_unlikeCells 45 = .ok (.iload_n 2, 1) := by decide +kernel
theorem dR_unlikeCells_46 : decode bR_unlikeCells 46 = .ok (.iconst 1, 1) := by decide +kernel
theorem dR_unlikeCells_47 : decode bR_unlikeCells 47 = .ok (.iload_n 3, 1) := by decide +kernel
theorem dR_unlikeCells_48 : decode bR_unlikeCells 48 = .ok (.ishl, 1) := by decide +kernel
theorem dR_unlikeCells_49 : decode bR_unlikeCells 49 = .ok (.ior, 1) := by decide +kernel
theorem dR_unlikeCells_50 : decode bR_unlikeCells 50 = .ok (.istore_n 2, 1) := by decide +kernel
theorem dR_unlikeCells_51 : decode bR_unlikeCells 51 = .ok (.iinc 3 1, 3) := by decide +kernel
theorem dR_unlikeCells_54 : decode bR_unlikeCells 54 = .ok (.goto (-42), 3) := by decide +kernel
theorem dR_unlikeCells_57 : decode bR_unlikeCells 57 = .ok (.iload_n 2, 1) := by decide +kernel
theorem dR_unlikeCells_58 : decode bR_unlikeCells 58 = .ok (.ireturn, 1) := by decide +kernel
theorem dR_init_0 : decode bR_init 0 = .ok (.aload_n 0, 1) := by decide +kernel
theorem dR_init_1 : decode bR_init 1 = .ok (.invokespecial 1, 3) := by decide +kernel
theorem dR_init_4 : decode bR_init 4 = .ok (.aload_n 0, 1) := by decide +kernel
theorem dR_init_5 : decode bR_init 5 = .ok (.iload_n 1, 1) := by decide +kernel
theorem dR_init_6 : decode bR_init 6 = .ok (.putfield 7, 3) := by decide +kernel
theorem dR_init_9 : decode bR_init 9 = .ok (.aload_n 0, 1) := by decide +kernel
theorem dR_init_10 : decode bR_init 10 = .ok (.aload_n 2, 1) := by decide +kernel
theorem dR_init_11 : decode bR_init 11 = .ok (.putfield 13, 3) := by decide +kernel
theorem dR_init_14 : decode bR_init 14 = .ok (.aload_n 0, 1) := by decide +kernel
theorem dR_init_15 : decode bR_init 15 = .ok (.iload_n 3, 1) := by decide +kernel
theorem dR_init_16 : decode bR_init 16 = .ok (.putfield 17, 3) := by decide +kernel
theorem dR_init_19 : decode bR_init 19 = .ok (.aload_n 0, 1) := by decide +kernel
theorem dR_init_20 : decode bR_init 20 = .ok (.iload_n 1, 1) := by decide +kernel
theorem dR_init_21 : decode bR_init 21 = .ok (.invokestatic 20, 3) := by decide +kernel
theorem dR_init_24 : decode bR_init 24 = .ok (.putfield 26, 3) := by decide +kernel
theorem dR_init_27 : decode bR_init 27 = .ok (.iload_n 1, 1) := by decide +kernel
theorem dR_init_28 : decode bR_init 28 = .ok (.bipush 31, 2) := by decide +kernel
theorem dR_init_30 : decode bR_init 30 = .ok (.imul, 1) := by decide +kernel
theorem dR_init_31 : decode bR_init 31 = .ok (.iload_n 3, 1) := by decide +kernel
theorem dR_init_32 : decode bR_init 32 = .ok (.iadd, 1) := by decide +kernel
theorem dR_init_33 : decode bR_init 33 = .ok (.istore 4, 2) := by decide +kernel
theorem dR_init_35 : decode bR_init 35 = .ok (.aload_n 2, 1) := by decide +kernel
theorem dR_init_36 : decode bR_init 36 = .ok (.astore 5, 2) := by decide +kernel
theorem dR_init_38 : decode bR_init 38 = .ok (.aload 5, 2) := by decide +kernel
theorem dR_init_40 : decode bR_init 40 = .ok (.arraylength, 1) := by decide +kernel
theorem dR_init_41 : decode bR_init 41 = .ok (.istore 6, 2) := by decide +kernel
theorem dR_init_43 : decode bR_init 43 = .ok (.iconst 0, 1) := by decide +kernel
theorem dR_init_44 : decode bR_init 44 = .ok (.istore 7, 2) := by decide +kernel
theorem dR_init_46 : decode bR_init 46 = .ok (.iload 7, 2) := by decide +kernel
theorem dR_init_48 : decode bR_init 48 = .ok (.iload 6, 2) := by decide +kernel
theorem dR_init_50 : decode bR_init 50 = .ok (.if_icmp .ge 26, 3) := by decide +kernel
theorem dR_init_53 : decode bR_init 53 = .ok (.aload 5, 2) := by decide +kernel
theorem dR_init_55 : decode bR_init 55 = .ok (.iload 7, 2) := by decide +kernel
theorem dR_init_57 : decode bR_init 57 = .ok (.iaload, 1) := by decide +kernel
theorem dR_init_58 : decode bR_init 58 = .ok (.istore 8, 2) := by decide +kernel
theorem dR_init_60 : decode bR_init 60 = .ok (.iload 4, 2) := by decide +kernel
theorem dR_init_62 : decode bR_init 62 = .ok (.bipush 31, 2) := by decide +kernel
theorem dR_init_64 : decode bR_init 64 = .ok (.imul, 1) := by decide +kernel
theorem dR_init_65 : decode bR_init 65 = .ok (.iload 8, 2) := by decide +kernel
theorem dR_init_67 : decode bR_init 67 = .ok (.iadd, 1) := by decide +kernel
theorem dR_init_68 : decode bR_init 68 = .ok (.istore 4, 2) := by decide +kernel
theorem dR_init_70 : decode bR_init 70 = .ok (.iinc 7 1, 3) := by decide +kernel
theorem dR_init_73 : decode bR_init 73 = .ok (.goto (-27), 3) := by decide +kernel
theorem dR_init_76 : decode bR_init 76 = .ok (.aload_n 0, 1) := by decide +kernel
theorem dR_init_77 : decode bR_init 77 = .ok (.iload 4, 2) := by decide +kernel
theorem dR_init_79 : decode bR_init 79 = .ok (.putfield 29, 3) := by decide +kernel
theorem dR_init_82 : decode bR_init 82 = .ok (.return_, 1) := by decide +kernel
theorem dR_withCell_0 : decode bR_withCell 0 = .ok (.aload_n 0, 1) := by decide +kernel
theorem dR_withCell_1 : decode bR_withCell 1 = .ok (.getfield 13, 3) := by decide +kernel
theorem dR_withCell_4 : decode bR_withCell 4 = .ok (.invokevirtual 32, 3) := by decide +kernel
theorem dR_withCell_7 : decode bR_withCell 7 = .ok (.checkcast 33, 3) := by decide +kernel
theorem dR_withCell_10 : decode bR_withCell 10 = .ok (.astore 4, 2) := by decide +kernel
theorem dR_withCell_12 : decode bR_withCell 12 = .ok (.aload 4, 2) := by decide +kernel
theorem dR_withCell_14 : decode bR_withCell 14 = .ok (.iload_n 1, 1) := by decide +kernel
theorem dR_withCell_15 : decode bR_withCell 15 = .ok (.iload_n 3, 1) := by decide +kernel
theorem dR_withCell_16 : decode bR_withCell 16 = .ok (.ifCond .eq 7, 3) := by decide +kernel
theorem dR_withCell_19 : decode bR_withCell 19 = .ok (.iconst 0, 1) := by decide +kernel
theorem dR_withCell_20 : decode bR_withCell 20 = .ok (.goto 4, 3) := by decide +kernel
theorem dR_withCell_23 : decode bR_withCell 23 = .ok (.iload_n 2, 1) := by decide +kernel
theorem dR_withCell_24 : decode bR_withCell 24 = .ok (.iastore, 1) := by decide +kernel
theorem dR_withCell_25 : decode bR_withCell 25 = .ok (.iconst 1, 1) := by decide +kernel
theorem dR_withCell_26 : decode bR_withCell 26 = .ok (.iload_n 1, 1) := by decide +kernel
theorem dR_withCell_27 : decode bR_withCell 27 = .ok (.ishl, 1) := by decide +kernel
theorem dR_withCell_28 : decode bR_withCell 28 = .ok (.istore 5, 2) := by decide +kernel
theorem dR_withCell_30 : decode bR_withCell 30 = .ok (.new 8, 3) := by decide +kernel
theorem dR_withCell_33 : decode bR_withCell 33 = .ok (.dup, 1) := by decide +kernel
theorem dR_withCell_34 : decode bR_withCell 34 = .ok (.aload_n 0, 1) := by decide +kernel
theorem dR_withCell_35 : decode bR_withCell 35 = .ok (.getfield 7, 3) := by decide +kernel
theorem dR_withCell_38 : decode bR_withCell 38 = .ok (.aload 4, 2) := by decide +kernel
theorem dR_withCell_40 : decode bR_withCell 40 = .ok (.iload_n 3, 1) := by decide +kernel
theorem dR_withCell_41 : decode bR_withCell 41 = .ok (.ifCond .eq 13, 3) := by decide +kernel
theorem dR_withCell_44 : decode bR_withCell 44 = .ok (.aload_n 0, 1) := by decide +kernel
theorem dR_withCell_45 : decode bR_withCell 45 = .ok (.getfield 17, 3) := by decide +kernel
theorem dR_withCell_48 : decode bR_withCell 48 = .ok (.iload 5, 2) := by decide +kernel
theorem dR_withCell_50 : decode bR_withCell 50 = .ok (.ior, 1) := by decide +kernel
theorem dR_withCell_51 : decode bR_withCell 51 = .ok (.goto 12, 3) := by decide +kernel
theorem dR_withCell_54 : decode bR_withCell 54 = .ok (.aload_n 0, 1) := by decide +kernel
theorem dR_withCell_55 : decode bR_withCell 55 = .ok (.getfield 17, 3) := by decide +kernel
theorem dR_withCell_58 : decode bR_withCell 58 = .ok (.iload 5, 2) := by decide +kernel
theorem dR_withCell_60 : decode bR_withCell 60 = .ok (.iconst (-1), 1) := by decide +kernel
theorem dR_withCell_61 : decode bR_withCell 61 = .ok (.ixor, 1) := by decide +kernel
theorem dR_withCell_62 : decode bR_withCell 62 = .ok (.iand, 1) := by decide +kernel
theorem dR_withCell_63 : decode bR_withCell 63 = .ok (.invokespecial 37, 3) := by decide +kernel
theorem dR_withCell_66 : decode bR_withCell 66 = .ok (.areturn, 1) := by decide +kernel
theorem dR_isNull_0 : decode bR_isNull 0 = .ok (.aload_n 0, 1) := by decide +kernel
theorem dR_isNull_1 : decode bR_isNull 1 = .ok (.getfield 17, 3) := by decide +kernel
theorem dR_isNull_4 : decode bR_isNull 4 = .ok (.iload_n 1, 1) := by decide +kernel
theorem dR_isNull_5 : decode bR_isNull 5 = .ok (.iushr, 1) := by decide +kernel
theorem dR_isNull_6 : decode bR_isNull 6 = .ok (.iconst 1, 1) := by decide +kernel
theorem dR_isNull_7 : decode bR_isNull 7 = .ok (.iand, 1) := by decide +kernel
theorem dR_isNull_8 : decode bR_isNull 8 = .ok (.ifCond .eq 7, 3) := by decide +kernel
theorem dR_isNull_11 : decode bR_isNull 11 = .ok (.iconst 1, 1) := by decide +kernel
theorem dR_isNull_12 : decode bR_isNull 12 = .ok (.goto 4, 3) := by decide +kernel
theorem dR_isNull_15 : decode bR_isNull 15 = .ok (.iconst 0, 1) := by decide +kernel
theorem dR_isNull_16 : decode bR_isNull 16 = .ok (.ireturn, 1) := by decide +kernel
theorem dQ_init_0 : decode bQ_init 0 = .ok (.aload_n 0, 1) := by decide +kernel
theorem dQ_init_1 : decode bQ_init 1 = .ok (.invokespecial 3, 3) := by decide +kernel
theorem dQ_init_4 : decode bQ_init 4 = .ok (.aload_n 0, 1) := by decide +kernel
theorem dQ_init_5 : decode bQ_init 5 = .ok (.sipush 300, 3) := by decide +kernel
theorem dQ_init_8 : decode bQ_init 8 = .ok (.anewarray 9, 3) := by decide +kernel
theorem dQ_init_11 : decode bQ_init 11 = .ok (.putfield 11, 3) := by decide +kernel
theorem dQ_init_14 : decode bQ_init 14 = .ok (.aload_n 0, 1) := by decide +kernel
theorem dQ_init_15 : decode bQ_init 15 = .ok (.iconst 0, 1) := by decide +kernel
theorem dQ_init_16 : decode bQ_init 16 = .ok (.putfield 17, 3) := by decide +kernel
theorem dQ_init_19 : decode bQ_init 19 = .ok (.return_, 1) := by decide +kernel
theorem dQ_append_0 : decode bQ_append 0 = .ok (.aload_n 0, 1) := by decide +kernel
theorem dQ_append_1 : decode bQ_append 1 = .ok (.getfield 17, 3) := by decide +kernel
theorem dQ_append_4 : decode bQ_append 4 = .ok (.sipush 300, 3) := by decide +kernel
theorem dQ_append_7 : decode bQ_append 7 = .ok (.if_icmp .ge 23, 3) := by decide +kernel
theorem dQ_append_10 : decode bQ_append 10 = .ok (.aload_n 0, 1) := by decide +kernel
theorem dQ_append_11 : decode bQ_append 11 = .ok (.getfield 11, 3) := by decide +kernel
theorem dQ_append_14 : decode bQ_append 14 = .ok (.aload_n 0, 1) := by decide +kernel
theorem dQ_append_15 : decode bQ_append 15 = .ok (.getfield 17, 3) := by decide +kernel
theorem dQ_append_18 : decode bQ_append 18 = .ok (.aload_n 1, 1) := by decide +kernel
theorem dQ_append_19 : decode bQ_append 19 = .ok (.aastore, 1) := by decide +kernel
theorem dQ_append_20 : decode bQ_append 20 = .ok (.aload_n 0, 1) := by decide +kernel
theorem dQ_append_21 : decode bQ_append 21 = .ok (.dup, 1) := by decide +kernel
theorem dQ_append_22 : decode bQ_append 22 = .ok (.getfield 17, 3) := by decide +kernel
theorem dQ_append_25 : decode bQ_append 25 = .ok (.iconst 1, 1) := by decide +kernel
theorem dQ_append_26 : decode bQ_append 26 = .ok (.iadd, 1) := by decide +kernel
theorem dQ_append_27 : decode bQ_append 27 = .ok (.putfield 17, 3) := by decide +kernel
theorem dQ_append_30 : decode bQ_append 30 = .ok (.return_, 1) := by decide +kernel
theorem dQ_placeOf_0 : decode bQ_placeOf 0 = .ok (.iconst 0, 1) := by decide +kernel
theorem dQ_placeOf_1 : decode bQ_placeOf 1 = .ok (.istore_n 2, 1) := by decide +kernel
theorem dQ_placeOf_2 : decode bQ_placeOf 2 = .ok (.iload_n 2, 1) := by decide +kernel
theorem dQ_placeOf_3 : decode bQ_placeOf 3 = .ok (.aload_n 0, 1) := by decide +kernel
theorem dQ_placeOf_4 : decode bQ_placeOf 4 = .ok (.getfield 17, 3) := by decide +kernel
theorem dQ_placeOf_7 : decode bQ_placeOf 7 = .ok (.if_icmp .ge 22, 3) := by decide +kernel
theorem dQ_placeOf_10 : decode bQ_placeOf 10 = .ok (.aload_n 0, 1) := by decide +kernel
theorem dQ_placeOf_11 : decode bQ_placeOf 11 = .ok (.getfield 11, 3) := by decide +kernel
theorem dQ_placeOf_14 : decode bQ_placeOf 14 = .ok (.iload_n 2, 1) := by decide +kernel
theorem dQ_placeOf_15 : decode bQ_placeOf 15 = .ok (.aaload, 1) := by decide +kernel
theorem dQ_placeOf_16 : decode bQ_placeOf 16 = .ok (.getfield 21, 3) := by decide +kernel
theorem dQ_placeOf_19 : decode bQ_placeOf 19 = .ok (.iload_n 1, 1) := by decide +kernel
theorem dQ_placeOf_20 : decode bQ_placeOf 20 = .ok (.if_icmp .ge 9, 3) := by decide +kernel
theorem dQ_placeOf_23 : decode bQ_placeOf 23 = .ok (.iinc 2 1, 3) := by decide +kernel
theorem dQ_placeOf_26 : decode bQ_placeOf 26 = .ok (.goto (-24), 3) := by decide +kernel
theorem dQ_placeOf_29 : decode bQ_placeOf 29 = .ok (.iload_n 2, 1) := by decide +kernel
theorem dQ_placeOf_30 : decode bQ_placeOf 30 = .ok (.ireturn, 1) := by decide +kernel
theorem dQ_hasKeyAt_0 : decode bQ_hasKeyAt 0 = .ok (.iload_n 1, 1) := by decide +kernel
theorem dQ_hasKeyAt_1 : decode bQ_hasKeyAt 1 = .ok (.aload_n 0, 1) := by decide +kernel
theorem dQ_hasKeyAt_2 : decode bQ_hasKeyAt 2 = .ok (.getfield 17, 3) := by decide +kernel
theorem dQ_hasKeyAt_5 : decode bQ_hasKeyAt 5 = .ok (.if_icmp .ge 20, 3) := by decide +kernel
theorem dQ_hasKeyAt_8 : decode bQ_hasKeyAt 8 = .ok (.aload_n 0, 1) := by decide +kernel
theorem dQ_hasKeyAt_9 : decode bQ_hasKeyAt 9 = .ok (.getfield 11, 3) := by decide +kernel
theorem dQ_hasKeyAt_12 : decode bQ_hasKeyAt 12 = .ok (.iload_n 1, 1) := by decide +kernel
theorem dQ_hasKeyAt_13 : decode bQ_hasKeyAt 13 = .ok (.aaload, 1) := by decide +kernel
theorem dQ_hasKeyAt_14 : decode bQ_hasKeyAt 14 = .ok (.getfield 21, 3) := by decide +kernel
theorem dQ_hasKeyAt_17 : decode bQ_hasKeyAt 17 = .ok (.iload_n 2, 1) := by decide +kernel
theorem dQ_hasKeyAt_18 : decode bQ_hasKeyAt 18 = .ok (.if_icmp .ne 7, 3) := by decide +kernel
theorem dQ_hasKeyAt_21 : decode bQ_hasKeyAt 21 = .ok (.iconst 1, 1) := by decide +kernel
theorem dQ_hasKeyAt_22 : decode bQ_hasKeyAt 22 = .ok (.goto 4, 3) := by decide +kernel
theorem dQ_hasKeyAt_25 : decode bQ_hasKeyAt 25 = .ok (.iconst 0, 1) := by decide +kernel
theorem dQ_hasKeyAt_26 : decode bQ_hasKeyAt 26 = .ok (.ireturn, 1) := by decide +kernel
theorem dQ_insertAt_0 : decode bQ_insertAt 0 = .ok (.aload_n 0, 1) := by decide +kernel
theorem dQ_insertAt_1 : decode bQ_insertAt 1 = .ok (.getfield 17, 3) := by decide +kernel
theorem dQ_insertAt_4 : decode bQ_insertAt 4 = .ok (.istore_n 3, 1) := by decide +kernel
theorem dQ_insertAt_5 : decode bQ_insertAt 5 = .ok (.iload_n 3, 1) := by decide +kernel
theorem dQ_insertAt_6 : decode bQ_insertAt 6 = .ok (.iload_n 1, 1) := by decide +kernel
theorem dQ_insertAt_7 : decode bQ_insertAt 7 = .ok (.if_icmp .le 23, 3) := by decide +kernel
theorem dQ_insertAt_10 : decode bQ_insertAt 10 = .ok (.aload_n 0, 1) := by decide +kernel
theorem dQ_insertAt_11 : decode bQ_insertAt 11 = .ok (.getfield 11, 3) := by decide +kernel
theorem dQ_insertAt_14 : decode bQ_insertAt 14 = .ok (.iload_n 3, 1) := by decide +kernel
theorem dQ_insertAt_15 : decode bQ_insertAt 15 = .ok (.aload_n 0, 1) := by decide +kernel
theorem dQ_insertAt_16 : decode bQ_insertAt 16 = .ok (.getfield 11, 3) := by decide +kernel
theorem dQ_insertAt_19 : decode bQ_insertAt 19 = .ok (.iload_n 3, 1) := by decide +kernel
theorem dQ_insertAt_20 : decode bQ_insertAt 20 = .ok (.iconst 1, 1) := by decide +kernel
theorem dQ_insertAt_21 : decode bQ_insertAt 21 = .ok (.isub, 1) := by decide +kernel
theorem dQ_insertAt_22 : decode bQ_insertAt 22 = .ok (.aaload, 1) := by decide +kernel
theorem dQ_insertAt_23 : decode bQ_insertAt 23 = .ok (.aastore, 1) := by decide +kernel
theorem dQ_insertAt_24 : decode bQ_insertAt 24 = .ok (.iinc 3 (-1), 3) := by decide +kernel
theorem dQ_insertAt_27 : decode bQ_insertAt 27 = .ok (.goto (-22), 3) := by decide +kernel
theorem dQ_insertAt_30 : decode bQ_insertAt 30 = .ok (.aload_n 0, 1) := by decide +kernel
theorem dQ_insertAt_31 : decode bQ_insertAt 31 = .ok (.getfield 11, 3) := by decide +kernel
theorem dQ_insertAt_34 : decode bQ_insertAt 34 = .ok (.iload_n 1, 1) := by decide +kernel
theorem dQ_insertAt_35 : decode bQ_insertAt 35 = .ok (.aload_n 2, 1) := by decide +kernel
theorem dQ_insertAt_36 : decode bQ_insertAt 36 = .ok (.aastore, 1) := by decide +kernel
theorem dQ_insertAt_37 : decode bQ_insertAt 37 = .ok (.aload_n 0, 1) := by decide +kernel
theorem dQ_insertAt_38 : decode bQ_insertAt 38 = .ok (.dup, 1) := by decide +kernel
theorem dQ_insertAt_39 : decode bQ_insertAt 39 = .ok (.getfield 17, 3) := by decide +kernel
theorem dQ_insertAt_42 : decode bQ_insertAt 42 = .ok (.iconst 1, 1) := by decide +kernel
theorem dQ_insertAt_43 : decode bQ_insertAt 43 = .ok (.iadd, 1) := by decide +kernel
theorem dQ_insertAt_44 : decode bQ_insertAt 44 = .ok (.putfield 17, 3) := by decide +kernel
theorem dQ_insertAt_47 : decode bQ_insertAt 47 = .ok (.return_, 1) := by decide +kernel
theorem dQ_takeAt_0 : decode bQ_takeAt 0 = .ok (.aload_n 0, 1) := by decide +kernel
theorem dQ_takeAt_1 : decode bQ_takeAt 1 = .ok (.dup, 1) := by decide +kernel
theorem dQ_takeAt_2 : decode bQ_takeAt 2 = .ok (.getfield 17, 3) := by decide +kernel
theorem dQ_takeAt_5 : decode bQ_takeAt 5 = .ok (.iconst 1, 1) := by decide +kernel
theorem dQ_takeAt_6 : decode bQ_takeAt 6 = .ok (.isub, 1) := by decide +kernel
theorem dQ_takeAt_7 : decode bQ_takeAt 7 = .ok (.putfield 17, 3) := by decide +kernel
theorem dQ_takeAt_10 : decode bQ_takeAt 10 = .ok (.iload_n 1, 1) := by decide +kernel
theorem dQ_takeAt_11 : decode bQ_takeAt 11 = .ok (.istore_n 2, 1) := by decide +kernel
theorem dQ_takeAt_12 : decode bQ_takeAt 12 = .ok (.iload_n 2, 1) := by decide +kernel
theorem dQ_takeAt_13 : decode bQ_takeAt 13 = .ok (.aload_n 0, 1) := by decide +kernel
theorem dQ_takeAt_14 : decode bQ_takeAt 14 = .ok (.getfield 17, 3) := by decide +kernel
theorem dQ_takeAt_17 : decode bQ_takeAt 17 = .ok (.if_icmp .ge 23, 3) := by decide +kernel
theorem dQ_takeAt_20 : decode bQ_takeAt 20 = .ok (.aload_n 0, 1) := by decide +kernel
theorem dQ_takeAt_21 : decode bQ_takeAt 21 = .ok (.getfield 11, 3) := by decide +kernel
theorem dQ_takeAt_24 : decode bQ_takeAt 24 = .ok (.iload_n 2, 1) := by decide +kernel
theorem dQ_takeAt_25 : decode bQ_takeAt 25 = .ok (.aload_n 0, 1) := by decide +kernel
theorem dQ_takeAt_26 : decode bQ_takeAt 26 = .ok (.getfield 11, 3) := by decide +kernel
theorem dQ_takeAt_29 : decode bQ_takeAt 29 = .ok (.iload_n 2, 1) := by decide +kernel
theorem dQ_takeAt_30 : decode bQ_takeAt 30 = .ok (.iconst 1, 1) := by decide +kernel
theorem dQ_takeAt_31 : decode bQ_takeAt 31 = .ok (.iadd, 1) := by decide +kernel
theorem dQ_takeAt_32 : decode bQ_takeAt 32 = .ok (.aaload, 1) := by decide +kernel
theorem dQ_takeAt_33 : decode bQ_takeAt 33 = .ok (.aastore, 1) := by decide +kernel
theorem dQ_takeAt_34 : decode bQ_takeAt 34 = .ok (.iinc 2 1, 3) := by decide +kernel
theorem dQ_takeAt_37 : decode bQ_takeAt 37 = .ok (.goto (-25), 3) := by decide +kernel
theorem dQ_takeAt_40 : decode bQ_takeAt 40 = .ok (.return_, 1) := by decide +kernel
theorem dD_init_0 : decode bD_init 0 = .ok (.aload_n 0, 1) := by decide +kernel
theorem dD_init_1 : decode bD_init 1 = .ok (.invokespecial 3, 3) := by decide +kernel
theorem dD_init_4 : decode bD_init 4 = .ok (.aload_n 0, 1) := by decide +kernel
theorem dD_init_5 : decode bD_init 5 = .ok (.sipush 600, 3) := by decide +kernel
theorem dD_init_8 : decode bD_init 8 = .ok (.newarray .int, 2) := by decide +kernel
theorem dD_init_10 : decode bD_init 10 = .ok (.putfield 9, 3) := by decide +kernel
theorem dD_init_13 : decode bD_init 13 = .ok (.aload_n 0, 1) := by decide +kernel
theorem dD_init_14 : decode bD_init 14 = .ok (.sipush 600, 3) := by decide +kernel
theorem dD_init_17 : decode bD_init 17 = .ok (.newarray .int, 2) := by decide +kernel
theorem dD_init_19 : decode bD_init 19 = .ok (.putfield 15, 3) := by decide +kernel
theorem dD_init_22 : decode bD_init 22 = .ok (.aload_n 0, 1) := by decide +kernel
theorem dD_init_23 : decode bD_init 23 = .ok (.sipush 600, 3) := by decide +kernel
theorem dD_init_26 : decode bD_init 26 = .ok (.newarray .int, 2) := by decide +kernel
theorem dD_init_28 : decode bD_init 28 = .ok (.putfield 18, 3) := by decide +kernel
theorem dD_init_31 : decode bD_init 31 = .ok (.aload_n 0, 1) := by decide +kernel
theorem dD_init_32 : decode bD_init 32 = .ok (.iconst 0, 1) := by decide +kernel
theorem dD_init_33 : decode bD_init 33 = .ok (.putfield 21, 3) := by decide +kernel
theorem dD_init_36 : decode bD_init 36 = .ok (.return_, 1) := by decide +kernel
theorem dD_collect_0 : decode bD_collect 0 = .ok (.aload_n 0, 1) := by decide +kernel
theorem dD_collect_1 : decode bD_collect 1 = .ok (.iconst 0, 1) := by decide +kernel
theorem dD_collect_2 : decode bD_collect 2 = .ok (.putfield 21, 3) := by decide +kernel
theorem dD_collect_5 : decode bD_collect 5 = .ok (.iconst 0, 1) := by decide +kernel
theorem dD_collect_6 : decode bD_collect 6 = .ok (.istore_n 3, 1) := by decide +kernel
theorem dD_collect_7 : decode bD_collect 7 = .ok (.iconst 0, 1) := by decide +kernel
theorem dD_collect_8 : decode bD_collect 8 = .ok (.istore 4, 2) := by decide +kernel
theorem dD_collect_10 : decode bD_collect 10 = .ok (.iload_n 3, 1) := by decide +kernel
theorem dD_collect_11 : decode bD_collect 11 = .ok (.aload_n 1, 1) := by decide +kernel
theorem dD_collect_12 : decode bD_collect 12 = .ok (.getfield 25, 3) := by decide +kernel
theorem dD_collect_15 : decode bD_collect 15 = .ok (.if_icmp .lt 12, 3) := by decide +kernel
theorem dD_collect_18 : decode bD_collect 18 = .ok (.iload 4, 2) := by decide +kernel
theorem dD_collect_20 : decode bD_collect 20 = .ok (.aload_n 2, 1) := by decide +kernel
theorem dD_collect_21 : decode bD_collect 21 = .ok (.getfield 25, 3) := by decide +kernel
theorem dD_collect_24 : decode bD_collect 24 = .ok (.if_icmp .ge 163, 3) := by decide +kernel
theorem dD_collect_27 : decode bD_collect 27 = .ok (.iload 4, 2) := by decide +kernel
theorem dD_collect_29 : decode bD_collect 29 = .ok (.aload_n 2, 1) := by decide +kernel
theorem dD_collect_30 : decode bD_collect 30 = .ok (.getfield 25, 3) := by decide +kernel
theorem dD_collect_33 : decode bD_collect 33 = .ok (.if_icmp .ge 33, 3) := by decide +kernel
theorem dD_collect_36 : decode bD_collect 36 = .ok (.iload_n 3, 1) := by decide +kernel
theorem dD_collect_37 : decode bD_collect 37 = .ok (.aload_n 1, 1) := by decide +kernel
theorem dD_collect_38 : decode bD_collect 38 = .ok (.getfield 25, 3) := by decide +kernel
theorem dD_collect_41 : decode bD_collect 41 = .ok (.if_icmp .ge 46, 3) := by decide +kernel
theorem dD_collect_44 : decode bD_collect 44 = .ok (.aload_n 1, 1) := by decide +kernel
theorem dD_collect_45 : decode bD_collect 45 = .ok (.getfield 28, 3) := by decide +kernel
theorem dD_collect_48 : decode bD_collect 48 = .ok (.iload_n 3, 1) := by decide +kernel
theorem dD_collect_49 : decode bD_collect 49 = .ok (.aaload, 1) := by decide +kernel
theorem dD_collect_50 : decode bD_collect 50 = .ok (.getfield 32, 3) := by decide +kernel
theorem dD_collect_53 : decode bD_collect 53 = .ok (.aload_n 2, 1) := by decide +kernel
theorem dD_collect_54 : decode bD_collect 54 = .ok (.getfield 28, 3) := by decide +kernel
theorem dD_collect_57 : decode bD_collect 57 = .ok (.iload 4, 2) := by decide +kernel
theorem dD_collect_59 : decode bD_collect 59 = .ok (.aaload, 1) := by decide +kernel
theorem dD_collect_60 : decode bD_collect 60 = .ok (.getfield 32, 3) := by decide +kernel
theorem dD_collect_63 : decode bD_collect 63 = .ok (.if_icmp .ge 24, 3) := by decide +kernel
theorem dD_collect_66 : decode bD_collect 66 = .ok (.aload_n 0, 1) := by decide +kernel
theorem dD_collect_67 : decode bD_collect 67 = .ok (.aload_n 1, 1) := by decide +kernel
theorem dD_collect_68 : decode bD_collect 68 = .ok (.getfield 28, 3) := by decide +kernel
theorem dD_collect_71 : decode bD_collect 71 = .ok (.iload_n 3, 1) := by decide +kernel
theorem dD_collect_72 : decode bD_collect 72 = .ok (.aaload, 1) := by decide +kernel
theorem dD_collect_73 : decode bD_collect 73 = .ok (.getfield 32, 3) := by decide +kernel
theorem dD_collect_76 : decode bD_collect 76 = .ok (.iconst 1, 1) := by decide +kernel
theorem dD_collect_77 : decode bD_collect 77 = .ok (.iconst 0, 1) := by decide +kernel
theorem dD_collect_78 : decode bD_collect 78 = .ok (.invokevirtual 37, 3) := by decide +kernel
theorem dD_collect_81 : decode bD_collect 81 = .ok (.iinc 3 1, 3) := by decide +kernel
theorem dD_collect_84 : decode bD_collect 84 = .ok (.goto (-74), 3) := by decide +kernel
theorem dD_collect_87 : decode bD_collect 87 = .ok (.iload_n 3, 1) := by decide +kernel
theorem dD_collect_88 : decode bD_collect 88 = .ok (.aload_n 1, 1) := by decide +kernel
theorem dD_collect_89 : decode bD_collect 89 = .ok (.getfield 25, 3) := by decide +kernel
theorem dD_collect_92 : decode bD_collect 92 = .ok (.if_icmp .ge 25, 3) := by decide +kernel
theorem dD_collect_95 : decode bD_collect 95 = .ok (.aload_n 2, 1) := by decide +kernel
theorem dD_collect_96 : decode bD_collect 96 = .ok (.getfield 28, 3) := by decide +kernel
theorem dD_collect_99 : decode bD_collect 99 = .ok (.iload 4, 2) := by decide +kernel
theorem dD_collect_101 : decode bD_collect 101 = .ok (.aaload, 1) := by decide +kernel
theorem dD_collect_102 : decode bD_collect 102 = .ok (.getfield 32, 3) := by decide +kernel
theorem dD_collect_105 : decode bD_collect 105 = .ok (.aload_n 1, 1) := by decide +kernel
theorem dD_collect_106 : decode bD_collect 106 = .ok (.getfield 28, 3) := by decide +kernel
theorem dD_collect_109 : decode bD_collect 109 = .ok (.iload_n 3, 1) := by decide +kernel
theorem dD_collect_110 : decode bD_collect 110 = .ok (.aaload, 1) := by decide +kernel
theorem dD_collect_111 : decode bD_collect 111 = .ok (.getfield 32, 3) := by decide +kernel
theorem dD_collect_114 : decode bD_collect 114 = .ok (.if_icmp .ge 25, 3) := by decide +kernel
theorem dD_collect_117 : decode bD_collect 117 = .ok (.aload_n 0, 1) := by decide +kernel
theorem dD_collect_118 : decode bD_collect 118 = .ok (.aload_n 2, 1) := by decide +kernel
theorem dD_collect_119 : decode bD_collect 119 = .ok (.getfield 28, 3) := by decide +kernel
theorem dD_collect_122 : decode bD_collect 122 = .ok (.iload 4, 2) := by decide +kernel
theorem dD_collect_124 : decode bD_collect 124 = .ok (.aaload, 1) := by decide +kernel
theorem dD_collect_125 : decode bD_collect 125 = .ok (.getfield 32, 3) := by decide +kernel
theorem dD_collect_128 : decode bD_collect 128 = .ok (.iconst 0, 1) := by decide +kernel
theorem dD_collect_129 : decode bD_collect 129 = .ok (.iconst 0, 1) := by decide +kernel
theorem dD_collect_130 : decode bD_collect 130 = .ok (.invokevirtual 37, 3) := by decide +kernel
theorem dD_collect_133 : decode bD_collect 133 = .ok (.iinc 4 1, 3) := by decide +kernel
theorem dD_collect_136 : decode bD_collect 136 = .ok (.goto (-126), 3) := by decide +kernel
theorem dD_collect_139 : decode bD_collect 139 = .ok (.aload_n 1, 1) := by decide +kernel
theorem dD_collect_140 : decode bD_collect 140 = .ok (.getfield 28, 3) := by decide +kernel
theorem dD_collect_143 : decode bD_collect 143 = .ok (.iload_n 3, 1) := by decide +kernel
theorem dD_collect_144 : decode bD_collect 144 = .ok (.aaload, 1) := by decide +kernel
theorem dD_collect_145 : decode bD_collect 145 = .ok (.aload_n 2, 1) := by decide +kernel
theorem dD_collect_146 : decode bD_collect 146 = .ok (.getfield 28, 3) := by decide +kernel
theorem dD_collect_149 : decode bD_collect 149 = .ok (.iload 4, 2) := by decide +kernel
theorem dD_collect_151 : decode bD_collect 151 = .ok (.aaload, 1) := by decide +kernel
theorem dD_collect_152 : decode bD_collect 152 = .ok (.invokevirtual 41, 3) := by decide +kernel
theorem dD_collect_155 : decode bD_collect 155 = .ok (.istore 5, 2) := by decide +kernel
theorem dD_collect_157 : decode bD_collect 157 = .ok (.iload 5, 2) := by decide +kernel
theorem dD_collect_159 : decode bD_collect 159 = .ok (.ifCond .eq 19, 3) := by decide +kernel
theorem dD_collect_162 : decode bD_collect 162 = .ok (.aload_n 0, 1) := by decide +kernel
theorem dD_collect_163 : decode bD_collect 163 = .ok (.aload_n 1, 1) := by decide +kernel
theorem dD_collect_164 : decode bD_collect 164 = .ok (.getfield 28, 3) := by decide +kernel
theorem dD_collect_167 : decode bD_collect 167 = .ok (.iload_n 3, 1) := by decide +kernel
theorem dD_collect_168 : decode bD_collect 168 = .ok (.aaload, 1) := by decide +kernel
theorem dD_collect_169 : decode bD_collect 169 = .ok (.getfield 32, 3) := by decide +kernel
theorem dD_collect_172 : decode bD_collect 172 = .ok (.iconst 2, 1) := by decide +kernel
theorem dD_collect_173 : decode bD_collect 173 = .ok (.iload 5, 2) := by decide +kernel
theorem dD_collect_175 : decode bD_collect 175 = .ok (.invokevirtual 37, 3) := by decide +kernel
theorem dD_collect_178 : decode bD_collect 178 = .ok (.iinc 3 1, 3) := by decide +kernel
theorem dD_collect_181 : decode bD_collect 181 = .ok (.iinc 4 1, 3) := by decide +kernel
theorem dD_collect_184 : decode bD_collect 184 = .ok (.goto (-174), 3) := by decide +kernel
theorem dD_collect_187 : decode bD_collect 187 = .ok (.return_, 1) := by decide +kernel
theorem dD_note_0 : decode bD_note 0 = .ok (.aload_n 0, 1) := by decide +kernel
theorem dD_note_1 : decode bD_note 1 = .ok (.getfield 21, 3) := by decide +kernel
theorem dD_note_4 : decode bD_note 4 = .ok (.aload_n 0, 1) := by decide +kernel
theorem dD_note_5 : decode bD_note 5 = .ok (.getfield 9, 3) := by decide +kernel
theorem dD_note_8 : decode bD_note 8 = .ok (.arraylength, 1) := by decide +kernel
theorem dD_note_9 : decode bD_note 9 = .ok (.if_icmp .ge 43, 3) := by decide +kernel
theorem dD_note_12 : decode bD_note 12 = .ok (.aload_n 0, 1) := by decide +kernel
theorem dD_note_13 : decode bD_note 13 = .ok (.getfield 9, 3) := by decide +kernel
theorem dD_note_16 : decode bD_note 16 = .ok (.aload_n 0, 1) := by decide +kernel
theorem dD_note_17 : decode bD_note 17 = .ok (.getfield 21, 3) := by decide +kernel
theorem dD_note_20 : decode bD_note 20 = .ok (.iload_n 1, 1) := by decide +kernel
theorem dD_note_21 : decode bD_note 21 = .ok (.iastore, 1) := by decide +kernel
theorem dD_note_22 : decode bD_note 22 = .ok (.aload_n 0, 1) := by decide +kernel
theorem dD_note_23 : decode bD_note 23 = .ok (.getfield 15, 3) := by decide +kernel
theorem dD_note_26 : decode bD_note 26 = .ok (.aload_n 0, 1) := by decide +kernel
theorem dD_note_27 : decode bD_note 27 = .ok (.getfield 21, 3) := by decide +kernel
theorem dD_note_30 : decode bD_note 30 = .ok (.iload_n 2, 1) := by decide +kernel
theorem dD_note_31 : decode bD_note 31 = .ok (.iastore, 1) := by decide +kernel
theorem dD_note_32 : decode bD_note 32 = .ok (.aload_n 0, 1) := by decide +kernel
theorem dD_note_33 : decode bD_note 33 = .ok (.getfield 18, 3) := by decide +kernel
theorem dD_note_36 : decode bD_note 36 = .ok (.aload_n 0, 1) := by decide +kernel
theorem dD_note_37 : decode bD_note 37 = .ok (.getfield 21, 3) := by decide +kernel
theorem dD_note_40 : decode bD_note 40 = .ok (.iload_n 3, 1) := by decide +kernel
theorem dD_note_41 : decode bD_note 41 = .ok (.iastore, 1) := by decide +kernel
theorem dD_note_42 : decode bD_note 42 = .ok (.aload_n 0, 1) := by decide +kernel
theorem dD_note_43 : decode bD_note 43 = .ok (.dup, 1) := by decide +kernel
theorem dD_note_44 : decode bD_note 44 = .ok (.getfield 21, 3) := by decide +kernel
theorem dD_note_47 : decode bD_note 47 = .ok (.iconst 1, 1) := by decide +kernel
theorem dD_note_48 : decode bD_note 48 = .ok (.iadd, 1) := by decide +kernel
theorem dD_note_49 : decode bD_note 49 = .ok (.putfield 21, 3) := by decide +kernel
theorem dD_note_52 : decode bD_note 52 = .ok (.return_, 1) := by decide +kernel
theorem dN_isLikeLeaf_0 : decode bN_isLikeLeaf 0 = .ok (.aload_n 0, 1) := by decide +kernel
theorem dN_isLikeLeaf_1 : decode bN_isLikeLeaf 1 = .ok (.getfield 25, 3) := by decide +kernel
theorem dN_isLikeLeaf_4 : decode bN_isLikeLeaf 4 = .ok (.ifCond .ne 14, 3) := by decide +kernel
theorem dN_isLikeLeaf_7 : decode bN_isLikeLeaf 7 = .ok (.aload_n 0, 1) := by decide +kernel
theorem dN_isLikeLeaf_8 : decode bN_isLikeLeaf 8 = .ok (.getfield 30, 3) := by decide +kernel
theorem dN_isLikeLeaf_11 : decode bN_isLikeLeaf 11 = .ok (.arraylength, 1) := by decide +kernel
theorem dN_isLikeLeaf_12 : decode bN_isLikeLeaf 12 = .ok (.iload_n 3, 1) := by decide +kernel
theorem dN_isLikeLeaf_13 : decode bN_isLikeLeaf 13 = .ok (.iload_n 2, 1) := by decide +kernel
theorem dN_isLikeLeaf_14 : decode bN_isLikeLeaf 14 = .ok (.isub, 1) := by decide +kernel
theorem dN_isLikeLeaf_15 : decode bN_isLikeLeaf 15 = .ok (.if_icmp .eq 5, 3) := by decide +kernel
theorem dN_isLikeLeaf_18 : decode bN_isLikeLeaf 18 = .ok (.iconst 0, 1) := by decide +kernel
theorem dN_isLikeLeaf_19 : decode bN_isLikeLeaf 19 = .ok (.ireturn, 1) := by decide +kernel
theorem dN_isLikeLeaf_20 : decode bN_isLikeLeaf 20 = .ok (.iload_n 2, 1) := by decide +kernel
theorem dN_isLikeLeaf_21 : decode bN_isLikeLeaf 21 = .ok (.istore 4, 2) := by decide +kernel
theorem dN_isLikeLeaf_23 : decode bN_isLikeLeaf 23 = .ok (.iload 4, 2) := by decide +kernel
theorem dN_isLikeLeaf_25 : decode bN_isLikeLeaf 25 = .ok (.iload_n 3, 1) := by decide +kernel
theorem dN_isLikeLeaf_26 : decode bN_isLikeLeaf 26 = .ok (.if_icmp .ge 30, 3) := by decide +kernel
theorem dN_isLikeLeaf_29 : decode bN_isLikeLeaf 29 = .ok (.aload_n 0, 1) := by decide +kernel
theorem dN_isLikeLeaf_30 : decode bN_isLikeLeaf 30 = .ok (.getfield 30, 3) := by decide +kernel
theorem dN_isLikeLeaf_33 : decode bN_isLikeLeaf 33 = .ok (.iload 4, 2) := by decide +kernel
theorem dN_isLikeLeaf_35 : decode bN_isLikeLeaf 35 = .ok (.iload_n 2, 1) := by decide +kernel
theorem dN_isLikeLeaf_36 : decode bN_isLikeLeaf 36 = .ok (.isub, 1) := by decide +kernel
theorem dN_isLikeLeaf_37 : decode bN_isLikeLeaf 37 = .ok (.aaload, 1) := by decide +kernel
theorem dN_isLikeLeaf_38 : decode bN_isLikeLeaf 38 = .ok (.aload_n 1, 1) := by decide +kernel
theorem dN_isLikeLeaf_39 : decode bN_isLikeLeaf 39 = .ok (.iload 4, 2) := by decide +kernel
theorem dN_isLikeLeaf_41 : decode bN_isLikeLeaf 41 = .ok (.aaload, 1) := by decide +kernel
theorem dN_isLikeLeaf_42 : decode bN_isLikeLeaf 42 = .ok (.invokevirtual 63, 3) := by decide +kernel
theorem dN_isLikeLeaf_45 : decode bN_isLikeLeaf 45 = .ok (.ifCond .ne 5, 3) := by decide +kernel
theorem dN_isLikeLeaf_48 : decode bN_isLikeLeaf 48 = .ok (.iconst 0, 1) := by decide +kernel
theorem dN_isLikeLeaf_49 : decode bN_isLikeLeaf 49 = .ok (.ireturn, 1) := by decide +kernel
theorem dN_isLikeLeaf_50 : decode bN_isLikeLeaf 50 = .ok (.iinc 4 1, 3) := by decide +kernel
theorem dN_isLikeLeaf_53 : decode bN_isLikeLeaf 53 = .ok (.goto (-30), 3) := by decide +kernel
theorem dN_isLikeLeaf_56 : decode bN_isLikeLeaf 56 = .ok (.iconst 1, 1) := by decide +kernel
theorem dN_isLikeLeaf_57 : decode bN_isLikeLeaf 57 = .ok (.ireturn, 1) := by decide +kernel
theorem dN_init_0 : decode bN_init 0 = .ok (.aload_n 0, 1) := by decide +kernel
theorem dN_init_1 : decode bN_init 1 = .ok (.invokespecial 1, 3) := by decide +kernel
theorem dN_init_4 : decode bN_init 4 = .ok (.aload_n 0, 1) := by decide +kernel
theorem dN_init_5 : decode bN_init 5 = .ok (.lconst 0, 1) := by decide +kernel
theorem dN_init_6 : decode bN_init 6 = .ok (.putfield 7, 3) := by decide +kernel
theorem dN_init_9 : decode bN_init 9 = .ok (.aload_n 0, 1) := by decide +kernel
theorem dN_init_10 : decode bN_init 10 = .ok (.iconst 0, 1) := by decide +kernel
theorem dN_init_11 : decode bN_init 11 = .ok (.putfield 13, 3) := by decide +kernel
theorem dN_init_14 : decode bN_init 14 = .ok (.aload_n 0, 1) := by decide +kernel
theorem dN_init_15 : decode bN_init 15 = .ok (.iconst 0, 1) := by decide +kernel
theorem dN_init_16 : decode bN_init 16 = .ok (.putfield 17, 3) := by decide +kernel
theorem dN_init_19 : decode bN_init 19 = .ok (.aload_n 0, 1) := by decide +kernel
theorem dN_init_20 : decode bN_init 20 = .ok (.aconst_null, 1) := by decide +kernel
theorem dN_init_21 : decode bN_init 21 = .ok (.putfield 21, 3) := by decide +kernel
theorem dN_init_24 : decode bN_init 24 = .ok (.aload_n 0, 1) := by decide +kernel
theorem dN_init_25 : decode bN_init 25 = .ok (.iconst 0, 1) := by decide +kernel
theorem dN_init_26 : decode bN_init 26 = .ok (.putfield 25, 3) := by decide +kernel
theorem dN_init_29 : decode bN_init 29 = .ok (.aload_n 0, 1) := by decide +kernel
theorem dN_init_30 : decode bN_init 30 = .ok (.iload_n 3, 1) := by decide +kernel
theorem dN_init_31 : decode bN_init 31 = .ok (.iload_n 2, 1) := by decide +kernel
theorem dN_init_32 : decode bN_init 32 = .ok (.isub, 1) := by decide +kernel
theorem dN_init_33 : decode bN_init 33 = .ok (.anewarray 28, 3) := by decide +kernel
theorem dN_init_36 : decode bN_init 36 = .ok (.putfield 30, 3) := by decide +kernel
theorem dN_init_39 : decode bN_init 39 = .ok (.aload_n 0, 1) := by decide +kernel
theorem dN_init_40 : decode bN_init 40 = .ok (.iconst 0, 1) := by decide +kernel
theorem dN_init_41 : decode bN_init 41 = .ok (.anewarray 8, 3) := by decide +kernel
theorem dN_init_44 : decode bN_init 44 = .ok (.putfield 34, 3) := by decide +kernel
theorem dN_init_47 : decode bN_init 47 = .ok (.iconst 0, 1) := by decide +kernel
theorem dN_init_48 : decode bN_init 48 = .ok (.istore 5, 2) := by decide +kernel
theorem dN_init_50 : decode bN_init 50 = .ok (.iload_n 2, 1) := by decide +kernel
theorem dN_init_51 : decode bN_init 51 = .ok (.istore 6, 2) := by decide +kernel
theorem dN_init_53 : decode bN_init 53 = .ok (.iload 6, 2) := by decide +kernel
theorem dN_init_55 : decode bN_init 55 = .ok (.iload_n 3, 1) := by decide +kernel
theorem dN_init_56 : decode bN_init 56 = .ok (.if_icmp .ge 37, 3) := by decide +kernel
theorem dN_init_59 : decode bN_init 59 = .ok (.aload_n 0, 1) := by decide +kernel
theorem dN_init_60 : decode bN_init 60 = .ok (.getfield 30, 3) := by decide +kernel
theorem dN_init_63 : decode bN_init 63 = .ok (.iload 6, 2) := by decide +kernel
theorem dN_init_65 : decode bN_init 65 = .ok (.iload_n 2, 1) := by decide +kernel
theorem dN_init_66 : decode bN_init 66 = .ok (.isub, 1) := by decide +kernel
theorem dN_init_67 : decode bN_init 67 = .ok (.aload_n 1, 1) := by decide +kernel
theorem dN_init_68 : decode bN_init 68 = .ok (.iload 6, 2) := by decide +kernel
theorem dN_init_70 : decode bN_init 70 = .ok (.aaload, 1) := by decide +kernel
theorem dN_init_71 : decode bN_init 71 = .ok (.aastore, 1) := by decide +kernel
theorem dN_init_72 : decode bN_init 72 = .ok (.iload 5, 2) := by decide +kernel
theorem dN_init_74 : decode bN_init 74 = .ok (.iconst 1, 1) := by decide +kernel
theorem dN_init_75 : decode bN_init 75 = .ok (.aload_n 1, 1) := by decide +kernel
theorem dN_init_76 : decode bN_init 76 = .ok (.iload 6, 2) := by decide +kernel
theorem dN_init_78 : decode bN_init 78 = .ok (.aaload, 1) := by decide +kernel
theorem dN_init_79 : decode bN_init 79 = .ok (.getfield 38, 3) := by decide +kernel
theorem dN_init_82 : decode bN_init 82 = .ok (.arraylength, 1) := by decide +kernel
theorem dN_init_83 : decode bN_init 83 = .ok (.iadd, 1) := by decide +kernel
theorem dN_init_84 : decode bN_init 84 = .ok (.iadd, 1) := by decide +kernel
theorem dN_init_85 : decode bN_init 85 = .ok (.istore 5, 2) := by decide +kernel
theorem dN_init_87 : decode bN_init 87 = .ok (.iinc 6 1, 3) := by decide +kernel
theorem dN_init_90 : decode bN_init 90 = .ok (.goto (-37), 3) := by decide +kernel
theorem dN_init_93 : decode bN_init 93 = .ok (.aload_n 0, 1) := by decide +kernel
theorem dN_init_94 : decode bN_init 94 = .ok (.iload_n 3, 1) := by decide +kernel
theorem dN_init_95 : decode bN_init 95 = .ok (.iload_n 2, 1) := by decide +kernel
theorem dN_init_96 : decode bN_init 96 = .ok (.isub, 1) := by decide +kernel
theorem dN_init_97 : decode bN_init 97 = .ok (.putfield 42, 3) := by decide +kernel
theorem dN_init_100 : decode bN_init 100 = .ok (.aload_n 0, 1) := by decide +kernel
theorem dN_init_101 : decode bN_init 101 = .ok (.iload 5, 2) := by decide +kernel
theorem dN_init_103 : decode bN_init 103 = .ok (.putfield 45, 3) := by decide +kernel
theorem dN_init_106 : decode bN_init 106 = .ok (.aload_n 0, 1) := by decide +kernel
theorem dN_init_107 : decode bN_init 107 = .ok (.iload_n 2, 1) := by decide +kernel
theorem dN_init_108 : decode bN_init 108 = .ok (.iload_n 3, 1) := by decide +kernel
theorem dN_init_109 : decode bN_init 109 = .ok (.if_icmp .ge 14, 3) := by decide +kernel
theorem dN_init_112 : decode bN_init 112 = .ok (.aload_n 1, 1) := by decide +kernel
theorem dN_init_113 : decode bN_init 113 = .ok (.iload_n 3, 1) := by decide +kernel
theorem dN_init_114 : decode bN_init 114 = .ok (.iconst 1, 1) := by decide +kernel
theorem dN_init_115 : decode bN_init 115 = .ok (.isub, 1) := by decide +kernel
theorem dN_init_116 : decode bN_init 116 = .ok (.aaload, 1) := by decide +kernel
theorem dN_init_117 : decode bN_init 117 = .ok (.getfield 48, 3) := by decide +kernel
theorem dN_init_120 : decode bN_init 120 = .ok (.goto 4, 3) := by decide +kernel
theorem dN_init_123 : decode bN_init 123 = .ok (.iconst 0, 1) := by decide +kernel
theorem dN_init_124 : decode bN_init 124 = .ok (.putfield 51, 3) := by decide +kernel
theorem dN_init_127 : decode bN_init 127 = .ok (.aload_n 0, 1) := by decide +kernel
theorem dN_init_128 : decode bN_init 128 = .ok (.iload_n 2, 1) := by decide +kernel
theorem dN_init_129 : decode bN_init 129 = .ok (.iload_n 3, 1) := by decide +kernel
theorem dN_init_130 : decode bN_init 130 = .ok (.if_icmp .ge 14, 3) := by decide +kernel
theorem dN_init_133 : decode bN_init 133 = .ok (.aload_n 1, 1) := by decide +kernel
theorem dN_init_134 : decode bN_init 134 = .ok (.iload_n 3, 1) := by decide +kernel
theorem dN_init_135 : decode bN_init 135 = .ok (.iconst 1, 1) := by decide +kernel
theorem dN_init_136 : decode bN_init 136 = .ok (.isub, 1) := by decide +kernel
theorem dN_init_137 : decode bN_init 137 = .ok (.aaload, 1) := by decide +kernel
theorem dN_init_138 : decode bN_init 138 = .ok (.getfield 54, 3) := by decide +kernel
theorem dN_init_141 : decode bN_init 141 = .ok (.goto 4, 3) := by decide +kernel
theorem dN_init_144 : decode bN_init 144 = .ok (.iconst 0, 1) := by decide +kernel
theorem dN_init_145 : decode bN_init 145 = .ok (.putfield 57, 3) := by decide +kernel
theorem dN_init_148 : decode bN_init 148 = .ok (.aload_n 0, 1) := by decide +kernel
theorem dN_init_149 : decode bN_init 149 = .ok (.iload 4, 2) := by decide +kernel
theorem dN_init_151 : decode bN_init 151 = .ok (.putfield 60, 3) := by decide +kernel
theorem dN_init_154 : decode bN_init 154 = .ok (.return_, 1) := by decide +kernel
theorem dN_isLikeBranch_0 : decode bN_isLikeBranch 0 = .ok (.aload_n 0, 1) := by decide +kernel
theorem dN_isLikeBranch_1 : decode bN_isLikeBranch 1 = .ok (.getfield 34, 3) := by decide +kernel
theorem dN_isLikeBranch_4 : decode bN_isLikeBranch 4 = .ok (.arraylength, 1) := by decide +kernel
theorem dN_isLikeBranch_5 : decode bN_isLikeBranch 5 = .ok (.iload_n 3, 1) := by decide +kernel
theorem dN_isLikeBranch_6 : decode bN_isLikeBranch 6 = .ok (.iload_n 2, 1) := by decide +kernel
theorem dN_isLikeBranch_7 : decode bN_isLikeBranch 7 = .ok (.isub, 1) := by decide +kernel
theorem dN_isLikeBranch_8 : decode bN_isLikeBranch 8 = .ok (.if_icmp .eq 5, 3) := by decide +kernel
theorem dN_isLikeBranch_11 : decode bN_isLikeBranch 11 = .ok (.iconst 0, 1) := by decide +kernel
theorem dN_isLikeBranch_12 : decode bN_isLikeBranch 12 = .ok (.ireturn, 1) := by decide +kernel
theorem dN_isLikeBranch_13 : decode bN_isLikeBranch 13 = .ok (.iload_n 2, 1) := by decide +kernel
theorem dN_isLikeBranch_14 : decode bN_isLikeBranch 14 = .ok (.istore 4, 2) := by decide +kernel
theorem dN_isLikeBranch_16 : decode bN_isLikeBranch 16 = .ok (.iload 4, 2) := by decide +kernel
theorem dN_isLikeBranch_18 : decode bN_isLikeBranch 18 = .ok (.iload_n 3, 1) := by decide +kernel
theorem dN_isLikeBranch_19 : decode bN_isLikeBranch 19 = .ok (.if_icmp .ge 27, 3) := by decide +kernel
theorem dN_isLikeBranch_22 : decode bN_isLikeBranch 22 = .ok (.aload_n 0, 1) := by decide +kernel
theorem dN_isLikeBranch_23 : decode bN_isLikeBranch 23 = .ok (.getfield 34, 3) := by decide +kernel
theorem dN_isLikeBranch_26 : decode bN_isLikeBranch 26 = .ok (.iload 4, 2) := by decide +kernel
theorem dN_isLikeBranch_28 : decode bN_isLikeBranch 28 = .ok (.iload_n 2, 1) := by decide +kernel
theorem dN_isLikeBranch_29 : decode bN_isLikeBranch 29 = .ok (.isub, 1) := by decide +kernel
theorem dN_isLikeBranch_30 : decode bN_isLikeBranch 30 = .ok (.aaload, 1) := by decide +kernel
theorem dN_isLikeBranch_31 : decode bN_isLikeBranch 31 = .ok (.aload_n 1, 1) := by decide +kernel
theorem dN_isLikeBranch_32 : decode bN_isLikeBranch 32 = .ok (.iload 4, 2) := by decide +kernel
theorem dN_isLikeBranch_34 : decode bN_isLikeBranch 34 = .ok (.aaload, 1) := by decide +kernel
theorem dN_isLikeBranch_35 : decode bN_isLikeBranch 35 = .ok (.if_acmp .eq 5, 3) := by decide +kernel
theorem dN_isLikeBranch_38 : decode bN_isLikeBranch 38 = .ok (.iconst 0, 1) := by decide +kernel
theorem dN_isLikeBranch_39 : decode bN_isLikeBranch 39 = .ok (.ireturn, 1) := by decide +kernel
theorem dN_isLikeBranch_40 : decode bN_isLikeBranch 40 = .ok (.iinc 4 1, 3) := by decide +kernel
theorem dN_isLikeBranch_43 : decode bN_isLikeBranch 43 = .ok (.goto (-27), 3) := by decide +kernel
theorem dN_isLikeBranch_46 : decode bN_isLikeBranch 46 = .ok (.iconst 1, 1) := by decide +kernel
theorem dN_isLikeBranch_47 : decode bN_isLikeBranch 47 = .ok (.ireturn, 1) := by decide +kernel
theorem dN_init2_0 : decode bN_init2 0 = .ok (.aload_n 0, 1) := by decide +kernel
theorem dN_init2_1 : decode bN_init2 1 = .ok (.invokespecial 1, 3) := by decide +kernel
theorem dN_init2_4 : decode bN_init2 4 = .ok (.aload_n 0, 1) := by decide +kernel
theorem dN_init2_5 : decode bN_init2 5 = .ok (.lconst 0, 1) := by decide +kernel
theorem dN_init2_6 : decode bN_init2 6 = .ok (.putfield 7, 3) := by decide +kernel
theorem dN_init2_9 : decode bN_init2 9 = .ok (.aload_n 0, 1) := by decide +kernel
theorem dN_init2_10 : decode bN_init2 10 = .ok (.iconst 0, 1) := by decide +kernel
theorem dN_init2_11 : decode bN_init2 11 = .ok (.putfield 13, 3) := by decide +kernel
theorem dN_init2_14 : decode bN_init2 14 = .ok (.aload_n 0, 1) := by decide +kernel
theorem dN_init2_15 : decode bN_init2 15 = .ok (.iconst 0, 1) := by decide +kernel
theorem dN_init2_16 : decode bN_init2 16 = .ok (.putfield 17, 3) := by decide +kernel
theorem dN_init2_19 : decode bN_init2 19 = .ok (.aload_n 0, 1) := by decide +kernel
theorem dN_init2_20 : decode bN_init2 20 = .ok (.aconst_null, 1) := by decide +kernel
theorem dN_init2_21 : decode bN_init2 21 = .ok (.putfield 21, 3) := by decide +kernel
theorem dN_init2_24 : decode bN_init2 24 = .ok (.aload_n 0, 1) := by decide +kernel
theorem dN_init2_25 : decode bN_init2 25 = .ok (.iload_n 1, 1) := by decide +kernel
theorem dN_init2_26 : decode bN_init2 26 = .ok (.putfield 25, 3) := by decide +kernel
theorem dN_init2_29 : decode bN_init2 29 = .ok (.aload_n 0, 1) := by decide +kernel
theorem dN_init2_30 : decode bN_init2 30 = .ok (.iconst 0, 1) := by decide +kernel
theorem dN_init2_31 : decode bN_init2 31 = .ok (.anewarray 28, 3) := by decide +kernel
theorem dN_init2_34 : decode bN_init2 34 = .ok (.putfield 30, 3) := by decide +kernel
theorem dN_init2_37 : decode bN_init2 37 = .ok (.aload_n 0, 1) := by decide +kernel
theorem dN_init2_38 : decode bN_init2 38 = .ok (.iload 4, 2) := by decide +kernel
theorem dN_init2_40 : decode bN_init2 40 = .ok (.iload_n 3, 1) := by decide +kernel
theorem dN_init2_41 : decode bN_init2 41 = .ok (.isub, 1) := by decide +kernel
theorem dN_init2_42 : decode bN_init2 42 = .ok (.anewarray 8, 3) := by decide +kernel
theorem dN_init2_45 : decode bN_init2 45 = .ok (.putfield 34, 3) := by decide +kernel
theorem dN_init2_48 : decode bN_init2 48 = .ok (.iconst 0, 1) := by decide +kernel
theorem dN_init2_49 : decode bN_init2 49 = .ok (.istore 6, 2) := by decide +kernel
theorem dN_init2_51 : decode bN_init2 51 = .ok (.iload_n 3, 1) := by decide +kernel
theorem dN_init2_52 : decode bN_init2 52 = .ok (.istore 7, 2) := by decide +kernel
theorem dN_init2_54 : decode bN_init2 54 = .ok (.iload 7, 2) := by decide +kernel
theorem dN_init2_56 : decode bN_init2 56 = .ok (.iload 4, 2) := by decide +kernel
theorem dN_init2_58 : decode bN_init2 58 = .ok (.if_icmp .ge 34, 3) := by decide +kernel
theorem dN_init2_61 : decode bN_init2 61 = .ok (.aload_n 0, 1) := by decide +kernel
theorem dN_init2_62 : decode bN_init2 62 = .ok (.getfield 34, 3) := by decide +kernel
theorem dN_init2_65 : decode bN_init2 65 = .ok (.iload 7, 2) := by decide +kernel
theorem dN_init2_67 : decode bN_init2 67 = .ok (.iload_n 3, 1) := by decide +kernel
theorem dN_init2_68 : decode bN_init2 68 = .ok (.isub, 1) := by decide +kernel
theorem dN_init2_69 : decode bN_init2 69 = .ok (.aload_n 2, 1) := by decide +kernel
theorem dN_init2_70 : decode bN_init2 70 = .ok (.iload 7, 2) := by decide +kernel
theorem dN_init2_72 : decode bN_init2 72 = .ok (.aaload, 1) := by decide +kernel
theorem dN_init2_73 : decode bN_init2 73 = .ok (.aastore, 1) := by decide +kernel
theorem dN_init2_74 : decode bN_init2 74 = .ok (.iload 6, 2) := by decide +kernel
theorem dN_init2_76 : decode bN_init2 76 = .ok (.aload_n 2, 1) := by decide +kernel
theorem dN_init2_77 : decode bN_init2 77 = .ok (.iload 7, 2) := by decide +kernel
theorem dN_init2_79 : decode bN_init2 79 = .ok (.aaload, 1) := by decide +kernel
theorem dN_init2_80 : decode bN_init2 80 = .ok (.getfield 42, 3) := by decide +kernel
theorem dN_init2_83 : decode bN_init2 83 = .ok (.iadd, 1) := by decide +kernel
theorem dN_init2_84 : decode bN_init2 84 = .ok (.istore 6, 2) := by decide +kernel
theorem dN_init2_86 : decode bN_init2 86 = .ok (.iinc 7 1, 3) := by decide +kernel
theorem dN_init2_89 : decode bN_init2 89 = .ok (.goto (-35), 3) := by decide +kernel
theorem dN_init2_92 : decode bN_init2 92 = .ok (.aload_n 0, 1) := by decide +kernel
theorem dN_init2_93 : decode bN_init2 93 = .ok (.iload 6, 2) := by decide +kernel
theorem dN_init2_95 : decode bN_init2 95 = .ok (.putfield 42, 3) := by decide +kernel
theorem dN_init2_98 : decode bN_init2 98 = .ok (.aload_n 0, 1) := by decide +kernel
theorem dN_init2_99 : decode bN_init2 99 = .ok (.iload 4, 2) := by decide +kernel
theorem dN_init2_101 : decode bN_init2 101 = .ok (.iload_n 3, 1) := by decide +kernel
theorem dN_init2_102 : decode bN_init2 102 = .ok (.isub, 1) := by decide +kernel
theorem dN_init2_103 : decode bN_init2 103 = .ok (.putfield 45, 3) := by decide +kernel
theorem dN_init2_106 : decode bN_init2 106 = .ok (.aload_n 0, 1) := by decide +kernel
theorem dN_init2_107 : decode bN_init2 107 = .ok (.iload_n 3, 1) := by decide +kernel
theorem dN_init2_108 : decode bN_init2 108 = .ok (.iload 4, 2) := by decide +kernel
theorem dN_init2_110 : decode bN_init2 110 = .ok (.if_icmp .ge 15, 3) := by decide +kernel
theorem dN_init2_113 : decode bN_init2 113 = .ok (.aload_n 2, 1) := by decide +kernel
theorem dN_init2_114 : decode bN_init2 114 = .ok (.iload 4, 2) := by decide +kernel
theorem dN_init2_116 : decode bN_init2 116 = .ok (.iconst 1, 1) := by decide +kernel
theorem dN_init2_117 : decode bN_init2 117 = .ok (.isub, 1) := by decide +kernel
theorem dN_init2_118 : decode bN_init2 118 = .ok (.aaload, 1) := by decide +kernel
theorem dN_init2_119 : decode bN_init2 119 = .ok (.getfield 51, 3) := by decide +kernel
theorem dN_init2_122 : decode bN_init2 122 = .ok (.goto 4, 3) := by decide +kernel
theorem dN_init2_125 : decode bN_init2 125 = .ok (.iconst 0, 1) := by decide +kernel
theorem dN_init2_126 : decode bN_init2 126 = .ok (.putfield 51, 3) := by decide +kernel
theorem dN_init2_129 : decode bN_init2 129 = .ok (.aload_n 0, 1) := by decide +kernel
theorem dN_init2_130 : decode bN_init2 130 = .ok (.iload_n 3, 1) := by decide +kernel
theorem dN_init2_131 : decode bN_init2 131 = .ok (.iload 4, 2) := by decide +kernel
theorem dN_init2_133 : decode bN_init2 133 = .ok (.if_icmp .ge 15, 3) := by decide +kernel
theorem dN_init2_136 : decode bN_init2 136 = .ok (.aload_n 2, 1) := by decide +kernel
theorem dN_init2_137 : decode bN_init2 137 = .ok (.iload 4, 2) := by decide +kernel
theorem dN_init2_139 : decode bN_init2 139 = .ok (.iconst 1, 1) := by decide +kernel
theorem dN_init2_140 : decode bN_init2 140 = .ok (.isub, 1) := by decide +kernel
theorem dN_init2_141 : decode bN_init2 141 = .ok (.aaload, 1) := by decide +kernel
theorem dN_init2_142 : decode bN_init2 142 = .ok (.getfield 57, 3) := by decide +kernel
theorem dN_init2_145 : decode bN_init2 145 = .ok (.goto 4, 3) := by decide +kernel
theorem dN_init2_148 : decode bN_init2 148 = .ok (.iconst 0, 1) := by decide +kernel
theorem dN_init2_149 : decode bN_init2 149 = .ok (.putfield 57, 3) := by decide +kernel
theorem dN_init2_152 : decode bN_init2 152 = .ok (.aload_n 0, 1) := by decide +kernel
theorem dN_init2_153 : decode bN_init2 153 = .ok (.iload 5, 2) := by decide +kernel
theorem dN_init2_155 : decode bN_init2 155 = .ok (.putfield 60, 3) := by decide +kernel
theorem dN_init2_158 : decode bN_init2 158 = .ok (.return_, 1) := by decide +kernel
theorem dS_init_0 : decode bS_init 0 = .ok (.aload_n 0, 1) := by decide +kernel
theorem dS_init_1 : decode bS_init 1 = .ok (.invokespecial 3, 3) := by decide +kernel
theorem dS_init_4 : decode bS_init 4 = .ok (.aload_n 0, 1) := by decide +kernel
theorem dS_init_5 : decode bS_init 5 = .ok (.sipush 1024, 3) := by decide +kernel
theorem dS_init_8 : decode bS_init 8 = .ok (.anewarray 9, 3) := by decide +kernel
theorem dS_init_11 : decode bS_init 11 = .ok (.putfield 11, 3) := by decide +kernel
theorem dS_init_14 : decode bS_init 14 = .ok (.aload_n 0, 1) := by decide +kernel
theorem dS_init_15 : decode bS_init 15 = .ok (.aconst_null, 1) := by decide +kernel
theorem dS_init_16 : decode bS_init 16 = .ok (.putfield 17, 3) := by decide +kernel
theorem dS_init_19 : decode bS_init 19 = .ok (.aload_n 0, 1) := by decide +kernel
theorem dS_init_20 : decode bS_init 20 = .ok (.iconst 0, 1) := by decide +kernel
theorem dS_init_21 : decode bS_init 21 = .ok (.putfield 21, 3) := by decide +kernel
theorem dS_init_24 : decode bS_init 24 = .ok (.aload_n 0, 1) := by decide +kernel
theorem dS_init_25 : decode bS_init 25 = .ok (.iconst 0, 1) := by decide +kernel
theorem dS_init_26 : decode bS_init 26 = .ok (.putfield 25, 3) := by decide +kernel
theorem dS_init_29 : decode bS_init 29 = .ok (.return_, 1) := by decide +kernel
theorem dS_leafOf_0 : decode bS_leafOf 0 = .ok (.iconst 0, 1) := by decide +kernel
theorem dS_leafOf_1 : decode bS_leafOf 1 = .ok (.istore 4, 2) := by decide +kernel
theorem dS_leafOf_3 : decode bS_leafOf 3 = .ok (.iload_n 2, 1) := by decide +kernel
theorem dS_leafOf_4 : decode bS_leafOf 4 = .ok (.istore 5, 2) := by decide +kernel
theorem dS_leafOf_6 : decode bS_leafOf 6 = .ok (.iload 5, 2) := by decide +kernel
theorem dS_leafOf_8 : decode bS_leafOf 8 = .ok (.iload_n 3, 1) := by decide +kernel
theorem dS_leafOf_9 : decode bS_leafOf 9 = .ok (.if_icmp .ge 24, 3) := by decide +kernel
theorem dS_leafOf_12 : decode bS_leafOf 12 = .ok (.iload 4, 2) := by decide +kernel
theorem dS_leafOf_14 : decode bS_leafOf 14 = .ok (.bipush 31, 2) := by decide +kernel
theorem dS_leafOf_16 : decode bS_leafOf 16 = .ok (.imul, 1) := by decide +kernel
theorem dS_leafOf_17 : decode bS_leafOf 17 = .ok (.aload_n 1, 1) := by decide +kernel
theorem dS_leafOf_18 : decode bS_leafOf 18 = .ok (.iload 5, 2) := by decide +kernel
theorem dS_leafOf_20 : decode bS_leafOf 20 = .ok (.aaload, 1) := by decide +kernel
theorem dS_leafOf_21 : decode bS_leafOf 21 = .ok (.getfield 28, 3) := by decide +kernel
theorem dS_leafOf_24 : decode bS_leafOf 24 = .ok (.iadd, 1) := by decide +kernel
theorem dS_leafOf_25 : decode bS_leafOf 25 = .ok (.istore 4, 2) := by decide +kernel
theorem dS_leafOf_27 : decode bS_leafOf 27 = .ok (.iinc 5 1, 3) := by decide +kernel
theorem dS_leafOf_30 : decode bS_leafOf 30 = .ok (.goto (-24), 3) := by decide +kernel
theorem dS_leafOf_33 : decode bS_leafOf 33 = .ok (.aload_n 0, 1) := by decide +kernel
theorem dS_leafOf_34 : decode bS_leafOf 34 = .ok (.getfield 11, 3) := by decide +kernel
theorem dS_leafOf_37 : decode bS_leafOf 37 = .ok (.iload 4, 2) := by decide +kernel
theorem dS_leafOf_39 : decode bS_leafOf 39 = .ok (.invokestatic 33, 3) := by decide +kernel
theorem dS_leafOf_42 : decode bS_leafOf 42 = .ok (.aaload, 1) := by decide +kernel
theorem dS_leafOf_43 : decode bS_leafOf 43 = .ok (.astore 5, 2) := by decide +kernel
theorem dS_leafOf_45 : decode bS_leafOf 45 = .ok (.aload 5, 2) := by decide +kernel
theorem dS_leafOf_47 : decode bS_leafOf 47 = .ok (.ifnull 37, 3) := by decide +kernel
theorem dS_leafOf_50 : decode bS_leafOf 50 = .ok (.aload 5, 2) := by decide +kernel
theorem dS_leafOf_52 : decode bS_leafOf 52 = .ok (.getfield 37, 3) := by decide +kernel
theorem dS_leafOf_55 : decode bS_leafOf 55 = .ok (.iload 4, 2) := by decide +kernel
theorem dS_leafOf_57 : decode bS_leafOf 57 = .ok (.if_icmp .ne 17, 3) := by decide +kernel
theorem dS_leafOf_60 : decode bS_leafOf 60 = .ok (.aload 5, 2) := by decide +kernel
theorem dS_leafOf_62 : decode bS_leafOf 62 = .ok (.aload_n 1, 1) := by decide +kernel
theorem dS_leafOf_63 : decode bS_leafOf 63 = .ok (.iload_n 2, 1) := by decide +kernel
theorem dS_leafOf_64 : decode bS_leafOf 64 = .ok (.iload_n 3, 1) := by decide +kernel
theorem dS_leafOf_65 : decode bS_leafOf 65 = .ok (.invokevirtual 38, 3) := by decide +kernel
theorem dS_leafOf_68 : decode bS_leafOf 68 = .ok (.ifCond .eq 6, 3) := by decide +kernel
theorem dS_leafOf_71 : decode bS_leafOf 71 = .ok (.aload 5, 2) := by decide +kernel
theorem dS_leafOf_73 : decode bS_leafOf 73 = .ok (.areturn, 1) := by decide +kernel
theorem dS_leafOf_74 : decode bS_leafOf 74 = .ok (.aload 5, 2) := by decide +kernel
theorem dS_leafOf_76 : decode bS_leafOf 76 = .ok (.getfield 42, 3) := by decide +kernel
theorem dS_leafOf_79 : decode bS_leafOf 79 = .ok (.astore 5, 2) := by decide +kernel
theorem dS_leafOf_81 : decode bS_leafOf 81 = .ok (.goto (-36), 3) := by decide +kernel
theorem dS_leafOf_84 : decode bS_leafOf 84 = .ok (.aload_n 0, 1) := by decide +kernel
theorem dS_leafOf_85 : decode bS_leafOf 85 = .ok (.new 9, 3) := by decide +kernel
theorem dS_leafOf_88 : decode bS_leafOf 88 = .ok (.dup, 1) := by decide +kernel
theorem dS_leafOf_89 : decode bS_leafOf 89 = .ok (.aload_n 1, 1) := by decide +kernel
theorem dS_leafOf_90 : decode bS_leafOf 90 = .ok (.iload_n 2, 1) := by decide +kernel
theorem dS_leafOf_91 : decode bS_leafOf 91 = .ok (.iload_n 3, 1) := by decide +kernel
theorem dS_leafOf_92 : decode bS_leafOf 92 = .ok (.iload 4, 2) := by decide +kernel
theorem dS_leafOf_94 : decode bS_leafOf 94 = .ok (.invokespecial 45, 3) := by decide +kernel
theorem dS_leafOf_97 : decode bS_leafOf 97 = .ok (.invokevirtual 48, 3) := by decide +kernel
theorem dS_leafOf_100 : decode bS_leafOf 100 = .ok (.areturn, 1) := by decide +kernel
theorem dS_bucketOf_0 : decode bS_bucketOf 0 = .ok (.iload_n 0, 1) := by decide +kernel
theorem dS_bucketOf_1 : decode bS_bucketOf 1 = .ok (.ldc 68, 2) := by decide +kernel
theorem dS_bucketOf_3 : decode bS_bucketOf 3 = .ok (.imul, 1) := by decide +kernel
theorem dS_bucketOf_4 : decode bS_bucketOf 4 = .ok (.bipush 22, 2) := by decide +kernel
theorem dS_bucketOf_6 : decode bS_bucketOf 6 = .ok (.iushr, 1) := by decide +kernel
theorem dS_bucketOf_7 : decode bS_bucketOf 7 = .ok (.ireturn, 1) := by decide +kernel
theorem dS_pend_0 : decode bS_pend 0 = .ok (.aload_n 1, 1) := by decide +kernel
theorem dS_pend_1 : decode bS_pend 1 = .ok (.aload_n 0, 1) := by decide +kernel
theorem dS_pend_2 : decode bS_pend 2 = .ok (.getfield 17, 3) := by decide +kernel
theorem dS_pend_5 : decode bS_pend 5 = .ok (.putfield 42, 3) := by decide +kernel
theorem dS_pend_8 : decode bS_pend 8 = .ok (.aload_n 0, 1) := by decide +kernel
theorem dS_pend_9 : decode bS_pend 9 = .ok (.aload_n 1, 1) := by decide +kernel
theorem dS_pend_10 : decode bS_pend 10 = .ok (.putfield 17, 3) := by decide +kernel
theorem dS_pend_13 : decode bS_pend 13 = .ok (.aload_n 1, 1) := by decide +kernel
theorem dS_pend_14 : decode bS_pend 14 = .ok (.areturn, 1) := by decide +kernel
theorem dS_keepPending_0 : decode bS_keepPending 0 = .ok (.iconst 0, 1) := by decide +kernel
theorem dS_keepPending_1 : decode bS_keepPending 1 = .ok (.istore_n 1, 1) := by decide +kernel
theorem dS_keepPending_2 : decode bS_keepPending 2 = .ok (.iconst 0, 1) := by decide +kernel
theorem dS_keepPending_3 : decode bS_keepPending 3 = .ok (.istore_n 2, 1) := by decide +kernel
theorem dS_keepPending_4 : decode bS_keepPending 4 = .ok (.aload_n 0, 1) := by decide +kernel
theorem dS_keepPending_5 : decode bS_keepPending 5 = .ok (.getfield 17, 3) := by decide +kernel
theorem dS_keepPending_8 : decode bS_keepPending 8 = .ok (.astore_n 3, 1) := by decide +kernel
theorem dS_keepPending_9 : decode bS_keepPending 9 = .ok (.aload_n 3, 1) := by decide +kernel
theorem dS_keepPending_10 : decode bS_keepPending 10 = .ok (.ifnull 21, 3) := by decide +kernel
theorem dS_keepPending_13 : decode bS_keepPending 13 = .ok (.iinc 1 1, 3) := by decide +kernel
theorem dS_keepPending_16 : decode bS_keepPending 16 = .ok (.iload_n 2, 1) := by decide +kernel
theorem dS_keepPending_17 : decode bS_keepPending 17 = .ok (.aload_n 3, 1) := by decide +kernel
theorem dS_keepPending_18 : decode bS_keepPending 18 = .ok (.getfield 59, 3) := by decide +kernel
theorem dS_keepPending_21 : decode bS_keepPending 21 = .ok (.iadd, 1) := by decide +kernel
theorem dS_keepPending_22 : decode bS_keepPending 22 = .ok (.istore_n 2, 1) := by decide +kernel
theorem dS_keepPending_23 : decode bS_keepPending 23 = .ok (.aload_n 3, 1) := by decide +kernel
theorem dS_keepPending_24 : decode bS_keepPending 24 = .ok (.getfield 42, 3) := by decide +kernel
theorem dS_keepPending_27 : decode bS_keepPending 27 = .ok (.astore_n 3, 1) := by decide +kernel
theorem dS_keepPending_28 : decode bS_keepPending 28 = .ok (.goto (-19), 3) := by decide +kernel
theorem dS_keepPending_31 : decode bS_keepPending 31 = .ok (.aload_n 0, 1) := by decide +kernel
theorem dS_keepPending_32 : decode bS_keepPending 32 = .ok (.getfield 17, 3) := by decide +kernel
theorem dS_keepPending_35 : decode bS_keepPending 35 = .ok (.astore_n 3, 1) := by decide +kernel
theorem dS_keepPending_36 : decode bS_keepPending 36 = .ok (.aload_n 0, 1) := by decide +kernel
theorem dS_keepPending_37 : decode bS_keepPending 37 = .ok (.aconst_null, 1) := by decide +kernel
theorem dS_keepPending_38 : decode bS_keepPending 38 = .ok (.putfield 17, 3) := by decide +kernel
theorem dS_keepPending_41 : decode bS_keepPending 41 = .ok (.aload_n 0, 1) := by decide +kernel
theorem dS_keepPending_42 : decode bS_keepPending 42 = .ok (.getfield 25, 3) := by decide +kernel
theorem dS_keepPending_45 : decode bS_keepPending 45 = .ok (.iload_n 2, 1) := by decide +kernel
theorem dS_keepPending_46 : decode bS_keepPending 46 = .ok (.iadd, 1) := by decide +kernel
theorem dS_keepPending_47 : decode bS_keepPending 47 = .ok (.ldc 60, 2) := by decide +kernel
theorem dS_keepPending_49 : decode bS_keepPending 49 = .ok (.if_icmp .le 6, 3) := by decide +kernel
theorem dS_keepPending_52 : decode bS_keepPending 52 = .ok (.bipush (-3), 2) := by decide +kernel
theorem dS_keepPending_54 : decode bS_keepPending 54 = .ok (.ireturn, 1) := by decide +kernel
theorem dS_keepPending_55 : decode bS_keepPending 55 = .ok (.aload_n 3, 1) := by decide +kernel
theorem dS_keepPending_56 : decode bS_keepPending 56 = .ok (.ifnull 20, 3) := by decide +kernel
theorem dS_keepPending_59 : decode bS_keepPending 59 = .ok (.aload_n 3, 1) := by decide +kernel
theorem dS_keepPending_60 : decode bS_keepPending 60 = .ok (.getfield 42, 3) := by decide +kernel
theorem dS_keepPending_63 : decode bS_keepPending 63 = .ok (.astore 4, 2) := by decide +kernel
theorem dS_keepPending_65 : decode bS_keepPending 65 = .ok (.aload_n 0, 1) := by decide +kernel
theorem dS_keepPending_66 : decode bS_keepPending 66 = .ok (.aload_n 3, 1) := by decide +kernel
theorem dS_keepPending_67 : decode bS_keepPending 67 = .ok (.invokevirtual 61, 3) := by decide +kernel
theorem dS_keepPending_70 : decode bS_keepPending 70 = .ok (.aload 4, 2) := by decide +kernel
theorem dS_keepPending_72 : decode bS_keepPending 72 = .ok (.astore_n 3, 1) := by decide +kernel
theorem dS_keepPending_73 : decode bS_keepPending 73 = .ok (.goto (-18), 3) := by decide +kernel
theorem dS_keepPending_76 : decode bS_keepPending 76 = .ok (.aload_n 0, 1) := by decide +kernel
theorem dS_keepPending_77 : decode bS_keepPending 77 = .ok (.dup, 1) := by decide +kernel
theorem dS_keepPending_78 : decode bS_keepPending 78 = .ok (.getfield 21, 3) := by decide +kernel
theorem dS_keepPending_81 : decode bS_keepPending 81 = .ok (.iload_n 1, 1) := by decide +kernel
theorem dS_keepPending_82 : decode bS_keepPending 82 = .ok (.iadd, 1) := by decide +kernel
theorem dS_keepPending_83 : decode bS_keepPending 83 = .ok (.putfield 21, 3) := by decide +kernel
theorem dS_keepPending_86 : decode bS_keepPending 86 = .ok (.aload_n 0, 1) := by decide +kernel
theorem dS_keepPending_87 : decode bS_keepPending 87 = .ok (.dup, 1) := by decide +kernel
theorem dS_keepPending_88 : decode bS_keepPending 88 = .ok (.getfield 25, 3) := by decide +kernel
theorem dS_keepPending_91 : decode bS_keepPending 91 = .ok (.iload_n 2, 1) := by decide +kernel
theorem dS_keepPending_92 : decode bS_keepPending 92 = .ok (.iadd, 1) := by decide +kernel
theorem dS_keepPending_93 : decode bS_keepPending 93 = .ok (.putfield 25, 3) := by decide +kernel
theorem dS_keepPending_96 : decode bS_keepPending 96 = .ok (.iload_n 1, 1) := by decide +kernel
theorem dS_keepPending_97 : decode bS_keepPending 97 = .ok (.ireturn, 1) := by decide +kernel
theorem dS_link_0 : decode bS_link 0 = .ok (.aload_n 1, 1) := by decide +kernel
theorem dS_link_1 : decode bS_link 1 = .ok (.getfield 37, 3) := by decide +kernel
theorem dS_link_4 : decode bS_link 4 = .ok (.invokestatic 33, 3) := by decide +kernel
theorem dS_link_7 : decode bS_link 7 = .ok (.istore_n 2, 1) := by decide +kernel
theorem dS_link_8 : decode bS_link 8 = .ok (.aload_n 1, 1) := by decide +kernel
theorem dS_link_9 : decode bS_link 9 = .ok (.aload_n 0, 1) := by decide +kernel
theorem dS_link_10 : decode bS_link 10 = .ok (.getfield 11, 3) := by decide +kernel
theorem dS_link_13 : decode bS_link 13 = .ok (.iload_n 2, 1) := by decide +kernel
theorem dS_link_14 : decode bS_link 14 = .ok (.aaload, 1) := by decide +kernel
theorem dS_link_15 : decode bS_link 15 = .ok (.putfield 42, 3) := by decide +kernel
theorem dS_link_18 : decode bS_link 18 = .ok (.aload_n 0, 1) := by decide +kernel
theorem dS_link_19 : decode bS_link 19 = .ok (.getfield 11, 3) := by decide +kernel
theorem dS_link_22 : decode bS_link 22 = .ok (.iload_n 2, 1) := by decide +kernel
theorem dS_link_23 : decode bS_link 23 = .ok (.aload_n 1, 1) := by decide +kernel
theorem dS_link_24 : decode bS_link 24 = .ok (.aastore, 1) := by decide +kernel
theorem dS_link_25 : decode bS_link 25 = .ok (.return_, 1) := by decide +kernel
theorem dS_branchOf_0 : decode bS_branchOf 0 = .ok (.iload_n 1, 1) := by decide +kernel
theorem dS_branchOf_1 : decode bS_branchOf 1 = .ok (.istore 5, 2) := by decide +kernel
theorem dS_branchOf_3 : decode bS_branchOf 3 = .ok (.iload_n 3, 1) := by decide +kernel
theorem dS_branchOf_4 : decode bS_branchOf 4 = .ok (.istore 6, 2) := by decide +kernel
theorem dS_branchOf_6 : decode bS_branchOf 6 = .ok (.iload 6, 2) := by decide +kernel
theorem dS_branchOf_8 : decode bS_branchOf 8 = .ok (.iload 4, 2) := by decide +kernel
theorem dS_branchOf_10 : decode bS_branchOf 10 = .ok (.if_icmp .ge 24, 3) := by decide +kernel
theorem dS_branchOf_13 : decode bS_branchOf 13 = .ok (.iload 5, 2) := by decide +kernel
theorem dS_branchOf_15 : decode bS_branchOf 15 = .ok (.bipush 31, 2) := by decide +kernel
theorem dS_branchOf_17 : decode bS_branchOf 17 = .ok (.imul, 1) := by decide +kernel
theorem dS_branchOf_18 : decode bS_branchOf 18 = .ok (.aload_n 2, 1) := by decide +kernel
theorem dS_branchOf_19 : decode bS_branchOf 19 = .ok (.iload 6, 2) := by decide +kernel
theorem dS_branchOf_21 : decode bS_branchOf 21 = .ok (.aaload, 1) := by decide +kernel
theorem dS_branchOf_22 : decode bS_branchOf 22 = .ok (.getfield 37, 3) := by decide +kernel
theorem dS_branchOf_25 : decode bS_branchOf 25 = .ok (.iadd, 1) := by decide +kernel
theorem dS_branchOf_26 : decode bS_branchOf 26 = .ok (.istore 5, 2) := by decide +kernel
theorem dS_branchOf_28 : decode bS_branchOf 28 = .ok (.iinc 6 1, 3) := by decide +kernel
theorem dS_branchOf_31 : decode bS_branchOf 31 = .ok (.goto (-25), 3) := by decide +kernel
theorem dS_branchOf_34 : decode bS_branchOf 34 = .ok (.aload_n 0, 1) := by decide +kernel
theorem dS_branchOf_35 : decode bS_branchOf 35 = .ok (.getfield 11, 3) := by decide +kernel
theorem dS_branchOf_38 : decode bS_branchOf 38 = .ok (.iload 5, 2) := by decide +kernel
theorem dS_branchOf_40 : decode bS_branchOf 40 = .ok (.invokestatic 33, 3) := by decide +kernel
theorem dS_branchOf_43 : decode bS_branchOf 43 = .ok (.aaload, 1) := by decide +kernel
theorem dS_branchOf_44 : decode bS_branchOf 44 = .ok (.astore 6, 2) := by decide +kernel
theorem dS_branchOf_46 : decode bS_branchOf 46 = .ok (.aload 6, 2) := by decide +kernel
theorem dS_branchOf_48 : decode bS_branchOf 48 = .ok (.ifnull 38, 3) := by decide +kernel
theorem dS_branchOf_51 : decode bS_branchOf 51 = .ok (.aload 6, 2) := by decide +kernel
theorem dS_branchOf_53 : decode bS_branchOf 53 = .ok (.getfield 37, 3) := by decide +kernel
theorem dS_branchOf_56 : decode bS_branchOf 56 = .ok (.iload 5, 2) := by decide +kernel
theorem dS_branchOf_58 : decode bS_branchOf 58 = .ok (.if_icmp .ne 18, 3) := by decide +kernel
theorem dS_branchOf_61 : decode bS_branchOf 61 = .ok (.aload 6, 2) := by decide +kernel
theorem dS_branchOf_63 : decode bS_branchOf 63 = .ok (.aload_n 2, 1) := by decide +kernel
theorem dS_branchOf_64 : decode bS_branchOf 64 = .ok (.iload_n 3, 1) := by decide +kernel
theorem dS_branchOf_65 : decode bS_branchOf 65 = .ok (.iload 4, 2) := by decide +kernel
theorem dS_branchOf_67 : decode bS_branchOf 67 = .ok (.invokevirtual 52, 3) := by decide +kernel
theorem dS_branchOf_70 : decode bS_branchOf 70 = .ok (.ifCond .eq 6, 3) := by decide +kernel
theorem dS_branchOf_73 : decode bS_branchOf 73 = .ok (.aload 6, 2) := by decide +kernel
theorem dS_branchOf_75 : decode bS_branchOf 75 = .ok (.areturn, 1) := by decide +kernel
theorem dS_branchOf_76 : decode bS_branchOf 76 = .ok (.aload 6, 2) := by decide +kernel
theorem dS_branchOf_78 : decode bS_branchOf 78 = .ok (.getfield 42, 3) := by decide +kernel
theorem dS_branchOf_81 : decode bS_branchOf 81 = .ok (.astore 6, 2) := by decide +kernel
theorem dS_branchOf_83 : decode bS_branchOf 83 = .ok (.goto (-37), 3) := by decide +kernel
theorem dS_branchOf_86 : decode bS_branchOf 86 = .ok (.aload_n 0, 1) := by decide +kernel
theorem dS_branchOf_87 : decode bS_branchOf 87 = .ok (.new 9, 3) := by decide +kernel
theorem dS_branchOf_90 : decode bS_branchOf 90 = .ok (.dup, 1) := by decide +kernel
theorem dS_branchOf_91 : decode bS_branchOf 91 = .ok (.iload_n 1, 1) := by decide +kernel
theorem dS_branchOf_92 : decode bS_branchOf 92 = .ok (.aload_n 2, 1) := by decide +kernel
theorem dS_branchOf_93 : decode bS_branchOf 93 = .ok (.iload_n 3, 1) := by decide +kernel
theorem dS_branchOf_94 : decode bS_branchOf 94 = .ok (.iload 4, 2) := by decide +kernel
theorem dS_branchOf_96 : decode bS_branchOf 96 = .ok (.iload 5, 2) := by decide +kernel
theorem dS_branchOf_98 : decode bS_branchOf 98 = .ok (.invokespecial 56, 3) := by decide +kernel
theorem dS_branchOf_101 : decode bS_branchOf 101 = .ok (.invokevirtual 48, 3) := by decide +kernel
theorem dS_branchOf_104 : decode bS_branchOf 104 = .ok (.areturn, 1) := by decide +kernel
theorem dS_dropWithout_0 : decode bS_dropWithout 0 = .ok (.iconst 0, 1) := by decide +kernel
theorem dS_dropWithout_1 : decode bS_dropWithout 1 = .ok (.istore_n 2, 1) := by decide +kernel
theorem dS_dropWithout_2 : decode bS_dropWithout 2 = .ok (.iconst 0, 1) := by decide +kernel
theorem dS_dropWithout_3 : decode bS_dropWithout 3 = .ok (.istore_n 3, 1) := by decide +kernel
theorem dS_dropWithout_4 : decode bS_dropWithout 4 = .ok (.iload_n 3, 1) := by decide +kernel
theorem dS_dropWithout_5 : decode bS_dropWithout 5 = .ok (.sipush 1024, 3) := by decide +kernel
theorem dS_dropWithout_8 : decode bS_dropWithout 8 = .ok (.if_icmp .ge 78, 3) := by decide +kernel
theorem dS_dropWithout_11 : decode bS_dropWithout 11 = .ok (.aload_n 0, 1) := by decide +kernel
theorem dS_dropWithout_12 : decode bS_dropWithout 12 = .ok (.getfield 11, 3) := by decide +kernel
theorem dS_dropWithout_15 : decode bS_dropWithout 15 = .ok (.iload_n 3, 1) := by decide +kernel
theorem dS_dropWithout_16 : decode bS_dropWithout 16 = .ok (.aaload, 1) := by decide +kernel
theorem dS_dropWithout_17 : decode bS_dropWithout 17 = .ok (.astore 4, 2) := by decide +kernel
theorem dS_dropWithout_19 : decode bS_dropWithout 19 = .ok (.aload_n 0, 1) := by decide +kernel
theorem dS_dropWithout_20 : decode bS_dropWithout 20 = .ok (.getfield 11, 3) := by decide +kernel
theorem dS_dropWithout_23 : decode bS_dropWithout 23 = .ok (.iload_n 3, 1) := by decide +kernel
theorem dS_dropWithout_24 : decode bS_dropWithout 24 = .ok (.aconst_null, 1) := by decide +kernel
theorem dS_dropWithout_25 : decode bS_dropWithout 25 = .ok (.aastore, 1) := by decide +kernel
theorem dS_dropWithout_26 : decode bS_dropWithout 26 = .ok (.aload 4, 2) := by decide +kernel
theorem dS_dropWithout_28 : decode bS_dropWithout 28 = .ok (.ifnull 52, 3) := by decide +kernel
theorem dS_dropWithout_31 : decode bS_dropWithout 31 = .ok (.aload 4, 2) := by decide +kernel
theorem dS_dropWithout_33 : decode bS_dropWithout 33 = .ok (.getfield 42, 3) := by decide +kernel
theorem dS_dropWithout_36 : decode bS_dropWithout 36 = .ok (.astore 5, 2) := by decide +kernel
theorem dS_dropWithout_38 : decode bS_dropWithout 38 = .ok (.aload 4, 2) := by decide +kernel
theorem dS_dropWithout_40 : decode bS_dropWithout 40 = .ok (.getfield 65, 3) := by decide +kernel
theorem dS_dropWithout_43 : decode bS_dropWithout 43 = .ok (.iload_n 1, 1) := by decide +kernel
theorem dS_dropWithout_44 : decode bS_dropWithout 44 = .ok (.if_icmp .ne 12, 3) := by decide +kernel
theorem dS_dropWithout_47 : decode bS_dropWithout 47 = .ok (.aload_n 0, 1) := by decide +kernel
theorem dS_dropWithout_48 : decode bS_dropWithout 48 = .ok (.aload 4, 2) := by decide +kernel
theorem dS_dropWithout_50 : decode bS_dropWithout 50 = .ok (.invokevirtual 61, 3) := by decide +kernel
theorem dS_dropWithout_53 : decode bS_dropWithout 53 = .ok (.goto 20, 3) := by decide +kernel
theorem dS_dropWithout_56 : decode bS_dropWithout 56 = .ok (.iinc 2 1, 3) := by decide +kernel
theorem dS_dropWithout_59 : decode bS_dropWithout 59 = .ok (.aload_n 0, 1) := by decide +kernel
theorem dS_dropWithout_60 : decode bS_dropWithout 60 = .ok (.dup, 1) := by decide +kernel
theorem dS_dropWithout_61 : decode bS_dropWithout 61 = .ok (.getfield 25, 3) := by decide +kernel
theorem dS_dropWithout_64 : decode bS_dropWithout 64 = .ok (.aload 4, 2) := by decide +kernel
theorem dS_dropWithout_66 : decode bS_dropWithout 66 = .ok (.getfield 59, 3) := by decide +kernel
theorem dS_dropWithout_69 : decode bS_dropWithout 69 = .ok (.isub, 1) := by decide +kernel
theorem dS_dropWithout_70 : decode bS_dropWithout 70 = .ok (.putfield 25, 3) := by decide +kernel
theorem dS_dropWithout_73 : decode bS_dropWithout 73 = .ok (.aload 5, 2) := by decide +kernel
theorem dS_dropWithout_75 : decode bS_dropWithout 75 = .ok (.astore 4, 2) := by decide +kernel
theorem dS_dropWithout_77 : decode bS_dropWithout 77 = .ok (.goto (-51), 3) := by decide +kernel
theorem dS_dropWithout_80 : decode bS_dropWithout 80 = .ok (.iinc 3 1, 3) := by decide +kernel
theorem dS_dropWithout_83 : decode bS_dropWithout 83 = .ok (.goto (-79), 3) := by decide +kernel
theorem dS_dropWithout_86 : decode bS_dropWithout 86 = .ok (.aload_n 0, 1) := by decide +kernel
theorem dS_dropWithout_87 : decode bS_dropWithout 87 = .ok (.dup, 1) := by decide +kernel
theorem dS_dropWithout_88 : decode bS_dropWithout 88 = .ok (.getfield 21, 3) := by decide +kernel
theorem dS_dropWithout_91 : decode bS_dropWithout 91 = .ok (.iload_n 2, 1) := by decide +kernel
theorem dS_dropWithout_92 : decode bS_dropWithout 92 = .ok (.isub, 1) := by decide +kernel
theorem dS_dropWithout_93 : decode bS_dropWithout 93 = .ok (.putfield 21, 3) := by decide +kernel
theorem dS_dropWithout_96 : decode bS_dropWithout 96 = .ok (.iload_n 2, 1) := by decide +kernel
theorem dS_dropWithout_97 : decode bS_dropWithout 97 = .ok (.ireturn, 1) := by decide +kernel
