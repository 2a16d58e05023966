theorem d_An_init_0 : decode b_An_init 0 = .ok (.aload_n 0, 1) := by decide +kernel
theorem d_An_init_1 : decode b_An_init 1 = .ok (.invokespecial 3, 3) := by decide +kernel
theorem d_An_init_4 : decode b_An_init 4 = .ok (.aload_n 0, 1) := by decide +kernel
theorem d_An_init_5 : decode b_An_init 5 = .ok (.iconst 4, 1) := by decide +kernel
theorem d_An_init_6 : decode b_An_init 6 = .ok (.newarray .long, 2) := by decide +kernel
theorem d_An_init_8 : decode b_An_init 8 = .ok (.putfield 9, 3) := by decide +kernel
theorem d_An_init_11 : decode b_An_init 11 = .ok (.aload_n 0, 1) := by decide +kernel
theorem d_An_init_12 : decode b_An_init 12 = .ok (.iconst 4, 1) := by decide +kernel
theorem d_An_init_13 : decode b_An_init 13 = .ok (.newarray .int, 2) := by decide +kernel
theorem d_An_init_15 : decode b_An_init 15 = .ok (.putfield 15, 3) := by decide +kernel
theorem d_An_init_18 : decode b_An_init 18 = .ok (.iconst 0, 1) := by decide +kernel
theorem d_An_init_19 : decode b_An_init 19 = .ok (.istore_n 1, 1) := by decide +kernel
theorem d_An_init_20 : decode b_An_init 20 = .ok (.iload_n 1, 1) := by decide +kernel
theorem d_An_init_21 : decode b_An_init 21 = .ok (.iconst 4, 1) := by decide +kernel
theorem d_An_init_22 : decode b_An_init 22 = .ok (.if_icmp .ge 16, 3) := by decide +kernel
theorem d_An_init_25 : decode b_An_init 25 = .ok (.aload_n 0, 1) := by decide +kernel
theorem d_An_init_26 : decode b_An_init 26 = .ok (.getfield 15, 3) := by decide +kernel
theorem d_An_init_29 : decode b_An_init 29 = .ok (.iload_n 1, 1) := by decide +kernel
theorem d_An_init_30 : decode b_An_init 30 = .ok (.iconst (-1), 1) := by decide +kernel
theorem d_An_init_31 : decode b_An_init 31 = .ok (.iastore, 1) := by decide +kernel
theorem d_An_init_32 : decode b_An_init 32 = .ok (.iinc 1 1, 3) := by decide +kernel
theorem d_An_init_35 : decode b_An_init 35 = .ok (.goto (-15), 3) := by decide +kernel
theorem d_An_init_38 : decode b_An_init 38 = .ok (.return_, 1) := by decide +kernel
theorem d_An_clear_0 : decode b_An_clear 0 = .ok (.iconst 0, 1) := by decide +kernel
theorem d_An_clear_1 : decode b_An_clear 1 = .ok (.istore_n 1, 1) := by decide +kernel
theorem d_An_clear_2 : decode b_An_clear 2 = .ok (.iload_n 1, 1) := by decide +kernel
theorem d_An_clear_3 : decode b_An_clear 3 = .ok (.iconst 4, 1) := by decide +kernel
theorem d_An_clear_4 : decode b_An_clear 4 = .ok (.if_icmp .ge 23, 3) := by decide +kernel
theorem d_An_clear_7 : decode b_An_clear 7 = .ok (.aload_n 0, 1) := by decide +kernel
theorem d_An_clear_8 : decode b_An_clear 8 = .ok (.getfield 9, 3) := by decide +kernel
theorem d_An_clear_11 : decode b_An_clear 11 = .ok (.iload_n 1, 1) := by decide +kernel
theorem d_An_clear_12 : decode b_An_clear 12 = .ok (.lconst 0, 1) := by decide +kernel
theorem d_An_clear_13 : decode b_An_clear 13 = .ok (.lastore, 1) := by decide +kernel
theorem d_An_clear_14 : decode b_An_clear 14 = .ok (.aload_n 0, 1) := by decide +kernel
theorem d_An_clear_15 : decode b_An_clear 15 = .ok (.getfield 15, 3) := by decide +kernel
theorem d_An_clear_18 : decode b_An_clear 18 = .ok (.iload_n 1, 1) := by decide +kernel
theorem d_An_clear_19 : decode b_An_clear 19 = .ok (.iconst (-1), 1) := by decide +kernel
theorem d_An_clear_20 : decode b_An_clear 20 = .ok (.iastore, 1) := by decide +kernel
theorem d_An_clear_21 : decode b_An_clear 21 = .ok (.iinc 1 1, 3) := by decide +kernel
theorem d_An_clear_24 : decode b_An_clear 24 = .ok (.goto (-22), 3) := by decide +kernel
theorem d_An_clear_27 : decode b_An_clear 27 = .ok (.return_, 1) := by decide +kernel
theorem d_An_give_0 : decode b_An_give 0 = .ok (.lload_n 1, 1) := by decide +kernel
theorem d_An_give_1 : decode b_An_give 1 = .ok (.lconst 0, 1) := by decide +kernel
theorem d_An_give_2 : decode b_An_give 2 = .ok (.ldc2_w 19, 3) := by decide +kernel
theorem d_An_give_5 : decode b_An_give 5 = .ok (.invokestatic 21, 3) := by decide +kernel
theorem d_An_give_8 : decode b_An_give 8 = .ok (.ifCond .eq 20, 3) := by decide +kernel
theorem d_An_give_11 : decode b_An_give 11 = .ok (.aload_n 0, 1) := by decide +kernel
theorem d_An_give_12 : decode b_An_give 12 = .ok (.getfield 9, 3) := by decide +kernel
theorem d_An_give_15 : decode b_An_give 15 = .ok (.lload_n 1, 1) := by decide +kernel
theorem d_An_give_16 : decode b_An_give 16 = .ok (.l2i, 1) := by decide +kernel
theorem d_An_give_17 : decode b_An_give 17 = .ok (.lload_n 3, 1) := by decide +kernel
theorem d_An_give_18 : decode b_An_give 18 = .ok (.lastore, 1) := by decide +kernel
theorem d_An_give_19 : decode b_An_give 19 = .ok (.aload_n 0, 1) := by decide +kernel
theorem d_An_give_20 : decode b_An_give 20 = .ok (.getfield 15, 3) := by decide +kernel
theorem d_An_give_23 : decode b_An_give 23 = .ok (.lload_n 1, 1) := by decide +kernel
theorem d_An_give_24 : decode b_An_give 24 = .ok (.l2i, 1) := by decide +kernel
theorem d_An_give_25 : decode b_An_give 25 = .ok (.iload 5, 2) := by decide +kernel
theorem d_An_give_27 : decode b_An_give 27 = .ok (.iastore, 1) := by decide +kernel
theorem d_An_give_28 : decode b_An_give 28 = .ok (.return_, 1) := by decide +kernel
theorem d_An_addMissing_0 : decode b_An_addMissing 0 = .ok (.iconst 0, 1) := by decide +kernel
theorem d_An_addMissing_1 : decode b_An_addMissing 1 = .ok (.istore_n 2, 1) := by decide +kernel
theorem d_An_addMissing_2 : decode b_An_addMissing 2 = .ok (.iload_n 2, 1) := by decide +kernel
theorem d_An_addMissing_3 : decode b_An_addMissing 3 = .ok (.iconst 4, 1) := by decide +kernel
theorem d_An_addMissing_4 : decode b_An_addMissing 4 = .ok (.if_icmp .ge 41, 3) := by decide +kernel
theorem d_An_addMissing_7 : decode b_An_addMissing 7 = .ok (.aload_n 0, 1) := by decide +kernel
theorem d_An_addMissing_8 : decode b_An_addMissing 8 = .ok (.iload_n 2, 1) := by decide +kernel
theorem d_An_addMissing_9 : decode b_An_addMissing 9 = .ok (.invokevirtual 25, 3) := by decide +kernel
theorem d_An_addMissing_12 : decode b_An_addMissing 12 = .ok (.ifCond .ne 27, 3) := by decide +kernel
theorem d_An_addMissing_15 : decode b_An_addMissing 15 = .ok (.aload_n 1, 1) := by decide +kernel
theorem d_An_addMissing_16 : decode b_An_addMissing 16 = .ok (.iload_n 2, 1) := by decide +kernel
theorem d_An_addMissing_17 : decode b_An_addMissing 17 = .ok (.invokevirtual 25, 3) := by decide +kernel
theorem d_An_addMissing_20 : decode b_An_addMissing 20 = .ok (.ifCond .eq 19, 3) := by decide +kernel
theorem d_An_addMissing_23 : decode b_An_addMissing 23 = .ok (.aload_n 0, 1) := by decide +kernel
theorem d_An_addMissing_24 : decode b_An_addMissing 24 = .ok (.iload_n 2, 1) := by decide +kernel
theorem d_An_addMissing_25 : decode b_An_addMissing 25 = .ok (.i2l, 1) := by decide +kernel
theorem d_An_addMissing_26 : decode b_An_addMissing 26 = .ok (.aload_n 1, 1) := by decide +kernel
theorem d_An_addMissing_27 : decode b_An_addMissing 27 = .ok (.iload_n 2, 1) := by decide +kernel
theorem d_An_addMissing_28 : decode b_An_addMissing 28 = .ok (.invokevirtual 29, 3) := by decide +kernel
theorem d_An_addMissing_31 : decode b_An_addMissing 31 = .ok (.aload_n 1, 1) := by decide +kernel
theorem d_An_addMissing_32 : decode b_An_addMissing 32 = .ok (.iload_n 2, 1) := by decide +kernel
theorem d_An_addMissing_33 : decode b_An_addMissing 33 = .ok (.invokevirtual 33, 3) := by decide +kernel
theorem d_An_addMissing_36 : decode b_An_addMissing 36 = .ok (.invokevirtual 37, 3) := by decide +kernel
theorem d_An_addMissing_39 : decode b_An_addMissing 39 = .ok (.iinc 2 1, 3) := by decide +kernel
theorem d_An_addMissing_42 : decode b_An_addMissing 42 = .ok (.goto (-40), 3) := by decide +kernel
theorem d_An_addMissing_45 : decode b_An_addMissing 45 = .ok (.return_, 1) := by decide +kernel
theorem d_An_isGiven_0 : decode b_An_isGiven 0 = .ok (.aload_n 0, 1) := by decide +kernel
theorem d_An_isGiven_1 : decode b_An_isGiven 1 = .ok (.iload_n 1, 1) := by decide +kernel
theorem d_An_isGiven_2 : decode b_An_isGiven 2 = .ok (.invokevirtual 33, 3) := by decide +kernel
theorem d_An_isGiven_5 : decode b_An_isGiven 5 = .ok (.iconst (-1), 1) := by decide +kernel
theorem d_An_isGiven_6 : decode b_An_isGiven 6 = .ok (.if_icmp .eq 7, 3) := by decide +kernel
theorem d_An_isGiven_9 : decode b_An_isGiven 9 = .ok (.iconst 1, 1) := by decide +kernel
theorem d_An_isGiven_10 : decode b_An_isGiven 10 = .ok (.goto 4, 3) := by decide +kernel
theorem d_An_isGiven_13 : decode b_An_isGiven 13 = .ok (.iconst 0, 1) := by decide +kernel
theorem d_An_isGiven_14 : decode b_An_isGiven 14 = .ok (.ireturn, 1) := by decide +kernel
theorem d_An_valueOf_0 : decode b_An_valueOf 0 = .ok (.iload_n 1, 1) := by decide +kernel
theorem d_An_valueOf_1 : decode b_An_valueOf 1 = .ok (.ifCond .lt 17, 3) := by decide +kernel
theorem d_An_valueOf_4 : decode b_An_valueOf 4 = .ok (.iload_n 1, 1) := by decide +kernel
theorem d_An_valueOf_5 : decode b_An_valueOf 5 = .ok (.iconst 4, 1) := by decide +kernel
theorem d_An_valueOf_6 : decode b_An_valueOf 6 = .ok (.if_icmp .ge 12, 3) := by decide +kernel
theorem d_An_valueOf_9 : decode b_An_valueOf 9 = .ok (.aload_n 0, 1) := by decide +kernel
theorem d_An_valueOf_10 : decode b_An_valueOf 10 = .ok (.getfield 9, 3) := by decide +kernel
theorem d_An_valueOf_13 : decode b_An_valueOf 13 = .ok (.iload_n 1, 1) := by decide +kernel
theorem d_An_valueOf_14 : decode b_An_valueOf 14 = .ok (.laload, 1) := by decide +kernel
theorem d_An_valueOf_15 : decode b_An_valueOf 15 = .ok (.goto 4, 3) := by decide +kernel
theorem d_An_valueOf_18 : decode b_An_valueOf 18 = .ok (.lconst 0, 1) := by decide +kernel
theorem d_An_valueOf_19 : decode b_An_valueOf 19 = .ok (.lreturn, 1) := by decide +kernel
theorem d_An_giverOf_0 : decode b_An_giverOf 0 = .ok (.iload_n 1, 1) := by decide +kernel
theorem d_An_giverOf_1 : decode b_An_giverOf 1 = .ok (.ifCond .lt 17, 3) := by decide +kernel
theorem d_An_giverOf_4 : decode b_An_giverOf 4 = .ok (.iload_n 1, 1) := by decide +kernel
theorem d_An_giverOf_5 : decode b_An_giverOf 5 = .ok (.iconst 4, 1) := by decide +kernel
theorem d_An_giverOf_6 : decode b_An_giverOf 6 = .ok (.if_icmp .ge 12, 3) := by decide +kernel
theorem d_An_giverOf_9 : decode b_An_giverOf 9 = .ok (.aload_n 0, 1) := by decide +kernel
theorem d_An_giverOf_10 : decode b_An_giverOf 10 = .ok (.getfield 15, 3) := by decide +kernel
theorem d_An_giverOf_13 : decode b_An_giverOf 13 = .ok (.iload_n 1, 1) := by decide +kernel
theorem d_An_giverOf_14 : decode b_An_giverOf 14 = .ok (.iaload, 1) := by decide +kernel
theorem d_An_giverOf_15 : decode b_An_giverOf 15 = .ok (.goto 4, 3) := by decide +kernel
theorem d_An_giverOf_18 : decode b_An_giverOf 18 = .ok (.iconst (-1), 1) := by decide +kernel
theorem d_An_giverOf_19 : decode b_An_giverOf 19 = .ok (.ireturn, 1) := by decide +kernel
theorem d_An_countGiven_0 : decode b_An_countGiven 0 = .ok (.iconst 0, 1) := by decide +kernel
theorem d_An_countGiven_1 : decode b_An_countGiven 1 = .ok (.istore_n 1, 1) := by decide +kernel
theorem d_An_countGiven_2 : decode b_An_countGiven 2 = .ok (.iconst 0, 1) := by decide +kernel
theorem d_An_countGiven_3 : decode b_An_countGiven 3 = .ok (.istore_n 2, 1) := by decide +kernel
theorem d_An_countGiven_4 : decode b_An_countGiven 4 = .ok (.iload_n 2, 1) := by decide +kernel
theorem d_An_countGiven_5 : decode b_An_countGiven 5 = .ok (.iconst 4, 1) := by decide +kernel
theorem d_An_countGiven_6 : decode b_An_countGiven 6 = .ok (.if_icmp .ge 20, 3) := by decide +kernel
theorem d_An_countGiven_9 : decode b_An_countGiven 9 = .ok (.aload_n 0, 1) := by decide +kernel
theorem d_An_countGiven_10 : decode b_An_countGiven 10 = .ok (.iload_n 2, 1) := by decide +kernel
theorem d_An_countGiven_11 : decode b_An_countGiven 11 = .ok (.invokevirtual 25, 3) := by decide +kernel
theorem d_An_countGiven_14 : decode b_An_countGiven 14 = .ok (.ifCond .eq 6, 3) := by decide +kernel
theorem d_An_countGiven_17 : decode b_An_countGiven 17 = .ok (.iinc 1 1, 3) := by decide +kernel
theorem d_An_countGiven_20 : decode b_An_countGiven 20 = .ok (.iinc 2 1, 3) := by decide +kernel
theorem d_An_countGiven_23 : decode b_An_countGiven 23 = .ok (.goto (-19), 3) := by decide +kernel
theorem d_An_countGiven_26 : decode b_An_countGiven 26 = .ok (.iload_n 1, 1) := by decide +kernel
theorem d_An_countGiven_27 : decode b_An_countGiven 27 = .ok (.ireturn, 1) := by decide +kernel
theorem d_Ed_init_0 : decode b_Ed_init 0 = .ok (.aload_n 0, 1) := by decide +kernel
theorem d_Ed_init_1 : decode b_Ed_init 1 = .ok (.invokespecial 3, 3) := by decide +kernel
theorem d_Ed_init_4 : decode b_Ed_init 4 = .ok (.aload_n 0, 1) := by decide +kernel
theorem d_Ed_init_5 : decode b_Ed_init 5 = .ok (.iconst 0, 1) := by decide +kernel
theorem d_Ed_init_6 : decode b_Ed_init 6 = .ok (.putfield 9, 3) := by decide +kernel
theorem d_Ed_init_9 : decode b_Ed_init 9 = .ok (.aload_n 0, 1) := by decide +kernel
theorem d_Ed_init_10 : decode b_Ed_init 10 = .ok (.iconst 0, 1) := by decide +kernel
theorem d_Ed_init_11 : decode b_Ed_init 11 = .ok (.putfield 15, 3) := by decide +kernel
theorem d_Ed_init_14 : decode b_Ed_init 14 = .ok (.aload_n 0, 1) := by decide +kernel
theorem d_Ed_init_15 : decode b_Ed_init 15 = .ok (.iconst (-1), 1) := by decide +kernel
theorem d_Ed_init_16 : decode b_Ed_init 16 = .ok (.putfield 18, 3) := by decide +kernel
theorem d_Ed_init_19 : decode b_Ed_init 19 = .ok (.aload_n 0, 1) := by decide +kernel
theorem d_Ed_init_20 : decode b_Ed_init 20 = .ok (.iconst 0, 1) := by decide +kernel
theorem d_Ed_init_21 : decode b_Ed_init 21 = .ok (.putfield 21, 3) := by decide +kernel
theorem d_Ed_init_24 : decode b_Ed_init 24 = .ok (.aload_n 0, 1) := by decide +kernel
theorem d_Ed_init_25 : decode b_Ed_init 25 = .ok (.bipush 8, 2) := by decide +kernel
theorem d_Ed_init_27 : decode b_Ed_init 27 = .ok (.anewarray 24, 3) := by decide +kernel
theorem d_Ed_init_30 : decode b_Ed_init 30 = .ok (.putfield 26, 3) := by decide +kernel
theorem d_Ed_init_33 : decode b_Ed_init 33 = .ok (.return_, 1) := by decide +kernel
theorem d_Ed_insert_0 : decode b_Ed_insert 0 = .ok (.aload_n 0, 1) := by decide +kernel
theorem d_Ed_insert_1 : decode b_Ed_insert 1 = .ok (.getfield 15, 3) := by decide +kernel
theorem d_Ed_insert_4 : decode b_Ed_insert 4 = .ok (.bipush 8, 2) := by decide +kernel
theorem d_Ed_insert_6 : decode b_Ed_insert 6 = .ok (.if_icmp .lt 4, 3) := by decide +kernel
theorem d_Ed_insert_9 : decode b_Ed_insert 9 = .ok (.return_, 1) := by decide +kernel
theorem d_Ed_insert_10 : decode b_Ed_insert 10 = .ok (.aload_n 0, 1) := by decide +kernel
theorem d_Ed_insert_11 : decode b_Ed_insert 11 = .ok (.getfield 15, 3) := by decide +kernel
theorem d_Ed_insert_14 : decode b_Ed_insert 14 = .ok (.istore_n 2, 1) := by decide +kernel
theorem d_Ed_insert_15 : decode b_Ed_insert 15 = .ok (.aload_n 0, 1) := by decide +kernel
theorem d_Ed_insert_16 : decode b_Ed_insert 16 = .ok (.getfield 15, 3) := by decide +kernel
theorem d_Ed_insert_19 : decode b_Ed_insert 19 = .ok (.iconst 1, 1) := by decide +kernel
theorem d_Ed_insert_20 : decode b_Ed_insert 20 = .ok (.isub, 1) := by decide +kernel
theorem d_Ed_insert_21 : decode b_Ed_insert 21 = .ok (.istore_n 3, 1) := by decide +kernel
theorem d_Ed_insert_22 : decode b_Ed_insert 22 = .ok (.iload_n 3, 1) := by decide +kernel
theorem d_Ed_insert_23 : decode b_Ed_insert 23 = .ok (.ifCond .lt 46, 3) := by decide +kernel
theorem d_Ed_insert_26 : decode b_Ed_insert 26 = .ok (.aload_n 0, 1) := by decide +kernel
theorem d_Ed_insert_27 : decode b_Ed_insert 27 = .ok (.getfield 26, 3) := by decide +kernel
theorem d_Ed_insert_30 : decode b_Ed_insert 30 = .ok (.iload_n 3, 1) := by decide +kernel
theorem d_Ed_insert_31 : decode b_Ed_insert 31 = .ok (.aaload, 1) := by decide +kernel
theorem d_Ed_insert_32 : decode b_Ed_insert 32 = .ok (.astore 4, 2) := by decide +kernel
theorem d_Ed_insert_34 : decode b_Ed_insert 34 = .ok (.aload 4, 2) := by decide +kernel
theorem d_Ed_insert_36 : decode b_Ed_insert 36 = .ok (.ifnull 33, 3) := by decide +kernel
theorem d_Ed_insert_39 : decode b_Ed_insert 39 = .ok (.aload 4, 2) := by decide +kernel
theorem d_Ed_insert_41 : decode b_Ed_insert 41 = .ok (.aload_n 1, 1) := by decide +kernel
theorem d_Ed_insert_42 : decode b_Ed_insert 42 = .ok (.invokevirtual 30, 3) := by decide +kernel
theorem d_Ed_insert_45 : decode b_Ed_insert 45 = .ok (.ifCond .eq 6, 3) := by decide +kernel
theorem d_Ed_insert_48 : decode b_Ed_insert 48 = .ok (.goto 21, 3) := by decide +kernel
theorem d_Ed_insert_51 : decode b_Ed_insert 51 = .ok (.aload_n 0, 1) := by decide +kernel
theorem d_Ed_insert_52 : decode b_Ed_insert 52 = .ok (.getfield 26, 3) := by decide +kernel
theorem d_Ed_insert_55 : decode b_Ed_insert 55 = .ok (.iload_n 3, 1) := by decide +kernel
theorem d_Ed_insert_56 : decode b_Ed_insert 56 = .ok (.iconst 1, 1) := by decide +kernel
theorem d_Ed_insert_57 : decode b_Ed_insert 57 = .ok (.iadd, 1) := by decide +kernel
theorem d_Ed_insert_58 : decode b_Ed_insert 58 = .ok (.aload 4, 2) := by decide +kernel
theorem d_Ed_insert_60 : decode b_Ed_insert 60 = .ok (.aastore, 1) := by decide +kernel
theorem d_Ed_insert_61 : decode b_Ed_insert 61 = .ok (.iload_n 3, 1) := by decide +kernel
theorem d_Ed_insert_62 : decode b_Ed_insert 62 = .ok (.istore_n 2, 1) := by decide +kernel
theorem d_Ed_insert_63 : decode b_Ed_insert 63 = .ok (.iinc 3 (-1), 3) := by decide +kernel
theorem d_Ed_insert_66 : decode b_Ed_insert 66 = .ok (.goto (-44), 3) := by decide +kernel
theorem d_Ed_insert_69 : decode b_Ed_insert 69 = .ok (.aload_n 0, 1) := by decide +kernel
theorem d_Ed_insert_70 : decode b_Ed_insert 70 = .ok (.getfield 26, 3) := by decide +kernel
theorem d_Ed_insert_73 : decode b_Ed_insert 73 = .ok (.iload_n 2, 1) := by decide +kernel
theorem d_Ed_insert_74 : decode b_Ed_insert 74 = .ok (.aload_n 1, 1) := by decide +kernel
theorem d_Ed_insert_75 : decode b_Ed_insert 75 = .ok (.aastore, 1) := by decide +kernel
theorem d_Ed_insert_76 : decode b_Ed_insert 76 = .ok (.aload_n 0, 1) := by decide +kernel
theorem d_Ed_insert_77 : decode b_Ed_insert 77 = .ok (.dup, 1) := by decide +kernel
theorem d_Ed_insert_78 : decode b_Ed_insert 78 = .ok (.getfield 15, 3) := by decide +kernel
theorem d_Ed_insert_81 : decode b_Ed_insert 81 = .ok (.iconst 1, 1) := by decide +kernel
theorem d_Ed_insert_82 : decode b_Ed_insert 82 = .ok (.iadd, 1) := by decide +kernel
theorem d_Ed_insert_83 : decode b_Ed_insert 83 = .ok (.putfield 15, 3) := by decide +kernel
theorem d_Ed_insert_86 : decode b_Ed_insert 86 = .ok (.aload_n 0, 1) := by decide +kernel
theorem d_Ed_insert_87 : decode b_Ed_insert 87 = .ok (.iconst 1, 1) := by decide +kernel
theorem d_Ed_insert_88 : decode b_Ed_insert 88 = .ok (.putfield 9, 3) := by decide +kernel
theorem d_Ed_insert_91 : decode b_Ed_insert 91 = .ok (.return_, 1) := by decide +kernel
theorem d_Ed_inOrder_0 : decode b_Ed_inOrder 0 = .ok (.iload_n 1, 1) := by decide +kernel
theorem d_Ed_inOrder_1 : decode b_Ed_inOrder 1 = .ok (.ifCond .lt 26, 3) := by decide +kernel
theorem d_Ed_inOrder_4 : decode b_Ed_inOrder 4 = .ok (.iload_n 1, 1) := by decide +kernel
theorem d_Ed_inOrder_5 : decode b_Ed_inOrder 5 = .ok (.aload_n 0, 1) := by decide +kernel
theorem d_Ed_inOrder_6 : decode b_Ed_inOrder 6 = .ok (.getfield 15, 3) := by decide +kernel
theorem d_Ed_inOrder_9 : decode b_Ed_inOrder 9 = .ok (.if_icmp .ge 18, 3) := by decide +kernel
theorem d_Ed_inOrder_12 : decode b_Ed_inOrder 12 = .ok (.iload_n 1, 1) := by decide +kernel
theorem d_Ed_inOrder_13 : decode b_Ed_inOrder 13 = .ok (.bipush 8, 2) := by decide +kernel
theorem d_Ed_inOrder_15 : decode b_Ed_inOrder 15 = .ok (.if_icmp .ge 12, 3) := by decide +kernel
theorem d_Ed_inOrder_18 : decode b_Ed_inOrder 18 = .ok (.aload_n 0, 1) := by decide +kernel
theorem d_Ed_inOrder_19 : decode b_Ed_inOrder 19 = .ok (.getfield 26, 3) := by decide +kernel
theorem d_Ed_inOrder_22 : decode b_Ed_inOrder 22 = .ok (.iload_n 1, 1) := by decide +kernel
theorem d_Ed_inOrder_23 : decode b_Ed_inOrder 23 = .ok (.aaload, 1) := by decide +kernel
theorem d_Ed_inOrder_24 : decode b_Ed_inOrder 24 = .ok (.goto 4, 3) := by decide +kernel
theorem d_Ed_inOrder_27 : decode b_Ed_inOrder 27 = .ok (.aconst_null, 1) := by decide +kernel
theorem d_Ed_inOrder_28 : decode b_Ed_inOrder 28 = .ok (.areturn, 1) := by decide +kernel
theorem d_Ed_isInForceOn_0 : decode b_Ed_isInForceOn 0 = .ok (.aload_n 0, 1) := by decide +kernel
theorem d_Ed_isInForceOn_1 : decode b_Ed_isInForceOn 1 = .ok (.getfield 18, 3) := by decide +kernel
theorem d_Ed_isInForceOn_4 : decode b_Ed_isInForceOn 4 = .ok (.iconst (-1), 1) := by decide +kernel
theorem d_Ed_isInForceOn_5 : decode b_Ed_isInForceOn 5 = .ok (.if_icmp .eq 15, 3) := by decide +kernel
theorem d_Ed_isInForceOn_8 : decode b_Ed_isInForceOn 8 = .ok (.aload_n 0, 1) := by decide +kernel
theorem d_Ed_isInForceOn_9 : decode b_Ed_isInForceOn 9 = .ok (.getfield 18, 3) := by decide +kernel
theorem d_Ed_isInForceOn_12 : decode b_Ed_isInForceOn 12 = .ok (.iload_n 1, 1) := by decide +kernel
theorem d_Ed_isInForceOn_13 : decode b_Ed_isInForceOn 13 = .ok (.if_icmp .gt 7, 3) := by decide +kernel
theorem d_Ed_isInForceOn_16 : decode b_Ed_isInForceOn 16 = .ok (.iconst 1, 1) := by decide +kernel
theorem d_Ed_isInForceOn_17 : decode b_Ed_isInForceOn 17 = .ok (.goto 4, 3) := by decide +kernel
theorem d_Ed_isInForceOn_20 : decode b_Ed_isInForceOn 20 = .ok (.iconst 0, 1) := by decide +kernel
theorem d_Ed_isInForceOn_21 : decode b_Ed_isInForceOn 21 = .ok (.ireturn, 1) := by decide +kernel
theorem d_Ed_goesAhead_0 : decode b_Ed_goesAhead 0 = .ok (.aload_n 1, 1) := by decide +kernel
theorem d_Ed_goesAhead_1 : decode b_Ed_goesAhead 1 = .ok (.ifnonnull 5, 3) := by decide +kernel
theorem d_Ed_goesAhead_4 : decode b_Ed_goesAhead 4 = .ok (.iconst 1, 1) := by decide +kernel
theorem d_Ed_goesAhead_5 : decode b_Ed_goesAhead 5 = .ok (.ireturn, 1) := by decide +kernel
theorem d_Ed_goesAhead_6 : decode b_Ed_goesAhead 6 = .ok (.aload_n 0, 1) := by decide +kernel
theorem d_Ed_goesAhead_7 : decode b_Ed_goesAhead 7 = .ok (.getfield 18, 3) := by decide +kernel
theorem d_Ed_goesAhead_10 : decode b_Ed_goesAhead 10 = .ok (.aload_n 1, 1) := by decide +kernel
theorem d_Ed_goesAhead_11 : decode b_Ed_goesAhead 11 = .ok (.getfield 18, 3) := by decide +kernel
theorem d_Ed_goesAhead_14 : decode b_Ed_goesAhead 14 = .ok (.if_icmp .eq 22, 3) := by decide +kernel
theorem d_Ed_goesAhead_17 : decode b_Ed_goesAhead 17 = .ok (.aload_n 0, 1) := by decide +kernel
theorem d_Ed_goesAhead_18 : decode b_Ed_goesAhead 18 = .ok (.getfield 18, 3) := by decide +kernel
theorem d_Ed_goesAhead_21 : decode b_Ed_goesAhead 21 = .ok (.aload_n 1, 1) := by decide +kernel
theorem d_Ed_goesAhead_22 : decode b_Ed_goesAhead 22 = .ok (.getfield 18, 3) := by decide +kernel
theorem d_Ed_goesAhead_25 : decode b_Ed_goesAhead 25 = .ok (.if_icmp .le 7, 3) := by decide +kernel
theorem d_Ed_goesAhead_28 : decode b_Ed_goesAhead 28 = .ok (.iconst 1, 1) := by decide +kernel
theorem d_Ed_goesAhead_29 : decode b_Ed_goesAhead 29 = .ok (.goto 23, 3) := by decide +kernel
theorem d_Ed_goesAhead_32 : decode b_Ed_goesAhead 32 = .ok (.iconst 0, 1) := by decide +kernel
theorem d_Ed_goesAhead_33 : decode b_Ed_goesAhead 33 = .ok (.goto 19, 3) := by decide +kernel
theorem d_Ed_goesAhead_36 : decode b_Ed_goesAhead 36 = .ok (.aload_n 0, 1) := by decide +kernel
theorem d_Ed_goesAhead_37 : decode b_Ed_goesAhead 37 = .ok (.getfield 21, 3) := by decide +kernel
theorem d_Ed_goesAhead_40 : decode b_Ed_goesAhead 40 = .ok (.aload_n 1, 1) := by decide +kernel
theorem d_Ed_goesAhead_41 : decode b_Ed_goesAhead 41 = .ok (.getfield 21, 3) := by decide +kernel
theorem d_Ed_goesAhead_44 : decode b_Ed_goesAhead 44 = .ok (.if_icmp .le 7, 3) := by decide +kernel
theorem d_Ed_goesAhead_47 : decode b_Ed_goesAhead 47 = .ok (.iconst 1, 1) := by decide +kernel
theorem d_Ed_goesAhead_48 : decode b_Ed_goesAhead 48 = .ok (.goto 4, 3) := by decide +kernel
theorem d_Ed_goesAhead_51 : decode b_Ed_goesAhead 51 = .ok (.iconst 0, 1) := by decide +kernel
theorem d_Ed_goesAhead_52 : decode b_Ed_goesAhead 52 = .ok (.ireturn, 1) := by decide +kernel
theorem d_Fa_init_0 : decode b_Fa_init 0 = .ok (.aload_n 0, 1) := by decide +kernel
theorem d_Fa_init_1 : decode b_Fa_init 1 = .ok (.invokespecial 3, 3) := by decide +kernel
theorem d_Fa_init_4 : decode b_Fa_init 4 = .ok (.aload_n 0, 1) := by decide +kernel
theorem d_Fa_init_5 : decode b_Fa_init 5 = .ok (.bipush 8, 2) := by decide +kernel
theorem d_Fa_init_7 : decode b_Fa_init 7 = .ok (.newarray .int, 2) := by decide +kernel
theorem d_Fa_init_9 : decode b_Fa_init 9 = .ok (.putfield 9, 3) := by decide +kernel
theorem d_Fa_init_12 : decode b_Fa_init 12 = .ok (.aload_n 0, 1) := by decide +kernel
theorem d_Fa_init_13 : decode b_Fa_init 13 = .ok (.bipush 8, 2) := by decide +kernel
theorem d_Fa_init_15 : decode b_Fa_init 15 = .ok (.newarray .int, 2) := by decide +kernel
theorem d_Fa_init_17 : decode b_Fa_init 17 = .ok (.putfield 15, 3) := by decide +kernel
theorem d_Fa_init_20 : decode b_Fa_init 20 = .ok (.aload_n 0, 1) := by decide +kernel
theorem d_Fa_init_21 : decode b_Fa_init 21 = .ok (.iconst 0, 1) := by decide +kernel
theorem d_Fa_init_22 : decode b_Fa_init 22 = .ok (.putfield 18, 3) := by decide +kernel
theorem d_Fa_init_25 : decode b_Fa_init 25 = .ok (.return_, 1) := by decide +kernel
theorem d_Fa_add_0 : decode b_Fa_add 0 = .ok (.aload_n 0, 1) := by decide +kernel
theorem d_Fa_add_1 : decode b_Fa_add 1 = .ok (.getfield 18, 3) := by decide +kernel
theorem d_Fa_add_4 : decode b_Fa_add 4 = .ok (.bipush 8, 2) := by decide +kernel
theorem d_Fa_add_6 : decode b_Fa_add 6 = .ok (.if_icmp .ge 33, 3) := by decide +kernel
theorem d_Fa_add_9 : decode b_Fa_add 9 = .ok (.aload_n 0, 1) := by decide +kernel
theorem d_Fa_add_10 : decode b_Fa_add 10 = .ok (.getfield 9, 3) := by decide +kernel
theorem d_Fa_add_13 : decode b_Fa_add 13 = .ok (.aload_n 0, 1) := by decide +kernel
theorem d_Fa_add_14 : decode b_Fa_add 14 = .ok (.getfield 18, 3) := by decide +kernel
theorem d_Fa_add_17 : decode b_Fa_add 17 = .ok (.iload_n 1, 1) := by decide +kernel
theorem d_Fa_add_18 : decode b_Fa_add 18 = .ok (.iastore, 1) := by decide +kernel
theorem d_Fa_add_19 : decode b_Fa_add 19 = .ok (.aload_n 0, 1) := by decide +kernel
theorem d_Fa_add_20 : decode b_Fa_add 20 = .ok (.getfield 15, 3) := by decide +kernel
theorem d_Fa_add_23 : decode b_Fa_add 23 = .ok (.aload_n 0, 1) := by decide +kernel
theorem d_Fa_add_24 : decode b_Fa_add 24 = .ok (.getfield 18, 3) := by decide +kernel
theorem d_Fa_add_27 : decode b_Fa_add 27 = .ok (.iload_n 2, 1) := by decide +kernel
theorem d_Fa_add_28 : decode b_Fa_add 28 = .ok (.iastore, 1) := by decide +kernel
theorem d_Fa_add_29 : decode b_Fa_add 29 = .ok (.aload_n 0, 1) := by decide +kernel
theorem d_Fa_add_30 : decode b_Fa_add 30 = .ok (.dup, 1) := by decide +kernel
theorem d_Fa_add_31 : decode b_Fa_add 31 = .ok (.getfield 18, 3) := by decide +kernel
theorem d_Fa_add_34 : decode b_Fa_add 34 = .ok (.iconst 1, 1) := by decide +kernel
theorem d_Fa_add_35 : decode b_Fa_add 35 = .ok (.iadd, 1) := by decide +kernel
theorem d_Fa_add_36 : decode b_Fa_add 36 = .ok (.putfield 18, 3) := by decide +kernel
theorem d_Fa_add_39 : decode b_Fa_add 39 = .ok (.return_, 1) := by decide +kernel
theorem d_Fa_numberAt_0 : decode b_Fa_numberAt 0 = .ok (.iload_n 1, 1) := by decide +kernel
theorem d_Fa_numberAt_1 : decode b_Fa_numberAt 1 = .ok (.ifCond .lt 26, 3) := by decide +kernel
theorem d_Fa_numberAt_4 : decode b_Fa_numberAt 4 = .ok (.iload_n 1, 1) := by decide +kernel
theorem d_Fa_numberAt_5 : decode b_Fa_numberAt 5 = .ok (.aload_n 0, 1) := by decide +kernel
theorem d_Fa_numberAt_6 : decode b_Fa_numberAt 6 = .ok (.getfield 18, 3) := by decide +kernel
theorem d_Fa_numberAt_9 : decode b_Fa_numberAt 9 = .ok (.if_icmp .ge 18, 3) := by decide +kernel
theorem d_Fa_numberAt_12 : decode b_Fa_numberAt 12 = .ok (.iload_n 1, 1) := by decide +kernel
theorem d_Fa_numberAt_13 : decode b_Fa_numberAt 13 = .ok (.bipush 8, 2) := by decide +kernel
theorem d_Fa_numberAt_15 : decode b_Fa_numberAt 15 = .ok (.if_icmp .ge 12, 3) := by decide +kernel
theorem d_Fa_numberAt_18 : decode b_Fa_numberAt 18 = .ok (.aload_n 0, 1) := by decide +kernel
theorem d_Fa_numberAt_19 : decode b_Fa_numberAt 19 = .ok (.getfield 9, 3) := by decide +kernel
theorem d_Fa_numberAt_22 : decode b_Fa_numberAt 22 = .ok (.iload_n 1, 1) := by decide +kernel
theorem d_Fa_numberAt_23 : decode b_Fa_numberAt 23 = .ok (.iaload, 1) := by decide +kernel
theorem d_Fa_numberAt_24 : decode b_Fa_numberAt 24 = .ok (.goto 4, 3) := by decide +kernel
theorem d_Fa_numberAt_27 : decode b_Fa_numberAt 27 = .ok (.iconst (-1), 1) := by decide +kernel
theorem d_Fa_numberAt_28 : decode b_Fa_numberAt 28 = .ok (.ireturn, 1) := by decide +kernel
theorem d_Fa_howAt_0 : decode b_Fa_howAt 0 = .ok (.iload_n 1, 1) := by decide +kernel
theorem d_Fa_howAt_1 : decode b_Fa_howAt 1 = .ok (.ifCond .lt 26, 3) := by decide +kernel
theorem d_Fa_howAt_4 : decode b_Fa_howAt 4 = .ok (.iload_n 1, 1) := by decide +kernel
theorem d_Fa_howAt_5 : decode b_Fa_howAt 5 = .ok (.aload_n 0, 1) := by decide +kernel
theorem d_Fa_howAt_6 : decode b_Fa_howAt 6 = .ok (.getfield 18, 3) := by decide +kernel
theorem d_Fa_howAt_9 : decode b_Fa_howAt 9 = .ok (.if_icmp .ge 18, 3) := by decide +kernel
theorem d_Fa_howAt_12 : decode b_Fa_howAt 12 = .ok (.iload_n 1, 1) := by decide +kernel
theorem d_Fa_howAt_13 : decode b_Fa_howAt 13 = .ok (.bipush 8, 2) := by decide +kernel
theorem d_Fa_howAt_15 : decode b_Fa_howAt 15 = .ok (.if_icmp .ge 12, 3) := by decide +kernel
theorem d_Fa_howAt_18 : decode b_Fa_howAt 18 = .ok (.aload_n 0, 1) := by decide +kernel
theorem d_Fa_howAt_19 : decode b_Fa_howAt 19 = .ok (.getfield 15, 3) := by decide +kernel
theorem d_Fa_howAt_22 : decode b_Fa_howAt 22 = .ok (.iload_n 1, 1) := by decide +kernel
theorem d_Fa_howAt_23 : decode b_Fa_howAt 23 = .ok (.iaload, 1) := by decide +kernel
theorem d_Fa_howAt_24 : decode b_Fa_howAt 24 = .ok (.goto 4, 3) := by decide +kernel
theorem d_Fa_howAt_27 : decode b_Fa_howAt 27 = .ok (.iconst (-1), 1) := by decide +kernel
theorem d_Fa_howAt_28 : decode b_Fa_howAt 28 = .ok (.ireturn, 1) := by decide +kernel
theorem d_Ru_init_0 : decode b_Ru_init 0 = .ok (.aload_n 0, 1) := by decide +kernel
theorem d_Ru_init_1 : decode b_Ru_init 1 = .ok (.invokespecial 3, 3) := by decide +kernel
theorem d_Ru_init_4 : decode b_Ru_init 4 = .ok (.aload_n 0, 1) := by decide +kernel
theorem d_Ru_init_5 : decode b_Ru_init 5 = .ok (.bipush 12, 2) := by decide +kernel
theorem d_Ru_init_7 : decode b_Ru_init 7 = .ok (.newarray .int, 2) := by decide +kernel
theorem d_Ru_init_9 : decode b_Ru_init 9 = .ok (.putfield 9, 3) := by decide +kernel
theorem d_Ru_init_12 : decode b_Ru_init 12 = .ok (.aload_n 0, 1) := by decide +kernel
theorem d_Ru_init_13 : decode b_Ru_init 13 = .ok (.bipush 12, 2) := by decide +kernel
theorem d_Ru_init_15 : decode b_Ru_init 15 = .ok (.newarray .long, 2) := by decide +kernel
theorem d_Ru_init_17 : decode b_Ru_init 17 = .ok (.putfield 15, 3) := by decide +kernel
theorem d_Ru_init_20 : decode b_Ru_init 20 = .ok (.aload_n 0, 1) := by decide +kernel
theorem d_Ru_init_21 : decode b_Ru_init 21 = .ok (.iconst 0, 1) := by decide +kernel
theorem d_Ru_init_22 : decode b_Ru_init 22 = .ok (.putfield 19, 3) := by decide +kernel
theorem d_Ru_init_25 : decode b_Ru_init 25 = .ok (.aload_n 0, 1) := by decide +kernel
theorem d_Ru_init_26 : decode b_Ru_init 26 = .ok (.lconst 0, 1) := by decide +kernel
theorem d_Ru_init_27 : decode b_Ru_init 27 = .ok (.putfield 23, 3) := by decide +kernel
theorem d_Ru_init_30 : decode b_Ru_init 30 = .ok (.aload_n 0, 1) := by decide +kernel
theorem d_Ru_init_31 : decode b_Ru_init 31 = .ok (.iconst (-1), 1) := by decide +kernel
theorem d_Ru_init_32 : decode b_Ru_init 32 = .ok (.putfield 27, 3) := by decide +kernel
theorem d_Ru_init_35 : decode b_Ru_init 35 = .ok (.aload_n 0, 1) := by decide +kernel
theorem d_Ru_init_36 : decode b_Ru_init 36 = .ok (.lconst 0, 1) := by decide +kernel
theorem d_Ru_init_37 : decode b_Ru_init 37 = .ok (.putfield 30, 3) := by decide +kernel
theorem d_Ru_init_40 : decode b_Ru_init 40 = .ok (.aload_n 0, 1) := by decide +kernel
theorem d_Ru_init_41 : decode b_Ru_init 41 = .ok (.iload_n 1, 1) := by decide +kernel
theorem d_Ru_init_42 : decode b_Ru_init 42 = .ok (.putfield 33, 3) := by decide +kernel
theorem d_Ru_init_45 : decode b_Ru_init 45 = .ok (.aload_n 0, 1) := by decide +kernel
theorem d_Ru_init_46 : decode b_Ru_init 46 = .ok (.aload_n 2, 1) := by decide +kernel
theorem d_Ru_init_47 : decode b_Ru_init 47 = .ok (.putfield 36, 3) := by decide +kernel
theorem d_Ru_init_50 : decode b_Ru_init 50 = .ok (.aload_n 0, 1) := by decide +kernel
theorem d_Ru_init_51 : decode b_Ru_init 51 = .ok (.iload_n 3, 1) := by decide +kernel
theorem d_Ru_init_52 : decode b_Ru_init 52 = .ok (.putfield 40, 3) := by decide +kernel
theorem d_Ru_init_55 : decode b_Ru_init 55 = .ok (.aload_n 0, 1) := by decide +kernel
theorem d_Ru_init_56 : decode b_Ru_init 56 = .ok (.iload 4, 2) := by decide +kernel
theorem d_Ru_init_58 : decode b_Ru_init 58 = .ok (.putfield 43, 3) := by decide +kernel
theorem d_Ru_init_61 : decode b_Ru_init 61 = .ok (.return_, 1) := by decide +kernel
theorem d_Ru_append_0 : decode b_Ru_append 0 = .ok (.aload_n 0, 1) := by decide +kernel
theorem d_Ru_append_1 : decode b_Ru_append 1 = .ok (.getfield 19, 3) := by decide +kernel
theorem d_Ru_append_4 : decode b_Ru_append 4 = .ok (.bipush 12, 2) := by decide +kernel
theorem d_Ru_append_6 : decode b_Ru_append 6 = .ok (.if_icmp .ge 33, 3) := by decide +kernel
theorem d_Ru_append_9 : decode b_Ru_append 9 = .ok (.aload_n 0, 1) := by decide +kernel
theorem d_Ru_append_10 : decode b_Ru_append 10 = .ok (.getfield 9, 3) := by decide +kernel
theorem d_Ru_append_13 : decode b_Ru_append 13 = .ok (.aload_n 0, 1) := by decide +kernel
theorem d_Ru_append_14 : decode b_Ru_append 14 = .ok (.getfield 19, 3) := by decide +kernel
theorem d_Ru_append_17 : decode b_Ru_append 17 = .ok (.iload_n 1, 1) := by decide +kernel
theorem d_Ru_append_18 : decode b_Ru_append 18 = .ok (.iastore, 1) := by decide +kernel
theorem d_Ru_append_19 : decode b_Ru_append 19 = .ok (.aload_n 0, 1) := by decide +kernel
theorem d_Ru_append_20 : decode b_Ru_append 20 = .ok (.getfield 15, 3) := by decide +kernel
theorem d_Ru_append_23 : decode b_Ru_append 23 = .ok (.aload_n 0, 1) := by decide +kernel
theorem d_Ru_append_24 : decode b_Ru_append 24 = .ok (.getfield 19, 3) := by decide +kernel
theorem d_Ru_append_27 : decode b_Ru_append 27 = .ok (.lload_n 2, 1) := by decide +kernel
theorem d_Ru_append_28 : decode b_Ru_append 28 = .ok (.lastore, 1) := by decide +kernel
theorem d_Ru_append_29 : decode b_Ru_append 29 = .ok (.aload_n 0, 1) := by decide +kernel
theorem d_Ru_append_30 : decode b_Ru_append 30 = .ok (.dup, 1) := by decide +kernel
theorem d_Ru_append_31 : decode b_Ru_append 31 = .ok (.getfield 19, 3) := by decide +kernel
theorem d_Ru_append_34 : decode b_Ru_append 34 = .ok (.iconst 1, 1) := by decide +kernel
theorem d_Ru_append_35 : decode b_Ru_append 35 = .ok (.iadd, 1) := by decide +kernel
theorem d_Ru_append_36 : decode b_Ru_append 36 = .ok (.putfield 19, 3) := by decide +kernel
theorem d_Ru_append_39 : decode b_Ru_append 39 = .ok (.return_, 1) := by decide +kernel
theorem d_Ru_goesBefore_0 : decode b_Ru_goesBefore 0 = .ok (.aload_n 0, 1) := by decide +kernel
theorem d_Ru_goesBefore_1 : decode b_Ru_goesBefore 1 = .ok (.getfield 40, 3) := by decide +kernel
theorem d_Ru_goesBefore_4 : decode b_Ru_goesBefore 4 = .ok (.aload_n 1, 1) := by decide +kernel
theorem d_Ru_goesBefore_5 : decode b_Ru_goesBefore 5 = .ok (.getfield 40, 3) := by decide +kernel
theorem d_Ru_goesBefore_8 : decode b_Ru_goesBefore 8 = .ok (.if_icmp .eq 20, 3) := by decide +kernel
theorem d_Ru_goesBefore_11 : decode b_Ru_goesBefore 11 = .ok (.aload_n 0, 1) := by decide +kernel
theorem d_Ru_goesBefore_12 : decode b_Ru_goesBefore 12 = .ok (.getfield 40, 3) := by decide +kernel
theorem d_Ru_goesBefore_15 : decode b_Ru_goesBefore 15 = .ok (.aload_n 1, 1) := by decide +kernel
theorem d_Ru_goesBefore_16 : decode b_Ru_goesBefore 16 = .ok (.getfield 40, 3) := by decide +kernel
theorem d_Ru_goesBefore_19 : decode b_Ru_goesBefore 19 = .ok (.if_icmp .ge 7, 3) := by decide +kernel
theorem d_Ru_goesBefore_22 : decode b_Ru_goesBefore 22 = .ok (.iconst 1, 1) := by decide +kernel
theorem d_Ru_goesBefore_23 : decode b_Ru_goesBefore 23 = .ok (.goto 4, 3) := by decide +kernel
theorem d_Ru_goesBefore_26 : decode b_Ru_goesBefore 26 = .ok (.iconst 0, 1) := by decide +kernel
theorem d_Ru_goesBefore_27 : decode b_Ru_goesBefore 27 = .ok (.ireturn, 1) := by decide +kernel
theorem d_Ru_goesBefore_28 : decode b_Ru_goesBefore 28 = .ok (.aload_n 0, 1) := by decide +kernel
theorem d_Ru_goesBefore_29 : decode b_Ru_goesBefore 29 = .ok (.getfield 43, 3) := by decide +kernel
theorem d_Ru_goesBefore_32 : decode b_Ru_goesBefore 32 = .ok (.aload_n 1, 1) := by decide +kernel
theorem d_Ru_goesBefore_33 : decode b_Ru_goesBefore 33 = .ok (.getfield 43, 3) := by decide +kernel
theorem d_Ru_goesBefore_36 : decode b_Ru_goesBefore 36 = .ok (.if_icmp .eq 22, 3) := by decide +kernel
theorem d_Ru_goesBefore_39 : decode b_Ru_goesBefore 39 = .ok (.aload_n 0, 1) := by decide +kernel
theorem d_Ru_goesBefore_40 : decode b_Ru_goesBefore 40 = .ok (.getfield 43, 3) := by decide +kernel
theorem d_Ru_goesBefore_43 : decode b_Ru_goesBefore 43 = .ok (.aload_n 1, 1) := by decide +kernel
theorem d_Ru_goesBefore_44 : decode b_Ru_goesBefore 44 = .ok (.getfield 43, 3) := by decide +kernel
theorem d_Ru_goesBefore_47 : decode b_Ru_goesBefore 47 = .ok (.if_icmp .ge 7, 3) := by decide +kernel
theorem d_Ru_goesBefore_50 : decode b_Ru_goesBefore 50 = .ok (.iconst 1, 1) := by decide +kernel
theorem d_Ru_goesBefore_51 : decode b_Ru_goesBefore 51 = .ok (.goto 23, 3) := by decide +kernel
theorem d_Ru_goesBefore_54 : decode b_Ru_goesBefore 54 = .ok (.iconst 0, 1) := by decide +kernel
theorem d_Ru_goesBefore_55 : decode b_Ru_goesBefore 55 = .ok (.goto 19, 3) := by decide +kernel
theorem d_Ru_goesBefore_58 : decode b_Ru_goesBefore 58 = .ok (.aload_n 0, 1) := by decide +kernel
theorem d_Ru_goesBefore_59 : decode b_Ru_goesBefore 59 = .ok (.getfield 33, 3) := by decide +kernel
theorem d_Ru_goesBefore_62 : decode b_Ru_goesBefore 62 = .ok (.aload_n 1, 1) := by decide +kernel
theorem d_Ru_goesBefore_63 : decode b_Ru_goesBefore 63 = .ok (.getfield 33, 3) := by decide +kernel
theorem d_Ru_goesBefore_66 : decode b_Ru_goesBefore 66 = .ok (.if_icmp .ge 7, 3) := by decide +kernel
theorem d_Ru_goesBefore_69 : decode b_Ru_goesBefore 69 = .ok (.iconst 1, 1) := by decide +kernel
theorem d_Ru_goesBefore_70 : decode b_Ru_goesBefore 70 = .ok (.goto 4, 3) := by decide +kernel
theorem d_Ru_goesBefore_73 : decode b_Ru_goesBefore 73 = .ok (.iconst 0, 1) := by decide +kernel
theorem d_Ru_goesBefore_74 : decode b_Ru_goesBefore 74 = .ok (.ireturn, 1) := by decide +kernel
theorem d_Ru_hasProgramOf_0 : decode b_Ru_hasProgramOf 0 = .ok (.aload_n 0, 1) := by decide +kernel
theorem d_Ru_hasProgramOf_1 : decode b_Ru_hasProgramOf 1 = .ok (.getfield 19, 3) := by decide +kernel
theorem d_Ru_hasProgramOf_4 : decode b_Ru_hasProgramOf 4 = .ok (.aload_n 1, 1) := by decide +kernel
theorem d_Ru_hasProgramOf_5 : decode b_Ru_hasProgramOf 5 = .ok (.getfield 19, 3) := by decide +kernel
theorem d_Ru_hasProgramOf_8 : decode b_Ru_hasProgramOf 8 = .ok (.if_icmp .eq 5, 3) := by decide +kernel
theorem d_Ru_hasProgramOf_11 : decode b_Ru_hasProgramOf 11 = .ok (.iconst 0, 1) := by decide +kernel
theorem d_Ru_hasProgramOf_12 : decode b_Ru_hasProgramOf 12 = .ok (.ireturn, 1) := by decide +kernel
theorem d_Ru_hasProgramOf_13 : decode b_Ru_hasProgramOf 13 = .ok (.iconst 0, 1) := by decide +kernel
theorem d_Ru_hasProgramOf_14 : decode b_Ru_hasProgramOf 14 = .ok (.istore_n 2, 1) := by decide +kernel
theorem d_Ru_hasProgramOf_15 : decode b_Ru_hasProgramOf 15 = .ok (.iload_n 2, 1) := by decide +kernel
theorem d_Ru_hasProgramOf_16 : decode b_Ru_hasProgramOf 16 = .ok (.aload_n 0, 1) := by decide +kernel
theorem d_Ru_hasProgramOf_17 : decode b_Ru_hasProgramOf 17 = .ok (.getfield 19, 3) := by decide +kernel
theorem d_Ru_hasProgramOf_20 : decode b_Ru_hasProgramOf 20 = .ok (.if_icmp .ge 48, 3) := by decide +kernel
theorem d_Ru_hasProgramOf_23 : decode b_Ru_hasProgramOf 23 = .ok (.iload_n 2, 1) := by decide +kernel
theorem d_Ru_hasProgramOf_24 : decode b_Ru_hasProgramOf 24 = .ok (.bipush 12, 2) := by decide +kernel
theorem d_Ru_hasProgramOf_26 : decode b_Ru_hasProgramOf 26 = .ok (.if_icmp .ge 42, 3) := by decide +kernel
theorem d_Ru_hasProgramOf_29 : decode b_Ru_hasProgramOf 29 = .ok (.aload_n 0, 1) := by decide +kernel
theorem d_Ru_hasProgramOf_30 : decode b_Ru_hasProgramOf 30 = .ok (.getfield 9, 3) := by decide +kernel
theorem d_Ru_hasProgramOf_33 : decode b_Ru_hasProgramOf 33 = .ok (.iload_n 2, 1) := by decide +kernel
theorem d_Ru_hasProgramOf_34 : decode b_Ru_hasProgramOf 34 = .ok (.iaload, 1) := by decide +kernel
theorem d_Ru_hasProgramOf_35 : decode b_Ru_hasProgramOf 35 = .ok (.aload_n 1, 1) := by decide +kernel
theorem d_Ru_hasProgramOf_36 : decode b_Ru_hasProgramOf 36 = .ok (.getfield 9, 3) := by decide +kernel
theorem d_Ru_hasProgramOf_39 : decode b_Ru_hasProgramOf 39 = .ok (.iload_n 2, 1) := by decide +kernel
theorem d_Ru_hasProgramOf_40 : decode b_Ru_hasProgramOf 40 = .ok (.iaload, 1) := by decide +kernel
theorem d_Ru_hasProgramOf_41 : decode b_Ru_hasProgramOf 41 = .ok (.if_icmp .ne 19, 3) := by decide +kernel
theorem d_Ru_hasProgramOf_44 : decode b_Ru_hasProgramOf 44 = .ok (.aload_n 0, 1) := by decide +kernel
theorem d_Ru_hasProgramOf_45 : decode b_Ru_hasProgramOf 45 = .ok (.getfield 15, 3) := by decide +kernel
theorem d_Ru_hasProgramOf_48 : decode b_Ru_hasProgramOf 48 = .ok (.iload_n 2, 1) := by decide +kernel
theorem d_Ru_hasProgramOf_49 : decode b_Ru_hasProgramOf 49 = .ok (.laload, 1) := by decide +kernel
theorem d_Ru_hasProgramOf_50 : decode b_Ru_hasProgramOf 50 = .ok (.aload_n 1, 1) := by decide +kernel
theorem d_Ru_hasProgramOf_51 : decode b_Ru_hasProgramOf 51 = .ok (.getfield 15, 3) := by decide +kernel
theorem d_Ru_hasProgramOf_54 : decode b_Ru_hasProgramOf 54 = .ok (.iload_n 2, 1) := by decide +kernel
theorem d_Ru_hasProgramOf_55 : decode b_Ru_hasProgramOf 55 = .ok (.laload, 1) := by decide +kernel
theorem d_Ru_hasProgramOf_56 : decode b_Ru_hasProgramOf 56 = .ok (.lcmp, 1) := by decide +kernel
theorem d_Ru_hasProgramOf_57 : decode b_Ru_hasProgramOf 57 = .ok (.ifCond .eq 5, 3) := by decide +kernel
theorem d_Ru_hasProgramOf_60 : decode b_Ru_hasProgramOf 60 = .ok (.iconst 0, 1) := by decide +kernel
theorem d_Ru_hasProgramOf_61 : decode b_Ru_hasProgramOf 61 = .ok (.ireturn, 1) := by decide +kernel
theorem d_Ru_hasProgramOf_62 : decode b_Ru_hasProgramOf 62 = .ok (.iinc 2 1, 3) := by decide +kernel
theorem d_Ru_hasProgramOf_65 : decode b_Ru_hasProgramOf 65 = .ok (.goto (-50), 3) := by decide +kernel
theorem d_Ru_hasProgramOf_68 : decode b_Ru_hasProgramOf 68 = .ok (.iconst 1, 1) := by decide +kernel
theorem d_Ru_hasProgramOf_69 : decode b_Ru_hasProgramOf 69 = .ok (.ireturn, 1) := by decide +kernel
theorem d_Rn_init_0 : decode b_Rn_init 0 = .ok (.aload_n 0, 1) := by decide +kernel
theorem d_Rn_init_1 : decode b_Rn_init 1 = .ok (.invokespecial 3, 3) := by decide +kernel
theorem d_Rn_init_4 : decode b_Rn_init 4 = .ok (.aload_n 0, 1) := by decide +kernel
theorem d_Rn_init_5 : decode b_Rn_init 5 = .ok (.bipush 8, 2) := by decide +kernel
theorem d_Rn_init_7 : decode b_Rn_init 7 = .ok (.newarray .long, 2) := by decide +kernel
theorem d_Rn_init_9 : decode b_Rn_init 9 = .ok (.putfield 9, 3) := by decide +kernel
theorem d_Rn_init_12 : decode b_Rn_init 12 = .ok (.aload_n 0, 1) := by decide +kernel
theorem d_Rn_init_13 : decode b_Rn_init 13 = .ok (.bipush 8, 2) := by decide +kernel
theorem d_Rn_init_15 : decode b_Rn_init 15 = .ok (.newarray .long, 2) := by decide +kernel
theorem d_Rn_init_17 : decode b_Rn_init 17 = .ok (.putfield 15, 3) := by decide +kernel
theorem d_Rn_init_20 : decode b_Rn_init 20 = .ok (.aload_n 0, 1) := by decide +kernel
theorem d_Rn_init_21 : decode b_Rn_init 21 = .ok (.bipush 16, 2) := by decide +kernel
theorem d_Rn_init_23 : decode b_Rn_init 23 = .ok (.newarray .int, 2) := by decide +kernel
theorem d_Rn_init_25 : decode b_Rn_init 25 = .ok (.putfield 18, 3) := by decide +kernel
theorem d_Rn_init_28 : decode b_Rn_init 28 = .ok (.aload_n 0, 1) := by decide +kernel
theorem d_Rn_init_29 : decode b_Rn_init 29 = .ok (.new 22, 3) := by decide +kernel
theorem d_Rn_init_32 : decode b_Rn_init 32 = .ok (.dup, 1) := by decide +kernel
theorem d_Rn_init_33 : decode b_Rn_init 33 = .ok (.invokespecial 24, 3) := by decide +kernel
theorem d_Rn_init_36 : decode b_Rn_init 36 = .ok (.putfield 25, 3) := by decide +kernel
theorem d_Rn_init_39 : decode b_Rn_init 39 = .ok (.aload_n 0, 1) := by decide +kernel
theorem d_Rn_init_40 : decode b_Rn_init 40 = .ok (.iconst 0, 1) := by decide +kernel
theorem d_Rn_init_41 : decode b_Rn_init 41 = .ok (.putfield 29, 3) := by decide +kernel
theorem d_Rn_init_44 : decode b_Rn_init 44 = .ok (.aload_n 0, 1) := by decide +kernel
theorem d_Rn_init_45 : decode b_Rn_init 45 = .ok (.iconst 0, 1) := by decide +kernel
theorem d_Rn_init_46 : decode b_Rn_init 46 = .ok (.putfield 33, 3) := by decide +kernel
theorem d_Rn_init_49 : decode b_Rn_init 49 = .ok (.aload_n 0, 1) := by decide +kernel
theorem d_Rn_init_50 : decode b_Rn_init 50 = .ok (.iconst 0, 1) := by decide +kernel
theorem d_Rn_init_51 : decode b_Rn_init 51 = .ok (.putfield 36, 3) := by decide +kernel
theorem d_Rn_init_54 : decode b_Rn_init 54 = .ok (.aload_n 0, 1) := by decide +kernel
theorem d_Rn_init_55 : decode b_Rn_init 55 = .ok (.iconst 0, 1) := by decide +kernel
theorem d_Rn_init_56 : decode b_Rn_init 56 = .ok (.putfield 39, 3) := by decide +kernel
theorem d_Rn_init_59 : decode b_Rn_init 59 = .ok (.aload_n 0, 1) := by decide +kernel
theorem d_Rn_init_60 : decode b_Rn_init 60 = .ok (.lconst 0, 1) := by decide +kernel
theorem d_Rn_init_61 : decode b_Rn_init 61 = .ok (.putfield 42, 3) := by decide +kernel
theorem d_Rn_init_64 : decode b_Rn_init 64 = .ok (.return_, 1) := by decide +kernel
theorem d_Rn_run_0 : decode b_Rn_run 0 = .ok (.aload_n 0, 1) := by decide +kernel
theorem d_Rn_run_1 : decode b_Rn_run 1 = .ok (.aload_n 1, 1) := by decide +kernel
theorem d_Rn_run_2 : decode b_Rn_run 2 = .ok (.invokevirtual 46, 3) := by decide +kernel
theorem d_Rn_run_5 : decode b_Rn_run 5 = .ok (.iconst 0, 1) := by decide +kernel
theorem d_Rn_run_6 : decode b_Rn_run 6 = .ok (.istore_n 3, 1) := by decide +kernel
theorem d_Rn_run_7 : decode b_Rn_run 7 = .ok (.iload_n 3, 1) := by decide +kernel
theorem d_Rn_run_8 : decode b_Rn_run 8 = .ok (.iload_n 2, 1) := by decide +kernel
theorem d_Rn_run_9 : decode b_Rn_run 9 = .ok (.if_icmp .ge 47, 3) := by decide +kernel
theorem d_Rn_run_12 : decode b_Rn_run 12 = .ok (.aload_n 0, 1) := by decide +kernel
theorem d_Rn_run_13 : decode b_Rn_run 13 = .ok (.getfield 39, 3) := by decide +kernel
theorem d_Rn_run_16 : decode b_Rn_run 16 = .ok (.ifCond .ne 40, 3) := by decide +kernel
theorem d_Rn_run_19 : decode b_Rn_run 19 = .ok (.aload_n 0, 1) := by decide +kernel
theorem d_Rn_run_20 : decode b_Rn_run 20 = .ok (.aload_n 1, 1) := by decide +kernel
theorem d_Rn_run_21 : decode b_Rn_run 21 = .ok (.invokevirtual 50, 3) := by decide +kernel
theorem d_Rn_run_24 : decode b_Rn_run 24 = .ok (.ifCond .eq 32, 3) := by decide +kernel
theorem d_Rn_run_27 : decode b_Rn_run 27 = .ok (.aload_n 0, 1) := by decide +kernel
theorem d_Rn_run_28 : decode b_Rn_run 28 = .ok (.aload_n 1, 1) := by decide +kernel
theorem d_Rn_run_29 : decode b_Rn_run 29 = .ok (.aload_n 1, 1) := by decide +kernel
theorem d_Rn_run_30 : decode b_Rn_run 30 = .ok (.getfield 54, 3) := by decide +kernel
theorem d_Rn_run_33 : decode b_Rn_run 33 = .ok (.aload_n 0, 1) := by decide +kernel
theorem d_Rn_run_34 : decode b_Rn_run 34 = .ok (.getfield 36, 3) := by decide +kernel
theorem d_Rn_run_37 : decode b_Rn_run 37 = .ok (.iaload, 1) := by decide +kernel
theorem d_Rn_run_38 : decode b_Rn_run 38 = .ok (.aload_n 1, 1) := by decide +kernel
theorem d_Rn_run_39 : decode b_Rn_run 39 = .ok (.getfield 59, 3) := by decide +kernel
theorem d_Rn_run_42 : decode b_Rn_run 42 = .ok (.aload_n 0, 1) := by decide +kernel
theorem d_Rn_run_43 : decode b_Rn_run 43 = .ok (.getfield 36, 3) := by decide +kernel
theorem d_Rn_run_46 : decode b_Rn_run 46 = .ok (.laload, 1) := by decide +kernel
theorem d_Rn_run_47 : decode b_Rn_run 47 = .ok (.invokevirtual 62, 3) := by decide +kernel
theorem d_Rn_run_50 : decode b_Rn_run 50 = .ok (.iinc 3 1, 3) := by decide +kernel
theorem d_Rn_run_53 : decode b_Rn_run 53 = .ok (.goto (-46), 3) := by decide +kernel
theorem d_Rn_run_56 : decode b_Rn_run 56 = .ok (.aload_n 0, 1) := by decide +kernel
theorem d_Rn_run_57 : decode b_Rn_run 57 = .ok (.getfield 39, 3) := by decide +kernel
theorem d_Rn_run_60 : decode b_Rn_run 60 = .ok (.ifCond .ne 16, 3) := by decide +kernel
theorem d_Rn_run_63 : decode b_Rn_run 63 = .ok (.aload_n 0, 1) := by decide +kernel
theorem d_Rn_run_64 : decode b_Rn_run 64 = .ok (.aload_n 1, 1) := by decide +kernel
theorem d_Rn_run_65 : decode b_Rn_run 65 = .ok (.invokevirtual 50, 3) := by decide +kernel
theorem d_Rn_run_68 : decode b_Rn_run 68 = .ok (.ifCond .eq 8, 3) := by decide +kernel
theorem d_Rn_run_71 : decode b_Rn_run 71 = .ok (.aload_n 0, 1) := by decide +kernel
theorem d_Rn_run_72 : decode b_Rn_run 72 = .ok (.iconst 1, 1) := by decide +kernel
theorem d_Rn_run_73 : decode b_Rn_run 73 = .ok (.putfield 39, 3) := by decide +kernel
theorem d_Rn_run_76 : decode b_Rn_run 76 = .ok (.iload_n 3, 1) := by decide +kernel
theorem d_Rn_run_77 : decode b_Rn_run 77 = .ok (.ireturn, 1) := by decide +kernel
theorem d_Rn_begin_0 : decode b_Rn_begin 0 = .ok (.aload_n 0, 1) := by decide +kernel
theorem d_Rn_begin_1 : decode b_Rn_begin 1 = .ok (.getfield 25, 3) := by decide +kernel
theorem d_Rn_begin_4 : decode b_Rn_begin 4 = .ok (.invokevirtual 66, 3) := by decide +kernel
theorem d_Rn_begin_7 : decode b_Rn_begin 7 = .ok (.aload_n 0, 1) := by decide +kernel
theorem d_Rn_begin_8 : decode b_Rn_begin 8 = .ok (.iconst 0, 1) := by decide +kernel
theorem d_Rn_begin_9 : decode b_Rn_begin 9 = .ok (.putfield 33, 3) := by decide +kernel
theorem d_Rn_begin_12 : decode b_Rn_begin 12 = .ok (.aload_n 0, 1) := by decide +kernel
theorem d_Rn_begin_13 : decode b_Rn_begin 13 = .ok (.iconst 0, 1) := by decide +kernel
theorem d_Rn_begin_14 : decode b_Rn_begin 14 = .ok (.putfield 36, 3) := by decide +kernel
theorem d_Rn_begin_17 : decode b_Rn_begin 17 = .ok (.aload_n 0, 1) := by decide +kernel
theorem d_Rn_begin_18 : decode b_Rn_begin 18 = .ok (.iconst 0, 1) := by decide +kernel
theorem d_Rn_begin_19 : decode b_Rn_begin 19 = .ok (.putfield 39, 3) := by decide +kernel
theorem d_Rn_begin_22 : decode b_Rn_begin 22 = .ok (.aload_n 0, 1) := by decide +kernel
theorem d_Rn_begin_23 : decode b_Rn_begin 23 = .ok (.aload_n 1, 1) := by decide +kernel
theorem d_Rn_begin_24 : decode b_Rn_begin 24 = .ok (.getfield 69, 3) := by decide +kernel
theorem d_Rn_begin_27 : decode b_Rn_begin 27 = .ok (.putfield 42, 3) := by decide +kernel
theorem d_Rn_begin_30 : decode b_Rn_begin 30 = .ok (.return_, 1) := by decide +kernel
theorem d_Rn_isInside_0 : decode b_Rn_isInside 0 = .ok (.aload_n 0, 1) := by decide +kernel
theorem d_Rn_isInside_1 : decode b_Rn_isInside 1 = .ok (.getfield 36, 3) := by decide +kernel
theorem d_Rn_isInside_4 : decode b_Rn_isInside 4 = .ok (.ifCond .lt 27, 3) := by decide +kernel
theorem d_Rn_isInside_7 : decode b_Rn_isInside 7 = .ok (.aload_n 0, 1) := by decide +kernel
theorem d_Rn_isInside_8 : decode b_Rn_isInside 8 = .ok (.getfield 36, 3) := by decide +kernel
theorem d_Rn_isInside_11 : decode b_Rn_isInside 11 = .ok (.aload_n 1, 1) := by decide +kernel
theorem d_Rn_isInside_12 : decode b_Rn_isInside 12 = .ok (.getfield 70, 3) := by decide +kernel
theorem d_Rn_isInside_15 : decode b_Rn_isInside 15 = .ok (.if_icmp .ge 16, 3) := by decide +kernel
theorem d_Rn_isInside_18 : decode b_Rn_isInside 18 = .ok (.aload_n 0, 1) := by decide +kernel
theorem d_Rn_isInside_19 : decode b_Rn_isInside 19 = .ok (.getfield 36, 3) := by decide +kernel
theorem d_Rn_isInside_22 : decode b_Rn_isInside 22 = .ok (.bipush 12, 2) := by decide +kernel
theorem d_Rn_isInside_24 : decode b_Rn_isInside 24 = .ok (.if_icmp .ge 7, 3) := by decide +kernel
theorem d_Rn_isInside_27 : decode b_Rn_isInside 27 = .ok (.iconst 1, 1) := by decide +kernel
theorem d_Rn_isInside_28 : decode b_Rn_isInside 28 = .ok (.goto 4, 3) := by decide +kernel
theorem d_Rn_isInside_31 : decode b_Rn_isInside 31 = .ok (.iconst 0, 1) := by decide +kernel
theorem d_Rn_isInside_32 : decode b_Rn_isInside 32 = .ok (.ireturn, 1) := by decide +kernel
theorem d_Rn_perform_0 : decode b_Rn_perform 0 = .ok (.aload_n 0, 1) := by decide +kernel
theorem d_Rn_perform_1 : decode b_Rn_perform 1 = .ok (.aload_n 0, 1) := by decide +kernel
theorem d_Rn_perform_2 : decode b_Rn_perform 2 = .ok (.iload_n 2, 1) := by decide +kernel
theorem d_Rn_perform_3 : decode b_Rn_perform 3 = .ok (.invokevirtual 73, 3) := by decide +kernel
theorem d_Rn_perform_6 : decode b_Rn_perform 6 = .ok (.putfield 39, 3) := by decide +kernel
theorem d_Rn_perform_9 : decode b_Rn_perform 9 = .ok (.aload_n 0, 1) := by decide +kernel
theorem d_Rn_perform_10 : decode b_Rn_perform 10 = .ok (.getfield 39, 3) := by decide +kernel
theorem d_Rn_perform_13 : decode b_Rn_perform 13 = .ok (.ifCond .eq 4, 3) := by decide +kernel
theorem d_Rn_perform_16 : decode b_Rn_perform 16 = .ok (.return_, 1) := by decide +kernel
theorem d_Rn_perform_17 : decode b_Rn_perform 17 = .ok (.aload_n 0, 1) := by decide +kernel
theorem d_Rn_perform_18 : decode b_Rn_perform 18 = .ok (.getfield 36, 3) := by decide +kernel
theorem d_Rn_perform_21 : decode b_Rn_perform 21 = .ok (.istore 5, 2) := by decide +kernel
theorem d_Rn_perform_23 : decode b_Rn_perform 23 = .ok (.aload_n 0, 1) := by decide +kernel
theorem d_Rn_perform_24 : decode b_Rn_perform 24 = .ok (.dup, 1) := by decide +kernel
theorem d_Rn_perform_25 : decode b_Rn_perform 25 = .ok (.getfield 36, 3) := by decide +kernel
theorem d_Rn_perform_28 : decode b_Rn_perform 28 = .ok (.iconst 1, 1) := by decide +kernel
theorem d_Rn_perform_29 : decode b_Rn_perform 29 = .ok (.iadd, 1) := by decide +kernel
theorem d_Rn_perform_30 : decode b_Rn_perform 30 = .ok (.putfield 36, 3) := by decide +kernel
theorem d_Rn_perform_33 : decode b_Rn_perform 33 = .ok (.iload_n 2, 1) := by decide +kernel
theorem d_Rn_perform_34 : decode b_Rn_perform 34 = .ok (.invokestatic 77, 3) := by decide +kernel
theorem d_Rn_perform_37 : decode b_Rn_perform 37 = .ok (.ifCond .eq 28, 3) := by decide +kernel
theorem d_Rn_perform_40 : decode b_Rn_perform 40 = .ok (.aload_n 0, 1) := by decide +kernel
theorem d_Rn_perform_41 : decode b_Rn_perform 41 = .ok (.invokevirtual 81, 3) := by decide +kernel
theorem d_Rn_perform_44 : decode b_Rn_perform 44 = .ok (.lstore 6, 2) := by decide +kernel
theorem d_Rn_perform_46 : decode b_Rn_perform 46 = .ok (.aload_n 0, 1) := by decide +kernel
theorem d_Rn_perform_47 : decode b_Rn_perform 47 = .ok (.invokevirtual 81, 3) := by decide +kernel
theorem d_Rn_perform_50 : decode b_Rn_perform 50 = .ok (.lstore 8, 2) := by decide +kernel
theorem d_Rn_perform_52 : decode b_Rn_perform 52 = .ok (.aload_n 0, 1) := by decide +kernel
theorem d_Rn_perform_53 : decode b_Rn_perform 53 = .ok (.iload_n 2, 1) := by decide +kernel
theorem d_Rn_perform_54 : decode b_Rn_perform 54 = .ok (.lload 8, 2) := by decide +kernel
theorem d_Rn_perform_56 : decode b_Rn_perform 56 = .ok (.lload 6, 2) := by decide +kernel
theorem d_Rn_perform_58 : decode b_Rn_perform 58 = .ok (.invokestatic 85, 3) := by decide +kernel
theorem d_Rn_perform_61 : decode b_Rn_perform 61 = .ok (.invokevirtual 89, 3) := by decide +kernel
theorem d_Rn_perform_64 : decode b_Rn_perform 64 = .ok (.return_, 1) := by decide +kernel
theorem d_Rn_perform_65 : decode b_Rn_perform 65 = .ok (.iload_n 2, 1) := by decide +kernel
theorem d_Rn_perform_66 : decode b_Rn_perform 66 = .ok (.tableswitch 227 0 15 #[78, 86, 227, 227, 227, 227, 227, 227, 98, 119, 153, 172, 188, 199, 212, 227], 78) := by decide +kernel
theorem d_Rn_perform_144 : decode b_Rn_perform 144 = .ok (.aload_n 0, 1) := by decide +kernel
theorem d_Rn_perform_145 : decode b_Rn_perform 145 = .ok (.lload_n 3, 1) := by decide +kernel
theorem d_Rn_perform_146 : decode b_Rn_perform 146 = .ok (.invokevirtual 89, 3) := by decide +kernel
theorem d_Rn_perform_149 : decode b_Rn_perform 149 = .ok (.goto 152, 3) := by decide +kernel
theorem d_Rn_perform_152 : decode b_Rn_perform 152 = .ok (.aload_n 0, 1) := by decide +kernel
theorem d_Rn_perform_153 : decode b_Rn_perform 153 = .ok (.aload_n 0, 1) := by decide +kernel
theorem d_Rn_perform_154 : decode b_Rn_perform 154 = .ok (.lload_n 3, 1) := by decide +kernel
theorem d_Rn_perform_155 : decode b_Rn_perform 155 = .ok (.invokevirtual 93, 3) := by decide +kernel
theorem d_Rn_perform_158 : decode b_Rn_perform 158 = .ok (.invokevirtual 89, 3) := by decide +kernel
theorem d_Rn_perform_161 : decode b_Rn_perform 161 = .ok (.goto 140, 3) := by decide +kernel
theorem d_Rn_perform_164 : decode b_Rn_perform 164 = .ok (.aload_n 0, 1) := by decide +kernel
theorem d_Rn_perform_165 : decode b_Rn_perform 165 = .ok (.aload_n 0, 1) := by decide +kernel
theorem d_Rn_perform_166 : decode b_Rn_perform 166 = .ok (.invokevirtual 81, 3) := by decide +kernel
theorem d_Rn_perform_169 : decode b_Rn_perform 169 = .ok (.lconst 0, 1) := by decide +kernel
theorem d_Rn_perform_170 : decode b_Rn_perform 170 = .ok (.lcmp, 1) := by decide +kernel
theorem d_Rn_perform_171 : decode b_Rn_perform 171 = .ok (.ifCond .ne 7, 3) := by decide +kernel
theorem d_Rn_perform_174 : decode b_Rn_perform 174 = .ok (.lconst 1, 1) := by decide +kernel
theorem d_Rn_perform_175 : decode b_Rn_perform 175 = .ok (.goto 4, 3) := by decide +kernel
theorem d_Rn_perform_178 : decode b_Rn_perform 178 = .ok (.lconst 0, 1) := by decide +kernel
theorem d_Rn_perform_179 : decode b_Rn_perform 179 = .ok (.invokevirtual 89, 3) := by decide +kernel
theorem d_Rn_perform_182 : decode b_Rn_perform 182 = .ok (.goto 119, 3) := by decide +kernel
theorem d_Rn_perform_185 : decode b_Rn_perform 185 = .ok (.aload_n 0, 1) := by decide +kernel
theorem d_Rn_perform_186 : decode b_Rn_perform 186 = .ok (.invokevirtual 81, 3) := by decide +kernel
theorem d_Rn_perform_189 : decode b_Rn_perform 189 = .ok (.lconst 0, 1) := by decide +kernel
theorem d_Rn_perform_190 : decode b_Rn_perform 190 = .ok (.lcmp, 1) := by decide +kernel
theorem d_Rn_perform_191 : decode b_Rn_perform 191 = .ok (.ifCond .ne 110, 3) := by decide +kernel
theorem d_Rn_perform_194 : decode b_Rn_perform 194 = .ok (.aload_n 0, 1) := by decide +kernel
theorem d_Rn_perform_195 : decode b_Rn_perform 195 = .ok (.lconst 0, 1) := by decide +kernel
theorem d_Rn_perform_196 : decode b_Rn_perform 196 = .ok (.aload_n 1, 1) := by decide +kernel
theorem d_Rn_perform_197 : decode b_Rn_perform 197 = .ok (.getfield 70, 3) := by decide +kernel
theorem d_Rn_perform_200 : decode b_Rn_perform 200 = .ok (.i2l, 1) := by decide +kernel
theorem d_Rn_perform_201 : decode b_Rn_perform 201 = .ok (.iload 5, 2) := by decide +kernel
theorem d_Rn_perform_203 : decode b_Rn_perform 203 = .ok (.i2l, 1) := by decide +kernel
theorem d_Rn_perform_204 : decode b_Rn_perform 204 = .ok (.lload_n 3, 1) := by decide +kernel
theorem d_Rn_perform_205 : decode b_Rn_perform 205 = .ok (.ladd, 1) := by decide +kernel
theorem d_Rn_perform_206 : decode b_Rn_perform 206 = .ok (.invokestatic 97, 3) := by decide +kernel
theorem d_Rn_perform_209 : decode b_Rn_perform 209 = .ok (.invokestatic 103, 3) := by decide +kernel
theorem d_Rn_perform_212 : decode b_Rn_perform 212 = .ok (.l2i, 1) := by decide +kernel
theorem d_Rn_perform_213 : decode b_Rn_perform 213 = .ok (.putfield 36, 3) := by decide +kernel
theorem d_Rn_perform_216 : decode b_Rn_perform 216 = .ok (.goto 85, 3) := by decide +kernel
theorem d_Rn_perform_219 : decode b_Rn_perform 219 = .ok (.aload_n 0, 1) := by decide +kernel
theorem d_Rn_perform_220 : decode b_Rn_perform 220 = .ok (.getfield 25, 3) := by decide +kernel
theorem d_Rn_perform_223 : decode b_Rn_perform 223 = .ok (.lload_n 3, 1) := by decide +kernel
theorem d_Rn_perform_224 : decode b_Rn_perform 224 = .ok (.aload_n 0, 1) := by decide +kernel
theorem d_Rn_perform_225 : decode b_Rn_perform 225 = .ok (.invokevirtual 81, 3) := by decide +kernel
theorem d_Rn_perform_228 : decode b_Rn_perform 228 = .ok (.aload_n 1, 1) := by decide +kernel
theorem d_Rn_perform_229 : decode b_Rn_perform 229 = .ok (.getfield 106, 3) := by decide +kernel
theorem d_Rn_perform_232 : decode b_Rn_perform 232 = .ok (.invokevirtual 109, 3) := by decide +kernel
theorem d_Rn_perform_235 : decode b_Rn_perform 235 = .ok (.goto 66, 3) := by decide +kernel
theorem d_Rn_perform_238 : decode b_Rn_perform 238 = .ok (.aload_n 0, 1) := by decide +kernel
theorem d_Rn_perform_239 : decode b_Rn_perform 239 = .ok (.dup, 1) := by decide +kernel
theorem d_Rn_perform_240 : decode b_Rn_perform 240 = .ok (.getfield 42, 3) := by decide +kernel
theorem d_Rn_perform_243 : decode b_Rn_perform 243 = .ok (.aload_n 0, 1) := by decide +kernel
theorem d_Rn_perform_244 : decode b_Rn_perform 244 = .ok (.invokevirtual 81, 3) := by decide +kernel
theorem d_Rn_perform_247 : decode b_Rn_perform 247 = .ok (.ladd, 1) := by decide +kernel
theorem d_Rn_perform_248 : decode b_Rn_perform 248 = .ok (.putfield 42, 3) := by decide +kernel
theorem d_Rn_perform_251 : decode b_Rn_perform 251 = .ok (.goto 50, 3) := by decide +kernel
theorem d_Rn_perform_254 : decode b_Rn_perform 254 = .ok (.aload_n 0, 1) := by decide +kernel
theorem d_Rn_perform_255 : decode b_Rn_perform 255 = .ok (.aload_n 0, 1) := by decide +kernel
theorem d_Rn_perform_256 : decode b_Rn_perform 256 = .ok (.getfield 42, 3) := by decide +kernel
theorem d_Rn_perform_259 : decode b_Rn_perform 259 = .ok (.invokevirtual 89, 3) := by decide +kernel
theorem d_Rn_perform_262 : decode b_Rn_perform 262 = .ok (.goto 39, 3) := by decide +kernel
theorem d_Rn_perform_265 : decode b_Rn_perform 265 = .ok (.aload_n 0, 1) := by decide +kernel
theorem d_Rn_perform_266 : decode b_Rn_perform 266 = .ok (.aload_n 0, 1) := by decide +kernel
theorem d_Rn_perform_267 : decode b_Rn_perform 267 = .ok (.lload_n 3, 1) := by decide +kernel
theorem d_Rn_perform_268 : decode b_Rn_perform 268 = .ok (.invokevirtual 113, 3) := by decide +kernel
theorem d_Rn_perform_271 : decode b_Rn_perform 271 = .ok (.i2l, 1) := by decide +kernel
theorem d_Rn_perform_272 : decode b_Rn_perform 272 = .ok (.invokevirtual 89, 3) := by decide +kernel
theorem d_Rn_perform_275 : decode b_Rn_perform 275 = .ok (.goto 26, 3) := by decide +kernel
theorem d_Rn_perform_278 : decode b_Rn_perform 278 = .ok (.aload_n 0, 1) := by decide +kernel
theorem d_Rn_perform_279 : decode b_Rn_perform 279 = .ok (.aload_n 0, 1) := by decide +kernel
theorem d_Rn_perform_280 : decode b_Rn_perform 280 = .ok (.aload_n 0, 1) := by decide +kernel
theorem d_Rn_perform_281 : decode b_Rn_perform 281 = .ok (.invokevirtual 81, 3) := by decide +kernel
theorem d_Rn_perform_284 : decode b_Rn_perform 284 = .ok (.invokevirtual 117, 3) := by decide +kernel
theorem d_Rn_perform_287 : decode b_Rn_perform 287 = .ok (.invokevirtual 89, 3) := by decide +kernel
theorem d_Rn_perform_290 : decode b_Rn_perform 290 = .ok (.goto 11, 3) := by decide +kernel
theorem d_Rn_perform_293 : decode b_Rn_perform 293 = .ok (.aload_n 0, 1) := by decide +kernel
theorem d_Rn_perform_294 : decode b_Rn_perform 294 = .ok (.aload_n 1, 1) := by decide +kernel
theorem d_Rn_perform_295 : decode b_Rn_perform 295 = .ok (.getfield 70, 3) := by decide +kernel
theorem d_Rn_perform_298 : decode b_Rn_perform 298 = .ok (.putfield 36, 3) := by decide +kernel
theorem d_Rn_perform_301 : decode b_Rn_perform 301 = .ok (.return_, 1) := by decide +kernel
theorem d_Rn_faultOf_0 : decode b_Rn_faultOf 0 = .ok (.aload_n 0, 1) := by decide +kernel
theorem d_Rn_faultOf_1 : decode b_Rn_faultOf 1 = .ok (.getfield 33, 3) := by decide +kernel
theorem d_Rn_faultOf_4 : decode b_Rn_faultOf 4 = .ok (.iload_n 1, 1) := by decide +kernel
theorem d_Rn_faultOf_5 : decode b_Rn_faultOf 5 = .ok (.invokestatic 120, 3) := by decide +kernel
theorem d_Rn_faultOf_8 : decode b_Rn_faultOf 8 = .ok (.isub, 1) := by decide +kernel
theorem d_Rn_faultOf_9 : decode b_Rn_faultOf 9 = .ok (.istore_n 2, 1) := by decide +kernel
theorem d_Rn_faultOf_10 : decode b_Rn_faultOf 10 = .ok (.iload_n 2, 1) := by decide +kernel
theorem d_Rn_faultOf_11 : decode b_Rn_faultOf 11 = .ok (.ifCond .lt 14, 3) := by decide +kernel
theorem d_Rn_faultOf_14 : decode b_Rn_faultOf 14 = .ok (.iload_n 2, 1) := by decide +kernel
theorem d_Rn_faultOf_15 : decode b_Rn_faultOf 15 = .ok (.iload_n 1, 1) := by decide +kernel
theorem d_Rn_faultOf_16 : decode b_Rn_faultOf 16 = .ok (.invokestatic 123, 3) := by decide +kernel
theorem d_Rn_faultOf_19 : decode b_Rn_faultOf 19 = .ok (.iadd, 1) := by decide +kernel
theorem d_Rn_faultOf_20 : decode b_Rn_faultOf 20 = .ok (.bipush 8, 2) := by decide +kernel
theorem d_Rn_faultOf_22 : decode b_Rn_faultOf 22 = .ok (.if_icmp .le 5, 3) := by decide +kernel
theorem d_Rn_faultOf_25 : decode b_Rn_faultOf 25 = .ok (.iconst 3, 1) := by decide +kernel
theorem d_Rn_faultOf_26 : decode b_Rn_faultOf 26 = .ok (.ireturn, 1) := by decide +kernel
theorem d_Rn_faultOf_27 : decode b_Rn_faultOf 27 = .ok (.iload_n 1, 1) := by decide +kernel
theorem d_Rn_faultOf_28 : decode b_Rn_faultOf 28 = .ok (.iconst 5, 1) := by decide +kernel
theorem d_Rn_faultOf_29 : decode b_Rn_faultOf 29 = .ok (.if_icmp .ne 14, 3) := by decide +kernel
theorem d_Rn_faultOf_32 : decode b_Rn_faultOf 32 = .ok (.aload_n 0, 1) := by decide +kernel
theorem d_Rn_faultOf_33 : decode b_Rn_faultOf 33 = .ok (.invokevirtual 126, 3) := by decide +kernel
theorem d_Rn_faultOf_36 : decode b_Rn_faultOf 36 = .ok (.lconst 0, 1) := by decide +kernel
theorem d_Rn_faultOf_37 : decode b_Rn_faultOf 37 = .ok (.lcmp, 1) := by decide +kernel
theorem d_Rn_faultOf_38 : decode b_Rn_faultOf 38 = .ok (.ifCond .ne 5, 3) := by decide +kernel
theorem d_Rn_faultOf_41 : decode b_Rn_faultOf 41 = .ok (.iconst 2, 1) := by decide +kernel
theorem d_Rn_faultOf_42 : decode b_Rn_faultOf 42 = .ok (.ireturn, 1) := by decide +kernel
theorem d_Rn_faultOf_43 : decode b_Rn_faultOf 43 = .ok (.iload_n 1, 1) := by decide +kernel
theorem d_Rn_faultOf_44 : decode b_Rn_faultOf 44 = .ok (.bipush 13, 2) := by decide +kernel
theorem d_Rn_faultOf_46 : decode b_Rn_faultOf 46 = .ok (.if_icmp .ne 16, 3) := by decide +kernel
theorem d_Rn_faultOf_49 : decode b_Rn_faultOf 49 = .ok (.aload_n 0, 1) := by decide +kernel
theorem d_Rn_faultOf_50 : decode b_Rn_faultOf 50 = .ok (.getfield 29, 3) := by decide +kernel
theorem d_Rn_faultOf_53 : decode b_Rn_faultOf 53 = .ok (.bipush 16, 2) := by decide +kernel
theorem d_Rn_faultOf_55 : decode b_Rn_faultOf 55 = .ok (.if_icmp .lt 7, 3) := by decide +kernel
theorem d_Rn_faultOf_58 : decode b_Rn_faultOf 58 = .ok (.iconst 1, 1) := by decide +kernel
theorem d_Rn_faultOf_59 : decode b_Rn_faultOf 59 = .ok (.goto 4, 3) := by decide +kernel
theorem d_Rn_faultOf_62 : decode b_Rn_faultOf 62 = .ok (.iconst 0, 1) := by decide +kernel
theorem d_Rn_faultOf_63 : decode b_Rn_faultOf 63 = .ok (.istore_n 3, 1) := by decide +kernel
theorem d_Rn_faultOf_64 : decode b_Rn_faultOf 64 = .ok (.iload_n 1, 1) := by decide +kernel
theorem d_Rn_faultOf_65 : decode b_Rn_faultOf 65 = .ok (.bipush 14, 2) := by decide +kernel
theorem d_Rn_faultOf_67 : decode b_Rn_faultOf 67 = .ok (.if_icmp .ne 25, 3) := by decide +kernel
theorem d_Rn_faultOf_70 : decode b_Rn_faultOf 70 = .ok (.aload_n 0, 1) := by decide +kernel
theorem d_Rn_faultOf_71 : decode b_Rn_faultOf 71 = .ok (.invokevirtual 126, 3) := by decide +kernel
theorem d_Rn_faultOf_74 : decode b_Rn_faultOf 74 = .ok (.lconst 0, 1) := by decide +kernel
theorem d_Rn_faultOf_75 : decode b_Rn_faultOf 75 = .ok (.aload_n 0, 1) := by decide +kernel
theorem d_Rn_faultOf_76 : decode b_Rn_faultOf 76 = .ok (.getfield 29, 3) := by decide +kernel
theorem d_Rn_faultOf_79 : decode b_Rn_faultOf 79 = .ok (.iconst 1, 1) := by decide +kernel
theorem d_Rn_faultOf_80 : decode b_Rn_faultOf 80 = .ok (.isub, 1) := by decide +kernel
theorem d_Rn_faultOf_81 : decode b_Rn_faultOf 81 = .ok (.i2l, 1) := by decide +kernel
theorem d_Rn_faultOf_82 : decode b_Rn_faultOf 82 = .ok (.invokestatic 129, 3) := by decide +kernel
theorem d_Rn_faultOf_85 : decode b_Rn_faultOf 85 = .ok (.ifCond .ne 7, 3) := by decide +kernel
theorem d_Rn_faultOf_88 : decode b_Rn_faultOf 88 = .ok (.iconst 1, 1) := by decide +kernel
theorem d_Rn_faultOf_89 : decode b_Rn_faultOf 89 = .ok (.goto 4, 3) := by decide +kernel
theorem d_Rn_faultOf_92 : decode b_Rn_faultOf 92 = .ok (.iconst 0, 1) := by decide +kernel
theorem d_Rn_faultOf_93 : decode b_Rn_faultOf 93 = .ok (.istore 4, 2) := by decide +kernel
theorem d_Rn_faultOf_95 : decode b_Rn_faultOf 95 = .ok (.iload_n 3, 1) := by decide +kernel
theorem d_Rn_faultOf_96 : decode b_Rn_faultOf 96 = .ok (.ifCond .ne 8, 3) := by decide +kernel
theorem d_Rn_faultOf_99 : decode b_Rn_faultOf 99 = .ok (.iload 4, 2) := by decide +kernel
theorem d_Rn_faultOf_101 : decode b_Rn_faultOf 101 = .ok (.ifCond .eq 7, 3) := by decide +kernel
theorem d_Rn_faultOf_104 : decode b_Rn_faultOf 104 = .ok (.iconst 4, 1) := by decide +kernel
theorem d_Rn_faultOf_105 : decode b_Rn_faultOf 105 = .ok (.goto 4, 3) := by decide +kernel
theorem d_Rn_faultOf_108 : decode b_Rn_faultOf 108 = .ok (.iconst 0, 1) := by decide +kernel
theorem d_Rn_faultOf_109 : decode b_Rn_faultOf 109 = .ok (.ireturn, 1) := by decide +kernel
theorem d_Rn_push_0 : decode b_Rn_push 0 = .ok (.aload_n 0, 1) := by decide +kernel
theorem d_Rn_push_1 : decode b_Rn_push 1 = .ok (.getfield 33, 3) := by decide +kernel
theorem d_Rn_push_4 : decode b_Rn_push 4 = .ok (.ifCond .lt 32, 3) := by decide +kernel
theorem d_Rn_push_7 : decode b_Rn_push 7 = .ok (.aload_n 0, 1) := by decide +kernel
theorem d_Rn_push_8 : decode b_Rn_push 8 = .ok (.getfield 33, 3) := by decide +kernel
theorem d_Rn_push_11 : decode b_Rn_push 11 = .ok (.bipush 8, 2) := by decide +kernel
theorem d_Rn_push_13 : decode b_Rn_push 13 = .ok (.if_icmp .ge 23, 3) := by decide +kernel
theorem d_Rn_push_16 : decode b_Rn_push 16 = .ok (.aload_n 0, 1) := by decide +kernel
theorem d_Rn_push_17 : decode b_Rn_push 17 = .ok (.getfield 15, 3) := by decide +kernel
theorem d_Rn_push_20 : decode b_Rn_push 20 = .ok (.aload_n 0, 1) := by decide +kernel
theorem d_Rn_push_21 : decode b_Rn_push 21 = .ok (.getfield 33, 3) := by decide +kernel
theorem d_Rn_push_24 : decode b_Rn_push 24 = .ok (.lload_n 1, 1) := by decide +kernel
theorem d_Rn_push_25 : decode b_Rn_push 25 = .ok (.lastore, 1) := by decide +kernel
theorem d_Rn_push_26 : decode b_Rn_push 26 = .ok (.aload_n 0, 1) := by decide +kernel
theorem d_Rn_push_27 : decode b_Rn_push 27 = .ok (.dup, 1) := by decide +kernel
theorem d_Rn_push_28 : decode b_Rn_push 28 = .ok (.getfield 33, 3) := by decide +kernel
theorem d_Rn_push_31 : decode b_Rn_push 31 = .ok (.iconst 1, 1) := by decide +kernel
theorem d_Rn_push_32 : decode b_Rn_push 32 = .ok (.iadd, 1) := by decide +kernel
theorem d_Rn_push_33 : decode b_Rn_push 33 = .ok (.putfield 33, 3) := by decide +kernel
theorem d_Rn_push_36 : decode b_Rn_push 36 = .ok (.return_, 1) := by decide +kernel
theorem d_Rn_pop_0 : decode b_Rn_pop 0 = .ok (.aload_n 0, 1) := by decide +kernel
theorem d_Rn_pop_1 : decode b_Rn_pop 1 = .ok (.invokevirtual 126, 3) := by decide +kernel
theorem d_Rn_pop_4 : decode b_Rn_pop 4 = .ok (.lstore_n 1, 1) := by decide +kernel
theorem d_Rn_pop_5 : decode b_Rn_pop 5 = .ok (.aload_n 0, 1) := by decide +kernel
theorem d_Rn_pop_6 : decode b_Rn_pop 6 = .ok (.getfield 33, 3) := by decide +kernel
theorem d_Rn_pop_9 : decode b_Rn_pop 9 = .ok (.ifCond .le 13, 3) := by decide +kernel
theorem d_Rn_pop_12 : decode b_Rn_pop 12 = .ok (.aload_n 0, 1) := by decide +kernel
theorem d_Rn_pop_13 : decode b_Rn_pop 13 = .ok (.dup, 1) := by decide +kernel
theorem d_Rn_pop_14 : decode b_Rn_pop 14 = .ok (.getfield 33, 3) := by decide +kernel
theorem d_Rn_pop_17 : decode b_Rn_pop 17 = .ok (.iconst 1, 1) := by decide +kernel
theorem d_Rn_pop_18 : decode b_Rn_pop 18 = .ok (.isub, 1) := by decide +kernel
theorem d_Rn_pop_19 : decode b_Rn_pop 19 = .ok (.putfield 33, 3) := by decide +kernel
theorem d_Rn_pop_22 : decode b_Rn_pop 22 = .ok (.lload_n 1, 1) := by decide +kernel
theorem d_Rn_pop_23 : decode b_Rn_pop 23 = .ok (.lreturn, 1) := by decide +kernel
theorem d_Rn_top_0 : decode b_Rn_top 0 = .ok (.aload_n 0, 1) := by decide +kernel
theorem d_Rn_top_1 : decode b_Rn_top 1 = .ok (.getfield 33, 3) := by decide +kernel
theorem d_Rn_top_4 : decode b_Rn_top 4 = .ok (.ifCond .le 26, 3) := by decide +kernel
theorem d_Rn_top_7 : decode b_Rn_top 7 = .ok (.aload_n 0, 1) := by decide +kernel
theorem d_Rn_top_8 : decode b_Rn_top 8 = .ok (.getfield 33, 3) := by decide +kernel
theorem d_Rn_top_11 : decode b_Rn_top 11 = .ok (.bipush 8, 2) := by decide +kernel
theorem d_Rn_top_13 : decode b_Rn_top 13 = .ok (.if_icmp .gt 17, 3) := by decide +kernel
theorem d_Rn_top_16 : decode b_Rn_top 16 = .ok (.aload_n 0, 1) := by decide +kernel
theorem d_Rn_top_17 : decode b_Rn_top 17 = .ok (.getfield 15, 3) := by decide +kernel
theorem d_Rn_top_20 : decode b_Rn_top 20 = .ok (.aload_n 0, 1) := by decide +kernel
theorem d_Rn_top_21 : decode b_Rn_top 21 = .ok (.getfield 33, 3) := by decide +kernel
theorem d_Rn_top_24 : decode b_Rn_top 24 = .ok (.iconst 1, 1) := by decide +kernel
theorem d_Rn_top_25 : decode b_Rn_top 25 = .ok (.isub, 1) := by decide +kernel
theorem d_Rn_top_26 : decode b_Rn_top 26 = .ok (.laload, 1) := by decide +kernel
theorem d_Rn_top_27 : decode b_Rn_top 27 = .ok (.goto 4, 3) := by decide +kernel
theorem d_Rn_top_30 : decode b_Rn_top 30 = .ok (.lconst 0, 1) := by decide +kernel
theorem d_Rn_top_31 : decode b_Rn_top 31 = .ok (.lreturn, 1) := by decide +kernel
theorem d_Rn_setFact_0 : decode b_Rn_setFact 0 = .ok (.iload_n 1, 1) := by decide +kernel
theorem d_Rn_setFact_1 : decode b_Rn_setFact 1 = .ok (.ifCond .lt 16, 3) := by decide +kernel
theorem d_Rn_setFact_4 : decode b_Rn_setFact 4 = .ok (.iload_n 1, 1) := by decide +kernel
theorem d_Rn_setFact_5 : decode b_Rn_setFact 5 = .ok (.bipush 8, 2) := by decide +kernel
theorem d_Rn_setFact_7 : decode b_Rn_setFact 7 = .ok (.if_icmp .ge 10, 3) := by decide +kernel
theorem d_Rn_setFact_10 : decode b_Rn_setFact 10 = .ok (.aload_n 0, 1) := by decide +kernel
theorem d_Rn_setFact_11 : decode b_Rn_setFact 11 = .ok (.getfield 9, 3) := by decide +kernel
theorem d_Rn_setFact_14 : decode b_Rn_setFact 14 = .ok (.iload_n 1, 1) := by decide +kernel
theorem d_Rn_setFact_15 : decode b_Rn_setFact 15 = .ok (.lload_n 2, 1) := by decide +kernel
theorem d_Rn_setFact_16 : decode b_Rn_setFact 16 = .ok (.lastore, 1) := by decide +kernel
theorem d_Rn_setFact_17 : decode b_Rn_setFact 17 = .ok (.return_, 1) := by decide +kernel
theorem d_Rn_factOf_0 : decode b_Rn_factOf 0 = .ok (.lload_n 1, 1) := by decide +kernel
theorem d_Rn_factOf_1 : decode b_Rn_factOf 1 = .ok (.lconst 0, 1) := by decide +kernel
theorem d_Rn_factOf_2 : decode b_Rn_factOf 2 = .ok (.ldc2_w 133, 3) := by decide +kernel
theorem d_Rn_factOf_5 : decode b_Rn_factOf 5 = .ok (.invokestatic 129, 3) := by decide +kernel
theorem d_Rn_factOf_8 : decode b_Rn_factOf 8 = .ok (.ifCond .eq 13, 3) := by decide +kernel
theorem d_Rn_factOf_11 : decode b_Rn_factOf 11 = .ok (.aload_n 0, 1) := by decide +kernel
theorem d_Rn_factOf_12 : decode b_Rn_factOf 12 = .ok (.getfield 9, 3) := by decide +kernel
theorem d_Rn_factOf_15 : decode b_Rn_factOf 15 = .ok (.lload_n 1, 1) := by decide +kernel
theorem d_Rn_factOf_16 : decode b_Rn_factOf 16 = .ok (.l2i, 1) := by decide +kernel
theorem d_Rn_factOf_17 : decode b_Rn_factOf 17 = .ok (.laload, 1) := by decide +kernel
theorem d_Rn_factOf_18 : decode b_Rn_factOf 18 = .ok (.goto 4, 3) := by decide +kernel
theorem d_Rn_factOf_21 : decode b_Rn_factOf 21 = .ok (.lconst 0, 1) := by decide +kernel
theorem d_Rn_factOf_22 : decode b_Rn_factOf 22 = .ok (.lreturn, 1) := by decide +kernel
theorem d_Rn_keep_0 : decode b_Rn_keep 0 = .ok (.aload_n 0, 1) := by decide +kernel
theorem d_Rn_keep_1 : decode b_Rn_keep 1 = .ok (.getfield 29, 3) := by decide +kernel
theorem d_Rn_keep_4 : decode b_Rn_keep 4 = .ok (.istore_n 3, 1) := by decide +kernel
theorem d_Rn_keep_5 : decode b_Rn_keep 5 = .ok (.iload_n 3, 1) := by decide +kernel
theorem d_Rn_keep_6 : decode b_Rn_keep 6 = .ok (.ifCond .lt 27, 3) := by decide +kernel
theorem d_Rn_keep_9 : decode b_Rn_keep 9 = .ok (.iload_n 3, 1) := by decide +kernel
theorem d_Rn_keep_10 : decode b_Rn_keep 10 = .ok (.bipush 16, 2) := by decide +kernel
theorem d_Rn_keep_12 : decode b_Rn_keep 12 = .ok (.if_icmp .ge 21, 3) := by decide +kernel
theorem d_Rn_keep_15 : decode b_Rn_keep 15 = .ok (.aload_n 0, 1) := by decide +kernel
theorem d_Rn_keep_16 : decode b_Rn_keep 16 = .ok (.getfield 18, 3) := by decide +kernel
theorem d_Rn_keep_19 : decode b_Rn_keep 19 = .ok (.iload_n 3, 1) := by decide +kernel
theorem d_Rn_keep_20 : decode b_Rn_keep 20 = .ok (.lload_n 1, 1) := by decide +kernel
theorem d_Rn_keep_21 : decode b_Rn_keep 21 = .ok (.l2i, 1) := by decide +kernel
theorem d_Rn_keep_22 : decode b_Rn_keep 22 = .ok (.iastore, 1) := by decide +kernel
theorem d_Rn_keep_23 : decode b_Rn_keep 23 = .ok (.aload_n 0, 1) := by decide +kernel
theorem d_Rn_keep_24 : decode b_Rn_keep 24 = .ok (.dup, 1) := by decide +kernel
theorem d_Rn_keep_25 : decode b_Rn_keep 25 = .ok (.getfield 29, 3) := by decide +kernel
theorem d_Rn_keep_28 : decode b_Rn_keep 28 = .ok (.iconst 1, 1) := by decide +kernel
theorem d_Rn_keep_29 : decode b_Rn_keep 29 = .ok (.iadd, 1) := by decide +kernel
theorem d_Rn_keep_30 : decode b_Rn_keep 30 = .ok (.putfield 29, 3) := by decide +kernel
theorem d_Rn_keep_33 : decode b_Rn_keep 33 = .ok (.iload_n 3, 1) := by decide +kernel
theorem d_Rn_keep_34 : decode b_Rn_keep 34 = .ok (.ireturn, 1) := by decide +kernel
theorem d_Rn_factBehind_0 : decode b_Rn_factBehind 0 = .ok (.lload_n 1, 1) := by decide +kernel
theorem d_Rn_factBehind_1 : decode b_Rn_factBehind 1 = .ok (.lconst 0, 1) := by decide +kernel
theorem d_Rn_factBehind_2 : decode b_Rn_factBehind 2 = .ok (.aload_n 0, 1) := by decide +kernel
theorem d_Rn_factBehind_3 : decode b_Rn_factBehind 3 = .ok (.getfield 29, 3) := by decide +kernel
theorem d_Rn_factBehind_6 : decode b_Rn_factBehind 6 = .ok (.iconst 1, 1) := by decide +kernel
theorem d_Rn_factBehind_7 : decode b_Rn_factBehind 7 = .ok (.isub, 1) := by decide +kernel
theorem d_Rn_factBehind_8 : decode b_Rn_factBehind 8 = .ok (.i2l, 1) := by decide +kernel
theorem d_Rn_factBehind_9 : decode b_Rn_factBehind 9 = .ok (.invokestatic 129, 3) := by decide +kernel
theorem d_Rn_factBehind_12 : decode b_Rn_factBehind 12 = .ok (.ifCond .eq 15, 3) := by decide +kernel
theorem d_Rn_factBehind_15 : decode b_Rn_factBehind 15 = .ok (.lload_n 1, 1) := by decide +kernel
theorem d_Rn_factBehind_16 : decode b_Rn_factBehind 16 = .ok (.ldc2_w 135, 3) := by decide +kernel
theorem d_Rn_factBehind_19 : decode b_Rn_factBehind 19 = .ok (.lcmp, 1) := by decide +kernel
theorem d_Rn_factBehind_20 : decode b_Rn_factBehind 20 = .ok (.ifCond .ge 7, 3) := by decide +kernel
theorem d_Rn_factBehind_23 : decode b_Rn_factBehind 23 = .ok (.iconst 1, 1) := by decide +kernel
theorem d_Rn_factBehind_24 : decode b_Rn_factBehind 24 = .ok (.goto 4, 3) := by decide +kernel
theorem d_Rn_factBehind_27 : decode b_Rn_factBehind 27 = .ok (.iconst 0, 1) := by decide +kernel
theorem d_Rn_factBehind_28 : decode b_Rn_factBehind 28 = .ok (.istore_n 3, 1) := by decide +kernel
theorem d_Rn_factBehind_29 : decode b_Rn_factBehind 29 = .ok (.iload_n 3, 1) := by decide +kernel
theorem d_Rn_factBehind_30 : decode b_Rn_factBehind 30 = .ok (.ifCond .eq 18, 3) := by decide +kernel
theorem d_Rn_factBehind_33 : decode b_Rn_factBehind 33 = .ok (.aload_n 0, 1) := by decide +kernel
theorem d_Rn_factBehind_34 : decode b_Rn_factBehind 34 = .ok (.aload_n 0, 1) := by decide +kernel
theorem d_Rn_factBehind_35 : decode b_Rn_factBehind 35 = .ok (.getfield 18, 3) := by decide +kernel
theorem d_Rn_factBehind_38 : decode b_Rn_factBehind 38 = .ok (.lload_n 1, 1) := by decide +kernel
theorem d_Rn_factBehind_39 : decode b_Rn_factBehind 39 = .ok (.l2i, 1) := by decide +kernel
theorem d_Rn_factBehind_40 : decode b_Rn_factBehind 40 = .ok (.iaload, 1) := by decide +kernel
theorem d_Rn_factBehind_41 : decode b_Rn_factBehind 41 = .ok (.i2l, 1) := by decide +kernel
theorem d_Rn_factBehind_42 : decode b_Rn_factBehind 42 = .ok (.invokevirtual 93, 3) := by decide +kernel
theorem d_Rn_factBehind_45 : decode b_Rn_factBehind 45 = .ok (.goto 4, 3) := by decide +kernel
theorem d_Rn_factBehind_48 : decode b_Rn_factBehind 48 = .ok (.lconst 0, 1) := by decide +kernel
theorem d_Rn_factBehind_49 : decode b_Rn_factBehind 49 = .ok (.lreturn, 1) := by decide +kernel
theorem d_Hr_init_0 : decode b_Hr_init 0 = .ok (.aload_n 0, 1) := by decide +kernel
theorem d_Hr_init_1 : decode b_Hr_init 1 = .ok (.invokespecial 1, 3) := by decide +kernel
theorem d_Hr_init_4 : decode b_Hr_init 4 = .ok (.aload_n 0, 1) := by decide +kernel
theorem d_Hr_init_5 : decode b_Hr_init 5 = .ok (.bipush 6, 2) := by decide +kernel
theorem d_Hr_init_7 : decode b_Hr_init 7 = .ok (.anewarray 9, 3) := by decide +kernel
theorem d_Hr_init_10 : decode b_Hr_init 10 = .ok (.putfield 11, 3) := by decide +kernel
theorem d_Hr_init_13 : decode b_Hr_init 13 = .ok (.aload_n 0, 1) := by decide +kernel
theorem d_Hr_init_14 : decode b_Hr_init 14 = .ok (.bipush 40, 2) := by decide +kernel
theorem d_Hr_init_16 : decode b_Hr_init 16 = .ok (.anewarray 15, 3) := by decide +kernel
theorem d_Hr_init_19 : decode b_Hr_init 19 = .ok (.putfield 17, 3) := by decide +kernel
theorem d_Hr_init_22 : decode b_Hr_init 22 = .ok (.aload_n 0, 1) := by decide +kernel
theorem d_Hr_init_23 : decode b_Hr_init 23 = .ok (.iconst 0, 1) := by decide +kernel
theorem d_Hr_init_24 : decode b_Hr_init 24 = .ok (.putfield 21, 3) := by decide +kernel
theorem d_Hr_init_27 : decode b_Hr_init 27 = .ok (.aload_n 0, 1) := by decide +kernel
theorem d_Hr_init_28 : decode b_Hr_init 28 = .ok (.iconst 0, 1) := by decide +kernel
theorem d_Hr_init_29 : decode b_Hr_init 29 = .ok (.putfield 25, 3) := by decide +kernel
theorem d_Hr_init_32 : decode b_Hr_init 32 = .ok (.aload_n 0, 1) := by decide +kernel
theorem d_Hr_init_33 : decode b_Hr_init 33 = .ok (.new 28, 3) := by decide +kernel
theorem d_Hr_init_36 : decode b_Hr_init 36 = .ok (.dup, 1) := by decide +kernel
theorem d_Hr_init_37 : decode b_Hr_init 37 = .ok (.invokespecial 30, 3) := by decide +kernel
theorem d_Hr_init_40 : decode b_Hr_init 40 = .ok (.putfield 31, 3) := by decide +kernel
theorem d_Hr_init_43 : decode b_Hr_init 43 = .ok (.aload_n 0, 1) := by decide +kernel
theorem d_Hr_init_44 : decode b_Hr_init 44 = .ok (.new 35, 3) := by decide +kernel
theorem d_Hr_init_47 : decode b_Hr_init 47 = .ok (.dup, 1) := by decide +kernel
theorem d_Hr_init_48 : decode b_Hr_init 48 = .ok (.invokespecial 37, 3) := by decide +kernel
theorem d_Hr_init_51 : decode b_Hr_init 51 = .ok (.putfield 38, 3) := by decide +kernel
theorem d_Hr_init_54 : decode b_Hr_init 54 = .ok (.aload_n 0, 1) := by decide +kernel
theorem d_Hr_init_55 : decode b_Hr_init 55 = .ok (.new 42, 3) := by decide +kernel
theorem d_Hr_init_58 : decode b_Hr_init 58 = .ok (.dup, 1) := by decide +kernel
theorem d_Hr_init_59 : decode b_Hr_init 59 = .ok (.invokespecial 44, 3) := by decide +kernel
theorem d_Hr_init_62 : decode b_Hr_init 62 = .ok (.putfield 45, 3) := by decide +kernel
theorem d_Hr_init_65 : decode b_Hr_init 65 = .ok (.aload_n 0, 1) := by decide +kernel
theorem d_Hr_init_66 : decode b_Hr_init 66 = .ok (.iconst 1, 1) := by decide +kernel
theorem d_Hr_init_67 : decode b_Hr_init 67 = .ok (.bipush 100, 2) := by decide +kernel
theorem d_Hr_init_69 : decode b_Hr_init 69 = .ok (.iload_n 1, 1) := by decide +kernel
theorem d_Hr_init_70 : decode b_Hr_init 70 = .ok (.invokestatic 49, 3) := by decide +kernel
theorem d_Hr_init_73 : decode b_Hr_init 73 = .ok (.invokestatic 55, 3) := by decide +kernel
theorem d_Hr_init_76 : decode b_Hr_init 76 = .ok (.putfield 58, 3) := by decide +kernel
theorem d_Hr_init_79 : decode b_Hr_init 79 = .ok (.iconst 0, 1) := by decide +kernel
theorem d_Hr_init_80 : decode b_Hr_init 80 = .ok (.istore_n 2, 1) := by decide +kernel
theorem d_Hr_init_81 : decode b_Hr_init 81 = .ok (.iload_n 2, 1) := by decide +kernel
theorem d_Hr_init_82 : decode b_Hr_init 82 = .ok (.bipush 6, 2) := by decide +kernel
theorem d_Hr_init_84 : decode b_Hr_init 84 = .ok (.if_icmp .ge 22, 3) := by decide +kernel
theorem d_Hr_init_87 : decode b_Hr_init 87 = .ok (.aload_n 0, 1) := by decide +kernel
theorem d_Hr_init_88 : decode b_Hr_init 88 = .ok (.getfield 11, 3) := by decide +kernel
theorem d_Hr_init_91 : decode b_Hr_init 91 = .ok (.iload_n 2, 1) := by decide +kernel
theorem d_Hr_init_92 : decode b_Hr_init 92 = .ok (.new 9, 3) := by decide +kernel
theorem d_Hr_init_95 : decode b_Hr_init 95 = .ok (.dup, 1) := by decide +kernel
theorem d_Hr_init_96 : decode b_Hr_init 96 = .ok (.invokespecial 61, 3) := by decide +kernel
theorem d_Hr_init_99 : decode b_Hr_init 99 = .ok (.aastore, 1) := by decide +kernel
theorem d_Hr_init_100 : decode b_Hr_init 100 = .ok (.iinc 2 1, 3) := by decide +kernel
theorem d_Hr_init_103 : decode b_Hr_init 103 = .ok (.goto (-22), 3) := by decide +kernel
theorem d_Hr_init_106 : decode b_Hr_init 106 = .ok (.return_, 1) := by decide +kernel
theorem d_Hr_rule_0 : decode b_Hr_rule 0 = .ok (.aload_n 0, 1) := by decide +kernel
theorem d_Hr_rule_1 : decode b_Hr_rule 1 = .ok (.iload_n 1, 1) := by decide +kernel
theorem d_Hr_rule_2 : decode b_Hr_rule 2 = .ok (.invokevirtual 62, 3) := by decide +kernel
theorem d_Hr_rule_5 : decode b_Hr_rule 5 = .ok (.astore 4, 2) := by decide +kernel
theorem d_Hr_rule_7 : decode b_Hr_rule 7 = .ok (.aload 4, 2) := by decide +kernel
theorem d_Hr_rule_9 : decode b_Hr_rule 9 = .ok (.ifnull 27, 3) := by decide +kernel
theorem d_Hr_rule_12 : decode b_Hr_rule 12 = .ok (.iload_n 2, 1) := by decide +kernel
theorem d_Hr_rule_13 : decode b_Hr_rule 13 = .ok (.i2l, 1) := by decide +kernel
theorem d_Hr_rule_14 : decode b_Hr_rule 14 = .ok (.lconst 0, 1) := by decide +kernel
theorem d_Hr_rule_15 : decode b_Hr_rule 15 = .ok (.ldc2_w 66, 3) := by decide +kernel
theorem d_Hr_rule_18 : decode b_Hr_rule 18 = .ok (.invokestatic 68, 3) := by decide +kernel
theorem d_Hr_rule_21 : decode b_Hr_rule 21 = .ok (.ifCond .eq 15, 3) := by decide +kernel
theorem d_Hr_rule_24 : decode b_Hr_rule 24 = .ok (.iload_n 3, 1) := by decide +kernel
theorem d_Hr_rule_25 : decode b_Hr_rule 25 = .ok (.i2l, 1) := by decide +kernel
theorem d_Hr_rule_26 : decode b_Hr_rule 26 = .ok (.lconst 0, 1) := by decide +kernel
theorem d_Hr_rule_27 : decode b_Hr_rule 27 = .ok (.ldc2_w 72, 3) := by decide +kernel
theorem d_Hr_rule_30 : decode b_Hr_rule 30 = .ok (.invokestatic 68, 3) := by decide +kernel
theorem d_Hr_rule_33 : decode b_Hr_rule 33 = .ok (.ifCond .ne 6, 3) := by decide +kernel
theorem d_Hr_rule_36 : decode b_Hr_rule 36 = .ok (.bipush (-102), 2) := by decide +kernel
theorem d_Hr_rule_38 : decode b_Hr_rule 38 = .ok (.ireturn, 1) := by decide +kernel
theorem d_Hr_rule_39 : decode b_Hr_rule 39 = .ok (.aload 4, 2) := by decide +kernel
theorem d_Hr_rule_41 : decode b_Hr_rule 41 = .ok (.getfield 74, 3) := by decide +kernel
theorem d_Hr_rule_44 : decode b_Hr_rule 44 = .ok (.iconst 2, 1) := by decide +kernel
theorem d_Hr_rule_45 : decode b_Hr_rule 45 = .ok (.if_icmp .eq 12, 3) := by decide +kernel
theorem d_Hr_rule_48 : decode b_Hr_rule 48 = .ok (.aload 4, 2) := by decide +kernel
theorem d_Hr_rule_50 : decode b_Hr_rule 50 = .ok (.getfield 74, 3) := by decide +kernel
theorem d_Hr_rule_53 : decode b_Hr_rule 53 = .ok (.iconst 3, 1) := by decide +kernel
theorem d_Hr_rule_54 : decode b_Hr_rule 54 = .ok (.if_icmp .ne 6, 3) := by decide +kernel
theorem d_Hr_rule_57 : decode b_Hr_rule 57 = .ok (.bipush (-103), 2) := by decide +kernel
theorem d_Hr_rule_59 : decode b_Hr_rule 59 = .ok (.ireturn, 1) := by decide +kernel
theorem d_Hr_rule_60 : decode b_Hr_rule 60 = .ok (.aload_n 0, 1) := by decide +kernel
theorem d_Hr_rule_61 : decode b_Hr_rule 61 = .ok (.getfield 21, 3) := by decide +kernel
theorem d_Hr_rule_64 : decode b_Hr_rule 64 = .ok (.bipush 40, 2) := by decide +kernel
theorem d_Hr_rule_66 : decode b_Hr_rule 66 = .ok (.if_icmp .ge 13, 3) := by decide +kernel
theorem d_Hr_rule_69 : decode b_Hr_rule 69 = .ok (.aload 4, 2) := by decide +kernel
theorem d_Hr_rule_71 : decode b_Hr_rule 71 = .ok (.getfield 77, 3) := by decide +kernel
theorem d_Hr_rule_74 : decode b_Hr_rule 74 = .ok (.bipush 8, 2) := by decide +kernel
theorem d_Hr_rule_76 : decode b_Hr_rule 76 = .ok (.if_icmp .lt 6, 3) := by decide +kernel
theorem d_Hr_rule_79 : decode b_Hr_rule 79 = .ok (.bipush (-104), 2) := by decide +kernel
theorem d_Hr_rule_81 : decode b_Hr_rule 81 = .ok (.ireturn, 1) := by decide +kernel
theorem d_Hr_rule_82 : decode b_Hr_rule 82 = .ok (.new 15, 3) := by decide +kernel
theorem d_Hr_rule_85 : decode b_Hr_rule 85 = .ok (.dup, 1) := by decide +kernel
theorem d_Hr_rule_86 : decode b_Hr_rule 86 = .ok (.aload_n 0, 1) := by decide +kernel
theorem d_Hr_rule_87 : decode b_Hr_rule 87 = .ok (.getfield 21, 3) := by decide +kernel
theorem d_Hr_rule_90 : decode b_Hr_rule 90 = .ok (.aload 4, 2) := by decide +kernel
theorem d_Hr_rule_92 : decode b_Hr_rule 92 = .ok (.iload_n 2, 1) := by decide +kernel
theorem d_Hr_rule_93 : decode b_Hr_rule 93 = .ok (.iload_n 3, 1) := by decide +kernel
theorem d_Hr_rule_94 : decode b_Hr_rule 94 = .ok (.invokespecial 80, 3) := by decide +kernel
theorem d_Hr_rule_97 : decode b_Hr_rule 97 = .ok (.astore 5, 2) := by decide +kernel
theorem d_Hr_rule_99 : decode b_Hr_rule 99 = .ok (.aload_n 0, 1) := by decide +kernel
theorem d_Hr_rule_100 : decode b_Hr_rule 100 = .ok (.getfield 17, 3) := by decide +kernel
theorem d_Hr_rule_103 : decode b_Hr_rule 103 = .ok (.aload_n 0, 1) := by decide +kernel
theorem d_Hr_rule_104 : decode b_Hr_rule 104 = .ok (.getfield 21, 3) := by decide +kernel
theorem d_Hr_rule_107 : decode b_Hr_rule 107 = .ok (.aload 5, 2) := by decide +kernel
theorem d_Hr_rule_109 : decode b_Hr_rule 109 = .ok (.aastore, 1) := by decide +kernel
theorem d_Hr_rule_110 : decode b_Hr_rule 110 = .ok (.aload_n 0, 1) := by decide +kernel
theorem d_Hr_rule_111 : decode b_Hr_rule 111 = .ok (.dup, 1) := by decide +kernel
theorem d_Hr_rule_112 : decode b_Hr_rule 112 = .ok (.getfield 21, 3) := by decide +kernel
theorem d_Hr_rule_115 : decode b_Hr_rule 115 = .ok (.iconst 1, 1) := by decide +kernel
theorem d_Hr_rule_116 : decode b_Hr_rule 116 = .ok (.iadd, 1) := by decide +kernel
theorem d_Hr_rule_117 : decode b_Hr_rule 117 = .ok (.putfield 21, 3) := by decide +kernel
theorem d_Hr_rule_120 : decode b_Hr_rule 120 = .ok (.aload 4, 2) := by decide +kernel
theorem d_Hr_rule_122 : decode b_Hr_rule 122 = .ok (.aload 5, 2) := by decide +kernel
theorem d_Hr_rule_124 : decode b_Hr_rule 124 = .ok (.invokevirtual 83, 3) := by decide +kernel
theorem d_Hr_rule_127 : decode b_Hr_rule 127 = .ok (.aload 5, 2) := by decide +kernel
theorem d_Hr_rule_129 : decode b_Hr_rule 129 = .ok (.getfield 87, 3) := by decide +kernel
theorem d_Hr_rule_132 : decode b_Hr_rule 132 = .ok (.ireturn, 1) := by decide +kernel
theorem d_Hr_code_0 : decode b_Hr_code 0 = .ok (.aload_n 0, 1) := by decide +kernel
theorem d_Hr_code_1 : decode b_Hr_code 1 = .ok (.iload_n 1, 1) := by decide +kernel
theorem d_Hr_code_2 : decode b_Hr_code 2 = .ok (.invokevirtual 90, 3) := by decide +kernel
theorem d_Hr_code_5 : decode b_Hr_code 5 = .ok (.astore 5, 2) := by decide +kernel
theorem d_Hr_code_7 : decode b_Hr_code 7 = .ok (.aload 5, 2) := by decide +kernel
theorem d_Hr_code_9 : decode b_Hr_code 9 = .ok (.ifnonnull 6, 3) := by decide +kernel
theorem d_Hr_code_12 : decode b_Hr_code 12 = .ok (.bipush (-101), 2) := by decide +kernel
theorem d_Hr_code_14 : decode b_Hr_code 14 = .ok (.ireturn, 1) := by decide +kernel
theorem d_Hr_code_15 : decode b_Hr_code 15 = .ok (.iload_n 2, 1) := by decide +kernel
theorem d_Hr_code_16 : decode b_Hr_code 16 = .ok (.lload_n 3, 1) := by decide +kernel
theorem d_Hr_code_17 : decode b_Hr_code 17 = .ok (.invokestatic 94, 3) := by decide +kernel
theorem d_Hr_code_20 : decode b_Hr_code 20 = .ok (.ifCond .ne 6, 3) := by decide +kernel
theorem d_Hr_code_23 : decode b_Hr_code 23 = .ok (.bipush (-102), 2) := by decide +kernel
theorem d_Hr_code_25 : decode b_Hr_code 25 = .ok (.ireturn, 1) := by decide +kernel
theorem d_Hr_code_26 : decode b_Hr_code 26 = .ok (.aload 5, 2) := by decide +kernel
theorem d_Hr_code_28 : decode b_Hr_code 28 = .ok (.getfield 98, 3) := by decide +kernel
theorem d_Hr_code_31 : decode b_Hr_code 31 = .ok (.getfield 74, 3) := by decide +kernel
theorem d_Hr_code_34 : decode b_Hr_code 34 = .ok (.iconst 1, 1) := by decide +kernel
theorem d_Hr_code_35 : decode b_Hr_code 35 = .ok (.if_icmp .eq 6, 3) := by decide +kernel
theorem d_Hr_code_38 : decode b_Hr_code 38 = .ok (.bipush (-103), 2) := by decide +kernel
theorem d_Hr_code_40 : decode b_Hr_code 40 = .ok (.ireturn, 1) := by decide +kernel
theorem d_Hr_code_41 : decode b_Hr_code 41 = .ok (.aload 5, 2) := by decide +kernel
theorem d_Hr_code_43 : decode b_Hr_code 43 = .ok (.getfield 102, 3) := by decide +kernel
theorem d_Hr_code_46 : decode b_Hr_code 46 = .ok (.bipush 12, 2) := by decide +kernel
theorem d_Hr_code_48 : decode b_Hr_code 48 = .ok (.if_icmp .lt 6, 3) := by decide +kernel
theorem d_Hr_code_51 : decode b_Hr_code 51 = .ok (.bipush (-104), 2) := by decide +kernel
theorem d_Hr_code_53 : decode b_Hr_code 53 = .ok (.ireturn, 1) := by decide +kernel
theorem d_Hr_code_54 : decode b_Hr_code 54 = .ok (.aload 5, 2) := by decide +kernel
theorem d_Hr_code_56 : decode b_Hr_code 56 = .ok (.iload_n 2, 1) := by decide +kernel
theorem d_Hr_code_57 : decode b_Hr_code 57 = .ok (.iload_n 2, 1) := by decide +kernel
theorem d_Hr_code_58 : decode b_Hr_code 58 = .ok (.invokestatic 105, 3) := by decide +kernel
theorem d_Hr_code_61 : decode b_Hr_code 61 = .ok (.ifCond .eq 7, 3) := by decide +kernel
theorem d_Hr_code_64 : decode b_Hr_code 64 = .ok (.lload_n 3, 1) := by decide +kernel
theorem d_Hr_code_65 : decode b_Hr_code 65 = .ok (.goto 4, 3) := by decide +kernel
theorem d_Hr_code_68 : decode b_Hr_code 68 = .ok (.lconst 0, 1) := by decide +kernel
theorem d_Hr_code_69 : decode b_Hr_code 69 = .ok (.invokevirtual 109, 3) := by decide +kernel
theorem d_Hr_code_72 : decode b_Hr_code 72 = .ok (.aload 5, 2) := by decide +kernel
theorem d_Hr_code_74 : decode b_Hr_code 74 = .ok (.getfield 102, 3) := by decide +kernel
theorem d_Hr_code_77 : decode b_Hr_code 77 = .ok (.ireturn, 1) := by decide +kernel
theorem d_Hr_fallback_0 : decode b_Hr_fallback 0 = .ok (.aload_n 0, 1) := by decide +kernel
theorem d_Hr_fallback_1 : decode b_Hr_fallback 1 = .ok (.iload_n 1, 1) := by decide +kernel
theorem d_Hr_fallback_2 : decode b_Hr_fallback 2 = .ok (.invokevirtual 90, 3) := by decide +kernel
theorem d_Hr_fallback_5 : decode b_Hr_fallback 5 = .ok (.astore 5, 2) := by decide +kernel
theorem d_Hr_fallback_7 : decode b_Hr_fallback 7 = .ok (.aload 5, 2) := by decide +kernel
theorem d_Hr_fallback_9 : decode b_Hr_fallback 9 = .ok (.ifnonnull 6, 3) := by decide +kernel
theorem d_Hr_fallback_12 : decode b_Hr_fallback 12 = .ok (.bipush (-101), 2) := by decide +kernel
theorem d_Hr_fallback_14 : decode b_Hr_fallback 14 = .ok (.ireturn, 1) := by decide +kernel
theorem d_Hr_fallback_15 : decode b_Hr_fallback 15 = .ok (.iload_n 2, 1) := by decide +kernel
theorem d_Hr_fallback_16 : decode b_Hr_fallback 16 = .ok (.i2l, 1) := by decide +kernel
theorem d_Hr_fallback_17 : decode b_Hr_fallback 17 = .ok (.lconst 0, 1) := by decide +kernel
theorem d_Hr_fallback_18 : decode b_Hr_fallback 18 = .ok (.ldc2_w 113, 3) := by decide +kernel
theorem d_Hr_fallback_21 : decode b_Hr_fallback 21 = .ok (.invokestatic 68, 3) := by decide +kernel
theorem d_Hr_fallback_24 : decode b_Hr_fallback 24 = .ok (.ifCond .ne 6, 3) := by decide +kernel
theorem d_Hr_fallback_27 : decode b_Hr_fallback 27 = .ok (.bipush (-102), 2) := by decide +kernel
theorem d_Hr_fallback_29 : decode b_Hr_fallback 29 = .ok (.ireturn, 1) := by decide +kernel
theorem d_Hr_fallback_30 : decode b_Hr_fallback 30 = .ok (.aload 5, 2) := by decide +kernel
theorem d_Hr_fallback_32 : decode b_Hr_fallback 32 = .ok (.getfield 98, 3) := by decide +kernel
theorem d_Hr_fallback_35 : decode b_Hr_fallback 35 = .ok (.getfield 74, 3) := by decide +kernel
theorem d_Hr_fallback_38 : decode b_Hr_fallback 38 = .ok (.iconst 1, 1) := by decide +kernel
theorem d_Hr_fallback_39 : decode b_Hr_fallback 39 = .ok (.if_icmp .eq 6, 3) := by decide +kernel
theorem d_Hr_fallback_42 : decode b_Hr_fallback 42 = .ok (.bipush (-103), 2) := by decide +kernel
theorem d_Hr_fallback_44 : decode b_Hr_fallback 44 = .ok (.ireturn, 1) := by decide +kernel
theorem d_Hr_fallback_45 : decode b_Hr_fallback 45 = .ok (.aload 5, 2) := by decide +kernel
theorem d_Hr_fallback_47 : decode b_Hr_fallback 47 = .ok (.iload_n 2, 1) := by decide +kernel
theorem d_Hr_fallback_48 : decode b_Hr_fallback 48 = .ok (.putfield 115, 3) := by decide +kernel
theorem d_Hr_fallback_51 : decode b_Hr_fallback 51 = .ok (.aload 5, 2) := by decide +kernel
theorem d_Hr_fallback_53 : decode b_Hr_fallback 53 = .ok (.lload_n 3, 1) := by decide +kernel
theorem d_Hr_fallback_54 : decode b_Hr_fallback 54 = .ok (.putfield 118, 3) := by decide +kernel
theorem d_Hr_fallback_57 : decode b_Hr_fallback 57 = .ok (.iconst 1, 1) := by decide +kernel
theorem d_Hr_fallback_58 : decode b_Hr_fallback 58 = .ok (.ireturn, 1) := by decide +kernel
theorem d_Hr_fact_0 : decode b_Hr_fact 0 = .ok (.iload_n 1, 1) := by decide +kernel
theorem d_Hr_fact_1 : decode b_Hr_fact 1 = .ok (.i2l, 1) := by decide +kernel
theorem d_Hr_fact_2 : decode b_Hr_fact 2 = .ok (.lconst 0, 1) := by decide +kernel
theorem d_Hr_fact_3 : decode b_Hr_fact 3 = .ok (.ldc2_w 122, 3) := by decide +kernel
theorem d_Hr_fact_6 : decode b_Hr_fact 6 = .ok (.invokestatic 68, 3) := by decide +kernel
theorem d_Hr_fact_9 : decode b_Hr_fact 9 = .ok (.ifCond .ne 6, 3) := by decide +kernel
theorem d_Hr_fact_12 : decode b_Hr_fact 12 = .ok (.bipush (-102), 2) := by decide +kernel
theorem d_Hr_fact_14 : decode b_Hr_fact 14 = .ok (.ireturn, 1) := by decide +kernel
theorem d_Hr_fact_15 : decode b_Hr_fact 15 = .ok (.aload_n 0, 1) := by decide +kernel
theorem d_Hr_fact_16 : decode b_Hr_fact 16 = .ok (.getfield 31, 3) := by decide +kernel
theorem d_Hr_fact_19 : decode b_Hr_fact 19 = .ok (.iload_n 1, 1) := by decide +kernel
theorem d_Hr_fact_20 : decode b_Hr_fact 20 = .ok (.lload_n 2, 1) := by decide +kernel
theorem d_Hr_fact_21 : decode b_Hr_fact 21 = .ok (.invokevirtual 124, 3) := by decide +kernel
theorem d_Hr_fact_24 : decode b_Hr_fact 24 = .ok (.iconst 1, 1) := by decide +kernel
theorem d_Hr_fact_25 : decode b_Hr_fact 25 = .ok (.ireturn, 1) := by decide +kernel
theorem d_Hr_test_0 : decode b_Hr_test 0 = .ok (.aload_n 0, 1) := by decide +kernel
theorem d_Hr_test_1 : decode b_Hr_test 1 = .ok (.iload_n 1, 1) := by decide +kernel
theorem d_Hr_test_2 : decode b_Hr_test 2 = .ok (.invokevirtual 62, 3) := by decide +kernel
theorem d_Hr_test_5 : decode b_Hr_test 5 = .ok (.astore_n 2, 1) := by decide +kernel
theorem d_Hr_test_6 : decode b_Hr_test 6 = .ok (.aload_n 2, 1) := by decide +kernel
theorem d_Hr_test_7 : decode b_Hr_test 7 = .ok (.ifnonnull 6, 3) := by decide +kernel
theorem d_Hr_test_10 : decode b_Hr_test 10 = .ok (.bipush (-102), 2) := by decide +kernel
theorem d_Hr_test_12 : decode b_Hr_test 12 = .ok (.ireturn, 1) := by decide +kernel
theorem d_Hr_test_13 : decode b_Hr_test 13 = .ok (.aload_n 2, 1) := by decide +kernel
theorem d_Hr_test_14 : decode b_Hr_test 14 = .ok (.getfield 74, 3) := by decide +kernel
theorem d_Hr_test_17 : decode b_Hr_test 17 = .ok (.iconst 1, 1) := by decide +kernel
theorem d_Hr_test_18 : decode b_Hr_test 18 = .ok (.if_icmp .eq 6, 3) := by decide +kernel
theorem d_Hr_test_21 : decode b_Hr_test 21 = .ok (.bipush (-103), 2) := by decide +kernel
theorem d_Hr_test_23 : decode b_Hr_test 23 = .ok (.ireturn, 1) := by decide +kernel
theorem d_Hr_test_24 : decode b_Hr_test 24 = .ok (.aload_n 0, 1) := by decide +kernel
theorem d_Hr_test_25 : decode b_Hr_test 25 = .ok (.invokevirtual 127, 3) := by decide +kernel
theorem d_Hr_test_28 : decode b_Hr_test 28 = .ok (.iconst 0, 1) := by decide +kernel
theorem d_Hr_test_29 : decode b_Hr_test 29 = .ok (.istore_n 3, 1) := by decide +kernel
theorem d_Hr_test_30 : decode b_Hr_test 30 = .ok (.iconst 0, 1) := by decide +kernel
theorem d_Hr_test_31 : decode b_Hr_test 31 = .ok (.istore 4, 2) := by decide +kernel
theorem d_Hr_test_33 : decode b_Hr_test 33 = .ok (.iload 4, 2) := by decide +kernel
theorem d_Hr_test_35 : decode b_Hr_test 35 = .ok (.aload_n 2, 1) := by decide +kernel
theorem d_Hr_test_36 : decode b_Hr_test 36 = .ok (.getfield 77, 3) := by decide +kernel
theorem d_Hr_test_39 : decode b_Hr_test 39 = .ok (.if_icmp .ge 31, 3) := by decide +kernel
theorem d_Hr_test_42 : decode b_Hr_test 42 = .ok (.aload_n 2, 1) := by decide +kernel
theorem d_Hr_test_43 : decode b_Hr_test 43 = .ok (.iload 4, 2) := by decide +kernel
theorem d_Hr_test_45 : decode b_Hr_test 45 = .ok (.invokevirtual 130, 3) := by decide +kernel
theorem d_Hr_test_48 : decode b_Hr_test 48 = .ok (.astore 5, 2) := by decide +kernel
theorem d_Hr_test_50 : decode b_Hr_test 50 = .ok (.aload 5, 2) := by decide +kernel
theorem d_Hr_test_52 : decode b_Hr_test 52 = .ok (.ifnull 12, 3) := by decide +kernel
theorem d_Hr_test_55 : decode b_Hr_test 55 = .ok (.iload_n 3, 1) := by decide +kernel
theorem d_Hr_test_56 : decode b_Hr_test 56 = .ok (.aload_n 0, 1) := by decide +kernel
theorem d_Hr_test_57 : decode b_Hr_test 57 = .ok (.aload 5, 2) := by decide +kernel
theorem d_Hr_test_59 : decode b_Hr_test 59 = .ok (.invokevirtual 133, 3) := by decide +kernel
theorem d_Hr_test_62 : decode b_Hr_test 62 = .ok (.iadd, 1) := by decide +kernel
theorem d_Hr_test_63 : decode b_Hr_test 63 = .ok (.istore_n 3, 1) := by decide +kernel
theorem d_Hr_test_64 : decode b_Hr_test 64 = .ok (.iinc 4 1, 3) := by decide +kernel
theorem d_Hr_test_67 : decode b_Hr_test 67 = .ok (.goto (-34), 3) := by decide +kernel
theorem d_Hr_test_70 : decode b_Hr_test 70 = .ok (.aload_n 2, 1) := by decide +kernel
theorem d_Hr_test_71 : decode b_Hr_test 71 = .ok (.aload_n 0, 1) := by decide +kernel
theorem d_Hr_test_72 : decode b_Hr_test 72 = .ok (.getfield 45, 3) := by decide +kernel
theorem d_Hr_test_75 : decode b_Hr_test 75 = .ok (.getfield 137, 3) := by decide +kernel
theorem d_Hr_test_78 : decode b_Hr_test 78 = .ok (.ifCond .ne 7, 3) := by decide +kernel
theorem d_Hr_test_81 : decode b_Hr_test 81 = .ok (.iconst 2, 1) := by decide +kernel
theorem d_Hr_test_82 : decode b_Hr_test 82 = .ok (.goto 4, 3) := by decide +kernel
theorem d_Hr_test_85 : decode b_Hr_test 85 = .ok (.iconst 3, 1) := by decide +kernel
theorem d_Hr_test_86 : decode b_Hr_test 86 = .ok (.putfield 74, 3) := by decide +kernel
theorem d_Hr_test_89 : decode b_Hr_test 89 = .ok (.iload_n 3, 1) := by decide +kernel
theorem d_Hr_test_90 : decode b_Hr_test 90 = .ok (.ireturn, 1) := by decide +kernel
theorem d_Hr_day_0 : decode b_Hr_day 0 = .ok (.aload_n 0, 1) := by decide +kernel
theorem d_Hr_day_1 : decode b_Hr_day 1 = .ok (.iload_n 1, 1) := by decide +kernel
theorem d_Hr_day_2 : decode b_Hr_day 2 = .ok (.invokevirtual 62, 3) := by decide +kernel
theorem d_Hr_day_5 : decode b_Hr_day 5 = .ok (.astore_n 3, 1) := by decide +kernel
theorem d_Hr_day_6 : decode b_Hr_day 6 = .ok (.aload_n 3, 1) := by decide +kernel
theorem d_Hr_day_7 : decode b_Hr_day 7 = .ok (.ifnull 15, 3) := by decide +kernel
theorem d_Hr_day_10 : decode b_Hr_day 10 = .ok (.iload_n 2, 1) := by decide +kernel
theorem d_Hr_day_11 : decode b_Hr_day 11 = .ok (.i2l, 1) := by decide +kernel
theorem d_Hr_day_12 : decode b_Hr_day 12 = .ok (.lconst 0, 1) := by decide +kernel
theorem d_Hr_day_13 : decode b_Hr_day 13 = .ok (.ldc2_w 138, 3) := by decide +kernel
theorem d_Hr_day_16 : decode b_Hr_day 16 = .ok (.invokestatic 68, 3) := by decide +kernel
theorem d_Hr_day_19 : decode b_Hr_day 19 = .ok (.ifCond .ne 6, 3) := by decide +kernel
theorem d_Hr_day_22 : decode b_Hr_day 22 = .ok (.bipush (-102), 2) := by decide +kernel
theorem d_Hr_day_24 : decode b_Hr_day 24 = .ok (.ireturn, 1) := by decide +kernel
theorem d_Hr_day_25 : decode b_Hr_day 25 = .ok (.aload_n 3, 1) := by decide +kernel
theorem d_Hr_day_26 : decode b_Hr_day 26 = .ok (.getfield 74, 3) := by decide +kernel
theorem d_Hr_day_29 : decode b_Hr_day 29 = .ok (.iconst 2, 1) := by decide +kernel
theorem d_Hr_day_30 : decode b_Hr_day 30 = .ok (.if_icmp .eq 6, 3) := by decide +kernel
theorem d_Hr_day_33 : decode b_Hr_day 33 = .ok (.bipush (-103), 2) := by decide +kernel
theorem d_Hr_day_35 : decode b_Hr_day 35 = .ok (.ireturn, 1) := by decide +kernel
theorem d_Hr_day_36 : decode b_Hr_day 36 = .ok (.aload_n 0, 1) := by decide +kernel
theorem d_Hr_day_37 : decode b_Hr_day 37 = .ok (.dup, 1) := by decide +kernel
theorem d_Hr_day_38 : decode b_Hr_day 38 = .ok (.getfield 25, 3) := by decide +kernel
theorem d_Hr_day_41 : decode b_Hr_day 41 = .ok (.iconst 1, 1) := by decide +kernel
theorem d_Hr_day_42 : decode b_Hr_day 42 = .ok (.iadd, 1) := by decide +kernel
theorem d_Hr_day_43 : decode b_Hr_day 43 = .ok (.putfield 25, 3) := by decide +kernel
theorem d_Hr_day_46 : decode b_Hr_day 46 = .ok (.aload_n 3, 1) := by decide +kernel
theorem d_Hr_day_47 : decode b_Hr_day 47 = .ok (.iload_n 2, 1) := by decide +kernel
theorem d_Hr_day_48 : decode b_Hr_day 48 = .ok (.putfield 140, 3) := by decide +kernel
theorem d_Hr_day_51 : decode b_Hr_day 51 = .ok (.aload_n 3, 1) := by decide +kernel
theorem d_Hr_day_52 : decode b_Hr_day 52 = .ok (.aload_n 0, 1) := by decide +kernel
theorem d_Hr_day_53 : decode b_Hr_day 53 = .ok (.getfield 25, 3) := by decide +kernel
theorem d_Hr_day_56 : decode b_Hr_day 56 = .ok (.putfield 143, 3) := by decide +kernel
theorem d_Hr_day_59 : decode b_Hr_day 59 = .ok (.iconst 1, 1) := by decide +kernel
theorem d_Hr_day_60 : decode b_Hr_day 60 = .ok (.ireturn, 1) := by decide +kernel
theorem d_Hr_ask_0 : decode b_Hr_ask 0 = .ok (.iload_n 1, 1) := by decide +kernel
theorem d_Hr_ask_1 : decode b_Hr_ask 1 = .ok (.i2l, 1) := by decide +kernel
theorem d_Hr_ask_2 : decode b_Hr_ask 2 = .ok (.lconst 0, 1) := by decide +kernel
theorem d_Hr_ask_3 : decode b_Hr_ask 3 = .ok (.ldc2_w 138, 3) := by decide +kernel
theorem d_Hr_ask_6 : decode b_Hr_ask 6 = .ok (.invokestatic 68, 3) := by decide +kernel
theorem d_Hr_ask_9 : decode b_Hr_ask 9 = .ok (.ifCond .ne 6, 3) := by decide +kernel
theorem d_Hr_ask_12 : decode b_Hr_ask 12 = .ok (.bipush (-102), 2) := by decide +kernel
theorem d_Hr_ask_14 : decode b_Hr_ask 14 = .ok (.ireturn, 1) := by decide +kernel
theorem d_Hr_ask_15 : decode b_Hr_ask 15 = .ok (.aload_n 0, 1) := by decide +kernel
theorem d_Hr_ask_16 : decode b_Hr_ask 16 = .ok (.invokevirtual 127, 3) := by decide +kernel
theorem d_Hr_ask_19 : decode b_Hr_ask 19 = .ok (.aload_n 0, 1) := by decide +kernel
theorem d_Hr_ask_20 : decode b_Hr_ask 20 = .ok (.getfield 38, 3) := by decide +kernel
theorem d_Hr_ask_23 : decode b_Hr_ask 23 = .ok (.invokevirtual 146, 3) := by decide +kernel
theorem d_Hr_ask_26 : decode b_Hr_ask 26 = .ok (.aload_n 0, 1) := by decide +kernel
theorem d_Hr_ask_27 : decode b_Hr_ask 27 = .ok (.iload_n 1, 1) := by decide +kernel
theorem d_Hr_ask_28 : decode b_Hr_ask 28 = .ok (.invokevirtual 149, 3) := by decide +kernel
theorem d_Hr_ask_31 : decode b_Hr_ask 31 = .ok (.astore_n 2, 1) := by decide +kernel
theorem d_Hr_ask_32 : decode b_Hr_ask 32 = .ok (.aload_n 2, 1) := by decide +kernel
theorem d_Hr_ask_33 : decode b_Hr_ask 33 = .ok (.ifnonnull 5, 3) := by decide +kernel
theorem d_Hr_ask_36 : decode b_Hr_ask 36 = .ok (.iconst (-1), 1) := by decide +kernel
theorem d_Hr_ask_37 : decode b_Hr_ask 37 = .ok (.ireturn, 1) := by decide +kernel
theorem d_Hr_ask_38 : decode b_Hr_ask 38 = .ok (.iconst 0, 1) := by decide +kernel
theorem d_Hr_ask_39 : decode b_Hr_ask 39 = .ok (.istore_n 3, 1) := by decide +kernel
theorem d_Hr_ask_40 : decode b_Hr_ask 40 = .ok (.iload_n 3, 1) := by decide +kernel
theorem d_Hr_ask_41 : decode b_Hr_ask 41 = .ok (.aload_n 2, 1) := by decide +kernel
theorem d_Hr_ask_42 : decode b_Hr_ask 42 = .ok (.getfield 77, 3) := by decide +kernel
theorem d_Hr_ask_45 : decode b_Hr_ask 45 = .ok (.if_icmp .ge 34, 3) := by decide +kernel
theorem d_Hr_ask_48 : decode b_Hr_ask 48 = .ok (.aload_n 2, 1) := by decide +kernel
theorem d_Hr_ask_49 : decode b_Hr_ask 49 = .ok (.iload_n 3, 1) := by decide +kernel
theorem d_Hr_ask_50 : decode b_Hr_ask 50 = .ok (.invokevirtual 130, 3) := by decide +kernel
theorem d_Hr_ask_53 : decode b_Hr_ask 53 = .ok (.astore 4, 2) := by decide +kernel
theorem d_Hr_ask_55 : decode b_Hr_ask 55 = .ok (.aload 4, 2) := by decide +kernel
theorem d_Hr_ask_57 : decode b_Hr_ask 57 = .ok (.ifnull 16, 3) := by decide +kernel
theorem d_Hr_ask_60 : decode b_Hr_ask 60 = .ok (.aload_n 0, 1) := by decide +kernel
theorem d_Hr_ask_61 : decode b_Hr_ask 61 = .ok (.aload 4, 2) := by decide +kernel
theorem d_Hr_ask_63 : decode b_Hr_ask 63 = .ok (.invokevirtual 133, 3) := by decide +kernel
theorem d_Hr_ask_66 : decode b_Hr_ask 66 = .ok (.pop, 1) := by decide +kernel
theorem d_Hr_ask_67 : decode b_Hr_ask 67 = .ok (.aload_n 0, 1) := by decide +kernel
theorem d_Hr_ask_68 : decode b_Hr_ask 68 = .ok (.aload 4, 2) := by decide +kernel
theorem d_Hr_ask_70 : decode b_Hr_ask 70 = .ok (.invokevirtual 152, 3) := by decide +kernel
theorem d_Hr_ask_73 : decode b_Hr_ask 73 = .ok (.iinc 3 1, 3) := by decide +kernel
theorem d_Hr_ask_76 : decode b_Hr_ask 76 = .ok (.goto (-36), 3) := by decide +kernel
theorem d_Hr_ask_79 : decode b_Hr_ask 79 = .ok (.aload_n 0, 1) := by decide +kernel
theorem d_Hr_ask_80 : decode b_Hr_ask 80 = .ok (.getfield 38, 3) := by decide +kernel
theorem d_Hr_ask_83 : decode b_Hr_ask 83 = .ok (.invokevirtual 155, 3) := by decide +kernel
theorem d_Hr_ask_86 : decode b_Hr_ask 86 = .ok (.ireturn, 1) := by decide +kernel
theorem d_Hr_answer_0 : decode b_Hr_answer 0 = .ok (.aload_n 0, 1) := by decide +kernel
theorem d_Hr_answer_1 : decode b_Hr_answer 1 = .ok (.getfield 38, 3) := by decide +kernel
theorem d_Hr_answer_4 : decode b_Hr_answer 4 = .ok (.iload_n 1, 1) := by decide +kernel
theorem d_Hr_answer_5 : decode b_Hr_answer 5 = .ok (.invokevirtual 159, 3) := by decide +kernel
theorem d_Hr_answer_8 : decode b_Hr_answer 8 = .ok (.lreturn, 1) := by decide +kernel
theorem d_Hr_by_0 : decode b_Hr_by 0 = .ok (.aload_n 0, 1) := by decide +kernel
theorem d_Hr_by_1 : decode b_Hr_by 1 = .ok (.getfield 38, 3) := by decide +kernel
theorem d_Hr_by_4 : decode b_Hr_by 4 = .ok (.iload_n 1, 1) := by decide +kernel
theorem d_Hr_by_5 : decode b_Hr_by 5 = .ok (.invokevirtual 163, 3) := by decide +kernel
theorem d_Hr_by_8 : decode b_Hr_by 8 = .ok (.ireturn, 1) := by decide +kernel
theorem d_Hr_failed_0 : decode b_Hr_failed 0 = .ok (.iload_n 2, 1) := by decide +kernel
theorem d_Hr_failed_1 : decode b_Hr_failed 1 = .ok (.ifCond .ne 12, 3) := by decide +kernel
theorem d_Hr_failed_4 : decode b_Hr_failed 4 = .ok (.aload_n 0, 1) := by decide +kernel
theorem d_Hr_failed_5 : decode b_Hr_failed 5 = .ok (.getfield 45, 3) := by decide +kernel
theorem d_Hr_failed_8 : decode b_Hr_failed 8 = .ok (.iload_n 1, 1) := by decide +kernel
theorem d_Hr_failed_9 : decode b_Hr_failed 9 = .ok (.invokevirtual 167, 3) := by decide +kernel
theorem d_Hr_failed_12 : decode b_Hr_failed 12 = .ok (.ireturn, 1) := by decide +kernel
theorem d_Hr_failed_13 : decode b_Hr_failed 13 = .ok (.iload_n 2, 1) := by decide +kernel
theorem d_Hr_failed_14 : decode b_Hr_failed 14 = .ok (.iconst 1, 1) := by decide +kernel
theorem d_Hr_failed_15 : decode b_Hr_failed 15 = .ok (.if_icmp .ne 14, 3) := by decide +kernel
theorem d_Hr_failed_18 : decode b_Hr_failed 18 = .ok (.aload_n 0, 1) := by decide +kernel
theorem d_Hr_failed_19 : decode b_Hr_failed 19 = .ok (.getfield 45, 3) := by decide +kernel
theorem d_Hr_failed_22 : decode b_Hr_failed 22 = .ok (.iload_n 1, 1) := by decide +kernel
theorem d_Hr_failed_23 : decode b_Hr_failed 23 = .ok (.invokevirtual 170, 3) := by decide +kernel
theorem d_Hr_failed_26 : decode b_Hr_failed 26 = .ok (.goto 4, 3) := by decide +kernel
theorem d_Hr_failed_29 : decode b_Hr_failed 29 = .ok (.iconst (-1), 1) := by decide +kernel
theorem d_Hr_failed_30 : decode b_Hr_failed 30 = .ok (.ireturn, 1) := by decide +kernel
theorem d_Hr_cell_0 : decode b_Hr_cell 0 = .ok (.aload_n 0, 1) := by decide +kernel
theorem d_Hr_cell_1 : decode b_Hr_cell 1 = .ok (.iload_n 1, 1) := by decide +kernel
theorem d_Hr_cell_2 : decode b_Hr_cell 2 = .ok (.invokevirtual 90, 3) := by decide +kernel
theorem d_Hr_cell_5 : decode b_Hr_cell 5 = .ok (.astore_n 2, 1) := by decide +kernel
theorem d_Hr_cell_6 : decode b_Hr_cell 6 = .ok (.aload_n 2, 1) := by decide +kernel
theorem d_Hr_cell_7 : decode b_Hr_cell 7 = .ok (.ifnonnull 7, 3) := by decide +kernel
theorem d_Hr_cell_10 : decode b_Hr_cell 10 = .ok (.lconst 0, 1) := by decide +kernel
theorem d_Hr_cell_11 : decode b_Hr_cell 11 = .ok (.goto 7, 3) := by decide +kernel
theorem d_Hr_cell_14 : decode b_Hr_cell 14 = .ok (.aload_n 2, 1) := by decide +kernel
theorem d_Hr_cell_15 : decode b_Hr_cell 15 = .ok (.getfield 173, 3) := by decide +kernel
theorem d_Hr_cell_18 : decode b_Hr_cell 18 = .ok (.lreturn, 1) := by decide +kernel
theorem d_Hr_edition_0 : decode b_Hr_edition 0 = .ok (.aload_n 0, 1) := by decide +kernel
theorem d_Hr_edition_1 : decode b_Hr_edition 1 = .ok (.iload_n 1, 1) := by decide +kernel
theorem d_Hr_edition_2 : decode b_Hr_edition 2 = .ok (.invokevirtual 62, 3) := by decide +kernel
theorem d_Hr_edition_5 : decode b_Hr_edition 5 = .ok (.astore_n 3, 1) := by decide +kernel
theorem d_Hr_edition_6 : decode b_Hr_edition 6 = .ok (.aload_n 3, 1) := by decide +kernel
theorem d_Hr_edition_7 : decode b_Hr_edition 7 = .ok (.ifnonnull 6, 3) := by decide +kernel
theorem d_Hr_edition_10 : decode b_Hr_edition 10 = .ok (.bipush (-102), 2) := by decide +kernel
theorem d_Hr_edition_12 : decode b_Hr_edition 12 = .ok (.ireturn, 1) := by decide +kernel
theorem d_Hr_edition_13 : decode b_Hr_edition 13 = .ok (.iload_n 2, 1) := by decide +kernel
theorem d_Hr_edition_14 : decode b_Hr_edition 14 = .ok (.tableswitch 41 0 2 #[26, 31, 36], 26) := by decide +kernel
theorem d_Hr_edition_40 : decode b_Hr_edition 40 = .ok (.aload_n 3, 1) := by decide +kernel
theorem d_Hr_edition_41 : decode b_Hr_edition 41 = .ok (.getfield 74, 3) := by decide +kernel
theorem d_Hr_edition_44 : decode b_Hr_edition 44 = .ok (.ireturn, 1) := by decide +kernel
theorem d_Hr_edition_45 : decode b_Hr_edition 45 = .ok (.aload_n 3, 1) := by decide +kernel
theorem d_Hr_edition_46 : decode b_Hr_edition 46 = .ok (.getfield 77, 3) := by decide +kernel
theorem d_Hr_edition_49 : decode b_Hr_edition 49 = .ok (.ireturn, 1) := by decide +kernel
theorem d_Hr_edition_50 : decode b_Hr_edition 50 = .ok (.aload_n 3, 1) := by decide +kernel
theorem d_Hr_edition_51 : decode b_Hr_edition 51 = .ok (.getfield 140, 3) := by decide +kernel
theorem d_Hr_edition_54 : decode b_Hr_edition 54 = .ok (.ireturn, 1) := by decide +kernel
theorem d_Hr_edition_55 : decode b_Hr_edition 55 = .ok (.bipush (-102), 2) := by decide +kernel
theorem d_Hr_edition_57 : decode b_Hr_edition 57 = .ok (.ireturn, 1) := by decide +kernel
theorem d_Hr_same_0 : decode b_Hr_same 0 = .ok (.aload_n 0, 1) := by decide +kernel
theorem d_Hr_same_1 : decode b_Hr_same 1 = .ok (.iload_n 1, 1) := by decide +kernel
theorem d_Hr_same_2 : decode b_Hr_same 2 = .ok (.invokevirtual 90, 3) := by decide +kernel
theorem d_Hr_same_5 : decode b_Hr_same 5 = .ok (.astore_n 3, 1) := by decide +kernel
theorem d_Hr_same_6 : decode b_Hr_same 6 = .ok (.aload_n 0, 1) := by decide +kernel
theorem d_Hr_same_7 : decode b_Hr_same 7 = .ok (.iload_n 2, 1) := by decide +kernel
theorem d_Hr_same_8 : decode b_Hr_same 8 = .ok (.invokevirtual 90, 3) := by decide +kernel
theorem d_Hr_same_11 : decode b_Hr_same 11 = .ok (.astore 4, 2) := by decide +kernel
theorem d_Hr_same_13 : decode b_Hr_same 13 = .ok (.aload_n 3, 1) := by decide +kernel
theorem d_Hr_same_14 : decode b_Hr_same 14 = .ok (.ifnull 21, 3) := by decide +kernel
theorem d_Hr_same_17 : decode b_Hr_same 17 = .ok (.aload 4, 2) := by decide +kernel
theorem d_Hr_same_19 : decode b_Hr_same 19 = .ok (.ifnull 16, 3) := by decide +kernel
theorem d_Hr_same_22 : decode b_Hr_same 22 = .ok (.aload_n 3, 1) := by decide +kernel
theorem d_Hr_same_23 : decode b_Hr_same 23 = .ok (.aload 4, 2) := by decide +kernel
theorem d_Hr_same_25 : decode b_Hr_same 25 = .ok (.invokevirtual 176, 3) := by decide +kernel
theorem d_Hr_same_28 : decode b_Hr_same 28 = .ok (.ifCond .eq 7, 3) := by decide +kernel
theorem d_Hr_same_31 : decode b_Hr_same 31 = .ok (.iconst 1, 1) := by decide +kernel
theorem d_Hr_same_32 : decode b_Hr_same 32 = .ok (.goto 4, 3) := by decide +kernel
theorem d_Hr_same_35 : decode b_Hr_same 35 = .ok (.iconst 0, 1) := by decide +kernel
theorem d_Hr_same_36 : decode b_Hr_same 36 = .ok (.ireturn, 1) := by decide +kernel
theorem d_Hr_divide_0 : decode b_Hr_divide 0 = .ok (.aload_n 0, 1) := by decide +kernel
theorem d_Hr_divide_1 : decode b_Hr_divide 1 = .ok (.iload_n 1, 1) := by decide +kernel
theorem d_Hr_divide_2 : decode b_Hr_divide 2 = .ok (.invokevirtual 90, 3) := by decide +kernel
theorem d_Hr_divide_5 : decode b_Hr_divide 5 = .ok (.ifnonnull 7, 3) := by decide +kernel
theorem d_Hr_divide_8 : decode b_Hr_divide 8 = .ok (.ldc2_w 180, 3) := by decide +kernel
theorem d_Hr_divide_11 : decode b_Hr_divide 11 = .ok (.lreturn, 1) := by decide +kernel
theorem d_Hr_divide_12 : decode b_Hr_divide 12 = .ok (.lload 4, 2) := by decide +kernel
theorem d_Hr_divide_14 : decode b_Hr_divide 14 = .ok (.lconst 0, 1) := by decide +kernel
theorem d_Hr_divide_15 : decode b_Hr_divide 15 = .ok (.lcmp, 1) := by decide +kernel
theorem d_Hr_divide_16 : decode b_Hr_divide 16 = .ok (.ifCond .ne 13, 3) := by decide +kernel
theorem d_Hr_divide_19 : decode b_Hr_divide 19 = .ok (.new 182, 3) := by decide +kernel
theorem d_Hr_divide_22 : decode b_Hr_divide 22 = .ok (.dup, 1) := by decide +kernel
theorem d_Hr_divide_23 : decode b_Hr_divide 23 = .ok (.ldc 184, 2) := by decide +kernel
theorem d_Hr_divide_25 : decode b_Hr_divide 25 = .ok (.invokespecial 186, 3) := by decide +kernel
theorem d_Hr_divide_28 : decode b_Hr_divide 28 = .ok (.athrow, 1) := by decide +kernel
theorem d_Hr_divide_29 : decode b_Hr_divide 29 = .ok (.iconst 5, 1) := by decide +kernel
theorem d_Hr_divide_30 : decode b_Hr_divide 30 = .ok (.lload_n 2, 1) := by decide +kernel
theorem d_Hr_divide_31 : decode b_Hr_divide 31 = .ok (.lload 4, 2) := by decide +kernel
theorem d_Hr_divide_33 : decode b_Hr_divide 33 = .ok (.invokestatic 189, 3) := by decide +kernel
theorem d_Hr_divide_36 : decode b_Hr_divide 36 = .ok (.lreturn, 1) := by decide +kernel
theorem d_Hr_handle_0 : decode b_Hr_handle 0 = .ok (.iload_n 1, 1) := by decide +kernel
theorem d_Hr_handle_1 : decode b_Hr_handle 1 = .ok (.ifCond .lt 14, 3) := by decide +kernel
theorem d_Hr_handle_4 : decode b_Hr_handle 4 = .ok (.iload_n 1, 1) := by decide +kernel
theorem d_Hr_handle_5 : decode b_Hr_handle 5 = .ok (.aload_n 0, 1) := by decide +kernel
theorem d_Hr_handle_6 : decode b_Hr_handle 6 = .ok (.getfield 31, 3) := by decide +kernel
theorem d_Hr_handle_9 : decode b_Hr_handle 9 = .ok (.getfield 193, 3) := by decide +kernel
theorem d_Hr_handle_12 : decode b_Hr_handle 12 = .ok (.if_icmp .lt 6, 3) := by decide +kernel
theorem d_Hr_handle_15 : decode b_Hr_handle 15 = .ok (.bipush (-102), 2) := by decide +kernel
theorem d_Hr_handle_17 : decode b_Hr_handle 17 = .ok (.ireturn, 1) := by decide +kernel
theorem d_Hr_handle_18 : decode b_Hr_handle 18 = .ok (.new 196, 3) := by decide +kernel
theorem d_Hr_handle_21 : decode b_Hr_handle 21 = .ok (.dup, 1) := by decide +kernel
theorem d_Hr_handle_22 : decode b_Hr_handle 22 = .ok (.ldc 198, 2) := by decide +kernel
theorem d_Hr_handle_24 : decode b_Hr_handle 24 = .ok (.invokespecial 200, 3) := by decide +kernel
theorem d_Hr_handle_27 : decode b_Hr_handle 27 = .ok (.athrow, 1) := by decide +kernel
theorem d_Hr_editionAt_0 : decode b_Hr_editionAt 0 = .ok (.iload_n 1, 1) := by decide +kernel
theorem d_Hr_editionAt_1 : decode b_Hr_editionAt 1 = .ok (.ifCond .lt 18, 3) := by decide +kernel
theorem d_Hr_editionAt_4 : decode b_Hr_editionAt 4 = .ok (.iload_n 1, 1) := by decide +kernel
theorem d_Hr_editionAt_5 : decode b_Hr_editionAt 5 = .ok (.bipush 6, 2) := by decide +kernel
theorem d_Hr_editionAt_7 : decode b_Hr_editionAt 7 = .ok (.if_icmp .ge 12, 3) := by decide +kernel
theorem d_Hr_editionAt_10 : decode b_Hr_editionAt 10 = .ok (.aload_n 0, 1) := by decide +kernel
theorem d_Hr_editionAt_11 : decode b_Hr_editionAt 11 = .ok (.getfield 11, 3) := by decide +kernel
theorem d_Hr_editionAt_14 : decode b_Hr_editionAt 14 = .ok (.iload_n 1, 1) := by decide +kernel
theorem d_Hr_editionAt_15 : decode b_Hr_editionAt 15 = .ok (.aaload, 1) := by decide +kernel
theorem d_Hr_editionAt_16 : decode b_Hr_editionAt 16 = .ok (.goto 4, 3) := by decide +kernel
theorem d_Hr_editionAt_19 : decode b_Hr_editionAt 19 = .ok (.aconst_null, 1) := by decide +kernel
theorem d_Hr_editionAt_20 : decode b_Hr_editionAt 20 = .ok (.areturn, 1) := by decide +kernel
theorem d_Hr_ruleAt_0 : decode b_Hr_ruleAt 0 = .ok (.iload_n 1, 1) := by decide +kernel
theorem d_Hr_ruleAt_1 : decode b_Hr_ruleAt 1 = .ok (.ifCond .lt 26, 3) := by decide +kernel
theorem d_Hr_ruleAt_4 : decode b_Hr_ruleAt 4 = .ok (.iload_n 1, 1) := by decide +kernel
theorem d_Hr_ruleAt_5 : decode b_Hr_ruleAt 5 = .ok (.aload_n 0, 1) := by decide +kernel
theorem d_Hr_ruleAt_6 : decode b_Hr_ruleAt 6 = .ok (.getfield 21, 3) := by decide +kernel
theorem d_Hr_ruleAt_9 : decode b_Hr_ruleAt 9 = .ok (.if_icmp .ge 18, 3) := by decide +kernel
theorem d_Hr_ruleAt_12 : decode b_Hr_ruleAt 12 = .ok (.iload_n 1, 1) := by decide +kernel
theorem d_Hr_ruleAt_13 : decode b_Hr_ruleAt 13 = .ok (.bipush 40, 2) := by decide +kernel
theorem d_Hr_ruleAt_15 : decode b_Hr_ruleAt 15 = .ok (.if_icmp .ge 12, 3) := by decide +kernel
theorem d_Hr_ruleAt_18 : decode b_Hr_ruleAt 18 = .ok (.aload_n 0, 1) := by decide +kernel
theorem d_Hr_ruleAt_19 : decode b_Hr_ruleAt 19 = .ok (.getfield 17, 3) := by decide +kernel
theorem d_Hr_ruleAt_22 : decode b_Hr_ruleAt 22 = .ok (.iload_n 1, 1) := by decide +kernel
theorem d_Hr_ruleAt_23 : decode b_Hr_ruleAt 23 = .ok (.aaload, 1) := by decide +kernel
theorem d_Hr_ruleAt_24 : decode b_Hr_ruleAt 24 = .ok (.goto 4, 3) := by decide +kernel
theorem d_Hr_ruleAt_27 : decode b_Hr_ruleAt 27 = .ok (.aconst_null, 1) := by decide +kernel
theorem d_Hr_ruleAt_28 : decode b_Hr_ruleAt 28 = .ok (.areturn, 1) := by decide +kernel
theorem d_Hr_inForceOn_0 : decode b_Hr_inForceOn 0 = .ok (.aconst_null, 1) := by decide +kernel
theorem d_Hr_inForceOn_1 : decode b_Hr_inForceOn 1 = .ok (.astore_n 2, 1) := by decide +kernel
theorem d_Hr_inForceOn_2 : decode b_Hr_inForceOn 2 = .ok (.iconst 0, 1) := by decide +kernel
theorem d_Hr_inForceOn_3 : decode b_Hr_inForceOn 3 = .ok (.istore_n 3, 1) := by decide +kernel
theorem d_Hr_inForceOn_4 : decode b_Hr_inForceOn 4 = .ok (.iload_n 3, 1) := by decide +kernel
theorem d_Hr_inForceOn_5 : decode b_Hr_inForceOn 5 = .ok (.bipush 6, 2) := by decide +kernel
theorem d_Hr_inForceOn_7 : decode b_Hr_inForceOn 7 = .ok (.if_icmp .ge 43, 3) := by decide +kernel
theorem d_Hr_inForceOn_10 : decode b_Hr_inForceOn 10 = .ok (.aload_n 0, 1) := by decide +kernel
theorem d_Hr_inForceOn_11 : decode b_Hr_inForceOn 11 = .ok (.getfield 11, 3) := by decide +kernel
theorem d_Hr_inForceOn_14 : decode b_Hr_inForceOn 14 = .ok (.iload_n 3, 1) := by decide +kernel
theorem d_Hr_inForceOn_15 : decode b_Hr_inForceOn 15 = .ok (.aaload, 1) := by decide +kernel
theorem d_Hr_inForceOn_16 : decode b_Hr_inForceOn 16 = .ok (.astore 4, 2) := by decide +kernel
theorem d_Hr_inForceOn_18 : decode b_Hr_inForceOn 18 = .ok (.aload 4, 2) := by decide +kernel
theorem d_Hr_inForceOn_20 : decode b_Hr_inForceOn 20 = .ok (.ifnull 24, 3) := by decide +kernel
theorem d_Hr_inForceOn_23 : decode b_Hr_inForceOn 23 = .ok (.aload 4, 2) := by decide +kernel
theorem d_Hr_inForceOn_25 : decode b_Hr_inForceOn 25 = .ok (.iload_n 1, 1) := by decide +kernel
theorem d_Hr_inForceOn_26 : decode b_Hr_inForceOn 26 = .ok (.invokevirtual 201, 3) := by decide +kernel
theorem d_Hr_inForceOn_29 : decode b_Hr_inForceOn 29 = .ok (.ifCond .eq 15, 3) := by decide +kernel
theorem d_Hr_inForceOn_32 : decode b_Hr_inForceOn 32 = .ok (.aload 4, 2) := by decide +kernel
theorem d_Hr_inForceOn_34 : decode b_Hr_inForceOn 34 = .ok (.aload_n 2, 1) := by decide +kernel
theorem d_Hr_inForceOn_35 : decode b_Hr_inForceOn 35 = .ok (.invokevirtual 204, 3) := by decide +kernel
theorem d_Hr_inForceOn_38 : decode b_Hr_inForceOn 38 = .ok (.ifCond .eq 6, 3) := by decide +kernel
theorem d_Hr_inForceOn_41 : decode b_Hr_inForceOn 41 = .ok (.aload 4, 2) := by decide +kernel
theorem d_Hr_inForceOn_43 : decode b_Hr_inForceOn 43 = .ok (.astore_n 2, 1) := by decide +kernel
theorem d_Hr_inForceOn_44 : decode b_Hr_inForceOn 44 = .ok (.iinc 3 1, 3) := by decide +kernel
theorem d_Hr_inForceOn_47 : decode b_Hr_inForceOn 47 = .ok (.goto (-43), 3) := by decide +kernel
theorem d_Hr_inForceOn_50 : decode b_Hr_inForceOn 50 = .ok (.aload_n 2, 1) := by decide +kernel
theorem d_Hr_inForceOn_51 : decode b_Hr_inForceOn 51 = .ok (.areturn, 1) := by decide +kernel
theorem d_Hr_forgetLatestRun_0 : decode b_Hr_forgetLatestRun 0 = .ok (.aload_n 0, 1) := by decide +kernel
theorem d_Hr_forgetLatestRun_1 : decode b_Hr_forgetLatestRun 1 = .ok (.getfield 31, 3) := by decide +kernel
theorem d_Hr_forgetLatestRun_4 : decode b_Hr_forgetLatestRun 4 = .ok (.iconst 0, 1) := by decide +kernel
theorem d_Hr_forgetLatestRun_5 : decode b_Hr_forgetLatestRun 5 = .ok (.putfield 193, 3) := by decide +kernel
theorem d_Hr_forgetLatestRun_8 : decode b_Hr_forgetLatestRun 8 = .ok (.aload_n 0, 1) := by decide +kernel
theorem d_Hr_forgetLatestRun_9 : decode b_Hr_forgetLatestRun 9 = .ok (.getfield 45, 3) := by decide +kernel
theorem d_Hr_forgetLatestRun_12 : decode b_Hr_forgetLatestRun 12 = .ok (.iconst 0, 1) := by decide +kernel
theorem d_Hr_forgetLatestRun_13 : decode b_Hr_forgetLatestRun 13 = .ok (.putfield 137, 3) := by decide +kernel
theorem d_Hr_forgetLatestRun_16 : decode b_Hr_forgetLatestRun 16 = .ok (.return_, 1) := by decide +kernel
theorem d_Hr_doRule_0 : decode b_Hr_doRule 0 = .ok (.aload_n 0, 1) := by decide +kernel
theorem d_Hr_doRule_1 : decode b_Hr_doRule 1 = .ok (.getfield 31, 3) := by decide +kernel
theorem d_Hr_doRule_4 : decode b_Hr_doRule 4 = .ok (.aload_n 1, 1) := by decide +kernel
theorem d_Hr_doRule_5 : decode b_Hr_doRule 5 = .ok (.aload_n 0, 1) := by decide +kernel
theorem d_Hr_doRule_6 : decode b_Hr_doRule 6 = .ok (.getfield 58, 3) := by decide +kernel
theorem d_Hr_doRule_9 : decode b_Hr_doRule 9 = .ok (.invokevirtual 208, 3) := by decide +kernel
theorem d_Hr_doRule_12 : decode b_Hr_doRule 12 = .ok (.istore_n 2, 1) := by decide +kernel
theorem d_Hr_doRule_13 : decode b_Hr_doRule 13 = .ok (.aload_n 0, 1) := by decide +kernel
theorem d_Hr_doRule_14 : decode b_Hr_doRule 14 = .ok (.getfield 31, 3) := by decide +kernel
theorem d_Hr_doRule_17 : decode b_Hr_doRule 17 = .ok (.getfield 212, 3) := by decide +kernel
theorem d_Hr_doRule_20 : decode b_Hr_doRule 20 = .ok (.ifCond .eq 21, 3) := by decide +kernel
theorem d_Hr_doRule_23 : decode b_Hr_doRule 23 = .ok (.aload_n 0, 1) := by decide +kernel
theorem d_Hr_doRule_24 : decode b_Hr_doRule 24 = .ok (.getfield 45, 3) := by decide +kernel
theorem d_Hr_doRule_27 : decode b_Hr_doRule 27 = .ok (.aload_n 1, 1) := by decide +kernel
theorem d_Hr_doRule_28 : decode b_Hr_doRule 28 = .ok (.getfield 87, 3) := by decide +kernel
theorem d_Hr_doRule_31 : decode b_Hr_doRule 31 = .ok (.aload_n 0, 1) := by decide +kernel
theorem d_Hr_doRule_32 : decode b_Hr_doRule 32 = .ok (.getfield 31, 3) := by decide +kernel
theorem d_Hr_doRule_35 : decode b_Hr_doRule 35 = .ok (.getfield 212, 3) := by decide +kernel
theorem d_Hr_doRule_38 : decode b_Hr_doRule 38 = .ok (.invokevirtual 215, 3) := by decide +kernel
theorem d_Hr_doRule_41 : decode b_Hr_doRule 41 = .ok (.iload_n 2, 1) := by decide +kernel
theorem d_Hr_doRule_42 : decode b_Hr_doRule 42 = .ok (.ireturn, 1) := by decide +kernel
theorem d_Hr_settle_0 : decode b_Hr_settle 0 = .ok (.aload_n 0, 1) := by decide +kernel
theorem d_Hr_settle_1 : decode b_Hr_settle 1 = .ok (.getfield 31, 3) := by decide +kernel
theorem d_Hr_settle_4 : decode b_Hr_settle 4 = .ok (.getfield 212, 3) := by decide +kernel
theorem d_Hr_settle_7 : decode b_Hr_settle 7 = .ok (.ifCond .ne 31, 3) := by decide +kernel
theorem d_Hr_settle_10 : decode b_Hr_settle 10 = .ok (.aload_n 1, 1) := by decide +kernel
theorem d_Hr_settle_11 : decode b_Hr_settle 11 = .ok (.aload_n 0, 1) := by decide +kernel
theorem d_Hr_settle_12 : decode b_Hr_settle 12 = .ok (.getfield 31, 3) := by decide +kernel
theorem d_Hr_settle_15 : decode b_Hr_settle 15 = .ok (.getfield 219, 3) := by decide +kernel
theorem d_Hr_settle_18 : decode b_Hr_settle 18 = .ok (.putfield 173, 3) := by decide +kernel
theorem d_Hr_settle_21 : decode b_Hr_settle 21 = .ok (.aload_n 0, 1) := by decide +kernel
theorem d_Hr_settle_22 : decode b_Hr_settle 22 = .ok (.getfield 38, 3) := by decide +kernel
theorem d_Hr_settle_25 : decode b_Hr_settle 25 = .ok (.aload_n 0, 1) := by decide +kernel
theorem d_Hr_settle_26 : decode b_Hr_settle 26 = .ok (.getfield 31, 3) := by decide +kernel
theorem d_Hr_settle_29 : decode b_Hr_settle 29 = .ok (.getfield 220, 3) := by decide +kernel
theorem d_Hr_settle_32 : decode b_Hr_settle 32 = .ok (.invokevirtual 223, 3) := by decide +kernel
theorem d_Hr_settle_35 : decode b_Hr_settle 35 = .ok (.goto 45, 3) := by decide +kernel
theorem d_Hr_settle_38 : decode b_Hr_settle 38 = .ok (.aload_n 1, 1) := by decide +kernel
theorem d_Hr_settle_39 : decode b_Hr_settle 39 = .ok (.getfield 115, 3) := by decide +kernel
theorem d_Hr_settle_42 : decode b_Hr_settle 42 = .ok (.iconst (-1), 1) := by decide +kernel
theorem d_Hr_settle_43 : decode b_Hr_settle 43 = .ok (.if_icmp .eq 37, 3) := by decide +kernel
theorem d_Hr_settle_46 : decode b_Hr_settle 46 = .ok (.aload_n 0, 1) := by decide +kernel
theorem d_Hr_settle_47 : decode b_Hr_settle 47 = .ok (.getfield 38, 3) := by decide +kernel
theorem d_Hr_settle_50 : decode b_Hr_settle 50 = .ok (.aload_n 1, 1) := by decide +kernel
theorem d_Hr_settle_51 : decode b_Hr_settle 51 = .ok (.getfield 115, 3) := by decide +kernel
theorem d_Hr_settle_54 : decode b_Hr_settle 54 = .ok (.invokevirtual 227, 3) := by decide +kernel
theorem d_Hr_settle_57 : decode b_Hr_settle 57 = .ok (.ifCond .ne 23, 3) := by decide +kernel
theorem d_Hr_settle_60 : decode b_Hr_settle 60 = .ok (.aload_n 0, 1) := by decide +kernel
theorem d_Hr_settle_61 : decode b_Hr_settle 61 = .ok (.getfield 38, 3) := by decide +kernel
theorem d_Hr_settle_64 : decode b_Hr_settle 64 = .ok (.aload_n 1, 1) := by decide +kernel
theorem d_Hr_settle_65 : decode b_Hr_settle 65 = .ok (.getfield 115, 3) := by decide +kernel
theorem d_Hr_settle_68 : decode b_Hr_settle 68 = .ok (.i2l, 1) := by decide +kernel
theorem d_Hr_settle_69 : decode b_Hr_settle 69 = .ok (.aload_n 1, 1) := by decide +kernel
theorem d_Hr_settle_70 : decode b_Hr_settle 70 = .ok (.getfield 118, 3) := by decide +kernel
theorem d_Hr_settle_73 : decode b_Hr_settle 73 = .ok (.aload_n 1, 1) := by decide +kernel
theorem d_Hr_settle_74 : decode b_Hr_settle 74 = .ok (.getfield 87, 3) := by decide +kernel
theorem d_Hr_settle_77 : decode b_Hr_settle 77 = .ok (.invokevirtual 230, 3) := by decide +kernel
theorem d_Hr_settle_80 : decode b_Hr_settle 80 = .ok (.return_, 1) := by decide +kernel
theorem d_Hr_isWithin_0 : decode b_Hr_isWithin 0 = .ok (.lload_n 0, 1) := by decide +kernel
theorem d_Hr_isWithin_1 : decode b_Hr_isWithin 1 = .ok (.lload_n 2, 1) := by decide +kernel
theorem d_Hr_isWithin_2 : decode b_Hr_isWithin 2 = .ok (.lcmp, 1) := by decide +kernel
theorem d_Hr_isWithin_3 : decode b_Hr_isWithin 3 = .ok (.ifCond .lt 14, 3) := by decide +kernel
theorem d_Hr_isWithin_6 : decode b_Hr_isWithin 6 = .ok (.lload_n 0, 1) := by decide +kernel
theorem d_Hr_isWithin_7 : decode b_Hr_isWithin 7 = .ok (.lload 4, 2) := by decide +kernel
theorem d_Hr_isWithin_9 : decode b_Hr_isWithin 9 = .ok (.lcmp, 1) := by decide +kernel
theorem d_Hr_isWithin_10 : decode b_Hr_isWithin 10 = .ok (.ifCond .gt 7, 3) := by decide +kernel
theorem d_Hr_isWithin_13 : decode b_Hr_isWithin 13 = .ok (.iconst 1, 1) := by decide +kernel
theorem d_Hr_isWithin_14 : decode b_Hr_isWithin 14 = .ok (.goto 4, 3) := by decide +kernel
theorem d_Hr_isWithin_17 : decode b_Hr_isWithin 17 = .ok (.iconst 0, 1) := by decide +kernel
theorem d_Hr_isWithin_18 : decode b_Hr_isWithin 18 = .ok (.ireturn, 1) := by decide +kernel
theorem d_Hr_isInstruction_0 : decode b_Hr_isInstruction 0 = .ok (.iload_n 0, 1) := by decide +kernel
theorem d_Hr_isInstruction_1 : decode b_Hr_isInstruction 1 = .ok (.lookupswitch 86 #[(1, 43), (9, 52), (10, 77), (13, 43)], 43) := by decide +kernel
theorem d_Hr_isInstruction_44 : decode b_Hr_isInstruction 44 = .ok (.lload_n 1, 1) := by decide +kernel
theorem d_Hr_isInstruction_45 : decode b_Hr_isInstruction 45 = .ok (.lconst 0, 1) := by decide +kernel
theorem d_Hr_isInstruction_46 : decode b_Hr_isInstruction 46 = .ok (.ldc2_w 122, 3) := by decide +kernel
theorem d_Hr_isInstruction_49 : decode b_Hr_isInstruction 49 = .ok (.invokestatic 68, 3) := by decide +kernel
theorem d_Hr_isInstruction_52 : decode b_Hr_isInstruction 52 = .ok (.ireturn, 1) := by decide +kernel
theorem d_Hr_isInstruction_53 : decode b_Hr_isInstruction 53 = .ok (.lload_n 1, 1) := by decide +kernel
theorem d_Hr_isInstruction_54 : decode b_Hr_isInstruction 54 = .ok (.lconst 0, 1) := by decide +kernel
theorem d_Hr_isInstruction_55 : decode b_Hr_isInstruction 55 = .ok (.lcmp, 1) := by decide +kernel
theorem d_Hr_isInstruction_56 : decode b_Hr_isInstruction 56 = .ok (.ifCond .eq 20, 3) := by decide +kernel
theorem d_Hr_isInstruction_59 : decode b_Hr_isInstruction 59 = .ok (.lload_n 1, 1) := by decide +kernel
theorem d_Hr_isInstruction_60 : decode b_Hr_isInstruction 60 = .ok (.ldc2_w 234, 3) := by decide +kernel
theorem d_Hr_isInstruction_63 : decode b_Hr_isInstruction 63 = .ok (.ldc2_w 236, 3) := by decide +kernel
theorem d_Hr_isInstruction_66 : decode b_Hr_isInstruction 66 = .ok (.invokestatic 68, 3) := by decide +kernel
theorem d_Hr_isInstruction_69 : decode b_Hr_isInstruction 69 = .ok (.ifCond .eq 7, 3) := by decide +kernel
theorem d_Hr_isInstruction_72 : decode b_Hr_isInstruction 72 = .ok (.iconst 1, 1) := by decide +kernel
theorem d_Hr_isInstruction_73 : decode b_Hr_isInstruction 73 = .ok (.goto 4, 3) := by decide +kernel
theorem d_Hr_isInstruction_76 : decode b_Hr_isInstruction 76 = .ok (.iconst 0, 1) := by decide +kernel
theorem d_Hr_isInstruction_77 : decode b_Hr_isInstruction 77 = .ok (.ireturn, 1) := by decide +kernel
theorem d_Hr_isInstruction_78 : decode b_Hr_isInstruction 78 = .ok (.lload_n 1, 1) := by decide +kernel
theorem d_Hr_isInstruction_79 : decode b_Hr_isInstruction 79 = .ok (.lconst 0, 1) := by decide +kernel
theorem d_Hr_isInstruction_80 : decode b_Hr_isInstruction 80 = .ok (.ldc2_w 113, 3) := by decide +kernel
theorem d_Hr_isInstruction_83 : decode b_Hr_isInstruction 83 = .ok (.invokestatic 68, 3) := by decide +kernel
theorem d_Hr_isInstruction_86 : decode b_Hr_isInstruction 86 = .ok (.ireturn, 1) := by decide +kernel
theorem d_Hr_isInstruction_87 : decode b_Hr_isInstruction 87 = .ok (.iload_n 0, 1) := by decide +kernel
theorem d_Hr_isInstruction_88 : decode b_Hr_isInstruction 88 = .ok (.i2l, 1) := by decide +kernel
theorem d_Hr_isInstruction_89 : decode b_Hr_isInstruction 89 = .ok (.lconst 0, 1) := by decide +kernel
theorem d_Hr_isInstruction_90 : decode b_Hr_isInstruction 90 = .ok (.ldc2_w 238, 3) := by decide +kernel
theorem d_Hr_isInstruction_93 : decode b_Hr_isInstruction 93 = .ok (.invokestatic 68, 3) := by decide +kernel
theorem d_Hr_isInstruction_96 : decode b_Hr_isInstruction 96 = .ok (.ireturn, 1) := by decide +kernel
theorem d_Hr_hasNumber_0 : decode b_Hr_hasNumber 0 = .ok (.iload_n 0, 1) := by decide +kernel
theorem d_Hr_hasNumber_1 : decode b_Hr_hasNumber 1 = .ok (.ifCond .eq 26, 3) := by decide +kernel
theorem d_Hr_hasNumber_4 : decode b_Hr_hasNumber 4 = .ok (.iload_n 0, 1) := by decide +kernel
theorem d_Hr_hasNumber_5 : decode b_Hr_hasNumber 5 = .ok (.iconst 1, 1) := by decide +kernel
theorem d_Hr_hasNumber_6 : decode b_Hr_hasNumber 6 = .ok (.if_icmp .eq 21, 3) := by decide +kernel
theorem d_Hr_hasNumber_9 : decode b_Hr_hasNumber 9 = .ok (.iload_n 0, 1) := by decide +kernel
theorem d_Hr_hasNumber_10 : decode b_Hr_hasNumber 10 = .ok (.bipush 9, 2) := by decide +kernel
theorem d_Hr_hasNumber_12 : decode b_Hr_hasNumber 12 = .ok (.if_icmp .eq 15, 3) := by decide +kernel
theorem d_Hr_hasNumber_15 : decode b_Hr_hasNumber 15 = .ok (.iload_n 0, 1) := by decide +kernel
theorem d_Hr_hasNumber_16 : decode b_Hr_hasNumber 16 = .ok (.bipush 10, 2) := by decide +kernel
theorem d_Hr_hasNumber_18 : decode b_Hr_hasNumber 18 = .ok (.if_icmp .eq 9, 3) := by decide +kernel
theorem d_Hr_hasNumber_21 : decode b_Hr_hasNumber 21 = .ok (.iload_n 0, 1) := by decide +kernel
theorem d_Hr_hasNumber_22 : decode b_Hr_hasNumber 22 = .ok (.bipush 13, 2) := by decide +kernel
theorem d_Hr_hasNumber_24 : decode b_Hr_hasNumber 24 = .ok (.if_icmp .ne 7, 3) := by decide +kernel
theorem d_Hr_hasNumber_27 : decode b_Hr_hasNumber 27 = .ok (.iconst 1, 1) := by decide +kernel
theorem d_Hr_hasNumber_28 : decode b_Hr_hasNumber 28 = .ok (.goto 4, 3) := by decide +kernel
theorem d_Hr_hasNumber_31 : decode b_Hr_hasNumber 31 = .ok (.iconst 0, 1) := by decide +kernel
theorem d_Hr_hasNumber_32 : decode b_Hr_hasNumber 32 = .ok (.ireturn, 1) := by decide +kernel
theorem d_Hr_takesTwo_0 : decode b_Hr_takesTwo 0 = .ok (.iload_n 0, 1) := by decide +kernel
theorem d_Hr_takesTwo_1 : decode b_Hr_takesTwo 1 = .ok (.iconst 2, 1) := by decide +kernel
theorem d_Hr_takesTwo_2 : decode b_Hr_takesTwo 2 = .ok (.if_icmp .lt 13, 3) := by decide +kernel
theorem d_Hr_takesTwo_5 : decode b_Hr_takesTwo 5 = .ok (.iload_n 0, 1) := by decide +kernel
theorem d_Hr_takesTwo_6 : decode b_Hr_takesTwo 6 = .ok (.bipush 7, 2) := by decide +kernel
theorem d_Hr_takesTwo_8 : decode b_Hr_takesTwo 8 = .ok (.if_icmp .gt 7, 3) := by decide +kernel
theorem d_Hr_takesTwo_11 : decode b_Hr_takesTwo 11 = .ok (.iconst 1, 1) := by decide +kernel
theorem d_Hr_takesTwo_12 : decode b_Hr_takesTwo 12 = .ok (.goto 4, 3) := by decide +kernel
theorem d_Hr_takesTwo_15 : decode b_Hr_takesTwo 15 = .ok (.iconst 0, 1) := by decide +kernel
theorem d_Hr_takesTwo_16 : decode b_Hr_takesTwo 16 = .ok (.ireturn, 1) := by decide +kernel
theorem d_Hr_takes_0 : decode b_Hr_takes 0 = .ok (.iload_n 0, 1) := by decide +kernel
theorem d_Hr_takes_1 : decode b_Hr_takes 1 = .ok (.invokestatic 240, 3) := by decide +kernel
theorem d_Hr_takes_4 : decode b_Hr_takes 4 = .ok (.ifCond .eq 5, 3) := by decide +kernel
theorem d_Hr_takes_7 : decode b_Hr_takes 7 = .ok (.iconst 2, 1) := by decide +kernel
theorem d_Hr_takes_8 : decode b_Hr_takes 8 = .ok (.ireturn, 1) := by decide +kernel
theorem d_Hr_takes_9 : decode b_Hr_takes 9 = .ok (.iload_n 0, 1) := by decide +kernel
theorem d_Hr_takes_10 : decode b_Hr_takes 10 = .ok (.bipush 8, 2) := by decide +kernel
theorem d_Hr_takes_12 : decode b_Hr_takes 12 = .ok (.if_icmp .lt 9, 3) := by decide +kernel
theorem d_Hr_takes_15 : decode b_Hr_takes 15 = .ok (.iload_n 0, 1) := by decide +kernel
theorem d_Hr_takes_16 : decode b_Hr_takes 16 = .ok (.bipush 11, 2) := by decide +kernel
theorem d_Hr_takes_18 : decode b_Hr_takes 18 = .ok (.if_icmp .le 9, 3) := by decide +kernel
theorem d_Hr_takes_21 : decode b_Hr_takes 21 = .ok (.iload_n 0, 1) := by decide +kernel
theorem d_Hr_takes_22 : decode b_Hr_takes 22 = .ok (.bipush 14, 2) := by decide +kernel
theorem d_Hr_takes_24 : decode b_Hr_takes 24 = .ok (.if_icmp .ne 7, 3) := by decide +kernel
theorem d_Hr_takes_27 : decode b_Hr_takes 27 = .ok (.iconst 1, 1) := by decide +kernel
theorem d_Hr_takes_28 : decode b_Hr_takes 28 = .ok (.goto 4, 3) := by decide +kernel
theorem d_Hr_takes_31 : decode b_Hr_takes 31 = .ok (.iconst 0, 1) := by decide +kernel
theorem d_Hr_takes_32 : decode b_Hr_takes 32 = .ok (.ireturn, 1) := by decide +kernel
theorem d_Hr_puts_0 : decode b_Hr_puts 0 = .ok (.iload_n 0, 1) := by decide +kernel
theorem d_Hr_puts_1 : decode b_Hr_puts 1 = .ok (.bipush 9, 2) := by decide +kernel
theorem d_Hr_puts_3 : decode b_Hr_puts 3 = .ok (.if_icmp .lt 9, 3) := by decide +kernel
theorem d_Hr_puts_6 : decode b_Hr_puts 6 = .ok (.iload_n 0, 1) := by decide +kernel
theorem d_Hr_puts_7 : decode b_Hr_puts 7 = .ok (.bipush 11, 2) := by decide +kernel
theorem d_Hr_puts_9 : decode b_Hr_puts 9 = .ok (.if_icmp .le 9, 3) := by decide +kernel
theorem d_Hr_puts_12 : decode b_Hr_puts 12 = .ok (.iload_n 0, 1) := by decide +kernel
theorem d_Hr_puts_13 : decode b_Hr_puts 13 = .ok (.bipush 15, 2) := by decide +kernel
theorem d_Hr_puts_15 : decode b_Hr_puts 15 = .ok (.if_icmp .ne 7, 3) := by decide +kernel
theorem d_Hr_puts_18 : decode b_Hr_puts 18 = .ok (.iconst 0, 1) := by decide +kernel
theorem d_Hr_puts_19 : decode b_Hr_puts 19 = .ok (.goto 4, 3) := by decide +kernel
theorem d_Hr_puts_22 : decode b_Hr_puts 22 = .ok (.iconst 1, 1) := by decide +kernel
theorem d_Hr_puts_23 : decode b_Hr_puts 23 = .ok (.ireturn, 1) := by decide +kernel
theorem d_Hr_combine_0 : decode b_Hr_combine 0 = .ok (.iload_n 0, 1) := by decide +kernel
theorem d_Hr_combine_1 : decode b_Hr_combine 1 = .ok (.tableswitch 73 2 6 #[35, 39, 43, 47, 61], 35) := by decide +kernel
theorem d_Hr_combine_36 : decode b_Hr_combine 36 = .ok (.lload_n 1, 1) := by decide +kernel
theorem d_Hr_combine_37 : decode b_Hr_combine 37 = .ok (.lload_n 3, 1) := by decide +kernel
theorem d_Hr_combine_38 : decode b_Hr_combine 38 = .ok (.ladd, 1) := by decide +kernel
theorem d_Hr_combine_39 : decode b_Hr_combine 39 = .ok (.lreturn, 1) := by decide +kernel
theorem d_Hr_combine_40 : decode b_Hr_combine 40 = .ok (.lload_n 1, 1) := by decide +kernel
theorem d_Hr_combine_41 : decode b_Hr_combine 41 = .ok (.lload_n 3, 1) := by decide +kernel
theorem d_Hr_combine_42 : decode b_Hr_combine 42 = .ok (.lsub, 1) := by decide +kernel
theorem d_Hr_combine_43 : decode b_Hr_combine 43 = .ok (.lreturn, 1) := by decide +kernel
theorem d_Hr_combine_44 : decode b_Hr_combine 44 = .ok (.lload_n 1, 1) := by decide +kernel
theorem d_Hr_combine_45 : decode b_Hr_combine 45 = .ok (.lload_n 3, 1) := by decide +kernel
theorem d_Hr_combine_46 : decode b_Hr_combine 46 = .ok (.lmul, 1) := by decide +kernel
theorem d_Hr_combine_47 : decode b_Hr_combine 47 = .ok (.lreturn, 1) := by decide +kernel
theorem d_Hr_combine_48 : decode b_Hr_combine 48 = .ok (.lload_n 3, 1) := by decide +kernel
theorem d_Hr_combine_49 : decode b_Hr_combine 49 = .ok (.lconst 0, 1) := by decide +kernel
theorem d_Hr_combine_50 : decode b_Hr_combine 50 = .ok (.lcmp, 1) := by decide +kernel
theorem d_Hr_combine_51 : decode b_Hr_combine 51 = .ok (.ifCond .ne 7, 3) := by decide +kernel
theorem d_Hr_combine_54 : decode b_Hr_combine 54 = .ok (.lconst 0, 1) := by decide +kernel
theorem d_Hr_combine_55 : decode b_Hr_combine 55 = .ok (.goto 6, 3) := by decide +kernel
theorem d_Hr_combine_58 : decode b_Hr_combine 58 = .ok (.lload_n 1, 1) := by decide +kernel
theorem d_Hr_combine_59 : decode b_Hr_combine 59 = .ok (.lload_n 3, 1) := by decide +kernel
theorem d_Hr_combine_60 : decode b_Hr_combine 60 = .ok (.ldiv, 1) := by decide +kernel
theorem d_Hr_combine_61 : decode b_Hr_combine 61 = .ok (.lreturn, 1) := by decide +kernel
theorem d_Hr_combine_62 : decode b_Hr_combine 62 = .ok (.lload_n 1, 1) := by decide +kernel
theorem d_Hr_combine_63 : decode b_Hr_combine 63 = .ok (.lload_n 3, 1) := by decide +kernel
theorem d_Hr_combine_64 : decode b_Hr_combine 64 = .ok (.lcmp, 1) := by decide +kernel
theorem d_Hr_combine_65 : decode b_Hr_combine 65 = .ok (.ifCond .ge 7, 3) := by decide +kernel
theorem d_Hr_combine_68 : decode b_Hr_combine 68 = .ok (.lconst 1, 1) := by decide +kernel
theorem d_Hr_combine_69 : decode b_Hr_combine 69 = .ok (.goto 4, 3) := by decide +kernel
theorem d_Hr_combine_72 : decode b_Hr_combine 72 = .ok (.lconst 0, 1) := by decide +kernel
theorem d_Hr_combine_73 : decode b_Hr_combine 73 = .ok (.lreturn, 1) := by decide +kernel
theorem d_Hr_combine_74 : decode b_Hr_combine 74 = .ok (.lload_n 1, 1) := by decide +kernel
theorem d_Hr_combine_75 : decode b_Hr_combine 75 = .ok (.lload_n 3, 1) := by decide +kernel
theorem d_Hr_combine_76 : decode b_Hr_combine 76 = .ok (.lcmp, 1) := by decide +kernel
theorem d_Hr_combine_77 : decode b_Hr_combine 77 = .ok (.ifCond .ne 7, 3) := by decide +kernel
theorem d_Hr_combine_80 : decode b_Hr_combine 80 = .ok (.lconst 1, 1) := by decide +kernel
theorem d_Hr_combine_81 : decode b_Hr_combine 81 = .ok (.goto 4, 3) := by decide +kernel
theorem d_Hr_combine_84 : decode b_Hr_combine 84 = .ok (.lconst 0, 1) := by decide +kernel
theorem d_Hr_combine_85 : decode b_Hr_combine 85 = .ok (.lreturn, 1) := by decide +kernel
theorem d_Ma_maxI_0 : decode b_Ma_maxI 0 = .ok (.iload_n 0, 1) := by decide +kernel
theorem d_Ma_maxI_1 : decode b_Ma_maxI 1 = .ok (.iload_n 1, 1) := by decide +kernel
theorem d_Ma_maxI_2 : decode b_Ma_maxI 2 = .ok (.if_icmp .lt 7, 3) := by decide +kernel
theorem d_Ma_maxI_5 : decode b_Ma_maxI 5 = .ok (.iload_n 0, 1) := by decide +kernel
theorem d_Ma_maxI_6 : decode b_Ma_maxI 6 = .ok (.goto 4, 3) := by decide +kernel
theorem d_Ma_maxI_9 : decode b_Ma_maxI 9 = .ok (.iload_n 1, 1) := by decide +kernel
theorem d_Ma_maxI_10 : decode b_Ma_maxI 10 = .ok (.ireturn, 1) := by decide +kernel
theorem d_Ma_maxJ_0 : decode b_Ma_maxJ 0 = .ok (.lload_n 0, 1) := by decide +kernel
theorem d_Ma_maxJ_1 : decode b_Ma_maxJ 1 = .ok (.lload_n 2, 1) := by decide +kernel
theorem d_Ma_maxJ_2 : decode b_Ma_maxJ 2 = .ok (.lcmp, 1) := by decide +kernel
theorem d_Ma_maxJ_3 : decode b_Ma_maxJ 3 = .ok (.ifCond .lt 7, 3) := by decide +kernel
theorem d_Ma_maxJ_6 : decode b_Ma_maxJ 6 = .ok (.lload_n 0, 1) := by decide +kernel
theorem d_Ma_maxJ_7 : decode b_Ma_maxJ 7 = .ok (.goto 4, 3) := by decide +kernel
theorem d_Ma_maxJ_10 : decode b_Ma_maxJ 10 = .ok (.lload_n 2, 1) := by decide +kernel
theorem d_Ma_maxJ_11 : decode b_Ma_maxJ 11 = .ok (.lreturn, 1) := by decide +kernel
theorem d_Ma_minI_0 : decode b_Ma_minI 0 = .ok (.iload_n 0, 1) := by decide +kernel
theorem d_Ma_minI_1 : decode b_Ma_minI 1 = .ok (.iload_n 1, 1) := by decide +kernel
theorem d_Ma_minI_2 : decode b_Ma_minI 2 = .ok (.if_icmp .gt 7, 3) := by decide +kernel
theorem d_Ma_minI_5 : decode b_Ma_minI 5 = .ok (.iload_n 0, 1) := by decide +kernel
theorem d_Ma_minI_6 : decode b_Ma_minI 6 = .ok (.goto 4, 3) := by decide +kernel
theorem d_Ma_minI_9 : decode b_Ma_minI 9 = .ok (.iload_n 1, 1) := by decide +kernel
theorem d_Ma_minI_10 : decode b_Ma_minI 10 = .ok (.ireturn, 1) := by decide +kernel
theorem d_Ma_minJ_0 : decode b_Ma_minJ 0 = .ok (.lload_n 0, 1) := by decide +kernel
theorem d_Ma_minJ_1 : decode b_Ma_minJ 1 = .ok (.lload_n 2, 1) := by decide +kernel
theorem d_Ma_minJ_2 : decode b_Ma_minJ 2 = .ok (.lcmp, 1) := by decide +kernel
theorem d_Ma_minJ_3 : decode b_Ma_minJ 3 = .ok (.ifCond .gt 7, 3) := by decide +kernel
theorem d_Ma_minJ_6 : decode b_Ma_minJ 6 = .ok (.lload_n 0, 1) := by decide +kernel
theorem d_Ma_minJ_7 : decode b_Ma_minJ 7 = .ok (.goto 4, 3) := by decide +kernel
theorem d_Ma_minJ_10 : decode b_Ma_minJ 10 = .ok (.lload_n 2, 1) := by decide +kernel
theorem d_Ma_minJ_11 : decode b_Ma_minJ 11 = .ok (.lreturn, 1) := by decide +kernel
