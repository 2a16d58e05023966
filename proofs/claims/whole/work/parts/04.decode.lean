theorem d_Mo_keepHandle_55 : decode b_Mo_keepHandle 55 = .ok (.getfield 145, 3) := by decide +kernel
theorem d_Mo_keepHandle_58 : decode b_Mo_keepHandle 58 = .ok (.iconst 1, 1) := by decide +kernel
theorem d_Mo_keepHandle_59 : decode b_Mo_keepHandle 59 = .ok (.iadd, 1) := by decide +kernel
theorem d_Mo_keepHandle_60 : decode b_Mo_keepHandle 60 = .ok (.putfield 145, 3) := by decide +kernel
theorem d_Mo_keepHandle_63 : decode b_Mo_keepHandle 63 = .ok (.return_, 1) := by decide +kernel
theorem d_Mo_doAll_0 : decode b_Mo_doAll 0 = .ok (.aload_n 0, 1) := by decide +kernel
theorem d_Mo_doAll_1 : decode b_Mo_doAll 1 = .ok (.iconst 0, 1) := by decide +kernel
theorem d_Mo_doAll_2 : decode b_Mo_doAll 2 = .ok (.putfield 119, 3) := by decide +kernel
theorem d_Mo_doAll_5 : decode b_Mo_doAll 5 = .ok (.aload_n 0, 1) := by decide +kernel
theorem d_Mo_doAll_6 : decode b_Mo_doAll 6 = .ok (.iconst 0, 1) := by decide +kernel
theorem d_Mo_doAll_7 : decode b_Mo_doAll 7 = .ok (.putfield 148, 3) := by decide +kernel
theorem d_Mo_doAll_10 : decode b_Mo_doAll 10 = .ok (.aload_n 0, 1) := by decide +kernel
theorem d_Mo_doAll_11 : decode b_Mo_doAll 11 = .ok (.iconst 0, 1) := by decide +kernel
theorem d_Mo_doAll_12 : decode b_Mo_doAll 12 = .ok (.putfield 122, 3) := by decide +kernel
theorem d_Mo_doAll_15 : decode b_Mo_doAll 15 = .ok (.aload_n 0, 1) := by decide +kernel
theorem d_Mo_doAll_16 : decode b_Mo_doAll 16 = .ok (.aload_n 0, 1) := by decide +kernel
theorem d_Mo_doAll_17 : decode b_Mo_doAll 17 = .ok (.getfield 26, 3) := by decide +kernel
theorem d_Mo_doAll_20 : decode b_Mo_doAll 20 = .ok (.iload_n 1, 1) := by decide +kernel
theorem d_Mo_doAll_21 : decode b_Mo_doAll 21 = .ok (.laload, 1) := by decide +kernel
theorem d_Mo_doAll_22 : decode b_Mo_doAll 22 = .ok (.putfield 137, 3) := by decide +kernel
theorem d_Mo_doAll_25 : decode b_Mo_doAll 25 = .ok (.iconst 0, 1) := by decide +kernel
theorem d_Mo_doAll_26 : decode b_Mo_doAll 26 = .ok (.istore_n 2, 1) := by decide +kernel
theorem d_Mo_doAll_27 : decode b_Mo_doAll 27 = .ok (.iload_n 2, 1) := by decide +kernel
theorem d_Mo_doAll_28 : decode b_Mo_doAll 28 = .ok (.iconst 4, 1) := by decide +kernel
theorem d_Mo_doAll_29 : decode b_Mo_doAll 29 = .ok (.if_icmp .ge 16, 3) := by decide +kernel
theorem d_Mo_doAll_32 : decode b_Mo_doAll 32 = .ok (.aload_n 0, 1) := by decide +kernel
theorem d_Mo_doAll_33 : decode b_Mo_doAll 33 = .ok (.getfield 75, 3) := by decide +kernel
theorem d_Mo_doAll_36 : decode b_Mo_doAll 36 = .ok (.iload_n 2, 1) := by decide +kernel
theorem d_Mo_doAll_37 : decode b_Mo_doAll 37 = .ok (.iconst 0, 1) := by decide +kernel
theorem d_Mo_doAll_38 : decode b_Mo_doAll 38 = .ok (.bastore, 1) := by decide +kernel
theorem d_Mo_doAll_39 : decode b_Mo_doAll 39 = .ok (.iinc 2 1, 3) := by decide +kernel
theorem d_Mo_doAll_42 : decode b_Mo_doAll 42 = .ok (.goto (-15), 3) := by decide +kernel
theorem d_Mo_doAll_45 : decode b_Mo_doAll 45 = .ok (.iconst 0, 1) := by decide +kernel
theorem d_Mo_doAll_46 : decode b_Mo_doAll 46 = .ok (.istore_n 2, 1) := by decide +kernel
theorem d_Mo_doAll_47 : decode b_Mo_doAll 47 = .ok (.aload_n 0, 1) := by decide +kernel
theorem d_Mo_doAll_48 : decode b_Mo_doAll 48 = .ok (.getfield 122, 3) := by decide +kernel
theorem d_Mo_doAll_51 : decode b_Mo_doAll 51 = .ok (.ifCond .ne 52, 3) := by decide +kernel
theorem d_Mo_doAll_54 : decode b_Mo_doAll 54 = .ok (.iload_n 2, 1) := by decide +kernel
theorem d_Mo_doAll_55 : decode b_Mo_doAll 55 = .ok (.aload_n 0, 1) := by decide +kernel
theorem d_Mo_doAll_56 : decode b_Mo_doAll 56 = .ok (.getfield 16, 3) := by decide +kernel
theorem d_Mo_doAll_59 : decode b_Mo_doAll 59 = .ok (.iload_n 1, 1) := by decide +kernel
theorem d_Mo_doAll_60 : decode b_Mo_doAll 60 = .ok (.iaload, 1) := by decide +kernel
theorem d_Mo_doAll_61 : decode b_Mo_doAll 61 = .ok (.if_icmp .ge 42, 3) := by decide +kernel
theorem d_Mo_doAll_64 : decode b_Mo_doAll 64 = .ok (.aload_n 0, 1) := by decide +kernel
theorem d_Mo_doAll_65 : decode b_Mo_doAll 65 = .ok (.getfield 148, 3) := by decide +kernel
theorem d_Mo_doAll_68 : decode b_Mo_doAll 68 = .ok (.aload_n 0, 1) := by decide +kernel
theorem d_Mo_doAll_69 : decode b_Mo_doAll 69 = .ok (.getfield 78, 3) := by decide +kernel
theorem d_Mo_doAll_72 : decode b_Mo_doAll 72 = .ok (.if_icmp .ne 11, 3) := by decide +kernel
theorem d_Mo_doAll_75 : decode b_Mo_doAll 75 = .ok (.aload_n 0, 1) := by decide +kernel
theorem d_Mo_doAll_76 : decode b_Mo_doAll 76 = .ok (.iconst 1, 1) := by decide +kernel
theorem d_Mo_doAll_77 : decode b_Mo_doAll 77 = .ok (.putfield 122, 3) := by decide +kernel
theorem d_Mo_doAll_80 : decode b_Mo_doAll 80 = .ok (.goto (-33), 3) := by decide +kernel
theorem d_Mo_doAll_83 : decode b_Mo_doAll 83 = .ok (.aload_n 0, 1) := by decide +kernel
theorem d_Mo_doAll_84 : decode b_Mo_doAll 84 = .ok (.dup, 1) := by decide +kernel
theorem d_Mo_doAll_85 : decode b_Mo_doAll 85 = .ok (.getfield 148, 3) := by decide +kernel
theorem d_Mo_doAll_88 : decode b_Mo_doAll 88 = .ok (.iconst 1, 1) := by decide +kernel
theorem d_Mo_doAll_89 : decode b_Mo_doAll 89 = .ok (.iadd, 1) := by decide +kernel
theorem d_Mo_doAll_90 : decode b_Mo_doAll 90 = .ok (.putfield 148, 3) := by decide +kernel
theorem d_Mo_doAll_93 : decode b_Mo_doAll 93 = .ok (.aload_n 0, 1) := by decide +kernel
theorem d_Mo_doAll_94 : decode b_Mo_doAll 94 = .ok (.iload_n 1, 1) := by decide +kernel
theorem d_Mo_doAll_95 : decode b_Mo_doAll 95 = .ok (.iload_n 2, 1) := by decide +kernel
theorem d_Mo_doAll_96 : decode b_Mo_doAll 96 = .ok (.invokevirtual 151, 3) := by decide +kernel
theorem d_Mo_doAll_99 : decode b_Mo_doAll 99 = .ok (.istore_n 2, 1) := by decide +kernel
theorem d_Mo_doAll_100 : decode b_Mo_doAll 100 = .ok (.goto (-53), 3) := by decide +kernel
theorem d_Mo_doAll_103 : decode b_Mo_doAll 103 = .ok (.aload_n 0, 1) := by decide +kernel
theorem d_Mo_doAll_104 : decode b_Mo_doAll 104 = .ok (.getfield 122, 3) := by decide +kernel
theorem d_Mo_doAll_107 : decode b_Mo_doAll 107 = .ok (.ifCond .le 36, 3) := by decide +kernel
theorem d_Mo_doAll_110 : decode b_Mo_doAll 110 = .ok (.aload_n 0, 1) := by decide +kernel
theorem d_Mo_doAll_111 : decode b_Mo_doAll 111 = .ok (.getfield 57, 3) := by decide +kernel
theorem d_Mo_doAll_114 : decode b_Mo_doAll 114 = .ok (.aload_n 0, 1) := by decide +kernel
theorem d_Mo_doAll_115 : decode b_Mo_doAll 115 = .ok (.getfield 155, 3) := by decide +kernel
theorem d_Mo_doAll_118 : decode b_Mo_doAll 118 = .ok (.iload_n 1, 1) := by decide +kernel
theorem d_Mo_doAll_119 : decode b_Mo_doAll 119 = .ok (.iastore, 1) := by decide +kernel
theorem d_Mo_doAll_120 : decode b_Mo_doAll 120 = .ok (.aload_n 0, 1) := by decide +kernel
theorem d_Mo_doAll_121 : decode b_Mo_doAll 121 = .ok (.getfield 60, 3) := by decide +kernel
theorem d_Mo_doAll_124 : decode b_Mo_doAll 124 = .ok (.aload_n 0, 1) := by decide +kernel
theorem d_Mo_doAll_125 : decode b_Mo_doAll 125 = .ok (.getfield 155, 3) := by decide +kernel
theorem d_Mo_doAll_128 : decode b_Mo_doAll 128 = .ok (.aload_n 0, 1) := by decide +kernel
theorem d_Mo_doAll_129 : decode b_Mo_doAll 129 = .ok (.getfield 122, 3) := by decide +kernel
theorem d_Mo_doAll_132 : decode b_Mo_doAll 132 = .ok (.iastore, 1) := by decide +kernel
theorem d_Mo_doAll_133 : decode b_Mo_doAll 133 = .ok (.aload_n 0, 1) := by decide +kernel
theorem d_Mo_doAll_134 : decode b_Mo_doAll 134 = .ok (.dup, 1) := by decide +kernel
theorem d_Mo_doAll_135 : decode b_Mo_doAll 135 = .ok (.getfield 155, 3) := by decide +kernel
theorem d_Mo_doAll_138 : decode b_Mo_doAll 138 = .ok (.iconst 1, 1) := by decide +kernel
theorem d_Mo_doAll_139 : decode b_Mo_doAll 139 = .ok (.iadd, 1) := by decide +kernel
theorem d_Mo_doAll_140 : decode b_Mo_doAll 140 = .ok (.putfield 155, 3) := by decide +kernel
theorem d_Mo_doAll_143 : decode b_Mo_doAll 143 = .ok (.return_, 1) := by decide +kernel
theorem d_Mo_behind_0 : decode b_Mo_behind 0 = .ok (.iconst (-1), 1) := by decide +kernel
theorem d_Mo_behind_1 : decode b_Mo_behind 1 = .ok (.istore_n 3, 1) := by decide +kernel
theorem d_Mo_behind_2 : decode b_Mo_behind 2 = .ok (.iconst 0, 1) := by decide +kernel
theorem d_Mo_behind_3 : decode b_Mo_behind 3 = .ok (.istore 4, 2) := by decide +kernel
theorem d_Mo_behind_5 : decode b_Mo_behind 5 = .ok (.iload 4, 2) := by decide +kernel
theorem d_Mo_behind_7 : decode b_Mo_behind 7 = .ok (.aload_n 0, 1) := by decide +kernel
theorem d_Mo_behind_8 : decode b_Mo_behind 8 = .ok (.getfield 85, 3) := by decide +kernel
theorem d_Mo_behind_11 : decode b_Mo_behind 11 = .ok (.if_icmp .ge 99, 3) := by decide +kernel
theorem d_Mo_behind_14 : decode b_Mo_behind 14 = .ok (.iload_n 2, 1) := by decide +kernel
theorem d_Mo_behind_15 : decode b_Mo_behind 15 = .ok (.iconst (-1), 1) := by decide +kernel
theorem d_Mo_behind_16 : decode b_Mo_behind 16 = .ok (.if_icmp .eq 41, 3) := by decide +kernel
theorem d_Mo_behind_19 : decode b_Mo_behind 19 = .ok (.aload_n 0, 1) := by decide +kernel
theorem d_Mo_behind_20 : decode b_Mo_behind 20 = .ok (.getfield 13, 3) := by decide +kernel
theorem d_Mo_behind_23 : decode b_Mo_behind 23 = .ok (.iload 4, 2) := by decide +kernel
theorem d_Mo_behind_25 : decode b_Mo_behind 25 = .ok (.iaload, 1) := by decide +kernel
theorem d_Mo_behind_26 : decode b_Mo_behind 26 = .ok (.aload_n 0, 1) := by decide +kernel
theorem d_Mo_behind_27 : decode b_Mo_behind 27 = .ok (.getfield 13, 3) := by decide +kernel
theorem d_Mo_behind_30 : decode b_Mo_behind 30 = .ok (.iload_n 2, 1) := by decide +kernel
theorem d_Mo_behind_31 : decode b_Mo_behind 31 = .ok (.iaload, 1) := by decide +kernel
theorem d_Mo_behind_32 : decode b_Mo_behind 32 = .ok (.if_icmp .gt 25, 3) := by decide +kernel
theorem d_Mo_behind_35 : decode b_Mo_behind 35 = .ok (.aload_n 0, 1) := by decide +kernel
theorem d_Mo_behind_36 : decode b_Mo_behind 36 = .ok (.getfield 13, 3) := by decide +kernel
theorem d_Mo_behind_39 : decode b_Mo_behind 39 = .ok (.iload 4, 2) := by decide +kernel
theorem d_Mo_behind_41 : decode b_Mo_behind 41 = .ok (.iaload, 1) := by decide +kernel
theorem d_Mo_behind_42 : decode b_Mo_behind 42 = .ok (.aload_n 0, 1) := by decide +kernel
theorem d_Mo_behind_43 : decode b_Mo_behind 43 = .ok (.getfield 13, 3) := by decide +kernel
theorem d_Mo_behind_46 : decode b_Mo_behind 46 = .ok (.iload_n 2, 1) := by decide +kernel
theorem d_Mo_behind_47 : decode b_Mo_behind 47 = .ok (.iaload, 1) := by decide +kernel
theorem d_Mo_behind_48 : decode b_Mo_behind 48 = .ok (.if_icmp .ne 13, 3) := by decide +kernel
theorem d_Mo_behind_51 : decode b_Mo_behind 51 = .ok (.iload 4, 2) := by decide +kernel
theorem d_Mo_behind_53 : decode b_Mo_behind 53 = .ok (.iload_n 2, 1) := by decide +kernel
theorem d_Mo_behind_54 : decode b_Mo_behind 54 = .ok (.if_icmp .le 7, 3) := by decide +kernel
theorem d_Mo_behind_57 : decode b_Mo_behind 57 = .ok (.iconst 1, 1) := by decide +kernel
theorem d_Mo_behind_58 : decode b_Mo_behind 58 = .ok (.goto 4, 3) := by decide +kernel
theorem d_Mo_behind_61 : decode b_Mo_behind 61 = .ok (.iconst 0, 1) := by decide +kernel
theorem d_Mo_behind_62 : decode b_Mo_behind 62 = .ok (.istore 5, 2) := by decide +kernel
theorem d_Mo_behind_64 : decode b_Mo_behind 64 = .ok (.aload_n 0, 1) := by decide +kernel
theorem d_Mo_behind_65 : decode b_Mo_behind 65 = .ok (.getfield 7, 3) := by decide +kernel
theorem d_Mo_behind_68 : decode b_Mo_behind 68 = .ok (.iload 4, 2) := by decide +kernel
theorem d_Mo_behind_70 : decode b_Mo_behind 70 = .ok (.iaload, 1) := by decide +kernel
theorem d_Mo_behind_71 : decode b_Mo_behind 71 = .ok (.iload_n 1, 1) := by decide +kernel
theorem d_Mo_behind_72 : decode b_Mo_behind 72 = .ok (.if_icmp .ne 32, 3) := by decide +kernel
theorem d_Mo_behind_75 : decode b_Mo_behind 75 = .ok (.iload 5, 2) := by decide +kernel
theorem d_Mo_behind_77 : decode b_Mo_behind 77 = .ok (.ifCond .eq 27, 3) := by decide +kernel
theorem d_Mo_behind_80 : decode b_Mo_behind 80 = .ok (.iload_n 3, 1) := by decide +kernel
theorem d_Mo_behind_81 : decode b_Mo_behind 81 = .ok (.iconst (-1), 1) := by decide +kernel
theorem d_Mo_behind_82 : decode b_Mo_behind 82 = .ok (.if_icmp .eq 19, 3) := by decide +kernel
theorem d_Mo_behind_85 : decode b_Mo_behind 85 = .ok (.aload_n 0, 1) := by decide +kernel
theorem d_Mo_behind_86 : decode b_Mo_behind 86 = .ok (.getfield 13, 3) := by decide +kernel
theorem d_Mo_behind_89 : decode b_Mo_behind 89 = .ok (.iload 4, 2) := by decide +kernel
theorem d_Mo_behind_91 : decode b_Mo_behind 91 = .ok (.iaload, 1) := by decide +kernel
theorem d_Mo_behind_92 : decode b_Mo_behind 92 = .ok (.aload_n 0, 1) := by decide +kernel
theorem d_Mo_behind_93 : decode b_Mo_behind 93 = .ok (.getfield 13, 3) := by decide +kernel
theorem d_Mo_behind_96 : decode b_Mo_behind 96 = .ok (.iload_n 3, 1) := by decide +kernel
theorem d_Mo_behind_97 : decode b_Mo_behind 97 = .ok (.iaload, 1) := by decide +kernel
theorem d_Mo_behind_98 : decode b_Mo_behind 98 = .ok (.if_icmp .ge 6, 3) := by decide +kernel
theorem d_Mo_behind_101 : decode b_Mo_behind 101 = .ok (.iload 4, 2) := by decide +kernel
theorem d_Mo_behind_103 : decode b_Mo_behind 103 = .ok (.istore_n 3, 1) := by decide +kernel
theorem d_Mo_behind_104 : decode b_Mo_behind 104 = .ok (.iinc 4 1, 3) := by decide +kernel
theorem d_Mo_behind_107 : decode b_Mo_behind 107 = .ok (.goto (-102), 3) := by decide +kernel
theorem d_Mo_behind_110 : decode b_Mo_behind 110 = .ok (.iload_n 3, 1) := by decide +kernel
theorem d_Mo_behind_111 : decode b_Mo_behind 111 = .ok (.ireturn, 1) := by decide +kernel
theorem d_Mo_test_0 : decode b_Mo_test 0 = .ok (.aload_n 0, 1) := by decide +kernel
theorem d_Mo_test_1 : decode b_Mo_test 1 = .ok (.iconst 0, 1) := by decide +kernel
theorem d_Mo_test_2 : decode b_Mo_test 2 = .ok (.putfield 82, 3) := by decide +kernel
theorem d_Mo_test_5 : decode b_Mo_test 5 = .ok (.iload_n 1, 1) := by decide +kernel
theorem d_Mo_test_6 : decode b_Mo_test 6 = .ok (.invokestatic 94, 3) := by decide +kernel
theorem d_Mo_test_9 : decode b_Mo_test 9 = .ok (.ifCond .ne 6, 3) := by decide +kernel
theorem d_Mo_test_12 : decode b_Mo_test 12 = .ok (.bipush (-102), 2) := by decide +kernel
theorem d_Mo_test_14 : decode b_Mo_test 14 = .ok (.ireturn, 1) := by decide +kernel
theorem d_Mo_test_15 : decode b_Mo_test 15 = .ok (.aload_n 0, 1) := by decide +kernel
theorem d_Mo_test_16 : decode b_Mo_test 16 = .ok (.getfield 42, 3) := by decide +kernel
theorem d_Mo_test_19 : decode b_Mo_test 19 = .ok (.iload_n 1, 1) := by decide +kernel
theorem d_Mo_test_20 : decode b_Mo_test 20 = .ok (.iaload, 1) := by decide +kernel
theorem d_Mo_test_21 : decode b_Mo_test 21 = .ok (.iconst 1, 1) := by decide +kernel
theorem d_Mo_test_22 : decode b_Mo_test 22 = .ok (.if_icmp .eq 6, 3) := by decide +kernel
theorem d_Mo_test_25 : decode b_Mo_test 25 = .ok (.bipush (-103), 2) := by decide +kernel
theorem d_Mo_test_27 : decode b_Mo_test 27 = .ok (.ireturn, 1) := by decide +kernel
theorem d_Mo_test_28 : decode b_Mo_test 28 = .ok (.aload_n 0, 1) := by decide +kernel
theorem d_Mo_test_29 : decode b_Mo_test 29 = .ok (.iconst 0, 1) := by decide +kernel
theorem d_Mo_test_30 : decode b_Mo_test 30 = .ok (.putfield 155, 3) := by decide +kernel
theorem d_Mo_test_33 : decode b_Mo_test 33 = .ok (.aload_n 0, 1) := by decide +kernel
theorem d_Mo_test_34 : decode b_Mo_test 34 = .ok (.iconst 0, 1) := by decide +kernel
theorem d_Mo_test_35 : decode b_Mo_test 35 = .ok (.putfield 145, 3) := by decide +kernel
theorem d_Mo_test_38 : decode b_Mo_test 38 = .ok (.iconst 0, 1) := by decide +kernel
theorem d_Mo_test_39 : decode b_Mo_test 39 = .ok (.istore_n 2, 1) := by decide +kernel
theorem d_Mo_test_40 : decode b_Mo_test 40 = .ok (.aload_n 0, 1) := by decide +kernel
theorem d_Mo_test_41 : decode b_Mo_test 41 = .ok (.iload_n 1, 1) := by decide +kernel
theorem d_Mo_test_42 : decode b_Mo_test 42 = .ok (.iconst (-1), 1) := by decide +kernel
theorem d_Mo_test_43 : decode b_Mo_test 43 = .ok (.invokevirtual 158, 3) := by decide +kernel
theorem d_Mo_test_46 : decode b_Mo_test 46 = .ok (.istore_n 3, 1) := by decide +kernel
theorem d_Mo_test_47 : decode b_Mo_test 47 = .ok (.iload_n 3, 1) := by decide +kernel
theorem d_Mo_test_48 : decode b_Mo_test 48 = .ok (.iconst (-1), 1) := by decide +kernel
theorem d_Mo_test_49 : decode b_Mo_test 49 = .ok (.if_icmp .eq 25, 3) := by decide +kernel
theorem d_Mo_test_52 : decode b_Mo_test 52 = .ok (.aload_n 0, 1) := by decide +kernel
theorem d_Mo_test_53 : decode b_Mo_test 53 = .ok (.iload_n 3, 1) := by decide +kernel
theorem d_Mo_test_54 : decode b_Mo_test 54 = .ok (.invokevirtual 161, 3) := by decide +kernel
theorem d_Mo_test_57 : decode b_Mo_test 57 = .ok (.iload_n 2, 1) := by decide +kernel
theorem d_Mo_test_58 : decode b_Mo_test 58 = .ok (.aload_n 0, 1) := by decide +kernel
theorem d_Mo_test_59 : decode b_Mo_test 59 = .ok (.getfield 148, 3) := by decide +kernel
theorem d_Mo_test_62 : decode b_Mo_test 62 = .ok (.iadd, 1) := by decide +kernel
theorem d_Mo_test_63 : decode b_Mo_test 63 = .ok (.istore_n 2, 1) := by decide +kernel
theorem d_Mo_test_64 : decode b_Mo_test 64 = .ok (.aload_n 0, 1) := by decide +kernel
theorem d_Mo_test_65 : decode b_Mo_test 65 = .ok (.iload_n 1, 1) := by decide +kernel
theorem d_Mo_test_66 : decode b_Mo_test 66 = .ok (.iload_n 3, 1) := by decide +kernel
theorem d_Mo_test_67 : decode b_Mo_test 67 = .ok (.invokevirtual 158, 3) := by decide +kernel
theorem d_Mo_test_70 : decode b_Mo_test 70 = .ok (.istore_n 3, 1) := by decide +kernel
theorem d_Mo_test_71 : decode b_Mo_test 71 = .ok (.goto (-24), 3) := by decide +kernel
theorem d_Mo_test_74 : decode b_Mo_test 74 = .ok (.aload_n 0, 1) := by decide +kernel
theorem d_Mo_test_75 : decode b_Mo_test 75 = .ok (.getfield 42, 3) := by decide +kernel
theorem d_Mo_test_78 : decode b_Mo_test 78 = .ok (.iload_n 1, 1) := by decide +kernel
theorem d_Mo_test_79 : decode b_Mo_test 79 = .ok (.aload_n 0, 1) := by decide +kernel
theorem d_Mo_test_80 : decode b_Mo_test 80 = .ok (.getfield 155, 3) := by decide +kernel
theorem d_Mo_test_83 : decode b_Mo_test 83 = .ok (.ifCond .le 7, 3) := by decide +kernel
theorem d_Mo_test_86 : decode b_Mo_test 86 = .ok (.iconst 3, 1) := by decide +kernel
theorem d_Mo_test_87 : decode b_Mo_test 87 = .ok (.goto 4, 3) := by decide +kernel
theorem d_Mo_test_90 : decode b_Mo_test 90 = .ok (.iconst 2, 1) := by decide +kernel
theorem d_Mo_test_91 : decode b_Mo_test 91 = .ok (.iastore, 1) := by decide +kernel
theorem d_Mo_test_92 : decode b_Mo_test 92 = .ok (.iload_n 2, 1) := by decide +kernel
theorem d_Mo_test_93 : decode b_Mo_test 93 = .ok (.ireturn, 1) := by decide +kernel
theorem d_Mo_day_0 : decode b_Mo_day 0 = .ok (.aload_n 0, 1) := by decide +kernel
theorem d_Mo_day_1 : decode b_Mo_day 1 = .ok (.iconst 0, 1) := by decide +kernel
theorem d_Mo_day_2 : decode b_Mo_day 2 = .ok (.putfield 82, 3) := by decide +kernel
theorem d_Mo_day_5 : decode b_Mo_day 5 = .ok (.iload_n 1, 1) := by decide +kernel
theorem d_Mo_day_6 : decode b_Mo_day 6 = .ok (.invokestatic 94, 3) := by decide +kernel
theorem d_Mo_day_9 : decode b_Mo_day 9 = .ok (.ifCond .eq 15, 3) := by decide +kernel
theorem d_Mo_day_12 : decode b_Mo_day 12 = .ok (.iload_n 2, 1) := by decide +kernel
theorem d_Mo_day_13 : decode b_Mo_day 13 = .ok (.i2l, 1) := by decide +kernel
theorem d_Mo_day_14 : decode b_Mo_day 14 = .ok (.lconst 0, 1) := by decide +kernel
theorem d_Mo_day_15 : decode b_Mo_day 15 = .ok (.ldc2_w 164, 3) := by decide +kernel
theorem d_Mo_day_18 : decode b_Mo_day 18 = .ok (.invokestatic 88, 3) := by decide +kernel
theorem d_Mo_day_21 : decode b_Mo_day 21 = .ok (.ifCond .ne 6, 3) := by decide +kernel
theorem d_Mo_day_24 : decode b_Mo_day 24 = .ok (.bipush (-102), 2) := by decide +kernel
theorem d_Mo_day_26 : decode b_Mo_day 26 = .ok (.ireturn, 1) := by decide +kernel
theorem d_Mo_day_27 : decode b_Mo_day 27 = .ok (.aload_n 0, 1) := by decide +kernel
theorem d_Mo_day_28 : decode b_Mo_day 28 = .ok (.getfield 42, 3) := by decide +kernel
theorem d_Mo_day_31 : decode b_Mo_day 31 = .ok (.iload_n 1, 1) := by decide +kernel
theorem d_Mo_day_32 : decode b_Mo_day 32 = .ok (.iaload, 1) := by decide +kernel
theorem d_Mo_day_33 : decode b_Mo_day 33 = .ok (.iconst 2, 1) := by decide +kernel
theorem d_Mo_day_34 : decode b_Mo_day 34 = .ok (.if_icmp .eq 6, 3) := by decide +kernel
theorem d_Mo_day_37 : decode b_Mo_day 37 = .ok (.bipush (-103), 2) := by decide +kernel
theorem d_Mo_day_39 : decode b_Mo_day 39 = .ok (.ireturn, 1) := by decide +kernel
theorem d_Mo_day_40 : decode b_Mo_day 40 = .ok (.aload_n 0, 1) := by decide +kernel
theorem d_Mo_day_41 : decode b_Mo_day 41 = .ok (.getfield 48, 3) := by decide +kernel
theorem d_Mo_day_44 : decode b_Mo_day 44 = .ok (.iload_n 1, 1) := by decide +kernel
theorem d_Mo_day_45 : decode b_Mo_day 45 = .ok (.iload_n 2, 1) := by decide +kernel
theorem d_Mo_day_46 : decode b_Mo_day 46 = .ok (.iastore, 1) := by decide +kernel
theorem d_Mo_day_47 : decode b_Mo_day 47 = .ok (.aload_n 0, 1) := by decide +kernel
theorem d_Mo_day_48 : decode b_Mo_day 48 = .ok (.dup, 1) := by decide +kernel
theorem d_Mo_day_49 : decode b_Mo_day 49 = .ok (.getfield 166, 3) := by decide +kernel
theorem d_Mo_day_52 : decode b_Mo_day 52 = .ok (.iconst 1, 1) := by decide +kernel
theorem d_Mo_day_53 : decode b_Mo_day 53 = .ok (.iadd, 1) := by decide +kernel
theorem d_Mo_day_54 : decode b_Mo_day 54 = .ok (.putfield 166, 3) := by decide +kernel
theorem d_Mo_day_57 : decode b_Mo_day 57 = .ok (.aload_n 0, 1) := by decide +kernel
theorem d_Mo_day_58 : decode b_Mo_day 58 = .ok (.getfield 51, 3) := by decide +kernel
theorem d_Mo_day_61 : decode b_Mo_day 61 = .ok (.iload_n 1, 1) := by decide +kernel
theorem d_Mo_day_62 : decode b_Mo_day 62 = .ok (.aload_n 0, 1) := by decide +kernel
theorem d_Mo_day_63 : decode b_Mo_day 63 = .ok (.getfield 166, 3) := by decide +kernel
theorem d_Mo_day_66 : decode b_Mo_day 66 = .ok (.iastore, 1) := by decide +kernel
theorem d_Mo_day_67 : decode b_Mo_day 67 = .ok (.iconst 1, 1) := by decide +kernel
theorem d_Mo_day_68 : decode b_Mo_day 68 = .ok (.ireturn, 1) := by decide +kernel
theorem d_Mo_give_0 : decode b_Mo_give 0 = .ok (.aload_n 0, 1) := by decide +kernel
theorem d_Mo_give_1 : decode b_Mo_give 1 = .ok (.getfield 66, 3) := by decide +kernel
theorem d_Mo_give_4 : decode b_Mo_give 4 = .ok (.iload_n 1, 1) := by decide +kernel
theorem d_Mo_give_5 : decode b_Mo_give 5 = .ok (.iaload, 1) := by decide +kernel
theorem d_Mo_give_6 : decode b_Mo_give 6 = .ok (.iconst (-1), 1) := by decide +kernel
theorem d_Mo_give_7 : decode b_Mo_give 7 = .ok (.if_icmp .ne 18, 3) := by decide +kernel
theorem d_Mo_give_10 : decode b_Mo_give 10 = .ok (.aload_n 0, 1) := by decide +kernel
theorem d_Mo_give_11 : decode b_Mo_give 11 = .ok (.getfield 63, 3) := by decide +kernel
theorem d_Mo_give_14 : decode b_Mo_give 14 = .ok (.iload_n 1, 1) := by decide +kernel
theorem d_Mo_give_15 : decode b_Mo_give 15 = .ok (.lload_n 2, 1) := by decide +kernel
theorem d_Mo_give_16 : decode b_Mo_give 16 = .ok (.lastore, 1) := by decide +kernel
theorem d_Mo_give_17 : decode b_Mo_give 17 = .ok (.aload_n 0, 1) := by decide +kernel
theorem d_Mo_give_18 : decode b_Mo_give 18 = .ok (.getfield 66, 3) := by decide +kernel
theorem d_Mo_give_21 : decode b_Mo_give 21 = .ok (.iload_n 1, 1) := by decide +kernel
theorem d_Mo_give_22 : decode b_Mo_give 22 = .ok (.iload 4, 2) := by decide +kernel
theorem d_Mo_give_24 : decode b_Mo_give 24 = .ok (.iastore, 1) := by decide +kernel
theorem d_Mo_give_25 : decode b_Mo_give 25 = .ok (.return_, 1) := by decide +kernel
theorem d_Mo_ask_0 : decode b_Mo_ask 0 = .ok (.aload_n 0, 1) := by decide +kernel
theorem d_Mo_ask_1 : decode b_Mo_ask 1 = .ok (.iconst 0, 1) := by decide +kernel
theorem d_Mo_ask_2 : decode b_Mo_ask 2 = .ok (.putfield 82, 3) := by decide +kernel
theorem d_Mo_ask_5 : decode b_Mo_ask 5 = .ok (.iload_n 1, 1) := by decide +kernel
theorem d_Mo_ask_6 : decode b_Mo_ask 6 = .ok (.i2l, 1) := by decide +kernel
theorem d_Mo_ask_7 : decode b_Mo_ask 7 = .ok (.lconst 0, 1) := by decide +kernel
theorem d_Mo_ask_8 : decode b_Mo_ask 8 = .ok (.ldc2_w 164, 3) := by decide +kernel
theorem d_Mo_ask_11 : decode b_Mo_ask 11 = .ok (.invokestatic 88, 3) := by decide +kernel
theorem d_Mo_ask_14 : decode b_Mo_ask 14 = .ok (.ifCond .ne 6, 3) := by decide +kernel
theorem d_Mo_ask_17 : decode b_Mo_ask 17 = .ok (.bipush (-102), 2) := by decide +kernel
theorem d_Mo_ask_19 : decode b_Mo_ask 19 = .ok (.ireturn, 1) := by decide +kernel
theorem d_Mo_ask_20 : decode b_Mo_ask 20 = .ok (.aload_n 0, 1) := by decide +kernel
theorem d_Mo_ask_21 : decode b_Mo_ask 21 = .ok (.iconst 0, 1) := by decide +kernel
theorem d_Mo_ask_22 : decode b_Mo_ask 22 = .ok (.putfield 155, 3) := by decide +kernel
theorem d_Mo_ask_25 : decode b_Mo_ask 25 = .ok (.aload_n 0, 1) := by decide +kernel
theorem d_Mo_ask_26 : decode b_Mo_ask 26 = .ok (.iconst 0, 1) := by decide +kernel
theorem d_Mo_ask_27 : decode b_Mo_ask 27 = .ok (.putfield 145, 3) := by decide +kernel
theorem d_Mo_ask_30 : decode b_Mo_ask 30 = .ok (.iconst 0, 1) := by decide +kernel
theorem d_Mo_ask_31 : decode b_Mo_ask 31 = .ok (.istore_n 2, 1) := by decide +kernel
theorem d_Mo_ask_32 : decode b_Mo_ask 32 = .ok (.iload_n 2, 1) := by decide +kernel
theorem d_Mo_ask_33 : decode b_Mo_ask 33 = .ok (.iconst 4, 1) := by decide +kernel
theorem d_Mo_ask_34 : decode b_Mo_ask 34 = .ok (.if_icmp .ge 23, 3) := by decide +kernel
theorem d_Mo_ask_37 : decode b_Mo_ask 37 = .ok (.aload_n 0, 1) := by decide +kernel
theorem d_Mo_ask_38 : decode b_Mo_ask 38 = .ok (.getfield 63, 3) := by decide +kernel
theorem d_Mo_ask_41 : decode b_Mo_ask 41 = .ok (.iload_n 2, 1) := by decide +kernel
theorem d_Mo_ask_42 : decode b_Mo_ask 42 = .ok (.lconst 0, 1) := by decide +kernel
theorem d_Mo_ask_43 : decode b_Mo_ask 43 = .ok (.lastore, 1) := by decide +kernel
theorem d_Mo_ask_44 : decode b_Mo_ask 44 = .ok (.aload_n 0, 1) := by decide +kernel
theorem d_Mo_ask_45 : decode b_Mo_ask 45 = .ok (.getfield 66, 3) := by decide +kernel
theorem d_Mo_ask_48 : decode b_Mo_ask 48 = .ok (.iload_n 2, 1) := by decide +kernel
theorem d_Mo_ask_49 : decode b_Mo_ask 49 = .ok (.iconst (-1), 1) := by decide +kernel
theorem d_Mo_ask_50 : decode b_Mo_ask 50 = .ok (.iastore, 1) := by decide +kernel
theorem d_Mo_ask_51 : decode b_Mo_ask 51 = .ok (.iinc 2 1, 3) := by decide +kernel
theorem d_Mo_ask_54 : decode b_Mo_ask 54 = .ok (.goto (-22), 3) := by decide +kernel
theorem d_Mo_ask_57 : decode b_Mo_ask 57 = .ok (.iconst (-1), 1) := by decide +kernel
theorem d_Mo_ask_58 : decode b_Mo_ask 58 = .ok (.istore_n 2, 1) := by decide +kernel
theorem d_Mo_ask_59 : decode b_Mo_ask 59 = .ok (.iconst 0, 1) := by decide +kernel
theorem d_Mo_ask_60 : decode b_Mo_ask 60 = .ok (.istore_n 3, 1) := by decide +kernel
theorem d_Mo_ask_61 : decode b_Mo_ask 61 = .ok (.iload_n 3, 1) := by decide +kernel
theorem d_Mo_ask_62 : decode b_Mo_ask 62 = .ok (.bipush 6, 2) := by decide +kernel
theorem d_Mo_ask_64 : decode b_Mo_ask 64 = .ok (.if_icmp .ge 93, 3) := by decide +kernel
theorem d_Mo_ask_67 : decode b_Mo_ask 67 = .ok (.aload_n 0, 1) := by decide +kernel
theorem d_Mo_ask_68 : decode b_Mo_ask 68 = .ok (.getfield 48, 3) := by decide +kernel
theorem d_Mo_ask_71 : decode b_Mo_ask 71 = .ok (.iload_n 3, 1) := by decide +kernel
theorem d_Mo_ask_72 : decode b_Mo_ask 72 = .ok (.iaload, 1) := by decide +kernel
theorem d_Mo_ask_73 : decode b_Mo_ask 73 = .ok (.iconst (-1), 1) := by decide +kernel
theorem d_Mo_ask_74 : decode b_Mo_ask 74 = .ok (.if_icmp .eq 17, 3) := by decide +kernel
theorem d_Mo_ask_77 : decode b_Mo_ask 77 = .ok (.aload_n 0, 1) := by decide +kernel
theorem d_Mo_ask_78 : decode b_Mo_ask 78 = .ok (.getfield 48, 3) := by decide +kernel
theorem d_Mo_ask_81 : decode b_Mo_ask 81 = .ok (.iload_n 3, 1) := by decide +kernel
theorem d_Mo_ask_82 : decode b_Mo_ask 82 = .ok (.iaload, 1) := by decide +kernel
theorem d_Mo_ask_83 : decode b_Mo_ask 83 = .ok (.iload_n 1, 1) := by decide +kernel
theorem d_Mo_ask_84 : decode b_Mo_ask 84 = .ok (.if_icmp .gt 7, 3) := by decide +kernel
theorem d_Mo_ask_87 : decode b_Mo_ask 87 = .ok (.iconst 1, 1) := by decide +kernel
theorem d_Mo_ask_88 : decode b_Mo_ask 88 = .ok (.goto 4, 3) := by decide +kernel
theorem d_Mo_ask_91 : decode b_Mo_ask 91 = .ok (.iconst 0, 1) := by decide +kernel
theorem d_Mo_ask_92 : decode b_Mo_ask 92 = .ok (.istore 4, 2) := by decide +kernel
theorem d_Mo_ask_94 : decode b_Mo_ask 94 = .ok (.iload 4, 2) := by decide +kernel
theorem d_Mo_ask_96 : decode b_Mo_ask 96 = .ok (.ifCond .eq 55, 3) := by decide +kernel
theorem d_Mo_ask_99 : decode b_Mo_ask 99 = .ok (.iload_n 2, 1) := by decide +kernel
theorem d_Mo_ask_100 : decode b_Mo_ask 100 = .ok (.iconst (-1), 1) := by decide +kernel
theorem d_Mo_ask_101 : decode b_Mo_ask 101 = .ok (.if_icmp .eq 48, 3) := by decide +kernel
theorem d_Mo_ask_104 : decode b_Mo_ask 104 = .ok (.aload_n 0, 1) := by decide +kernel
theorem d_Mo_ask_105 : decode b_Mo_ask 105 = .ok (.getfield 48, 3) := by decide +kernel
theorem d_Mo_ask_108 : decode b_Mo_ask 108 = .ok (.iload_n 3, 1) := by decide +kernel
theorem d_Mo_ask_109 : decode b_Mo_ask 109 = .ok (.iaload, 1) := by decide +kernel
theorem d_Mo_ask_110 : decode b_Mo_ask 110 = .ok (.aload_n 0, 1) := by decide +kernel
theorem d_Mo_ask_111 : decode b_Mo_ask 111 = .ok (.getfield 48, 3) := by decide +kernel
theorem d_Mo_ask_114 : decode b_Mo_ask 114 = .ok (.iload_n 2, 1) := by decide +kernel
theorem d_Mo_ask_115 : decode b_Mo_ask 115 = .ok (.iaload, 1) := by decide +kernel
theorem d_Mo_ask_116 : decode b_Mo_ask 116 = .ok (.if_icmp .gt 33, 3) := by decide +kernel
theorem d_Mo_ask_119 : decode b_Mo_ask 119 = .ok (.aload_n 0, 1) := by decide +kernel
theorem d_Mo_ask_120 : decode b_Mo_ask 120 = .ok (.getfield 48, 3) := by decide +kernel
theorem d_Mo_ask_123 : decode b_Mo_ask 123 = .ok (.iload_n 3, 1) := by decide +kernel
theorem d_Mo_ask_124 : decode b_Mo_ask 124 = .ok (.iaload, 1) := by decide +kernel
theorem d_Mo_ask_125 : decode b_Mo_ask 125 = .ok (.aload_n 0, 1) := by decide +kernel
theorem d_Mo_ask_126 : decode b_Mo_ask 126 = .ok (.getfield 48, 3) := by decide +kernel
theorem d_Mo_ask_129 : decode b_Mo_ask 129 = .ok (.iload_n 2, 1) := by decide +kernel
theorem d_Mo_ask_130 : decode b_Mo_ask 130 = .ok (.iaload, 1) := by decide +kernel
theorem d_Mo_ask_131 : decode b_Mo_ask 131 = .ok (.if_icmp .ne 20, 3) := by decide +kernel
theorem d_Mo_ask_134 : decode b_Mo_ask 134 = .ok (.aload_n 0, 1) := by decide +kernel
theorem d_Mo_ask_135 : decode b_Mo_ask 135 = .ok (.getfield 51, 3) := by decide +kernel
theorem d_Mo_ask_138 : decode b_Mo_ask 138 = .ok (.iload_n 3, 1) := by decide +kernel
theorem d_Mo_ask_139 : decode b_Mo_ask 139 = .ok (.iaload, 1) := by decide +kernel
theorem d_Mo_ask_140 : decode b_Mo_ask 140 = .ok (.aload_n 0, 1) := by decide +kernel
theorem d_Mo_ask_141 : decode b_Mo_ask 141 = .ok (.getfield 51, 3) := by decide +kernel
theorem d_Mo_ask_144 : decode b_Mo_ask 144 = .ok (.iload_n 2, 1) := by decide +kernel
theorem d_Mo_ask_145 : decode b_Mo_ask 145 = .ok (.iaload, 1) := by decide +kernel
theorem d_Mo_ask_146 : decode b_Mo_ask 146 = .ok (.if_icmp .le 5, 3) := by decide +kernel
theorem d_Mo_ask_149 : decode b_Mo_ask 149 = .ok (.iload_n 3, 1) := by decide +kernel
theorem d_Mo_ask_150 : decode b_Mo_ask 150 = .ok (.istore_n 2, 1) := by decide +kernel
theorem d_Mo_ask_151 : decode b_Mo_ask 151 = .ok (.iinc 3 1, 3) := by decide +kernel
theorem d_Mo_ask_154 : decode b_Mo_ask 154 = .ok (.goto (-93), 3) := by decide +kernel
theorem d_Mo_ask_157 : decode b_Mo_ask 157 = .ok (.iload_n 2, 1) := by decide +kernel
theorem d_Mo_ask_158 : decode b_Mo_ask 158 = .ok (.iconst (-1), 1) := by decide +kernel
theorem d_Mo_ask_159 : decode b_Mo_ask 159 = .ok (.if_icmp .ne 5, 3) := by decide +kernel
theorem d_Mo_ask_162 : decode b_Mo_ask 162 = .ok (.iconst (-1), 1) := by decide +kernel
theorem d_Mo_ask_163 : decode b_Mo_ask 163 = .ok (.ireturn, 1) := by decide +kernel
theorem d_Mo_ask_164 : decode b_Mo_ask 164 = .ok (.aload_n 0, 1) := by decide +kernel
theorem d_Mo_ask_165 : decode b_Mo_ask 165 = .ok (.iload_n 2, 1) := by decide +kernel
theorem d_Mo_ask_166 : decode b_Mo_ask 166 = .ok (.iconst (-1), 1) := by decide +kernel
theorem d_Mo_ask_167 : decode b_Mo_ask 167 = .ok (.invokevirtual 158, 3) := by decide +kernel
theorem d_Mo_ask_170 : decode b_Mo_ask 170 = .ok (.istore_n 3, 1) := by decide +kernel
theorem d_Mo_ask_171 : decode b_Mo_ask 171 = .ok (.iload_n 3, 1) := by decide +kernel
theorem d_Mo_ask_172 : decode b_Mo_ask 172 = .ok (.iconst (-1), 1) := by decide +kernel
theorem d_Mo_ask_173 : decode b_Mo_ask 173 = .ok (.if_icmp .eq 103, 3) := by decide +kernel
theorem d_Mo_ask_176 : decode b_Mo_ask 176 = .ok (.aload_n 0, 1) := by decide +kernel
theorem d_Mo_ask_177 : decode b_Mo_ask 177 = .ok (.iload_n 3, 1) := by decide +kernel
theorem d_Mo_ask_178 : decode b_Mo_ask 178 = .ok (.invokevirtual 161, 3) := by decide +kernel
theorem d_Mo_ask_181 : decode b_Mo_ask 181 = .ok (.aload_n 0, 1) := by decide +kernel
theorem d_Mo_ask_182 : decode b_Mo_ask 182 = .ok (.getfield 122, 3) := by decide +kernel
theorem d_Mo_ask_185 : decode b_Mo_ask 185 = .ok (.ifCond .le 32, 3) := by decide +kernel
theorem d_Mo_ask_188 : decode b_Mo_ask 188 = .ok (.aload_n 0, 1) := by decide +kernel
theorem d_Mo_ask_189 : decode b_Mo_ask 189 = .ok (.getfield 29, 3) := by decide +kernel
theorem d_Mo_ask_192 : decode b_Mo_ask 192 = .ok (.iload_n 3, 1) := by decide +kernel
theorem d_Mo_ask_193 : decode b_Mo_ask 193 = .ok (.baload, 1) := by decide +kernel
theorem d_Mo_ask_194 : decode b_Mo_ask 194 = .ok (.ifCond .eq 72, 3) := by decide +kernel
theorem d_Mo_ask_197 : decode b_Mo_ask 197 = .ok (.aload_n 0, 1) := by decide +kernel
theorem d_Mo_ask_198 : decode b_Mo_ask 198 = .ok (.aload_n 0, 1) := by decide +kernel
theorem d_Mo_ask_199 : decode b_Mo_ask 199 = .ok (.getfield 33, 3) := by decide +kernel
theorem d_Mo_ask_202 : decode b_Mo_ask 202 = .ok (.iload_n 3, 1) := by decide +kernel
theorem d_Mo_ask_203 : decode b_Mo_ask 203 = .ok (.iaload, 1) := by decide +kernel
theorem d_Mo_ask_204 : decode b_Mo_ask 204 = .ok (.aload_n 0, 1) := by decide +kernel
theorem d_Mo_ask_205 : decode b_Mo_ask 205 = .ok (.getfield 36, 3) := by decide +kernel
theorem d_Mo_ask_208 : decode b_Mo_ask 208 = .ok (.iload_n 3, 1) := by decide +kernel
theorem d_Mo_ask_209 : decode b_Mo_ask 209 = .ok (.laload, 1) := by decide +kernel
theorem d_Mo_ask_210 : decode b_Mo_ask 210 = .ok (.iload_n 3, 1) := by decide +kernel
theorem d_Mo_ask_211 : decode b_Mo_ask 211 = .ok (.invokevirtual 169, 3) := by decide +kernel
theorem d_Mo_ask_214 : decode b_Mo_ask 214 = .ok (.goto 52, 3) := by decide +kernel
theorem d_Mo_ask_217 : decode b_Mo_ask 217 = .ok (.aload_n 0, 1) := by decide +kernel
theorem d_Mo_ask_218 : decode b_Mo_ask 218 = .ok (.getfield 26, 3) := by decide +kernel
theorem d_Mo_ask_221 : decode b_Mo_ask 221 = .ok (.iload_n 3, 1) := by decide +kernel
theorem d_Mo_ask_222 : decode b_Mo_ask 222 = .ok (.aload_n 0, 1) := by decide +kernel
theorem d_Mo_ask_223 : decode b_Mo_ask 223 = .ok (.getfield 137, 3) := by decide +kernel
theorem d_Mo_ask_226 : decode b_Mo_ask 226 = .ok (.lastore, 1) := by decide +kernel
theorem d_Mo_ask_227 : decode b_Mo_ask 227 = .ok (.iconst 0, 1) := by decide +kernel
theorem d_Mo_ask_228 : decode b_Mo_ask 228 = .ok (.istore 4, 2) := by decide +kernel
theorem d_Mo_ask_230 : decode b_Mo_ask 230 = .ok (.iload 4, 2) := by decide +kernel
theorem d_Mo_ask_232 : decode b_Mo_ask 232 = .ok (.iconst 4, 1) := by decide +kernel
theorem d_Mo_ask_233 : decode b_Mo_ask 233 = .ok (.if_icmp .ge 33, 3) := by decide +kernel
theorem d_Mo_ask_236 : decode b_Mo_ask 236 = .ok (.aload_n 0, 1) := by decide +kernel
theorem d_Mo_ask_237 : decode b_Mo_ask 237 = .ok (.getfield 75, 3) := by decide +kernel
theorem d_Mo_ask_240 : decode b_Mo_ask 240 = .ok (.iload 4, 2) := by decide +kernel
theorem d_Mo_ask_242 : decode b_Mo_ask 242 = .ok (.baload, 1) := by decide +kernel
theorem d_Mo_ask_243 : decode b_Mo_ask 243 = .ok (.ifCond .eq 17, 3) := by decide +kernel
theorem d_Mo_ask_246 : decode b_Mo_ask 246 = .ok (.aload_n 0, 1) := by decide +kernel
theorem d_Mo_ask_247 : decode b_Mo_ask 247 = .ok (.iload 4, 2) := by decide +kernel
theorem d_Mo_ask_249 : decode b_Mo_ask 249 = .ok (.aload_n 0, 1) := by decide +kernel
theorem d_Mo_ask_250 : decode b_Mo_ask 250 = .ok (.getfield 72, 3) := by decide +kernel
theorem d_Mo_ask_253 : decode b_Mo_ask 253 = .ok (.iload 4, 2) := by decide +kernel
theorem d_Mo_ask_255 : decode b_Mo_ask 255 = .ok (.laload, 1) := by decide +kernel
theorem d_Mo_ask_256 : decode b_Mo_ask 256 = .ok (.iload_n 3, 1) := by decide +kernel
theorem d_Mo_ask_257 : decode b_Mo_ask 257 = .ok (.invokevirtual 169, 3) := by decide +kernel
theorem d_Mo_ask_260 : decode b_Mo_ask 260 = .ok (.iinc 4 1, 3) := by decide +kernel
theorem d_Mo_ask_263 : decode b_Mo_ask 263 = .ok (.goto (-33), 3) := by decide +kernel
theorem d_Mo_ask_266 : decode b_Mo_ask 266 = .ok (.aload_n 0, 1) := by decide +kernel
theorem d_Mo_ask_267 : decode b_Mo_ask 267 = .ok (.iload_n 2, 1) := by decide +kernel
theorem d_Mo_ask_268 : decode b_Mo_ask 268 = .ok (.iload_n 3, 1) := by decide +kernel
theorem d_Mo_ask_269 : decode b_Mo_ask 269 = .ok (.invokevirtual 158, 3) := by decide +kernel
theorem d_Mo_ask_272 : decode b_Mo_ask 272 = .ok (.istore_n 3, 1) := by decide +kernel
theorem d_Mo_ask_273 : decode b_Mo_ask 273 = .ok (.goto (-102), 3) := by decide +kernel
theorem d_Mo_ask_276 : decode b_Mo_ask 276 = .ok (.iconst 0, 1) := by decide +kernel
theorem d_Mo_ask_277 : decode b_Mo_ask 277 = .ok (.istore 4, 2) := by decide +kernel
theorem d_Mo_ask_279 : decode b_Mo_ask 279 = .ok (.iconst 0, 1) := by decide +kernel
theorem d_Mo_ask_280 : decode b_Mo_ask 280 = .ok (.istore 5, 2) := by decide +kernel
theorem d_Mo_ask_282 : decode b_Mo_ask 282 = .ok (.iload 5, 2) := by decide +kernel
theorem d_Mo_ask_284 : decode b_Mo_ask 284 = .ok (.iconst 4, 1) := by decide +kernel
theorem d_Mo_ask_285 : decode b_Mo_ask 285 = .ok (.if_icmp .ge 30, 3) := by decide +kernel
theorem d_Mo_ask_288 : decode b_Mo_ask 288 = .ok (.iload 4, 2) := by decide +kernel
theorem d_Mo_ask_290 : decode b_Mo_ask 290 = .ok (.aload_n 0, 1) := by decide +kernel
theorem d_Mo_ask_291 : decode b_Mo_ask 291 = .ok (.getfield 66, 3) := by decide +kernel
theorem d_Mo_ask_294 : decode b_Mo_ask 294 = .ok (.iload 5, 2) := by decide +kernel
theorem d_Mo_ask_296 : decode b_Mo_ask 296 = .ok (.iaload, 1) := by decide +kernel
theorem d_Mo_ask_297 : decode b_Mo_ask 297 = .ok (.iconst (-1), 1) := by decide +kernel
theorem d_Mo_ask_298 : decode b_Mo_ask 298 = .ok (.if_icmp .ne 7, 3) := by decide +kernel
theorem d_Mo_ask_301 : decode b_Mo_ask 301 = .ok (.iconst 0, 1) := by decide +kernel
theorem d_Mo_ask_302 : decode b_Mo_ask 302 = .ok (.goto 4, 3) := by decide +kernel
theorem d_Mo_ask_305 : decode b_Mo_ask 305 = .ok (.iconst 1, 1) := by decide +kernel
theorem d_Mo_ask_306 : decode b_Mo_ask 306 = .ok (.iadd, 1) := by decide +kernel
theorem d_Mo_ask_307 : decode b_Mo_ask 307 = .ok (.istore 4, 2) := by decide +kernel
theorem d_Mo_ask_309 : decode b_Mo_ask 309 = .ok (.iinc 5 1, 3) := by decide +kernel
theorem d_Mo_ask_312 : decode b_Mo_ask 312 = .ok (.goto (-30), 3) := by decide +kernel
theorem d_Mo_ask_315 : decode b_Mo_ask 315 = .ok (.iload 4, 2) := by decide +kernel
theorem d_Mo_ask_317 : decode b_Mo_ask 317 = .ok (.ireturn, 1) := by decide +kernel
theorem d_Mo_answer_0 : decode b_Mo_answer 0 = .ok (.aload_n 0, 1) := by decide +kernel
theorem d_Mo_answer_1 : decode b_Mo_answer 1 = .ok (.iconst 0, 1) := by decide +kernel
theorem d_Mo_answer_2 : decode b_Mo_answer 2 = .ok (.putfield 82, 3) := by decide +kernel
theorem d_Mo_answer_5 : decode b_Mo_answer 5 = .ok (.iload_n 1, 1) := by decide +kernel
theorem d_Mo_answer_6 : decode b_Mo_answer 6 = .ok (.i2l, 1) := by decide +kernel
theorem d_Mo_answer_7 : decode b_Mo_answer 7 = .ok (.lconst 0, 1) := by decide +kernel
theorem d_Mo_answer_8 : decode b_Mo_answer 8 = .ok (.ldc2_w 108, 3) := by decide +kernel
theorem d_Mo_answer_11 : decode b_Mo_answer 11 = .ok (.invokestatic 88, 3) := by decide +kernel
theorem d_Mo_answer_14 : decode b_Mo_answer 14 = .ok (.ifCond .eq 12, 3) := by decide +kernel
theorem d_Mo_answer_17 : decode b_Mo_answer 17 = .ok (.aload_n 0, 1) := by decide +kernel
theorem d_Mo_answer_18 : decode b_Mo_answer 18 = .ok (.getfield 63, 3) := by decide +kernel
theorem d_Mo_answer_21 : decode b_Mo_answer 21 = .ok (.iload_n 1, 1) := by decide +kernel
theorem d_Mo_answer_22 : decode b_Mo_answer 22 = .ok (.laload, 1) := by decide +kernel
theorem d_Mo_answer_23 : decode b_Mo_answer 23 = .ok (.goto 4, 3) := by decide +kernel
theorem d_Mo_answer_26 : decode b_Mo_answer 26 = .ok (.lconst 0, 1) := by decide +kernel
theorem d_Mo_answer_27 : decode b_Mo_answer 27 = .ok (.lreturn, 1) := by decide +kernel
theorem d_Mo_by_0 : decode b_Mo_by 0 = .ok (.aload_n 0, 1) := by decide +kernel
theorem d_Mo_by_1 : decode b_Mo_by 1 = .ok (.iconst 0, 1) := by decide +kernel
theorem d_Mo_by_2 : decode b_Mo_by 2 = .ok (.putfield 82, 3) := by decide +kernel
theorem d_Mo_by_5 : decode b_Mo_by 5 = .ok (.iload_n 1, 1) := by decide +kernel
theorem d_Mo_by_6 : decode b_Mo_by 6 = .ok (.i2l, 1) := by decide +kernel
theorem d_Mo_by_7 : decode b_Mo_by 7 = .ok (.lconst 0, 1) := by decide +kernel
theorem d_Mo_by_8 : decode b_Mo_by 8 = .ok (.ldc2_w 108, 3) := by decide +kernel
theorem d_Mo_by_11 : decode b_Mo_by 11 = .ok (.invokestatic 88, 3) := by decide +kernel
theorem d_Mo_by_14 : decode b_Mo_by 14 = .ok (.ifCond .eq 12, 3) := by decide +kernel
theorem d_Mo_by_17 : decode b_Mo_by 17 = .ok (.aload_n 0, 1) := by decide +kernel
theorem d_Mo_by_18 : decode b_Mo_by 18 = .ok (.getfield 66, 3) := by decide +kernel
theorem d_Mo_by_21 : decode b_Mo_by 21 = .ok (.iload_n 1, 1) := by decide +kernel
theorem d_Mo_by_22 : decode b_Mo_by 22 = .ok (.iaload, 1) := by decide +kernel
theorem d_Mo_by_23 : decode b_Mo_by 23 = .ok (.goto 4, 3) := by decide +kernel
theorem d_Mo_by_26 : decode b_Mo_by 26 = .ok (.iconst (-1), 1) := by decide +kernel
theorem d_Mo_by_27 : decode b_Mo_by 27 = .ok (.ireturn, 1) := by decide +kernel
theorem d_Mo_failed_0 : decode b_Mo_failed 0 = .ok (.aload_n 0, 1) := by decide +kernel
theorem d_Mo_failed_1 : decode b_Mo_failed 1 = .ok (.iconst 0, 1) := by decide +kernel
theorem d_Mo_failed_2 : decode b_Mo_failed 2 = .ok (.putfield 82, 3) := by decide +kernel
theorem d_Mo_failed_5 : decode b_Mo_failed 5 = .ok (.iload_n 1, 1) := by decide +kernel
theorem d_Mo_failed_6 : decode b_Mo_failed 6 = .ok (.i2l, 1) := by decide +kernel
theorem d_Mo_failed_7 : decode b_Mo_failed 7 = .ok (.lconst 0, 1) := by decide +kernel
theorem d_Mo_failed_8 : decode b_Mo_failed 8 = .ok (.aload_n 0, 1) := by decide +kernel
theorem d_Mo_failed_9 : decode b_Mo_failed 9 = .ok (.getfield 155, 3) := by decide +kernel
theorem d_Mo_failed_12 : decode b_Mo_failed 12 = .ok (.iconst 1, 1) := by decide +kernel
theorem d_Mo_failed_13 : decode b_Mo_failed 13 = .ok (.isub, 1) := by decide +kernel
theorem d_Mo_failed_14 : decode b_Mo_failed 14 = .ok (.i2l, 1) := by decide +kernel
theorem d_Mo_failed_15 : decode b_Mo_failed 15 = .ok (.invokestatic 88, 3) := by decide +kernel
theorem d_Mo_failed_18 : decode b_Mo_failed 18 = .ok (.ifCond .eq 13, 3) := by decide +kernel
theorem d_Mo_failed_21 : decode b_Mo_failed 21 = .ok (.iload_n 2, 1) := by decide +kernel
theorem d_Mo_failed_22 : decode b_Mo_failed 22 = .ok (.i2l, 1) := by decide +kernel
theorem d_Mo_failed_23 : decode b_Mo_failed 23 = .ok (.lconst 0, 1) := by decide +kernel
theorem d_Mo_failed_24 : decode b_Mo_failed 24 = .ok (.lconst 1, 1) := by decide +kernel
theorem d_Mo_failed_25 : decode b_Mo_failed 25 = .ok (.invokestatic 88, 3) := by decide +kernel
theorem d_Mo_failed_28 : decode b_Mo_failed 28 = .ok (.ifCond .ne 5, 3) := by decide +kernel
theorem d_Mo_failed_31 : decode b_Mo_failed 31 = .ok (.iconst (-1), 1) := by decide +kernel
theorem d_Mo_failed_32 : decode b_Mo_failed 32 = .ok (.ireturn, 1) := by decide +kernel
theorem d_Mo_failed_33 : decode b_Mo_failed 33 = .ok (.iload_n 2, 1) := by decide +kernel
theorem d_Mo_failed_34 : decode b_Mo_failed 34 = .ok (.ifCond .ne 12, 3) := by decide +kernel
theorem d_Mo_failed_37 : decode b_Mo_failed 37 = .ok (.aload_n 0, 1) := by decide +kernel
theorem d_Mo_failed_38 : decode b_Mo_failed 38 = .ok (.getfield 57, 3) := by decide +kernel
theorem d_Mo_failed_41 : decode b_Mo_failed 41 = .ok (.iload_n 1, 1) := by decide +kernel
theorem d_Mo_failed_42 : decode b_Mo_failed 42 = .ok (.iaload, 1) := by decide +kernel
theorem d_Mo_failed_43 : decode b_Mo_failed 43 = .ok (.goto 9, 3) := by decide +kernel
theorem d_Mo_failed_46 : decode b_Mo_failed 46 = .ok (.aload_n 0, 1) := by decide +kernel
theorem d_Mo_failed_47 : decode b_Mo_failed 47 = .ok (.getfield 60, 3) := by decide +kernel
theorem d_Mo_failed_50 : decode b_Mo_failed 50 = .ok (.iload_n 1, 1) := by decide +kernel
theorem d_Mo_failed_51 : decode b_Mo_failed 51 = .ok (.iaload, 1) := by decide +kernel
theorem d_Mo_failed_52 : decode b_Mo_failed 52 = .ok (.ireturn, 1) := by decide +kernel
theorem d_Mo_cell_0 : decode b_Mo_cell 0 = .ok (.aload_n 0, 1) := by decide +kernel
theorem d_Mo_cell_1 : decode b_Mo_cell 1 = .ok (.iconst 0, 1) := by decide +kernel
theorem d_Mo_cell_2 : decode b_Mo_cell 2 = .ok (.putfield 82, 3) := by decide +kernel
theorem d_Mo_cell_5 : decode b_Mo_cell 5 = .ok (.aload_n 0, 1) := by decide +kernel
theorem d_Mo_cell_6 : decode b_Mo_cell 6 = .ok (.iload_n 1, 1) := by decide +kernel
theorem d_Mo_cell_7 : decode b_Mo_cell 7 = .ok (.invokevirtual 110, 3) := by decide +kernel
theorem d_Mo_cell_10 : decode b_Mo_cell 10 = .ok (.ifCond .eq 12, 3) := by decide +kernel
theorem d_Mo_cell_13 : decode b_Mo_cell 13 = .ok (.aload_n 0, 1) := by decide +kernel
theorem d_Mo_cell_14 : decode b_Mo_cell 14 = .ok (.getfield 26, 3) := by decide +kernel
theorem d_Mo_cell_17 : decode b_Mo_cell 17 = .ok (.iload_n 1, 1) := by decide +kernel
theorem d_Mo_cell_18 : decode b_Mo_cell 18 = .ok (.laload, 1) := by decide +kernel
theorem d_Mo_cell_19 : decode b_Mo_cell 19 = .ok (.goto 4, 3) := by decide +kernel
theorem d_Mo_cell_22 : decode b_Mo_cell 22 = .ok (.lconst 0, 1) := by decide +kernel
theorem d_Mo_cell_23 : decode b_Mo_cell 23 = .ok (.lreturn, 1) := by decide +kernel
theorem d_Mo_edition_0 : decode b_Mo_edition 0 = .ok (.aload_n 0, 1) := by decide +kernel
theorem d_Mo_edition_1 : decode b_Mo_edition 1 = .ok (.iconst 0, 1) := by decide +kernel
theorem d_Mo_edition_2 : decode b_Mo_edition 2 = .ok (.putfield 82, 3) := by decide +kernel
theorem d_Mo_edition_5 : decode b_Mo_edition 5 = .ok (.iload_n 1, 1) := by decide +kernel
theorem d_Mo_edition_6 : decode b_Mo_edition 6 = .ok (.invokestatic 94, 3) := by decide +kernel
theorem d_Mo_edition_9 : decode b_Mo_edition 9 = .ok (.ifCond .eq 15, 3) := by decide +kernel
theorem d_Mo_edition_12 : decode b_Mo_edition 12 = .ok (.iload_n 2, 1) := by decide +kernel
theorem d_Mo_edition_13 : decode b_Mo_edition 13 = .ok (.i2l, 1) := by decide +kernel
theorem d_Mo_edition_14 : decode b_Mo_edition 14 = .ok (.lconst 0, 1) := by decide +kernel
theorem d_Mo_edition_15 : decode b_Mo_edition 15 = .ok (.ldc2_w 173, 3) := by decide +kernel
theorem d_Mo_edition_18 : decode b_Mo_edition 18 = .ok (.invokestatic 88, 3) := by decide +kernel
theorem d_Mo_edition_21 : decode b_Mo_edition 21 = .ok (.ifCond .ne 6, 3) := by decide +kernel
theorem d_Mo_edition_24 : decode b_Mo_edition 24 = .ok (.bipush (-102), 2) := by decide +kernel
theorem d_Mo_edition_26 : decode b_Mo_edition 26 = .ok (.ireturn, 1) := by decide +kernel
theorem d_Mo_edition_27 : decode b_Mo_edition 27 = .ok (.iload_n 2, 1) := by decide +kernel
theorem d_Mo_edition_28 : decode b_Mo_edition 28 = .ok (.ifCond .ne 12, 3) := by decide +kernel
theorem d_Mo_edition_31 : decode b_Mo_edition 31 = .ok (.aload_n 0, 1) := by decide +kernel
theorem d_Mo_edition_32 : decode b_Mo_edition 32 = .ok (.getfield 42, 3) := by decide +kernel
theorem d_Mo_edition_35 : decode b_Mo_edition 35 = .ok (.iload_n 1, 1) := by decide +kernel
theorem d_Mo_edition_36 : decode b_Mo_edition 36 = .ok (.iaload, 1) := by decide +kernel
theorem d_Mo_edition_37 : decode b_Mo_edition 37 = .ok (.goto 23, 3) := by decide +kernel
theorem d_Mo_edition_40 : decode b_Mo_edition 40 = .ok (.iload_n 2, 1) := by decide +kernel
theorem d_Mo_edition_41 : decode b_Mo_edition 41 = .ok (.iconst 1, 1) := by decide +kernel
theorem d_Mo_edition_42 : decode b_Mo_edition 42 = .ok (.if_icmp .ne 12, 3) := by decide +kernel
theorem d_Mo_edition_45 : decode b_Mo_edition 45 = .ok (.aload_n 0, 1) := by decide +kernel
theorem d_Mo_edition_46 : decode b_Mo_edition 46 = .ok (.getfield 45, 3) := by decide +kernel
theorem d_Mo_edition_49 : decode b_Mo_edition 49 = .ok (.iload_n 1, 1) := by decide +kernel
theorem d_Mo_edition_50 : decode b_Mo_edition 50 = .ok (.iaload, 1) := by decide +kernel
theorem d_Mo_edition_51 : decode b_Mo_edition 51 = .ok (.goto 9, 3) := by decide +kernel
theorem d_Mo_edition_54 : decode b_Mo_edition 54 = .ok (.aload_n 0, 1) := by decide +kernel
theorem d_Mo_edition_55 : decode b_Mo_edition 55 = .ok (.getfield 48, 3) := by decide +kernel
theorem d_Mo_edition_58 : decode b_Mo_edition 58 = .ok (.iload_n 1, 1) := by decide +kernel
theorem d_Mo_edition_59 : decode b_Mo_edition 59 = .ok (.iaload, 1) := by decide +kernel
theorem d_Mo_edition_60 : decode b_Mo_edition 60 = .ok (.ireturn, 1) := by decide +kernel
theorem d_Mo_hasNumber_0 : decode b_Mo_hasNumber 0 = .ok (.iload_n 0, 1) := by decide +kernel
theorem d_Mo_hasNumber_1 : decode b_Mo_hasNumber 1 = .ok (.iconst 2, 1) := by decide +kernel
theorem d_Mo_hasNumber_2 : decode b_Mo_hasNumber 2 = .ok (.if_icmp .lt 21, 3) := by decide +kernel
theorem d_Mo_hasNumber_5 : decode b_Mo_hasNumber 5 = .ok (.iload_n 0, 1) := by decide +kernel
theorem d_Mo_hasNumber_6 : decode b_Mo_hasNumber 6 = .ok (.bipush 9, 2) := by decide +kernel
theorem d_Mo_hasNumber_8 : decode b_Mo_hasNumber 8 = .ok (.if_icmp .eq 15, 3) := by decide +kernel
theorem d_Mo_hasNumber_11 : decode b_Mo_hasNumber 11 = .ok (.iload_n 0, 1) := by decide +kernel
theorem d_Mo_hasNumber_12 : decode b_Mo_hasNumber 12 = .ok (.bipush 10, 2) := by decide +kernel
theorem d_Mo_hasNumber_14 : decode b_Mo_hasNumber 14 = .ok (.if_icmp .eq 9, 3) := by decide +kernel
theorem d_Mo_hasNumber_17 : decode b_Mo_hasNumber 17 = .ok (.iload_n 0, 1) := by decide +kernel
theorem d_Mo_hasNumber_18 : decode b_Mo_hasNumber 18 = .ok (.bipush 13, 2) := by decide +kernel
theorem d_Mo_hasNumber_20 : decode b_Mo_hasNumber 20 = .ok (.if_icmp .ne 7, 3) := by decide +kernel
theorem d_Mo_hasNumber_23 : decode b_Mo_hasNumber 23 = .ok (.iconst 1, 1) := by decide +kernel
theorem d_Mo_hasNumber_24 : decode b_Mo_hasNumber 24 = .ok (.goto 4, 3) := by decide +kernel
theorem d_Mo_hasNumber_27 : decode b_Mo_hasNumber 27 = .ok (.iconst 0, 1) := by decide +kernel
theorem d_Mo_hasNumber_28 : decode b_Mo_hasNumber 28 = .ok (.ireturn, 1) := by decide +kernel
theorem d_Mo_same_0 : decode b_Mo_same 0 = .ok (.aload_n 0, 1) := by decide +kernel
theorem d_Mo_same_1 : decode b_Mo_same 1 = .ok (.iconst 0, 1) := by decide +kernel
theorem d_Mo_same_2 : decode b_Mo_same 2 = .ok (.putfield 82, 3) := by decide +kernel
theorem d_Mo_same_5 : decode b_Mo_same 5 = .ok (.aload_n 0, 1) := by decide +kernel
theorem d_Mo_same_6 : decode b_Mo_same 6 = .ok (.iload_n 1, 1) := by decide +kernel
theorem d_Mo_same_7 : decode b_Mo_same 7 = .ok (.invokevirtual 110, 3) := by decide +kernel
theorem d_Mo_same_10 : decode b_Mo_same 10 = .ok (.ifCond .eq 26, 3) := by decide +kernel
theorem d_Mo_same_13 : decode b_Mo_same 13 = .ok (.aload_n 0, 1) := by decide +kernel
theorem d_Mo_same_14 : decode b_Mo_same 14 = .ok (.iload_n 2, 1) := by decide +kernel
theorem d_Mo_same_15 : decode b_Mo_same 15 = .ok (.invokevirtual 110, 3) := by decide +kernel
theorem d_Mo_same_18 : decode b_Mo_same 18 = .ok (.ifCond .eq 18, 3) := by decide +kernel
theorem d_Mo_same_21 : decode b_Mo_same 21 = .ok (.aload_n 0, 1) := by decide +kernel
theorem d_Mo_same_22 : decode b_Mo_same 22 = .ok (.getfield 16, 3) := by decide +kernel
theorem d_Mo_same_25 : decode b_Mo_same 25 = .ok (.iload_n 1, 1) := by decide +kernel
theorem d_Mo_same_26 : decode b_Mo_same 26 = .ok (.iaload, 1) := by decide +kernel
theorem d_Mo_same_27 : decode b_Mo_same 27 = .ok (.aload_n 0, 1) := by decide +kernel
theorem d_Mo_same_28 : decode b_Mo_same 28 = .ok (.getfield 16, 3) := by decide +kernel
theorem d_Mo_same_31 : decode b_Mo_same 31 = .ok (.iload_n 2, 1) := by decide +kernel
theorem d_Mo_same_32 : decode b_Mo_same 32 = .ok (.iaload, 1) := by decide +kernel
theorem d_Mo_same_33 : decode b_Mo_same 33 = .ok (.if_icmp .eq 5, 3) := by decide +kernel
theorem d_Mo_same_36 : decode b_Mo_same 36 = .ok (.iconst 0, 1) := by decide +kernel
theorem d_Mo_same_37 : decode b_Mo_same 37 = .ok (.ireturn, 1) := by decide +kernel
theorem d_Mo_same_38 : decode b_Mo_same 38 = .ok (.iconst 1, 1) := by decide +kernel
theorem d_Mo_same_39 : decode b_Mo_same 39 = .ok (.istore_n 3, 1) := by decide +kernel
theorem d_Mo_same_40 : decode b_Mo_same 40 = .ok (.iconst 0, 1) := by decide +kernel
theorem d_Mo_same_41 : decode b_Mo_same 41 = .ok (.istore 4, 2) := by decide +kernel
theorem d_Mo_same_43 : decode b_Mo_same 43 = .ok (.iload 4, 2) := by decide +kernel
theorem d_Mo_same_45 : decode b_Mo_same 45 = .ok (.aload_n 0, 1) := by decide +kernel
theorem d_Mo_same_46 : decode b_Mo_same 46 = .ok (.getfield 16, 3) := by decide +kernel
theorem d_Mo_same_49 : decode b_Mo_same 49 = .ok (.iload_n 1, 1) := by decide +kernel
theorem d_Mo_same_50 : decode b_Mo_same 50 = .ok (.iaload, 1) := by decide +kernel
theorem d_Mo_same_51 : decode b_Mo_same 51 = .ok (.if_icmp .ge 86, 3) := by decide +kernel
theorem d_Mo_same_54 : decode b_Mo_same 54 = .ok (.aload_n 0, 1) := by decide +kernel
theorem d_Mo_same_55 : decode b_Mo_same 55 = .ok (.getfield 19, 3) := by decide +kernel
theorem d_Mo_same_58 : decode b_Mo_same 58 = .ok (.bipush 12, 2) := by decide +kernel
theorem d_Mo_same_60 : decode b_Mo_same 60 = .ok (.iload_n 1, 1) := by decide +kernel
theorem d_Mo_same_61 : decode b_Mo_same 61 = .ok (.imul, 1) := by decide +kernel
theorem d_Mo_same_62 : decode b_Mo_same 62 = .ok (.iload 4, 2) := by decide +kernel
theorem d_Mo_same_64 : decode b_Mo_same 64 = .ok (.iadd, 1) := by decide +kernel
theorem d_Mo_same_65 : decode b_Mo_same 65 = .ok (.iaload, 1) := by decide +kernel
theorem d_Mo_same_66 : decode b_Mo_same 66 = .ok (.istore 5, 2) := by decide +kernel
theorem d_Mo_same_68 : decode b_Mo_same 68 = .ok (.iload_n 3, 1) := by decide +kernel
theorem d_Mo_same_69 : decode b_Mo_same 69 = .ok (.ifCond .eq 60, 3) := by decide +kernel
theorem d_Mo_same_72 : decode b_Mo_same 72 = .ok (.iload 5, 2) := by decide +kernel
theorem d_Mo_same_74 : decode b_Mo_same 74 = .ok (.aload_n 0, 1) := by decide +kernel
theorem d_Mo_same_75 : decode b_Mo_same 75 = .ok (.getfield 19, 3) := by decide +kernel
theorem d_Mo_same_78 : decode b_Mo_same 78 = .ok (.bipush 12, 2) := by decide +kernel
theorem d_Mo_same_80 : decode b_Mo_same 80 = .ok (.iload_n 2, 1) := by decide +kernel
theorem d_Mo_same_81 : decode b_Mo_same 81 = .ok (.imul, 1) := by decide +kernel
theorem d_Mo_same_82 : decode b_Mo_same 82 = .ok (.iload 4, 2) := by decide +kernel
theorem d_Mo_same_84 : decode b_Mo_same 84 = .ok (.iadd, 1) := by decide +kernel
theorem d_Mo_same_85 : decode b_Mo_same 85 = .ok (.iaload, 1) := by decide +kernel
theorem d_Mo_same_86 : decode b_Mo_same 86 = .ok (.if_icmp .ne 43, 3) := by decide +kernel
theorem d_Mo_same_89 : decode b_Mo_same 89 = .ok (.iload 5, 2) := by decide +kernel
theorem d_Mo_same_91 : decode b_Mo_same 91 = .ok (.invokestatic 175, 3) := by decide +kernel
theorem d_Mo_same_94 : decode b_Mo_same 94 = .ok (.ifCond .eq 31, 3) := by decide +kernel
theorem d_Mo_same_97 : decode b_Mo_same 97 = .ok (.aload_n 0, 1) := by decide +kernel
theorem d_Mo_same_98 : decode b_Mo_same 98 = .ok (.getfield 22, 3) := by decide +kernel
theorem d_Mo_same_101 : decode b_Mo_same 101 = .ok (.bipush 12, 2) := by decide +kernel
theorem d_Mo_same_103 : decode b_Mo_same 103 = .ok (.iload_n 1, 1) := by decide +kernel
theorem d_Mo_same_104 : decode b_Mo_same 104 = .ok (.imul, 1) := by decide +kernel
theorem d_Mo_same_105 : decode b_Mo_same 105 = .ok (.iload 4, 2) := by decide +kernel
theorem d_Mo_same_107 : decode b_Mo_same 107 = .ok (.iadd, 1) := by decide +kernel
theorem d_Mo_same_108 : decode b_Mo_same 108 = .ok (.laload, 1) := by decide +kernel
theorem d_Mo_same_109 : decode b_Mo_same 109 = .ok (.aload_n 0, 1) := by decide +kernel
theorem d_Mo_same_110 : decode b_Mo_same 110 = .ok (.getfield 22, 3) := by decide +kernel
theorem d_Mo_same_113 : decode b_Mo_same 113 = .ok (.bipush 12, 2) := by decide +kernel
theorem d_Mo_same_115 : decode b_Mo_same 115 = .ok (.iload_n 2, 1) := by decide +kernel
theorem d_Mo_same_116 : decode b_Mo_same 116 = .ok (.imul, 1) := by decide +kernel
theorem d_Mo_same_117 : decode b_Mo_same 117 = .ok (.iload 4, 2) := by decide +kernel
theorem d_Mo_same_119 : decode b_Mo_same 119 = .ok (.iadd, 1) := by decide +kernel
theorem d_Mo_same_120 : decode b_Mo_same 120 = .ok (.laload, 1) := by decide +kernel
theorem d_Mo_same_121 : decode b_Mo_same 121 = .ok (.lcmp, 1) := by decide +kernel
theorem d_Mo_same_122 : decode b_Mo_same 122 = .ok (.ifCond .ne 7, 3) := by decide +kernel
theorem d_Mo_same_125 : decode b_Mo_same 125 = .ok (.iconst 1, 1) := by decide +kernel
theorem d_Mo_same_126 : decode b_Mo_same 126 = .ok (.goto 4, 3) := by decide +kernel
theorem d_Mo_same_129 : decode b_Mo_same 129 = .ok (.iconst 0, 1) := by decide +kernel
theorem d_Mo_same_130 : decode b_Mo_same 130 = .ok (.istore_n 3, 1) := by decide +kernel
theorem d_Mo_same_131 : decode b_Mo_same 131 = .ok (.iinc 4 1, 3) := by decide +kernel
theorem d_Mo_same_134 : decode b_Mo_same 134 = .ok (.goto (-91), 3) := by decide +kernel
theorem d_Mo_same_137 : decode b_Mo_same 137 = .ok (.iload_n 3, 1) := by decide +kernel
theorem d_Mo_same_138 : decode b_Mo_same 138 = .ok (.ireturn, 1) := by decide +kernel
theorem d_Mo_divide_0 : decode b_Mo_divide 0 = .ok (.aload_n 0, 1) := by decide +kernel
theorem d_Mo_divide_1 : decode b_Mo_divide 1 = .ok (.iconst 0, 1) := by decide +kernel
theorem d_Mo_divide_2 : decode b_Mo_divide 2 = .ok (.putfield 82, 3) := by decide +kernel
theorem d_Mo_divide_5 : decode b_Mo_divide 5 = .ok (.aload_n 0, 1) := by decide +kernel
theorem d_Mo_divide_6 : decode b_Mo_divide 6 = .ok (.iload_n 1, 1) := by decide +kernel
theorem d_Mo_divide_7 : decode b_Mo_divide 7 = .ok (.invokevirtual 110, 3) := by decide +kernel
theorem d_Mo_divide_10 : decode b_Mo_divide 10 = .ok (.ifCond .ne 7, 3) := by decide +kernel
theorem d_Mo_divide_13 : decode b_Mo_divide 13 = .ok (.ldc2_w 178, 3) := by decide +kernel
theorem d_Mo_divide_16 : decode b_Mo_divide 16 = .ok (.lreturn, 1) := by decide +kernel
theorem d_Mo_divide_17 : decode b_Mo_divide 17 = .ok (.aload_n 0, 1) := by decide +kernel
theorem d_Mo_divide_18 : decode b_Mo_divide 18 = .ok (.lload 4, 2) := by decide +kernel
theorem d_Mo_divide_20 : decode b_Mo_divide 20 = .ok (.lconst 0, 1) := by decide +kernel
theorem d_Mo_divide_21 : decode b_Mo_divide 21 = .ok (.lcmp, 1) := by decide +kernel
theorem d_Mo_divide_22 : decode b_Mo_divide 22 = .ok (.ifCond .ne 7, 3) := by decide +kernel
theorem d_Mo_divide_25 : decode b_Mo_divide 25 = .ok (.iconst 1, 1) := by decide +kernel
theorem d_Mo_divide_26 : decode b_Mo_divide 26 = .ok (.goto 4, 3) := by decide +kernel
theorem d_Mo_divide_29 : decode b_Mo_divide 29 = .ok (.iconst 0, 1) := by decide +kernel
theorem d_Mo_divide_30 : decode b_Mo_divide 30 = .ok (.putfield 82, 3) := by decide +kernel
theorem d_Mo_divide_33 : decode b_Mo_divide 33 = .ok (.lload 4, 2) := by decide +kernel
theorem d_Mo_divide_35 : decode b_Mo_divide 35 = .ok (.lconst 0, 1) := by decide +kernel
theorem d_Mo_divide_36 : decode b_Mo_divide 36 = .ok (.lcmp, 1) := by decide +kernel
theorem d_Mo_divide_37 : decode b_Mo_divide 37 = .ok (.ifCond .ne 7, 3) := by decide +kernel
theorem d_Mo_divide_40 : decode b_Mo_divide 40 = .ok (.lconst 0, 1) := by decide +kernel
theorem d_Mo_divide_41 : decode b_Mo_divide 41 = .ok (.goto 7, 3) := by decide +kernel
theorem d_Mo_divide_44 : decode b_Mo_divide 44 = .ok (.lload_n 2, 1) := by decide +kernel
theorem d_Mo_divide_45 : decode b_Mo_divide 45 = .ok (.lload 4, 2) := by decide +kernel
theorem d_Mo_divide_47 : decode b_Mo_divide 47 = .ok (.ldiv, 1) := by decide +kernel
theorem d_Mo_divide_48 : decode b_Mo_divide 48 = .ok (.lreturn, 1) := by decide +kernel
theorem d_Mo_handle_0 : decode b_Mo_handle 0 = .ok (.aload_n 0, 1) := by decide +kernel
theorem d_Mo_handle_1 : decode b_Mo_handle 1 = .ok (.iload_n 1, 1) := by decide +kernel
theorem d_Mo_handle_2 : decode b_Mo_handle 2 = .ok (.i2l, 1) := by decide +kernel
theorem d_Mo_handle_3 : decode b_Mo_handle 3 = .ok (.lconst 0, 1) := by decide +kernel
theorem d_Mo_handle_4 : decode b_Mo_handle 4 = .ok (.aload_n 0, 1) := by decide +kernel
theorem d_Mo_handle_5 : decode b_Mo_handle 5 = .ok (.getfield 145, 3) := by decide +kernel
theorem d_Mo_handle_8 : decode b_Mo_handle 8 = .ok (.iconst 1, 1) := by decide +kernel
theorem d_Mo_handle_9 : decode b_Mo_handle 9 = .ok (.isub, 1) := by decide +kernel
theorem d_Mo_handle_10 : decode b_Mo_handle 10 = .ok (.i2l, 1) := by decide +kernel
theorem d_Mo_handle_11 : decode b_Mo_handle 11 = .ok (.invokestatic 88, 3) := by decide +kernel
theorem d_Mo_handle_14 : decode b_Mo_handle 14 = .ok (.ifCond .eq 7, 3) := by decide +kernel
theorem d_Mo_handle_17 : decode b_Mo_handle 17 = .ok (.iconst 1, 1) := by decide +kernel
theorem d_Mo_handle_18 : decode b_Mo_handle 18 = .ok (.goto 4, 3) := by decide +kernel
theorem d_Mo_handle_21 : decode b_Mo_handle 21 = .ok (.iconst 0, 1) := by decide +kernel
theorem d_Mo_handle_22 : decode b_Mo_handle 22 = .ok (.putfield 82, 3) := by decide +kernel
theorem d_Mo_handle_25 : decode b_Mo_handle 25 = .ok (.aload_n 0, 1) := by decide +kernel
theorem d_Mo_handle_26 : decode b_Mo_handle 26 = .ok (.getfield 82, 3) := by decide +kernel
theorem d_Mo_handle_29 : decode b_Mo_handle 29 = .ok (.ifCond .le 7, 3) := by decide +kernel
theorem d_Mo_handle_32 : decode b_Mo_handle 32 = .ok (.iconst 0, 1) := by decide +kernel
theorem d_Mo_handle_33 : decode b_Mo_handle 33 = .ok (.goto 5, 3) := by decide +kernel
theorem d_Mo_handle_36 : decode b_Mo_handle 36 = .ok (.bipush (-102), 2) := by decide +kernel
theorem d_Mo_handle_38 : decode b_Mo_handle 38 = .ok (.ireturn, 1) := by decide +kernel
