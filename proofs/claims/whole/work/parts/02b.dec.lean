theorem dX6_init_0 : decode cX6_init 0 = .ok (.aload_n 0, 1) := by decide +kernel
theorem dX6_init_1 : decode cX6_init 1 = .ok (.invokespecial 1, 3) := by decide +kernel
theorem dX6_init_4 : decode cX6_init 4 = .ok (.aload_n 0, 1) := by decide +kernel
theorem dX6_init_5 : decode cX6_init 5 = .ok (.new 7, 3) := by decide +kernel
theorem dX6_init_8 : decode cX6_init 8 = .ok (.dup, 1) := by decide +kernel
theorem dX6_init_9 : decode cX6_init 9 = .ok (.bipush 6, 2) := by decide +kernel
theorem dX6_init_11 : decode cX6_init 11 = .ok (.bipush 40, 2) := by decide +kernel
theorem dX6_init_13 : decode cX6_init 13 = .ok (.invokespecial 11, 3) := by decide +kernel
theorem dX6_init_16 : decode cX6_init 16 = .ok (.putfield 14, 3) := by decide +kernel
theorem dX6_init_19 : decode cX6_init 19 = .ok (.aload_n 0, 1) := by decide +kernel
theorem dX6_init_20 : decode cX6_init 20 = .ok (.new 7, 3) := by decide +kernel
theorem dX6_init_23 : decode cX6_init 23 = .ok (.dup, 1) := by decide +kernel
theorem dX6_init_24 : decode cX6_init 24 = .ok (.iconst 4, 1) := by decide +kernel
theorem dX6_init_25 : decode cX6_init 25 = .ok (.bipush 60, 2) := by decide +kernel
theorem dX6_init_27 : decode cX6_init 27 = .ok (.invokespecial 11, 3) := by decide +kernel
theorem dX6_init_30 : decode cX6_init 30 = .ok (.putfield 18, 3) := by decide +kernel
theorem dX6_init_33 : decode cX6_init 33 = .ok (.aload_n 0, 1) := by decide +kernel
theorem dX6_init_34 : decode cX6_init 34 = .ok (.new 7, 3) := by decide +kernel
theorem dX6_init_37 : decode cX6_init 37 = .ok (.dup, 1) := by decide +kernel
theorem dX6_init_38 : decode cX6_init 38 = .ok (.iconst 3, 1) := by decide +kernel
theorem dX6_init_39 : decode cX6_init 39 = .ok (.bipush 40, 2) := by decide +kernel
theorem dX6_init_41 : decode cX6_init 41 = .ok (.invokespecial 11, 3) := by decide +kernel
theorem dX6_init_44 : decode cX6_init 44 = .ok (.putfield 21, 3) := by decide +kernel
theorem dX6_init_47 : decode cX6_init 47 = .ok (.aload_n 0, 1) := by decide +kernel
theorem dX6_init_48 : decode cX6_init 48 = .ok (.new 24, 3) := by decide +kernel
theorem dX6_init_51 : decode cX6_init 51 = .ok (.dup, 1) := by decide +kernel
theorem dX6_init_52 : decode cX6_init 52 = .ok (.invokespecial 26, 3) := by decide +kernel
theorem dX6_init_55 : decode cX6_init 55 = .ok (.putfield 27, 3) := by decide +kernel
theorem dX6_init_58 : decode cX6_init 58 = .ok (.aload_n 0, 1) := by decide +kernel
theorem dX6_init_59 : decode cX6_init 59 = .ok (.new 31, 3) := by decide +kernel
theorem dX6_init_62 : decode cX6_init 62 = .ok (.dup, 1) := by decide +kernel
theorem dX6_init_63 : decode cX6_init 63 = .ok (.invokespecial 33, 3) := by decide +kernel
theorem dX6_init_66 : decode cX6_init 66 = .ok (.putfield 34, 3) := by decide +kernel
theorem dX6_init_69 : decode cX6_init 69 = .ok (.aload_n 0, 1) := by decide +kernel
theorem dX6_init_70 : decode cX6_init 70 = .ok (.new 38, 3) := by decide +kernel
theorem dX6_init_73 : decode cX6_init 73 = .ok (.dup, 1) := by decide +kernel
theorem dX6_init_74 : decode cX6_init 74 = .ok (.aload_n 0, 1) := by decide +kernel
theorem dX6_init_75 : decode cX6_init 75 = .ok (.getfield 27, 3) := by decide +kernel
theorem dX6_init_78 : decode cX6_init 78 = .ok (.invokespecial 40, 3) := by decide +kernel
theorem dX6_init_81 : decode cX6_init 81 = .ok (.putfield 43, 3) := by decide +kernel
theorem dX6_init_84 : decode cX6_init 84 = .ok (.aload_n 0, 1) := by decide +kernel
theorem dX6_init_85 : decode cX6_init 85 = .ok (.new 47, 3) := by decide +kernel
theorem dX6_init_88 : decode cX6_init 88 = .ok (.dup, 1) := by decide +kernel
theorem dX6_init_89 : decode cX6_init 89 = .ok (.aload_n 0, 1) := by decide +kernel
theorem dX6_init_90 : decode cX6_init 90 = .ok (.getfield 27, 3) := by decide +kernel
theorem dX6_init_93 : decode cX6_init 93 = .ok (.invokespecial 49, 3) := by decide +kernel
theorem dX6_init_96 : decode cX6_init 96 = .ok (.putfield 50, 3) := by decide +kernel
theorem dX6_init_99 : decode cX6_init 99 = .ok (.aload_n 0, 1) := by decide +kernel
theorem dX6_init_100 : decode cX6_init 100 = .ok (.new 54, 3) := by decide +kernel
theorem dX6_init_103 : decode cX6_init 103 = .ok (.dup, 1) := by decide +kernel
theorem dX6_init_104 : decode cX6_init 104 = .ok (.invokespecial 56, 3) := by decide +kernel
theorem dX6_init_107 : decode cX6_init 107 = .ok (.putfield 57, 3) := by decide +kernel
theorem dX6_init_110 : decode cX6_init 110 = .ok (.aload_n 0, 1) := by decide +kernel
theorem dX6_init_111 : decode cX6_init 111 = .ok (.bipush 6, 2) := by decide +kernel
theorem dX6_init_113 : decode cX6_init 113 = .ok (.newarray .int, 2) := by decide +kernel
theorem dX6_init_115 : decode cX6_init 115 = .ok (.putfield 61, 3) := by decide +kernel
theorem dX6_init_118 : decode cX6_init 118 = .ok (.aload_n 0, 1) := by decide +kernel
theorem dX6_init_119 : decode cX6_init 119 = .ok (.iconst 0, 1) := by decide +kernel
theorem dX6_init_120 : decode cX6_init 120 = .ok (.putfield 65, 3) := by decide +kernel
theorem dX6_init_123 : decode cX6_init 123 = .ok (.aload_n 0, 1) := by decide +kernel
theorem dX6_init_124 : decode cX6_init 124 = .ok (.iconst 0, 1) := by decide +kernel
theorem dX6_init_125 : decode cX6_init 125 = .ok (.putfield 69, 3) := by decide +kernel
theorem dX6_init_128 : decode cX6_init 128 = .ok (.return_, 1) := by decide +kernel
theorem dX6_row_0 : decode cX6_row 0 = .ok (.aload_n 0, 1) := by decide +kernel
theorem dX6_row_1 : decode cX6_row 1 = .ok (.aload_n 0, 1) := by decide +kernel
theorem dX6_row_2 : decode cX6_row 2 = .ok (.getfield 14, 3) := by decide +kernel
theorem dX6_row_5 : decode cX6_row 5 = .ok (.iload_n 1, 1) := by decide +kernel
theorem dX6_row_6 : decode cX6_row 6 = .ok (.iload_n 2, 1) := by decide +kernel
theorem dX6_row_7 : decode cX6_row 7 = .ok (.iconst 0, 1) := by decide +kernel
theorem dX6_row_8 : decode cX6_row 8 = .ok (.invokevirtual 72, 3) := by decide +kernel
theorem dX6_row_11 : decode cX6_row 11 = .ok (.ireturn, 1) := by decide +kernel
theorem dX6_lay_0 : decode cX6_lay 0 = .ok (.aload_n 0, 1) := by decide +kernel
theorem dX6_lay_1 : decode cX6_lay 1 = .ok (.aload_n 0, 1) := by decide +kernel
theorem dX6_lay_2 : decode cX6_lay 2 = .ok (.getfield 14, 3) := by decide +kernel
theorem dX6_lay_5 : decode cX6_lay 5 = .ok (.iload_n 1, 1) := by decide +kernel
theorem dX6_lay_6 : decode cX6_lay 6 = .ok (.iload_n 2, 1) := by decide +kernel
theorem dX6_lay_7 : decode cX6_lay 7 = .ok (.invokevirtual 76, 3) := by decide +kernel
theorem dX6_lay_10 : decode cX6_lay 10 = .ok (.istore 4, 2) := by decide +kernel
theorem dX6_lay_12 : decode cX6_lay 12 = .ok (.iload 4, 2) := by decide +kernel
theorem dX6_lay_14 : decode cX6_lay 14 = .ok (.ifCond .eq 6, 3) := by decide +kernel
theorem dX6_lay_17 : decode cX6_lay 17 = .ok (.iload 4, 2) := by decide +kernel
theorem dX6_lay_19 : decode cX6_lay 19 = .ok (.ireturn, 1) := by decide +kernel
theorem dX6_lay_20 : decode cX6_lay 20 = .ok (.aload_n 0, 1) := by decide +kernel
theorem dX6_lay_21 : decode cX6_lay 21 = .ok (.aload_n 0, 1) := by decide +kernel
theorem dX6_lay_22 : decode cX6_lay 22 = .ok (.getfield 14, 3) := by decide +kernel
theorem dX6_lay_25 : decode cX6_lay 25 = .ok (.iload_n 1, 1) := by decide +kernel
theorem dX6_lay_26 : decode cX6_lay 26 = .ok (.iload_n 2, 1) := by decide +kernel
theorem dX6_lay_27 : decode cX6_lay 27 = .ok (.iconst 0, 1) := by decide +kernel
theorem dX6_lay_28 : decode cX6_lay 28 = .ok (.invokevirtual 80, 3) := by decide +kernel
theorem dX6_lay_31 : decode cX6_lay 31 = .ok (.putfield 69, 3) := by decide +kernel
theorem dX6_lay_34 : decode cX6_lay 34 = .ok (.aload_n 0, 1) := by decide +kernel
theorem dX6_lay_35 : decode cX6_lay 35 = .ok (.getfield 14, 3) := by decide +kernel
theorem dX6_lay_38 : decode cX6_lay 38 = .ok (.iload_n 1, 1) := by decide +kernel
theorem dX6_lay_39 : decode cX6_lay 39 = .ok (.iload_n 2, 1) := by decide +kernel
theorem dX6_lay_40 : decode cX6_lay 40 = .ok (.iload_n 3, 1) := by decide +kernel
theorem dX6_lay_41 : decode cX6_lay 41 = .ok (.invokevirtual 84, 3) := by decide +kernel
theorem dX6_lay_44 : decode cX6_lay 44 = .ok (.iconst 1, 1) := by decide +kernel
theorem dX6_lay_45 : decode cX6_lay 45 = .ok (.ireturn, 1) := by decide +kernel
theorem dX6_at_0 : decode cX6_at 0 = .ok (.aload_n 0, 1) := by decide +kernel
theorem dX6_at_1 : decode cX6_at 1 = .ok (.aload_n 0, 1) := by decide +kernel
theorem dX6_at_2 : decode cX6_at 2 = .ok (.getfield 14, 3) := by decide +kernel
theorem dX6_at_5 : decode cX6_at 5 = .ok (.iload_n 1, 1) := by decide +kernel
theorem dX6_at_6 : decode cX6_at 6 = .ok (.iload_n 2, 1) := by decide +kernel
theorem dX6_at_7 : decode cX6_at 7 = .ok (.invokevirtual 76, 3) := by decide +kernel
theorem dX6_at_10 : decode cX6_at 10 = .ok (.istore_n 3, 1) := by decide +kernel
theorem dX6_at_11 : decode cX6_at 11 = .ok (.iload_n 3, 1) := by decide +kernel
theorem dX6_at_12 : decode cX6_at 12 = .ok (.ifCond .eq 5, 3) := by decide +kernel
theorem dX6_at_15 : decode cX6_at 15 = .ok (.iload_n 3, 1) := by decide +kernel
theorem dX6_at_16 : decode cX6_at 16 = .ok (.ireturn, 1) := by decide +kernel
theorem dX6_at_17 : decode cX6_at 17 = .ok (.aload_n 0, 1) := by decide +kernel
theorem dX6_at_18 : decode cX6_at 18 = .ok (.aload_n 0, 1) := by decide +kernel
theorem dX6_at_19 : decode cX6_at 19 = .ok (.getfield 14, 3) := by decide +kernel
theorem dX6_at_22 : decode cX6_at 22 = .ok (.iload_n 1, 1) := by decide +kernel
theorem dX6_at_23 : decode cX6_at 23 = .ok (.iload_n 2, 1) := by decide +kernel
theorem dX6_at_24 : decode cX6_at 24 = .ok (.iconst 0, 1) := by decide +kernel
theorem dX6_at_25 : decode cX6_at 25 = .ok (.invokevirtual 80, 3) := by decide +kernel
theorem dX6_at_28 : decode cX6_at 28 = .ok (.putfield 69, 3) := by decide +kernel
theorem dX6_at_31 : decode cX6_at 31 = .ok (.iconst 1, 1) := by decide +kernel
theorem dX6_at_32 : decode cX6_at 32 = .ok (.ireturn, 1) := by decide +kernel
theorem dX6_tear_0 : decode cX6_tear 0 = .ok (.aload_n 0, 1) := by decide +kernel
theorem dX6_tear_1 : decode cX6_tear 1 = .ok (.aload_n 0, 1) := by decide +kernel
theorem dX6_tear_2 : decode cX6_tear 2 = .ok (.getfield 14, 3) := by decide +kernel
theorem dX6_tear_5 : decode cX6_tear 5 = .ok (.iload_n 1, 1) := by decide +kernel
theorem dX6_tear_6 : decode cX6_tear 6 = .ok (.invokevirtual 88, 3) := by decide +kernel
theorem dX6_tear_9 : decode cX6_tear 9 = .ok (.istore_n 2, 1) := by decide +kernel
theorem dX6_tear_10 : decode cX6_tear 10 = .ok (.iload_n 2, 1) := by decide +kernel
theorem dX6_tear_11 : decode cX6_tear 11 = .ok (.ifCond .eq 5, 3) := by decide +kernel
theorem dX6_tear_14 : decode cX6_tear 14 = .ok (.iload_n 2, 1) := by decide +kernel
theorem dX6_tear_15 : decode cX6_tear 15 = .ok (.ireturn, 1) := by decide +kernel
theorem dX6_tear_16 : decode cX6_tear 16 = .ok (.aload_n 0, 1) := by decide +kernel
theorem dX6_tear_17 : decode cX6_tear 17 = .ok (.getfield 14, 3) := by decide +kernel
theorem dX6_tear_20 : decode cX6_tear 20 = .ok (.iload_n 1, 1) := by decide +kernel
theorem dX6_tear_21 : decode cX6_tear 21 = .ok (.invokevirtual 92, 3) := by decide +kernel
theorem dX6_tear_24 : decode cX6_tear 24 = .ok (.iconst 1, 1) := by decide +kernel
theorem dX6_tear_25 : decode cX6_tear 25 = .ok (.ireturn, 1) := by decide +kernel
theorem dX6_copy_0 : decode cX6_copy 0 = .ok (.aload_n 0, 1) := by decide +kernel
theorem dX6_copy_1 : decode cX6_copy 1 = .ok (.getfield 14, 3) := by decide +kernel
theorem dX6_copy_4 : decode cX6_copy 4 = .ok (.iload_n 1, 1) := by decide +kernel
theorem dX6_copy_5 : decode cX6_copy 5 = .ok (.invokevirtual 96, 3) := by decide +kernel
theorem dX6_copy_8 : decode cX6_copy 8 = .ok (.ifCond .eq 14, 3) := by decide +kernel
theorem dX6_copy_11 : decode cX6_copy 11 = .ok (.aload_n 0, 1) := by decide +kernel
theorem dX6_copy_12 : decode cX6_copy 12 = .ok (.getfield 14, 3) := by decide +kernel
theorem dX6_copy_15 : decode cX6_copy 15 = .ok (.iload_n 3, 1) := by decide +kernel
theorem dX6_copy_16 : decode cX6_copy 16 = .ok (.invokevirtual 96, 3) := by decide +kernel
theorem dX6_copy_19 : decode cX6_copy 19 = .ok (.ifCond .ne 5, 3) := by decide +kernel
theorem dX6_copy_22 : decode cX6_copy 22 = .ok (.iconst (-1), 1) := by decide +kernel
theorem dX6_copy_23 : decode cX6_copy 23 = .ok (.ireturn, 1) := by decide +kernel
theorem dX6_copy_24 : decode cX6_copy 24 = .ok (.iload 5, 2) := by decide +kernel
theorem dX6_copy_26 : decode cX6_copy 26 = .ok (.ifCond .ge 9, 3) := by decide +kernel
theorem dX6_copy_29 : decode cX6_copy 29 = .ok (.aload_n 0, 1) := by decide +kernel
theorem dX6_copy_30 : decode cX6_copy 30 = .ok (.iconst 5, 1) := by decide +kernel
theorem dX6_copy_31 : decode cX6_copy 31 = .ok (.invokevirtual 100, 3) := by decide +kernel
theorem dX6_copy_34 : decode cX6_copy 34 = .ok (.ireturn, 1) := by decide +kernel
theorem dX6_copy_35 : decode cX6_copy 35 = .ok (.aload_n 0, 1) := by decide +kernel
theorem dX6_copy_36 : decode cX6_copy 36 = .ok (.getfield 14, 3) := by decide +kernel
theorem dX6_copy_39 : decode cX6_copy 39 = .ok (.iload_n 1, 1) := by decide +kernel
theorem dX6_copy_40 : decode cX6_copy 40 = .ok (.invokevirtual 104, 3) := by decide +kernel
theorem dX6_copy_43 : decode cX6_copy 43 = .ok (.ifCond .eq 14, 3) := by decide +kernel
theorem dX6_copy_46 : decode cX6_copy 46 = .ok (.aload_n 0, 1) := by decide +kernel
theorem dX6_copy_47 : decode cX6_copy 47 = .ok (.getfield 14, 3) := by decide +kernel
theorem dX6_copy_50 : decode cX6_copy 50 = .ok (.iload_n 3, 1) := by decide +kernel
theorem dX6_copy_51 : decode cX6_copy 51 = .ok (.invokevirtual 104, 3) := by decide +kernel
theorem dX6_copy_54 : decode cX6_copy 54 = .ok (.ifCond .ne 9, 3) := by decide +kernel
theorem dX6_copy_57 : decode cX6_copy 57 = .ok (.aload_n 0, 1) := by decide +kernel
theorem dX6_copy_58 : decode cX6_copy 58 = .ok (.iconst 1, 1) := by decide +kernel
theorem dX6_copy_59 : decode cX6_copy 59 = .ok (.invokevirtual 100, 3) := by decide +kernel
theorem dX6_copy_62 : decode cX6_copy 62 = .ok (.ireturn, 1) := by decide +kernel
theorem dX6_copy_63 : decode cX6_copy 63 = .ok (.aload_n 0, 1) := by decide +kernel
theorem dX6_copy_64 : decode cX6_copy 64 = .ok (.getfield 14, 3) := by decide +kernel
theorem dX6_copy_67 : decode cX6_copy 67 = .ok (.iload_n 1, 1) := by decide +kernel
theorem dX6_copy_68 : decode cX6_copy 68 = .ok (.iload_n 2, 1) := by decide +kernel
theorem dX6_copy_69 : decode cX6_copy 69 = .ok (.iload 5, 2) := by decide +kernel
theorem dX6_copy_71 : decode cX6_copy 71 = .ok (.invokevirtual 107, 3) := by decide +kernel
theorem dX6_copy_74 : decode cX6_copy 74 = .ok (.ifCond .eq 18, 3) := by decide +kernel
theorem dX6_copy_77 : decode cX6_copy 77 = .ok (.aload_n 0, 1) := by decide +kernel
theorem dX6_copy_78 : decode cX6_copy 78 = .ok (.getfield 14, 3) := by decide +kernel
theorem dX6_copy_81 : decode cX6_copy 81 = .ok (.iload_n 3, 1) := by decide +kernel
theorem dX6_copy_82 : decode cX6_copy 82 = .ok (.iload 4, 2) := by decide +kernel
theorem dX6_copy_84 : decode cX6_copy 84 = .ok (.iload 5, 2) := by decide +kernel
theorem dX6_copy_86 : decode cX6_copy 86 = .ok (.invokevirtual 107, 3) := by decide +kernel
theorem dX6_copy_89 : decode cX6_copy 89 = .ok (.ifCond .ne 9, 3) := by decide +kernel
theorem dX6_copy_92 : decode cX6_copy 92 = .ok (.aload_n 0, 1) := by decide +kernel
theorem dX6_copy_93 : decode cX6_copy 93 = .ok (.iconst 2, 1) := by decide +kernel
theorem dX6_copy_94 : decode cX6_copy 94 = .ok (.invokevirtual 100, 3) := by decide +kernel
theorem dX6_copy_97 : decode cX6_copy 97 = .ok (.ireturn, 1) := by decide +kernel
theorem dX6_copy_98 : decode cX6_copy 98 = .ok (.aload_n 0, 1) := by decide +kernel
theorem dX6_copy_99 : decode cX6_copy 99 = .ok (.getfield 14, 3) := by decide +kernel
theorem dX6_copy_102 : decode cX6_copy 102 = .ok (.getfield 111, 3) := by decide +kernel
theorem dX6_copy_105 : decode cX6_copy 105 = .ok (.iload_n 1, 1) := by decide +kernel
theorem dX6_copy_106 : decode cX6_copy 106 = .ok (.aaload, 1) := by decide +kernel
theorem dX6_copy_107 : decode cX6_copy 107 = .ok (.iload_n 2, 1) := by decide +kernel
theorem dX6_copy_108 : decode cX6_copy 108 = .ok (.aload_n 0, 1) := by decide +kernel
theorem dX6_copy_109 : decode cX6_copy 109 = .ok (.getfield 14, 3) := by decide +kernel
theorem dX6_copy_112 : decode cX6_copy 112 = .ok (.getfield 111, 3) := by decide +kernel
theorem dX6_copy_115 : decode cX6_copy 115 = .ok (.iload_n 3, 1) := by decide +kernel
theorem dX6_copy_116 : decode cX6_copy 116 = .ok (.aaload, 1) := by decide +kernel
theorem dX6_copy_117 : decode cX6_copy 117 = .ok (.iload 4, 2) := by decide +kernel
theorem dX6_copy_119 : decode cX6_copy 119 = .ok (.iload 5, 2) := by decide +kernel
theorem dX6_copy_121 : decode cX6_copy 121 = .ok (.invokestatic 115, 3) := by decide +kernel
theorem dX6_copy_124 : decode cX6_copy 124 = .ok (.iconst 1, 1) := by decide +kernel
theorem dX6_copy_125 : decode cX6_copy 125 = .ok (.ireturn, 1) := by decide +kernel
theorem dX6_mean_0 : decode cX6_mean 0 = .ok (.aload_n 0, 1) := by decide +kernel
theorem dX6_mean_1 : decode cX6_mean 1 = .ok (.aload_n 0, 1) := by decide +kernel
theorem dX6_mean_2 : decode cX6_mean 2 = .ok (.getfield 14, 3) := by decide +kernel
theorem dX6_mean_5 : decode cX6_mean 5 = .ok (.iload_n 1, 1) := by decide +kernel
theorem dX6_mean_6 : decode cX6_mean 6 = .ok (.invokevirtual 88, 3) := by decide +kernel
theorem dX6_mean_9 : decode cX6_mean 9 = .ok (.istore_n 2, 1) := by decide +kernel
theorem dX6_mean_10 : decode cX6_mean 10 = .ok (.iload_n 2, 1) := by decide +kernel
theorem dX6_mean_11 : decode cX6_mean 11 = .ok (.ifCond .eq 5, 3) := by decide +kernel
theorem dX6_mean_14 : decode cX6_mean 14 = .ok (.iload_n 2, 1) := by decide +kernel
theorem dX6_mean_15 : decode cX6_mean 15 = .ok (.ireturn, 1) := by decide +kernel
theorem dX6_mean_16 : decode cX6_mean 16 = .ok (.aload_n 0, 1) := by decide +kernel
theorem dX6_mean_17 : decode cX6_mean 17 = .ok (.getfield 14, 3) := by decide +kernel
theorem dX6_mean_20 : decode cX6_mean 20 = .ok (.getfield 121, 3) := by decide +kernel
theorem dX6_mean_23 : decode cX6_mean 23 = .ok (.iload_n 1, 1) := by decide +kernel
theorem dX6_mean_24 : decode cX6_mean 24 = .ok (.iaload, 1) := by decide +kernel
theorem dX6_mean_25 : decode cX6_mean 25 = .ok (.istore_n 3, 1) := by decide +kernel
theorem dX6_mean_26 : decode cX6_mean 26 = .ok (.iload_n 3, 1) := by decide +kernel
theorem dX6_mean_27 : decode cX6_mean 27 = .ok (.ifCond .gt 9, 3) := by decide +kernel
theorem dX6_mean_30 : decode cX6_mean 30 = .ok (.aload_n 0, 1) := by decide +kernel
theorem dX6_mean_31 : decode cX6_mean 31 = .ok (.iconst 4, 1) := by decide +kernel
theorem dX6_mean_32 : decode cX6_mean 32 = .ok (.invokevirtual 100, 3) := by decide +kernel
theorem dX6_mean_35 : decode cX6_mean 35 = .ok (.ireturn, 1) := by decide +kernel
theorem dX6_mean_36 : decode cX6_mean 36 = .ok (.lconst 0, 1) := by decide +kernel
theorem dX6_mean_37 : decode cX6_mean 37 = .ok (.lstore 4, 2) := by decide +kernel
theorem dX6_mean_39 : decode cX6_mean 39 = .ok (.iconst 0, 1) := by decide +kernel
theorem dX6_mean_40 : decode cX6_mean 40 = .ok (.istore 6, 2) := by decide +kernel
theorem dX6_mean_42 : decode cX6_mean 42 = .ok (.iload 6, 2) := by decide +kernel
theorem dX6_mean_44 : decode cX6_mean 44 = .ok (.iload_n 3, 1) := by decide +kernel
theorem dX6_mean_45 : decode cX6_mean 45 = .ok (.if_icmp .ge 27, 3) := by decide +kernel
theorem dX6_mean_48 : decode cX6_mean 48 = .ok (.lload 4, 2) := by decide +kernel
theorem dX6_mean_50 : decode cX6_mean 50 = .ok (.aload_n 0, 1) := by decide +kernel
theorem dX6_mean_51 : decode cX6_mean 51 = .ok (.getfield 14, 3) := by decide +kernel
theorem dX6_mean_54 : decode cX6_mean 54 = .ok (.getfield 111, 3) := by decide +kernel
theorem dX6_mean_57 : decode cX6_mean 57 = .ok (.iload_n 1, 1) := by decide +kernel
theorem dX6_mean_58 : decode cX6_mean 58 = .ok (.aaload, 1) := by decide +kernel
theorem dX6_mean_59 : decode cX6_mean 59 = .ok (.iload 6, 2) := by decide +kernel
theorem dX6_mean_61 : decode cX6_mean 61 = .ok (.iaload, 1) := by decide +kernel
theorem dX6_mean_62 : decode cX6_mean 62 = .ok (.i2l, 1) := by decide +kernel
theorem dX6_mean_63 : decode cX6_mean 63 = .ok (.ladd, 1) := by decide +kernel
theorem dX6_mean_64 : decode cX6_mean 64 = .ok (.lstore 4, 2) := by decide +kernel
theorem dX6_mean_66 : decode cX6_mean 66 = .ok (.iinc 6 1, 3) := by decide +kernel
theorem dX6_mean_69 : decode cX6_mean 69 = .ok (.goto (-27), 3) := by decide +kernel
theorem dX6_mean_72 : decode cX6_mean 72 = .ok (.aload_n 0, 1) := by decide +kernel
theorem dX6_mean_73 : decode cX6_mean 73 = .ok (.lload 4, 2) := by decide +kernel
theorem dX6_mean_75 : decode cX6_mean 75 = .ok (.iload_n 3, 1) := by decide +kernel
theorem dX6_mean_76 : decode cX6_mean 76 = .ok (.i2l, 1) := by decide +kernel
theorem dX6_mean_77 : decode cX6_mean 77 = .ok (.ldiv, 1) := by decide +kernel
theorem dX6_mean_78 : decode cX6_mean 78 = .ok (.l2i, 1) := by decide +kernel
theorem dX6_mean_79 : decode cX6_mean 79 = .ok (.putfield 69, 3) := by decide +kernel
theorem dX6_mean_82 : decode cX6_mean 82 = .ok (.iconst 1, 1) := by decide +kernel
theorem dX6_mean_83 : decode cX6_mean 83 = .ok (.ireturn, 1) := by decide +kernel
theorem dX6_text_0 : decode cX6_text 0 = .ok (.aload_n 0, 1) := by decide +kernel
theorem dX6_text_1 : decode cX6_text 1 = .ok (.aload_n 0, 1) := by decide +kernel
theorem dX6_text_2 : decode cX6_text 2 = .ok (.getfield 18, 3) := by decide +kernel
theorem dX6_text_5 : decode cX6_text 5 = .ok (.iload_n 1, 1) := by decide +kernel
theorem dX6_text_6 : decode cX6_text 6 = .ok (.iload_n 2, 1) := by decide +kernel
theorem dX6_text_7 : decode cX6_text 7 = .ok (.bipush 32, 2) := by decide +kernel
theorem dX6_text_9 : decode cX6_text 9 = .ok (.invokevirtual 72, 3) := by decide +kernel
theorem dX6_text_12 : decode cX6_text 12 = .ok (.ireturn, 1) := by decide +kernel
theorem dX6_put_0 : decode cX6_put 0 = .ok (.aload_n 0, 1) := by decide +kernel
theorem dX6_put_1 : decode cX6_put 1 = .ok (.aload_n 0, 1) := by decide +kernel
theorem dX6_put_2 : decode cX6_put 2 = .ok (.getfield 18, 3) := by decide +kernel
theorem dX6_put_5 : decode cX6_put 5 = .ok (.iload_n 1, 1) := by decide +kernel
theorem dX6_put_6 : decode cX6_put 6 = .ok (.iload_n 2, 1) := by decide +kernel
theorem dX6_put_7 : decode cX6_put 7 = .ok (.invokevirtual 76, 3) := by decide +kernel
theorem dX6_put_10 : decode cX6_put 10 = .ok (.istore 4, 2) := by decide +kernel
theorem dX6_put_12 : decode cX6_put 12 = .ok (.iload 4, 2) := by decide +kernel
theorem dX6_put_14 : decode cX6_put 14 = .ok (.ifCond .eq 6, 3) := by decide +kernel
theorem dX6_put_17 : decode cX6_put 17 = .ok (.iload 4, 2) := by decide +kernel
theorem dX6_put_19 : decode cX6_put 19 = .ok (.ireturn, 1) := by decide +kernel
theorem dX6_put_20 : decode cX6_put 20 = .ok (.aload_n 0, 1) := by decide +kernel
theorem dX6_put_21 : decode cX6_put 21 = .ok (.getfield 18, 3) := by decide +kernel
theorem dX6_put_24 : decode cX6_put 24 = .ok (.iload_n 1, 1) := by decide +kernel
theorem dX6_put_25 : decode cX6_put 25 = .ok (.iload_n 2, 1) := by decide +kernel
theorem dX6_put_26 : decode cX6_put 26 = .ok (.iconst 0, 1) := by decide +kernel
theorem dX6_put_27 : decode cX6_put 27 = .ok (.invokevirtual 80, 3) := by decide +kernel
theorem dX6_put_30 : decode cX6_put 30 = .ok (.istore 5, 2) := by decide +kernel
theorem dX6_put_32 : decode cX6_put 32 = .ok (.aload_n 0, 1) := by decide +kernel
theorem dX6_put_33 : decode cX6_put 33 = .ok (.getfield 18, 3) := by decide +kernel
theorem dX6_put_36 : decode cX6_put 36 = .ok (.iload_n 1, 1) := by decide +kernel
theorem dX6_put_37 : decode cX6_put 37 = .ok (.iload_n 2, 1) := by decide +kernel
theorem dX6_put_38 : decode cX6_put 38 = .ok (.iload_n 3, 1) := by decide +kernel
theorem dX6_put_39 : decode cX6_put 39 = .ok (.i2b, 1) := by decide +kernel
theorem dX6_put_40 : decode cX6_put 40 = .ok (.invokevirtual 84, 3) := by decide +kernel
theorem dX6_put_43 : decode cX6_put 43 = .ok (.iload 5, 2) := by decide +kernel
theorem dX6_put_45 : decode cX6_put 45 = .ok (.sipush 1000, 3) := by decide +kernel
theorem dX6_put_48 : decode cX6_put 48 = .ok (.iadd, 1) := by decide +kernel
theorem dX6_put_49 : decode cX6_put 49 = .ok (.ireturn, 1) := by decide +kernel
theorem dX6_fault_0 : decode cX6_fault 0 = .ok (.aload_n 0, 1) := by decide +kernel
theorem dX6_fault_1 : decode cX6_fault 1 = .ok (.aload_n 0, 1) := by decide +kernel
theorem dX6_fault_2 : decode cX6_fault 2 = .ok (.getfield 18, 3) := by decide +kernel
theorem dX6_fault_5 : decode cX6_fault 5 = .ok (.iload_n 1, 1) := by decide +kernel
theorem dX6_fault_6 : decode cX6_fault 6 = .ok (.invokevirtual 88, 3) := by decide +kernel
theorem dX6_fault_9 : decode cX6_fault 9 = .ok (.istore_n 2, 1) := by decide +kernel
theorem dX6_fault_10 : decode cX6_fault 10 = .ok (.iload_n 2, 1) := by decide +kernel
theorem dX6_fault_11 : decode cX6_fault 11 = .ok (.ifCond .eq 7, 3) := by decide +kernel
theorem dX6_fault_14 : decode cX6_fault 14 = .ok (.iload_n 2, 1) := by decide +kernel
theorem dX6_fault_15 : decode cX6_fault 15 = .ok (.goto 28, 3) := by decide +kernel
theorem dX6_fault_18 : decode cX6_fault 18 = .ok (.aload_n 0, 1) := by decide +kernel
theorem dX6_fault_19 : decode cX6_fault 19 = .ok (.getfield 34, 3) := by decide +kernel
theorem dX6_fault_22 : decode cX6_fault 22 = .ok (.aload_n 0, 1) := by decide +kernel
theorem dX6_fault_23 : decode cX6_fault 23 = .ok (.getfield 18, 3) := by decide +kernel
theorem dX6_fault_26 : decode cX6_fault 26 = .ok (.getfield 111, 3) := by decide +kernel
theorem dX6_fault_29 : decode cX6_fault 29 = .ok (.iload_n 1, 1) := by decide +kernel
theorem dX6_fault_30 : decode cX6_fault 30 = .ok (.aaload, 1) := by decide +kernel
theorem dX6_fault_31 : decode cX6_fault 31 = .ok (.aload_n 0, 1) := by decide +kernel
theorem dX6_fault_32 : decode cX6_fault 32 = .ok (.getfield 18, 3) := by decide +kernel
theorem dX6_fault_35 : decode cX6_fault 35 = .ok (.getfield 121, 3) := by decide +kernel
theorem dX6_fault_38 : decode cX6_fault 38 = .ok (.iload_n 1, 1) := by decide +kernel
theorem dX6_fault_39 : decode cX6_fault 39 = .ok (.iaload, 1) := by decide +kernel
theorem dX6_fault_40 : decode cX6_fault 40 = .ok (.invokevirtual 124, 3) := by decide +kernel
theorem dX6_fault_43 : decode cX6_fault 43 = .ok (.ireturn, 1) := by decide +kernel
theorem dX6_harbour_0 : decode cX6_harbour 0 = .ok (.aload_n 0, 1) := by decide +kernel
theorem dX6_harbour_1 : decode cX6_harbour 1 = .ok (.iload_n 1, 1) := by decide +kernel
theorem dX6_harbour_2 : decode cX6_harbour 2 = .ok (.invokevirtual 128, 3) := by decide +kernel
theorem dX6_harbour_5 : decode cX6_harbour 5 = .ok (.istore_n 2, 1) := by decide +kernel
theorem dX6_harbour_6 : decode cX6_harbour 6 = .ok (.iload_n 2, 1) := by decide +kernel
theorem dX6_harbour_7 : decode cX6_harbour 7 = .ok (.bipush (-9), 2) := by decide +kernel
theorem dX6_harbour_9 : decode cX6_harbour 9 = .ok (.if_icmp .eq 14, 3) := by decide +kernel
theorem dX6_harbour_12 : decode cX6_harbour 12 = .ok (.iload_n 2, 1) := by decide +kernel
theorem dX6_harbour_13 : decode cX6_harbour 13 = .ok (.ifCond .ge 7, 3) := by decide +kernel
theorem dX6_harbour_16 : decode cX6_harbour 16 = .ok (.iload_n 2, 1) := by decide +kernel
theorem dX6_harbour_17 : decode cX6_harbour 17 = .ok (.goto 5, 3) := by decide +kernel
theorem dX6_harbour_20 : decode cX6_harbour 20 = .ok (.bipush (-4), 2) := by decide +kernel
theorem dX6_harbour_22 : decode cX6_harbour 22 = .ok (.ireturn, 1) := by decide +kernel
theorem dX6_harbour_23 : decode cX6_harbour 23 = .ok (.aload_n 0, 1) := by decide +kernel
theorem dX6_harbour_24 : decode cX6_harbour 24 = .ok (.getfield 27, 3) := by decide +kernel
theorem dX6_harbour_27 : decode cX6_harbour 27 = .ok (.getfield 131, 3) := by decide +kernel
theorem dX6_harbour_30 : decode cX6_harbour 30 = .ok (.aload_n 0, 1) := by decide +kernel
theorem dX6_harbour_31 : decode cX6_harbour 31 = .ok (.getfield 18, 3) := by decide +kernel
theorem dX6_harbour_34 : decode cX6_harbour 34 = .ok (.getfield 111, 3) := by decide +kernel
theorem dX6_harbour_37 : decode cX6_harbour 37 = .ok (.iload_n 1, 1) := by decide +kernel
theorem dX6_harbour_38 : decode cX6_harbour 38 = .ok (.aaload, 1) := by decide +kernel
theorem dX6_harbour_39 : decode cX6_harbour 39 = .ok (.aload_n 0, 1) := by decide +kernel
theorem dX6_harbour_40 : decode cX6_harbour 40 = .ok (.getfield 18, 3) := by decide +kernel
theorem dX6_harbour_43 : decode cX6_harbour 43 = .ok (.getfield 121, 3) := by decide +kernel
theorem dX6_harbour_46 : decode cX6_harbour 46 = .ok (.iload_n 1, 1) := by decide +kernel
theorem dX6_harbour_47 : decode cX6_harbour 47 = .ok (.iaload, 1) := by decide +kernel
theorem dX6_harbour_48 : decode cX6_harbour 48 = .ok (.invokevirtual 124, 3) := by decide +kernel
theorem dX6_harbour_51 : decode cX6_harbour 51 = .ok (.pop, 1) := by decide +kernel
theorem dX6_harbour_52 : decode cX6_harbour 52 = .ok (.aload_n 0, 1) := by decide +kernel
theorem dX6_harbour_53 : decode cX6_harbour 53 = .ok (.getfield 27, 3) := by decide +kernel
theorem dX6_harbour_56 : decode cX6_harbour 56 = .ok (.invokevirtual 134, 3) := by decide +kernel
theorem dX6_harbour_59 : decode cX6_harbour 59 = .ok (.iconst 0, 1) := by decide +kernel
theorem dX6_harbour_60 : decode cX6_harbour 60 = .ok (.istore_n 3, 1) := by decide +kernel
theorem dX6_harbour_61 : decode cX6_harbour 61 = .ok (.iload_n 3, 1) := by decide +kernel
theorem dX6_harbour_62 : decode cX6_harbour 62 = .ok (.iconst 3, 1) := by decide +kernel
theorem dX6_harbour_63 : decode cX6_harbour 63 = .ok (.if_icmp .ge 17, 3) := by decide +kernel
theorem dX6_harbour_66 : decode cX6_harbour 66 = .ok (.aload_n 0, 1) := by decide +kernel
theorem dX6_harbour_67 : decode cX6_harbour 67 = .ok (.getfield 21, 3) := by decide +kernel
theorem dX6_harbour_70 : decode cX6_harbour 70 = .ok (.iload_n 3, 1) := by decide +kernel
theorem dX6_harbour_71 : decode cX6_harbour 71 = .ok (.invokevirtual 92, 3) := by decide +kernel
theorem dX6_harbour_74 : decode cX6_harbour 74 = .ok (.iinc 3 1, 3) := by decide +kernel
theorem dX6_harbour_77 : decode cX6_harbour 77 = .ok (.goto (-16), 3) := by decide +kernel
theorem dX6_harbour_80 : decode cX6_harbour 80 = .ok (.aload_n 0, 1) := by decide +kernel
theorem dX6_harbour_81 : decode cX6_harbour 81 = .ok (.getfield 27, 3) := by decide +kernel
theorem dX6_harbour_84 : decode cX6_harbour 84 = .ok (.getfield 131, 3) := by decide +kernel
theorem dX6_harbour_87 : decode cX6_harbour 87 = .ok (.getfield 137, 3) := by decide +kernel
theorem dX6_harbour_90 : decode cX6_harbour 90 = .ok (.ireturn, 1) := by decide +kernel
theorem dX6_ship_0 : decode cX6_ship 0 = .ok (.aload_n 0, 1) := by decide +kernel
theorem dX6_ship_1 : decode cX6_ship 1 = .ok (.getfield 27, 3) := by decide +kernel
theorem dX6_ship_4 : decode cX6_ship 4 = .ok (.iload_n 1, 1) := by decide +kernel
theorem dX6_ship_5 : decode cX6_ship 5 = .ok (.invokevirtual 140, 3) := by decide +kernel
theorem dX6_ship_8 : decode cX6_ship 8 = .ok (.ifCond .eq 13, 3) := by decide +kernel
theorem dX6_ship_11 : decode cX6_ship 11 = .ok (.iload_n 2, 1) := by decide +kernel
theorem dX6_ship_12 : decode cX6_ship 12 = .ok (.ifCond .lt 9, 3) := by decide +kernel
theorem dX6_ship_15 : decode cX6_ship 15 = .ok (.iload_n 2, 1) := by decide +kernel
theorem dX6_ship_16 : decode cX6_ship 16 = .ok (.bipush 9, 2) := by decide +kernel
theorem dX6_ship_18 : decode cX6_ship 18 = .ok (.if_icmp .lt 5, 3) := by decide +kernel
theorem dX6_ship_21 : decode cX6_ship 21 = .ok (.iconst (-1), 1) := by decide +kernel
theorem dX6_ship_22 : decode cX6_ship 22 = .ok (.ireturn, 1) := by decide +kernel
theorem dX6_ship_23 : decode cX6_ship 23 = .ok (.aload_n 0, 1) := by decide +kernel
theorem dX6_ship_24 : decode cX6_ship 24 = .ok (.aload_n 0, 1) := by decide +kernel
theorem dX6_ship_25 : decode cX6_ship 25 = .ok (.getfield 27, 3) := by decide +kernel
theorem dX6_ship_28 : decode cX6_ship 28 = .ok (.iload_n 1, 1) := by decide +kernel
theorem dX6_ship_29 : decode cX6_ship 29 = .ok (.iload_n 2, 1) := by decide +kernel
theorem dX6_ship_30 : decode cX6_ship 30 = .ok (.invokevirtual 143, 3) := by decide +kernel
theorem dX6_ship_33 : decode cX6_ship 33 = .ok (.putfield 69, 3) := by decide +kernel
theorem dX6_ship_36 : decode cX6_ship 36 = .ok (.iconst 1, 1) := by decide +kernel
theorem dX6_ship_37 : decode cX6_ship 37 = .ok (.ireturn, 1) := by decide +kernel
theorem dX6_mark_0 : decode cX6_mark 0 = .ok (.aload_n 0, 1) := by decide +kernel
theorem dX6_mark_1 : decode cX6_mark 1 = .ok (.getfield 27, 3) := by decide +kernel
theorem dX6_mark_4 : decode cX6_mark 4 = .ok (.iload_n 1, 1) := by decide +kernel
theorem dX6_mark_5 : decode cX6_mark 5 = .ok (.invokevirtual 140, 3) := by decide +kernel
theorem dX6_mark_8 : decode cX6_mark 8 = .ok (.ifCond .eq 13, 3) := by decide +kernel
theorem dX6_mark_11 : decode cX6_mark 11 = .ok (.iload_n 2, 1) := by decide +kernel
theorem dX6_mark_12 : decode cX6_mark 12 = .ok (.ifCond .le 9, 3) := by decide +kernel
theorem dX6_mark_15 : decode cX6_mark 15 = .ok (.iload_n 2, 1) := by decide +kernel
theorem dX6_mark_16 : decode cX6_mark 16 = .ok (.bipush 6, 2) := by decide +kernel
theorem dX6_mark_18 : decode cX6_mark 18 = .ok (.if_icmp .lt 5, 3) := by decide +kernel
theorem dX6_mark_21 : decode cX6_mark 21 = .ok (.iconst (-1), 1) := by decide +kernel
theorem dX6_mark_22 : decode cX6_mark 22 = .ok (.ireturn, 1) := by decide +kernel
theorem dX6_mark_23 : decode cX6_mark 23 = .ok (.aload_n 0, 1) := by decide +kernel
theorem dX6_mark_24 : decode cX6_mark 24 = .ok (.getfield 27, 3) := by decide +kernel
theorem dX6_mark_27 : decode cX6_mark 27 = .ok (.iload_n 1, 1) := by decide +kernel
theorem dX6_mark_28 : decode cX6_mark 28 = .ok (.iload_n 2, 1) := by decide +kernel
theorem dX6_mark_29 : decode cX6_mark 29 = .ok (.invokevirtual 147, 3) := by decide +kernel
theorem dX6_mark_32 : decode cX6_mark 32 = .ok (.ifCond .ne 9, 3) := by decide +kernel
theorem dX6_mark_35 : decode cX6_mark 35 = .ok (.aload_n 0, 1) := by decide +kernel
theorem dX6_mark_36 : decode cX6_mark 36 = .ok (.iconst 3, 1) := by decide +kernel
theorem dX6_mark_37 : decode cX6_mark 37 = .ok (.invokevirtual 100, 3) := by decide +kernel
theorem dX6_mark_40 : decode cX6_mark 40 = .ok (.ireturn, 1) := by decide +kernel
theorem dX6_mark_41 : decode cX6_mark 41 = .ok (.aload_n 0, 1) := by decide +kernel
theorem dX6_mark_42 : decode cX6_mark 42 = .ok (.getfield 27, 3) := by decide +kernel
theorem dX6_mark_45 : decode cX6_mark 45 = .ok (.iload_n 1, 1) := by decide +kernel
theorem dX6_mark_46 : decode cX6_mark 46 = .ok (.iload_n 2, 1) := by decide +kernel
theorem dX6_mark_47 : decode cX6_mark 47 = .ok (.invokevirtual 151, 3) := by decide +kernel
theorem dX6_mark_50 : decode cX6_mark 50 = .ok (.ireturn, 1) := by decide +kernel
theorem dX6_age_0 : decode cX6_age 0 = .ok (.aload_n 0, 1) := by decide +kernel
theorem dX6_age_1 : decode cX6_age 1 = .ok (.getfield 27, 3) := by decide +kernel
theorem dX6_age_4 : decode cX6_age 4 = .ok (.iload_n 1, 1) := by decide +kernel
theorem dX6_age_5 : decode cX6_age 5 = .ok (.invokevirtual 140, 3) := by decide +kernel
theorem dX6_age_8 : decode cX6_age 8 = .ok (.ifCond .eq 14, 3) := by decide +kernel
theorem dX6_age_11 : decode cX6_age 11 = .ok (.iload_n 2, 1) := by decide +kernel
theorem dX6_age_12 : decode cX6_age 12 = .ok (.ifCond .lt 10, 3) := by decide +kernel
theorem dX6_age_15 : decode cX6_age 15 = .ok (.iload_n 2, 1) := by decide +kernel
theorem dX6_age_16 : decode cX6_age 16 = .ok (.sipush 999, 3) := by decide +kernel
theorem dX6_age_19 : decode cX6_age 19 = .ok (.if_icmp .le 5, 3) := by decide +kernel
theorem dX6_age_22 : decode cX6_age 22 = .ok (.iconst (-1), 1) := by decide +kernel
theorem dX6_age_23 : decode cX6_age 23 = .ok (.ireturn, 1) := by decide +kernel
theorem dX6_age_24 : decode cX6_age 24 = .ok (.aload_n 0, 1) := by decide +kernel
theorem dX6_age_25 : decode cX6_age 25 = .ok (.getfield 27, 3) := by decide +kernel
theorem dX6_age_28 : decode cX6_age 28 = .ok (.iload_n 1, 1) := by decide +kernel
theorem dX6_age_29 : decode cX6_age 29 = .ok (.iload_n 2, 1) := by decide +kernel
theorem dX6_age_30 : decode cX6_age 30 = .ok (.invokevirtual 154, 3) := by decide +kernel
theorem dX6_age_33 : decode cX6_age 33 = .ok (.ireturn, 1) := by decide +kernel
theorem dX6_come_0 : decode cX6_come 0 = .ok (.aload_n 0, 1) := by decide +kernel
theorem dX6_come_1 : decode cX6_come 1 = .ok (.iload_n 1, 1) := by decide +kernel
theorem dX6_come_2 : decode cX6_come 2 = .ok (.iconst 1, 1) := by decide +kernel
theorem dX6_come_3 : decode cX6_come 3 = .ok (.invokevirtual 157, 3) := by decide +kernel
theorem dX6_come_6 : decode cX6_come 6 = .ok (.ireturn, 1) := by decide +kernel
theorem dX6_leave_0 : decode cX6_leave 0 = .ok (.aload_n 0, 1) := by decide +kernel
theorem dX6_leave_1 : decode cX6_leave 1 = .ok (.iload_n 1, 1) := by decide +kernel
theorem dX6_leave_2 : decode cX6_leave 2 = .ok (.iconst 0, 1) := by decide +kernel
theorem dX6_leave_3 : decode cX6_leave 3 = .ok (.invokevirtual 157, 3) := by decide +kernel
theorem dX6_leave_6 : decode cX6_leave 6 = .ok (.ireturn, 1) := by decide +kernel
theorem dX6_pay_0 : decode cX6_pay 0 = .ok (.aload_n 0, 1) := by decide +kernel
theorem dX6_pay_1 : decode cX6_pay 1 = .ok (.getfield 27, 3) := by decide +kernel
theorem dX6_pay_4 : decode cX6_pay 4 = .ok (.iload_n 1, 1) := by decide +kernel
theorem dX6_pay_5 : decode cX6_pay 5 = .ok (.invokevirtual 140, 3) := by decide +kernel
theorem dX6_pay_8 : decode cX6_pay 8 = .ok (.ifCond .ne 5, 3) := by decide +kernel
theorem dX6_pay_11 : decode cX6_pay 11 = .ok (.iconst (-1), 1) := by decide +kernel
theorem dX6_pay_12 : decode cX6_pay 12 = .ok (.ireturn, 1) := by decide +kernel
theorem dX6_pay_13 : decode cX6_pay 13 = .ok (.aload_n 0, 1) := by decide +kernel
theorem dX6_pay_14 : decode cX6_pay 14 = .ok (.getfield 27, 3) := by decide +kernel
theorem dX6_pay_17 : decode cX6_pay 17 = .ok (.iload_n 1, 1) := by decide +kernel
theorem dX6_pay_18 : decode cX6_pay 18 = .ok (.iconst 5, 1) := by decide +kernel
theorem dX6_pay_19 : decode cX6_pay 19 = .ok (.invokevirtual 147, 3) := by decide +kernel
theorem dX6_pay_22 : decode cX6_pay 22 = .ok (.ifCond .ne 9, 3) := by decide +kernel
theorem dX6_pay_25 : decode cX6_pay 25 = .ok (.aload_n 0, 1) := by decide +kernel
theorem dX6_pay_26 : decode cX6_pay 26 = .ok (.iconst 3, 1) := by decide +kernel
theorem dX6_pay_27 : decode cX6_pay 27 = .ok (.invokevirtual 100, 3) := by decide +kernel
theorem dX6_pay_30 : decode cX6_pay 30 = .ok (.ireturn, 1) := by decide +kernel
theorem dX6_pay_31 : decode cX6_pay 31 = .ok (.aload_n 0, 1) := by decide +kernel
theorem dX6_pay_32 : decode cX6_pay 32 = .ok (.getfield 27, 3) := by decide +kernel
theorem dX6_pay_35 : decode cX6_pay 35 = .ok (.iload_n 1, 1) := by decide +kernel
theorem dX6_pay_36 : decode cX6_pay 36 = .ok (.invokevirtual 161, 3) := by decide +kernel
theorem dX6_pay_39 : decode cX6_pay 39 = .ok (.ifCond .eq 8, 3) := by decide +kernel
theorem dX6_pay_42 : decode cX6_pay 42 = .ok (.bipush (-4), 2) := by decide +kernel
theorem dX6_pay_44 : decode cX6_pay 44 = .ok (.goto 12, 3) := by decide +kernel
theorem dX6_pay_47 : decode cX6_pay 47 = .ok (.aload_n 0, 1) := by decide +kernel
theorem dX6_pay_48 : decode cX6_pay 48 = .ok (.getfield 27, 3) := by decide +kernel
theorem dX6_pay_51 : decode cX6_pay 51 = .ok (.iconst 1, 1) := by decide +kernel
theorem dX6_pay_52 : decode cX6_pay 52 = .ok (.iload_n 1, 1) := by decide +kernel
theorem dX6_pay_53 : decode cX6_pay 53 = .ok (.invokevirtual 164, 3) := by decide +kernel
theorem dX6_pay_56 : decode cX6_pay 56 = .ok (.ireturn, 1) := by decide +kernel
theorem dX6_tea_0 : decode cX6_tea 0 = .ok (.aload_n 0, 1) := by decide +kernel
theorem dX6_tea_1 : decode cX6_tea 1 = .ok (.getfield 27, 3) := by decide +kernel
theorem dX6_tea_4 : decode cX6_tea 4 = .ok (.iload_n 1, 1) := by decide +kernel
theorem dX6_tea_5 : decode cX6_tea 5 = .ok (.invokevirtual 140, 3) := by decide +kernel
theorem dX6_tea_8 : decode cX6_tea 8 = .ok (.ifCond .ne 5, 3) := by decide +kernel
theorem dX6_tea_11 : decode cX6_tea 11 = .ok (.iconst (-1), 1) := by decide +kernel
theorem dX6_tea_12 : decode cX6_tea 12 = .ok (.ireturn, 1) := by decide +kernel
theorem dX6_tea_13 : decode cX6_tea 13 = .ok (.aload_n 0, 1) := by decide +kernel
theorem dX6_tea_14 : decode cX6_tea 14 = .ok (.getfield 27, 3) := by decide +kernel
theorem dX6_tea_17 : decode cX6_tea 17 = .ok (.getfield 167, 3) := by decide +kernel
theorem dX6_tea_20 : decode cX6_tea 20 = .ok (.iload_n 1, 1) := by decide +kernel
theorem dX6_tea_21 : decode cX6_tea 21 = .ok (.iaload, 1) := by decide +kernel
theorem dX6_tea_22 : decode cX6_tea 22 = .ok (.bipush 20, 2) := by decide +kernel
theorem dX6_tea_24 : decode cX6_tea 24 = .ok (.if_icmp .lt 8, 3) := by decide +kernel
theorem dX6_tea_27 : decode cX6_tea 27 = .ok (.bipush (-4), 2) := by decide +kernel
theorem dX6_tea_29 : decode cX6_tea 29 = .ok (.goto 12, 3) := by decide +kernel
theorem dX6_tea_32 : decode cX6_tea 32 = .ok (.aload_n 0, 1) := by decide +kernel
theorem dX6_tea_33 : decode cX6_tea 33 = .ok (.getfield 27, 3) := by decide +kernel
theorem dX6_tea_36 : decode cX6_tea 36 = .ok (.iconst 2, 1) := by decide +kernel
theorem dX6_tea_37 : decode cX6_tea 37 = .ok (.iload_n 1, 1) := by decide +kernel
theorem dX6_tea_38 : decode cX6_tea 38 = .ok (.invokevirtual 164, 3) := by decide +kernel
theorem dX6_tea_41 : decode cX6_tea 41 = .ok (.ireturn, 1) := by decide +kernel
theorem dX6_tide_0 : decode cX6_tide 0 = .ok (.aload_n 0, 1) := by decide +kernel
theorem dX6_tide_1 : decode cX6_tide 1 = .ok (.getfield 27, 3) := by decide +kernel
theorem dX6_tide_4 : decode cX6_tide 4 = .ok (.invokevirtual 170, 3) := by decide +kernel
theorem dX6_tide_7 : decode cX6_tide 7 = .ok (.ifCond .eq 8, 3) := by decide +kernel
theorem dX6_tide_10 : decode cX6_tide 10 = .ok (.bipush (-4), 2) := by decide +kernel
theorem dX6_tide_12 : decode cX6_tide 12 = .ok (.goto 12, 3) := by decide +kernel
theorem dX6_tide_15 : decode cX6_tide 15 = .ok (.aload_n 0, 1) := by decide +kernel
theorem dX6_tide_16 : decode cX6_tide 16 = .ok (.getfield 27, 3) := by decide +kernel
theorem dX6_tide_19 : decode cX6_tide 19 = .ok (.iconst 3, 1) := by decide +kernel
theorem dX6_tide_20 : decode cX6_tide 20 = .ok (.iconst 0, 1) := by decide +kernel
theorem dX6_tide_21 : decode cX6_tide 21 = .ok (.invokevirtual 164, 3) := by decide +kernel
theorem dX6_tide_24 : decode cX6_tide 24 = .ok (.ireturn, 1) := by decide +kernel
theorem dX6_year_0 : decode cX6_year 0 = .ok (.aload_n 0, 1) := by decide +kernel
theorem dX6_year_1 : decode cX6_year 1 = .ok (.getfield 27, 3) := by decide +kernel
theorem dX6_year_4 : decode cX6_year 4 = .ok (.invokevirtual 170, 3) := by decide +kernel
theorem dX6_year_7 : decode cX6_year 7 = .ok (.ifCond .ne 16, 3) := by decide +kernel
theorem dX6_year_10 : decode cX6_year 10 = .ok (.aload_n 0, 1) := by decide +kernel
theorem dX6_year_11 : decode cX6_year 11 = .ok (.getfield 27, 3) := by decide +kernel
theorem dX6_year_14 : decode cX6_year 14 = .ok (.getfield 174, 3) := by decide +kernel
theorem dX6_year_17 : decode cX6_year 17 = .ok (.sipush 999, 3) := by decide +kernel
theorem dX6_year_20 : decode cX6_year 20 = .ok (.if_icmp .lt 8, 3) := by decide +kernel
theorem dX6_year_23 : decode cX6_year 23 = .ok (.bipush (-4), 2) := by decide +kernel
theorem dX6_year_25 : decode cX6_year 25 = .ok (.goto 12, 3) := by decide +kernel
theorem dX6_year_28 : decode cX6_year 28 = .ok (.aload_n 0, 1) := by decide +kernel
theorem dX6_year_29 : decode cX6_year 29 = .ok (.getfield 27, 3) := by decide +kernel
theorem dX6_year_32 : decode cX6_year 32 = .ok (.iconst 4, 1) := by decide +kernel
theorem dX6_year_33 : decode cX6_year 33 = .ok (.iconst 0, 1) := by decide +kernel
theorem dX6_year_34 : decode cX6_year 34 = .ok (.invokevirtual 164, 3) := by decide +kernel
theorem dX6_year_37 : decode cX6_year 37 = .ok (.ireturn, 1) := by decide +kernel
theorem dX6_undo_0 : decode cX6_undo 0 = .ok (.aload_n 0, 1) := by decide +kernel
theorem dX6_undo_1 : decode cX6_undo 1 = .ok (.getfield 27, 3) := by decide +kernel
theorem dX6_undo_4 : decode cX6_undo 4 = .ok (.getfield 177, 3) := by decide +kernel
theorem dX6_undo_7 : decode cX6_undo 7 = .ok (.istore_n 2, 1) := by decide +kernel
theorem dX6_undo_8 : decode cX6_undo 8 = .ok (.iload_n 1, 1) := by decide +kernel
theorem dX6_undo_9 : decode cX6_undo 9 = .ok (.ifCond .lt 8, 3) := by decide +kernel
theorem dX6_undo_12 : decode cX6_undo 12 = .ok (.iload_n 1, 1) := by decide +kernel
theorem dX6_undo_13 : decode cX6_undo 13 = .ok (.iload_n 2, 1) := by decide +kernel
theorem dX6_undo_14 : decode cX6_undo 14 = .ok (.if_icmp .le 5, 3) := by decide +kernel
theorem dX6_undo_17 : decode cX6_undo 17 = .ok (.iconst (-1), 1) := by decide +kernel
theorem dX6_undo_18 : decode cX6_undo 18 = .ok (.ireturn, 1) := by decide +kernel
theorem dX6_undo_19 : decode cX6_undo 19 = .ok (.aload_n 0, 1) := by decide +kernel
theorem dX6_undo_20 : decode cX6_undo 20 = .ok (.getfield 27, 3) := by decide +kernel
theorem dX6_undo_23 : decode cX6_undo 23 = .ok (.aload_n 0, 1) := by decide +kernel
theorem dX6_undo_24 : decode cX6_undo 24 = .ok (.getfield 27, 3) := by decide +kernel
theorem dX6_undo_27 : decode cX6_undo 27 = .ok (.getfield 180, 3) := by decide +kernel
theorem dX6_undo_30 : decode cX6_undo 30 = .ok (.iload_n 1, 1) := by decide +kernel
theorem dX6_undo_31 : decode cX6_undo 31 = .ok (.invokevirtual 183, 3) := by decide +kernel
theorem dX6_undo_34 : decode cX6_undo 34 = .ok (.iload_n 2, 1) := by decide +kernel
theorem dX6_undo_35 : decode cX6_undo 35 = .ok (.iload_n 1, 1) := by decide +kernel
theorem dX6_undo_36 : decode cX6_undo 36 = .ok (.isub, 1) := by decide +kernel
theorem dX6_undo_37 : decode cX6_undo 37 = .ok (.ireturn, 1) := by decide +kernel
theorem dX6_keep_0 : decode cX6_keep 0 = .ok (.aload_n 0, 1) := by decide +kernel
theorem dX6_keep_1 : decode cX6_keep 1 = .ok (.getfield 21, 3) := by decide +kernel
theorem dX6_keep_4 : decode cX6_keep 4 = .ok (.iload_n 1, 1) := by decide +kernel
theorem dX6_keep_5 : decode cX6_keep 5 = .ok (.invokevirtual 96, 3) := by decide +kernel
theorem dX6_keep_8 : decode cX6_keep 8 = .ok (.ifCond .ne 5, 3) := by decide +kernel
theorem dX6_keep_11 : decode cX6_keep 11 = .ok (.iconst (-1), 1) := by decide +kernel
theorem dX6_keep_12 : decode cX6_keep 12 = .ok (.ireturn, 1) := by decide +kernel
theorem dX6_keep_13 : decode cX6_keep 13 = .ok (.aload_n 0, 1) := by decide +kernel
theorem dX6_keep_14 : decode cX6_keep 14 = .ok (.getfield 27, 3) := by decide +kernel
theorem dX6_keep_17 : decode cX6_keep 17 = .ok (.invokevirtual 170, 3) := by decide +kernel
theorem dX6_keep_20 : decode cX6_keep 20 = .ok (.ifCond .eq 6, 3) := by decide +kernel
theorem dX6_keep_23 : decode cX6_keep 23 = .ok (.bipush (-4), 2) := by decide +kernel
theorem dX6_keep_25 : decode cX6_keep 25 = .ok (.ireturn, 1) := by decide +kernel
theorem dX6_keep_26 : decode cX6_keep 26 = .ok (.aload_n 0, 1) := by decide +kernel
theorem dX6_keep_27 : decode cX6_keep 27 = .ok (.getfield 21, 3) := by decide +kernel
theorem dX6_keep_30 : decode cX6_keep 30 = .ok (.iload_n 1, 1) := by decide +kernel
theorem dX6_keep_31 : decode cX6_keep 31 = .ok (.aload_n 0, 1) := by decide +kernel
theorem dX6_keep_32 : decode cX6_keep 32 = .ok (.getfield 27, 3) := by decide +kernel
theorem dX6_keep_35 : decode cX6_keep 35 = .ok (.getfield 177, 3) := by decide +kernel
theorem dX6_keep_38 : decode cX6_keep 38 = .ok (.iconst 0, 1) := by decide +kernel
theorem dX6_keep_39 : decode cX6_keep 39 = .ok (.invokevirtual 187, 3) := by decide +kernel
theorem dX6_keep_42 : decode cX6_keep 42 = .ok (.aload_n 0, 1) := by decide +kernel
theorem dX6_keep_43 : decode cX6_keep 43 = .ok (.getfield 27, 3) := by decide +kernel
theorem dX6_keep_46 : decode cX6_keep 46 = .ok (.getfield 180, 3) := by decide +kernel
theorem dX6_keep_49 : decode cX6_keep 49 = .ok (.iconst 0, 1) := by decide +kernel
theorem dX6_keep_50 : decode cX6_keep 50 = .ok (.aload_n 0, 1) := by decide +kernel
theorem dX6_keep_51 : decode cX6_keep 51 = .ok (.getfield 21, 3) := by decide +kernel
theorem dX6_keep_54 : decode cX6_keep 54 = .ok (.getfield 111, 3) := by decide +kernel
theorem dX6_keep_57 : decode cX6_keep 57 = .ok (.iload_n 1, 1) := by decide +kernel
theorem dX6_keep_58 : decode cX6_keep 58 = .ok (.aaload, 1) := by decide +kernel
theorem dX6_keep_59 : decode cX6_keep 59 = .ok (.iconst 0, 1) := by decide +kernel
theorem dX6_keep_60 : decode cX6_keep 60 = .ok (.aload_n 0, 1) := by decide +kernel
theorem dX6_keep_61 : decode cX6_keep 61 = .ok (.getfield 27, 3) := by decide +kernel
theorem dX6_keep_64 : decode cX6_keep 64 = .ok (.getfield 177, 3) := by decide +kernel
theorem dX6_keep_67 : decode cX6_keep 67 = .ok (.invokestatic 115, 3) := by decide +kernel
theorem dX6_keep_70 : decode cX6_keep 70 = .ok (.aload_n 0, 1) := by decide +kernel
theorem dX6_keep_71 : decode cX6_keep 71 = .ok (.getfield 27, 3) := by decide +kernel
theorem dX6_keep_74 : decode cX6_keep 74 = .ok (.getfield 177, 3) := by decide +kernel
theorem dX6_keep_77 : decode cX6_keep 77 = .ok (.ireturn, 1) := by decide +kernel
theorem dX6_on_0 : decode cX6_on 0 = .ok (.aload_n 0, 1) := by decide +kernel
theorem dX6_on_1 : decode cX6_on 1 = .ok (.aload_n 0, 1) := by decide +kernel
theorem dX6_on_2 : decode cX6_on 2 = .ok (.getfield 21, 3) := by decide +kernel
theorem dX6_on_5 : decode cX6_on 5 = .ok (.iload_n 1, 1) := by decide +kernel
theorem dX6_on_6 : decode cX6_on 6 = .ok (.invokevirtual 88, 3) := by decide +kernel
theorem dX6_on_9 : decode cX6_on 9 = .ok (.istore_n 2, 1) := by decide +kernel
theorem dX6_on_10 : decode cX6_on 10 = .ok (.iload_n 2, 1) := by decide +kernel
theorem dX6_on_11 : decode cX6_on 11 = .ok (.ifCond .eq 5, 3) := by decide +kernel
theorem dX6_on_14 : decode cX6_on 14 = .ok (.iload_n 2, 1) := by decide +kernel
theorem dX6_on_15 : decode cX6_on 15 = .ok (.ireturn, 1) := by decide +kernel
theorem dX6_on_16 : decode cX6_on 16 = .ok (.aload_n 0, 1) := by decide +kernel
theorem dX6_on_17 : decode cX6_on 17 = .ok (.getfield 27, 3) := by decide +kernel
theorem dX6_on_20 : decode cX6_on 20 = .ok (.aload_n 0, 1) := by decide +kernel
theorem dX6_on_21 : decode cX6_on 21 = .ok (.getfield 21, 3) := by decide +kernel
theorem dX6_on_24 : decode cX6_on 24 = .ok (.getfield 111, 3) := by decide +kernel
theorem dX6_on_27 : decode cX6_on 27 = .ok (.iload_n 1, 1) := by decide +kernel
theorem dX6_on_28 : decode cX6_on 28 = .ok (.aaload, 1) := by decide +kernel
theorem dX6_on_29 : decode cX6_on 29 = .ok (.aload_n 0, 1) := by decide +kernel
theorem dX6_on_30 : decode cX6_on 30 = .ok (.getfield 21, 3) := by decide +kernel
theorem dX6_on_33 : decode cX6_on 33 = .ok (.getfield 121, 3) := by decide +kernel
theorem dX6_on_36 : decode cX6_on 36 = .ok (.iload_n 1, 1) := by decide +kernel
theorem dX6_on_37 : decode cX6_on 37 = .ok (.iaload, 1) := by decide +kernel
theorem dX6_on_38 : decode cX6_on 38 = .ok (.invokevirtual 183, 3) := by decide +kernel
theorem dX6_on_41 : decode cX6_on 41 = .ok (.aload_n 0, 1) := by decide +kernel
theorem dX6_on_42 : decode cX6_on 42 = .ok (.getfield 27, 3) := by decide +kernel
theorem dX6_on_45 : decode cX6_on 45 = .ok (.getfield 177, 3) := by decide +kernel
theorem dX6_on_48 : decode cX6_on 48 = .ok (.ireturn, 1) := by decide +kernel
theorem dX6_berths_0 : decode cX6_berths 0 = .ok (.aload_n 0, 1) := by decide +kernel
theorem dX6_berths_1 : decode cX6_berths 1 = .ok (.getfield 14, 3) := by decide +kernel
theorem dX6_berths_4 : decode cX6_berths 4 = .ok (.iload_n 1, 1) := by decide +kernel
theorem dX6_berths_5 : decode cX6_berths 5 = .ok (.invokevirtual 96, 3) := by decide +kernel
theorem dX6_berths_8 : decode cX6_berths 8 = .ok (.ifCond .ne 5, 3) := by decide +kernel
theorem dX6_berths_11 : decode cX6_berths 11 = .ok (.iconst (-1), 1) := by decide +kernel
theorem dX6_berths_12 : decode cX6_berths 12 = .ok (.ireturn, 1) := by decide +kernel
theorem dX6_berths_13 : decode cX6_berths 13 = .ok (.aload_n 0, 1) := by decide +kernel
theorem dX6_berths_14 : decode cX6_berths 14 = .ok (.getfield 27, 3) := by decide +kernel
theorem dX6_berths_17 : decode cX6_berths 17 = .ok (.invokevirtual 170, 3) := by decide +kernel
theorem dX6_berths_20 : decode cX6_berths 20 = .ok (.ifCond .eq 6, 3) := by decide +kernel
theorem dX6_berths_23 : decode cX6_berths 23 = .ok (.bipush (-4), 2) := by decide +kernel
theorem dX6_berths_25 : decode cX6_berths 25 = .ok (.ireturn, 1) := by decide +kernel
theorem dX6_berths_26 : decode cX6_berths 26 = .ok (.aload_n 0, 1) := by decide +kernel
theorem dX6_berths_27 : decode cX6_berths 27 = .ok (.getfield 27, 3) := by decide +kernel
theorem dX6_berths_30 : decode cX6_berths 30 = .ok (.getfield 190, 3) := by decide +kernel
theorem dX6_berths_33 : decode cX6_berths 33 = .ok (.invokestatic 193, 3) := by decide +kernel
theorem dX6_berths_36 : decode cX6_berths 36 = .ok (.istore_n 2, 1) := by decide +kernel
theorem dX6_berths_37 : decode cX6_berths 37 = .ok (.aload_n 0, 1) := by decide +kernel
theorem dX6_berths_38 : decode cX6_berths 38 = .ok (.getfield 14, 3) := by decide +kernel
theorem dX6_berths_41 : decode cX6_berths 41 = .ok (.iload_n 1, 1) := by decide +kernel
theorem dX6_berths_42 : decode cX6_berths 42 = .ok (.iload_n 2, 1) := by decide +kernel
theorem dX6_berths_43 : decode cX6_berths 43 = .ok (.iconst 0, 1) := by decide +kernel
theorem dX6_berths_44 : decode cX6_berths 44 = .ok (.invokevirtual 187, 3) := by decide +kernel
theorem dX6_berths_47 : decode cX6_berths 47 = .ok (.iconst 0, 1) := by decide +kernel
theorem dX6_berths_48 : decode cX6_berths 48 = .ok (.istore_n 3, 1) := by decide +kernel
theorem dX6_berths_49 : decode cX6_berths 49 = .ok (.iload_n 3, 1) := by decide +kernel
theorem dX6_berths_50 : decode cX6_berths 50 = .ok (.aload_n 0, 1) := by decide +kernel
theorem dX6_berths_51 : decode cX6_berths 51 = .ok (.getfield 27, 3) := by decide +kernel
theorem dX6_berths_54 : decode cX6_berths 54 = .ok (.getfield 131, 3) := by decide +kernel
theorem dX6_berths_57 : decode cX6_berths 57 = .ok (.getfield 137, 3) := by decide +kernel
theorem dX6_berths_60 : decode cX6_berths 60 = .ok (.if_icmp .ge 37, 3) := by decide +kernel
theorem dX6_berths_63 : decode cX6_berths 63 = .ok (.aload_n 0, 1) := by decide +kernel
theorem dX6_berths_64 : decode cX6_berths 64 = .ok (.getfield 27, 3) := by decide +kernel
theorem dX6_berths_67 : decode cX6_berths 67 = .ok (.iload_n 3, 1) := by decide +kernel
theorem dX6_berths_68 : decode cX6_berths 68 = .ok (.invokevirtual 198, 3) := by decide +kernel
theorem dX6_berths_71 : decode cX6_berths 71 = .ok (.ifCond .eq 20, 3) := by decide +kernel
theorem dX6_berths_74 : decode cX6_berths 74 = .ok (.aload_n 0, 1) := by decide +kernel
theorem dX6_berths_75 : decode cX6_berths 75 = .ok (.getfield 14, 3) := by decide +kernel
theorem dX6_berths_78 : decode cX6_berths 78 = .ok (.iload_n 1, 1) := by decide +kernel
theorem dX6_berths_79 : decode cX6_berths 79 = .ok (.aload_n 0, 1) := by decide +kernel
theorem dX6_berths_80 : decode cX6_berths 80 = .ok (.getfield 27, 3) := by decide +kernel
theorem dX6_berths_83 : decode cX6_berths 83 = .ok (.iload_n 3, 1) := by decide +kernel
theorem dX6_berths_84 : decode cX6_berths 84 = .ok (.invokevirtual 201, 3) := by decide +kernel
theorem dX6_berths_87 : decode cX6_berths 87 = .ok (.iload_n 3, 1) := by decide +kernel
theorem dX6_berths_88 : decode cX6_berths 88 = .ok (.invokevirtual 84, 3) := by decide +kernel
theorem dX6_berths_91 : decode cX6_berths 91 = .ok (.iinc 3 1, 3) := by decide +kernel
theorem dX6_berths_94 : decode cX6_berths 94 = .ok (.goto (-45), 3) := by decide +kernel
theorem dX6_berths_97 : decode cX6_berths 97 = .ok (.iload_n 2, 1) := by decide +kernel
theorem dX6_berths_98 : decode cX6_berths 98 = .ok (.ireturn, 1) := by decide +kernel
theorem dX6_hours_0 : decode cX6_hours 0 = .ok (.aload_n 0, 1) := by decide +kernel
theorem dX6_hours_1 : decode cX6_hours 1 = .ok (.getfield 27, 3) := by decide +kernel
theorem dX6_hours_4 : decode cX6_hours 4 = .ok (.iload_n 1, 1) := by decide +kernel
theorem dX6_hours_5 : decode cX6_hours 5 = .ok (.invokevirtual 140, 3) := by decide +kernel
theorem dX6_hours_8 : decode cX6_hours 8 = .ok (.ifCond .eq 16, 3) := by decide +kernel
theorem dX6_hours_11 : decode cX6_hours 11 = .ok (.iconst 1, 1) := by decide +kernel
theorem dX6_hours_12 : decode cX6_hours 12 = .ok (.aload_n 0, 1) := by decide +kernel
theorem dX6_hours_13 : decode cX6_hours 13 = .ok (.getfield 27, 3) := by decide +kernel
theorem dX6_hours_16 : decode cX6_hours 16 = .ok (.iload_n 1, 1) := by decide +kernel
theorem dX6_hours_17 : decode cX6_hours 17 = .ok (.invokevirtual 204, 3) := by decide +kernel
theorem dX6_hours_20 : decode cX6_hours 20 = .ok (.iadd, 1) := by decide +kernel
theorem dX6_hours_21 : decode cX6_hours 21 = .ok (.goto 4, 3) := by decide +kernel
theorem dX6_hours_24 : decode cX6_hours 24 = .ok (.iconst (-1), 1) := by decide +kernel
theorem dX6_hours_25 : decode cX6_hours 25 = .ok (.ireturn, 1) := by decide +kernel
theorem dX6_ground_0 : decode cX6_ground 0 = .ok (.aload_n 0, 1) := by decide +kernel
theorem dX6_ground_1 : decode cX6_ground 1 = .ok (.getfield 27, 3) := by decide +kernel
theorem dX6_ground_4 : decode cX6_ground 4 = .ok (.invokevirtual 170, 3) := by decide +kernel
theorem dX6_ground_7 : decode cX6_ground 7 = .ok (.ifCond .eq 6, 3) := by decide +kernel
theorem dX6_ground_10 : decode cX6_ground 10 = .ok (.bipush (-4), 2) := by decide +kernel
theorem dX6_ground_12 : decode cX6_ground 12 = .ok (.ireturn, 1) := by decide +kernel
theorem dX6_ground_13 : decode cX6_ground 13 = .ok (.iconst 0, 1) := by decide +kernel
theorem dX6_ground_14 : decode cX6_ground 14 = .ok (.istore_n 1, 1) := by decide +kernel
theorem dX6_ground_15 : decode cX6_ground 15 = .ok (.iconst 0, 1) := by decide +kernel
theorem dX6_ground_16 : decode cX6_ground 16 = .ok (.istore_n 2, 1) := by decide +kernel
theorem dX6_ground_17 : decode cX6_ground 17 = .ok (.iload_n 2, 1) := by decide +kernel
theorem dX6_ground_18 : decode cX6_ground 18 = .ok (.aload_n 0, 1) := by decide +kernel
theorem dX6_ground_19 : decode cX6_ground 19 = .ok (.getfield 27, 3) := by decide +kernel
theorem dX6_ground_22 : decode cX6_ground 22 = .ok (.getfield 131, 3) := by decide +kernel
theorem dX6_ground_25 : decode cX6_ground 25 = .ok (.getfield 137, 3) := by decide +kernel
theorem dX6_ground_28 : decode cX6_ground 28 = .ok (.if_icmp .ge 20, 3) := by decide +kernel
theorem dX6_ground_31 : decode cX6_ground 31 = .ok (.iload_n 1, 1) := by decide +kernel
theorem dX6_ground_32 : decode cX6_ground 32 = .ok (.aload_n 0, 1) := by decide +kernel
theorem dX6_ground_33 : decode cX6_ground 33 = .ok (.getfield 27, 3) := by decide +kernel
theorem dX6_ground_36 : decode cX6_ground 36 = .ok (.iload_n 2, 1) := by decide +kernel
theorem dX6_ground_37 : decode cX6_ground 37 = .ok (.invokevirtual 207, 3) := by decide +kernel
theorem dX6_ground_40 : decode cX6_ground 40 = .ok (.iadd, 1) := by decide +kernel
theorem dX6_ground_41 : decode cX6_ground 41 = .ok (.istore_n 1, 1) := by decide +kernel
theorem dX6_ground_42 : decode cX6_ground 42 = .ok (.iinc 2 1, 3) := by decide +kernel
theorem dX6_ground_45 : decode cX6_ground 45 = .ok (.goto (-28), 3) := by decide +kernel
theorem dX6_ground_48 : decode cX6_ground 48 = .ok (.aload_n 0, 1) := by decide +kernel
theorem dX6_ground_49 : decode cX6_ground 49 = .ok (.iload_n 1, 1) := by decide +kernel
theorem dX6_ground_50 : decode cX6_ground 50 = .ok (.putfield 69, 3) := by decide +kernel
theorem dX6_ground_53 : decode cX6_ground 53 = .ok (.aload_n 0, 1) := by decide +kernel
theorem dX6_ground_54 : decode cX6_ground 54 = .ok (.getfield 27, 3) := by decide +kernel
theorem dX6_ground_57 : decode cX6_ground 57 = .ok (.invokevirtual 210, 3) := by decide +kernel
theorem dX6_ground_60 : decode cX6_ground 60 = .ok (.ireturn, 1) := by decide +kernel
theorem dX6_enter_0 : decode cX6_enter 0 = .ok (.aload_n 0, 1) := by decide +kernel
theorem dX6_enter_1 : decode cX6_enter 1 = .ok (.getfield 14, 3) := by decide +kernel
theorem dX6_enter_4 : decode cX6_enter 4 = .ok (.iload_n 1, 1) := by decide +kernel
theorem dX6_enter_5 : decode cX6_enter 5 = .ok (.invokevirtual 96, 3) := by decide +kernel
theorem dX6_enter_8 : decode cX6_enter 8 = .ok (.ifCond .ne 5, 3) := by decide +kernel
theorem dX6_enter_11 : decode cX6_enter 11 = .ok (.iconst (-1), 1) := by decide +kernel
theorem dX6_enter_12 : decode cX6_enter 12 = .ok (.ireturn, 1) := by decide +kernel
theorem dX6_enter_13 : decode cX6_enter 13 = .ok (.aload_n 0, 1) := by decide +kernel
theorem dX6_enter_14 : decode cX6_enter 14 = .ok (.getfield 27, 3) := by decide +kernel
theorem dX6_enter_17 : decode cX6_enter 17 = .ok (.invokevirtual 170, 3) := by decide +kernel
theorem dX6_enter_20 : decode cX6_enter 20 = .ok (.ifCond .eq 6, 3) := by decide +kernel
theorem dX6_enter_23 : decode cX6_enter 23 = .ok (.bipush (-4), 2) := by decide +kernel
theorem dX6_enter_25 : decode cX6_enter 25 = .ok (.ireturn, 1) := by decide +kernel
theorem dX6_enter_26 : decode cX6_enter 26 = .ok (.aload_n 0, 1) := by decide +kernel
theorem dX6_enter_27 : decode cX6_enter 27 = .ok (.getfield 43, 3) := by decide +kernel
theorem dX6_enter_30 : decode cX6_enter 30 = .ok (.invokevirtual 214, 3) := by decide +kernel
theorem dX6_enter_33 : decode cX6_enter 33 = .ok (.ifCond .ne 6, 3) := by decide +kernel
theorem dX6_enter_36 : decode cX6_enter 36 = .ok (.bipush (-9), 2) := by decide +kernel
theorem dX6_enter_38 : decode cX6_enter 38 = .ok (.ireturn, 1) := by decide +kernel
theorem dX6_enter_39 : decode cX6_enter 39 = .ok (.aload_n 0, 1) := by decide +kernel
theorem dX6_enter_40 : decode cX6_enter 40 = .ok (.getfield 14, 3) := by decide +kernel
theorem dX6_enter_43 : decode cX6_enter 43 = .ok (.iload_n 1, 1) := by decide +kernel
theorem dX6_enter_44 : decode cX6_enter 44 = .ok (.aload_n 0, 1) := by decide +kernel
theorem dX6_enter_45 : decode cX6_enter 45 = .ok (.getfield 43, 3) := by decide +kernel
theorem dX6_enter_48 : decode cX6_enter 48 = .ok (.getfield 217, 3) := by decide +kernel
theorem dX6_enter_51 : decode cX6_enter 51 = .ok (.iconst 0, 1) := by decide +kernel
theorem dX6_enter_52 : decode cX6_enter 52 = .ok (.invokevirtual 187, 3) := by decide +kernel
theorem dX6_enter_55 : decode cX6_enter 55 = .ok (.iconst 0, 1) := by decide +kernel
theorem dX6_enter_56 : decode cX6_enter 56 = .ok (.istore_n 2, 1) := by decide +kernel
theorem dX6_enter_57 : decode cX6_enter 57 = .ok (.iload_n 2, 1) := by decide +kernel
theorem dX6_enter_58 : decode cX6_enter 58 = .ok (.aload_n 0, 1) := by decide +kernel
theorem dX6_enter_59 : decode cX6_enter 59 = .ok (.getfield 43, 3) := by decide +kernel
theorem dX6_enter_62 : decode cX6_enter 62 = .ok (.getfield 217, 3) := by decide +kernel
theorem dX6_enter_65 : decode cX6_enter 65 = .ok (.if_icmp .ge 27, 3) := by decide +kernel
theorem dX6_enter_68 : decode cX6_enter 68 = .ok (.aload_n 0, 1) := by decide +kernel
theorem dX6_enter_69 : decode cX6_enter 69 = .ok (.getfield 14, 3) := by decide +kernel
theorem dX6_enter_72 : decode cX6_enter 72 = .ok (.iload_n 1, 1) := by decide +kernel
theorem dX6_enter_73 : decode cX6_enter 73 = .ok (.iload_n 2, 1) := by decide +kernel
theorem dX6_enter_74 : decode cX6_enter 74 = .ok (.aload_n 0, 1) := by decide +kernel
theorem dX6_enter_75 : decode cX6_enter 75 = .ok (.getfield 43, 3) := by decide +kernel
theorem dX6_enter_78 : decode cX6_enter 78 = .ok (.getfield 220, 3) := by decide +kernel
theorem dX6_enter_81 : decode cX6_enter 81 = .ok (.iload_n 2, 1) := by decide +kernel
theorem dX6_enter_82 : decode cX6_enter 82 = .ok (.iaload, 1) := by decide +kernel
theorem dX6_enter_83 : decode cX6_enter 83 = .ok (.invokevirtual 84, 3) := by decide +kernel
theorem dX6_enter_86 : decode cX6_enter 86 = .ok (.iinc 2 1, 3) := by decide +kernel
theorem dX6_enter_89 : decode cX6_enter 89 = .ok (.goto (-32), 3) := by decide +kernel
theorem dX6_enter_92 : decode cX6_enter 92 = .ok (.aload_n 0, 1) := by decide +kernel
theorem dX6_enter_93 : decode cX6_enter 93 = .ok (.aload_n 0, 1) := by decide +kernel
theorem dX6_enter_94 : decode cX6_enter 94 = .ok (.getfield 43, 3) := by decide +kernel
theorem dX6_enter_97 : decode cX6_enter 97 = .ok (.getfield 223, 3) := by decide +kernel
theorem dX6_enter_100 : decode cX6_enter 100 = .ok (.putfield 69, 3) := by decide +kernel
theorem dX6_enter_103 : decode cX6_enter 103 = .ok (.aload_n 0, 1) := by decide +kernel
theorem dX6_enter_104 : decode cX6_enter 104 = .ok (.getfield 43, 3) := by decide +kernel
theorem dX6_enter_107 : decode cX6_enter 107 = .ok (.getfield 226, 3) := by decide +kernel
theorem dX6_enter_110 : decode cX6_enter 110 = .ok (.ireturn, 1) := by decide +kernel
theorem dX6_order_0 : decode cX6_order 0 = .ok (.aload_n 0, 1) := by decide +kernel
theorem dX6_order_1 : decode cX6_order 1 = .ok (.iload_n 1, 1) := by decide +kernel
theorem dX6_order_2 : decode cX6_order 2 = .ok (.aload_n 0, 1) := by decide +kernel
theorem dX6_order_3 : decode cX6_order 3 = .ok (.getfield 27, 3) := by decide +kernel
theorem dX6_order_6 : decode cX6_order 6 = .ok (.getfield 190, 3) := by decide +kernel
theorem dX6_order_9 : decode cX6_order 9 = .ok (.iconst (-1), 1) := by decide +kernel
theorem dX6_order_10 : decode cX6_order 10 = .ok (.ixor, 1) := by decide +kernel
theorem dX6_order_11 : decode cX6_order 11 = .ok (.invokevirtual 229, 3) := by decide +kernel
theorem dX6_order_14 : decode cX6_order 14 = .ok (.istore_n 2, 1) := by decide +kernel
theorem dX6_order_15 : decode cX6_order 15 = .ok (.iload_n 2, 1) := by decide +kernel
theorem dX6_order_16 : decode cX6_order 16 = .ok (.ifCond .eq 5, 3) := by decide +kernel
theorem dX6_order_19 : decode cX6_order 19 = .ok (.iload_n 2, 1) := by decide +kernel
theorem dX6_order_20 : decode cX6_order 20 = .ok (.ireturn, 1) := by decide +kernel
theorem dX6_order_21 : decode cX6_order 21 = .ok (.aload_n 0, 1) := by decide +kernel
theorem dX6_order_22 : decode cX6_order 22 = .ok (.getfield 43, 3) := by decide +kernel
theorem dX6_order_25 : decode cX6_order 25 = .ok (.invokevirtual 232, 3) := by decide +kernel
theorem dX6_order_28 : decode cX6_order 28 = .ok (.iconst 0, 1) := by decide +kernel
theorem dX6_order_29 : decode cX6_order 29 = .ok (.istore_n 3, 1) := by decide +kernel
theorem dX6_order_30 : decode cX6_order 30 = .ok (.iload_n 3, 1) := by decide +kernel
theorem dX6_order_31 : decode cX6_order 31 = .ok (.aload_n 0, 1) := by decide +kernel
theorem dX6_order_32 : decode cX6_order 32 = .ok (.getfield 14, 3) := by decide +kernel
theorem dX6_order_35 : decode cX6_order 35 = .ok (.getfield 121, 3) := by decide +kernel
theorem dX6_order_38 : decode cX6_order 38 = .ok (.iload_n 1, 1) := by decide +kernel
theorem dX6_order_39 : decode cX6_order 39 = .ok (.iaload, 1) := by decide +kernel
theorem dX6_order_40 : decode cX6_order 40 = .ok (.if_icmp .ge 33, 3) := by decide +kernel
theorem dX6_order_43 : decode cX6_order 43 = .ok (.aload_n 0, 1) := by decide +kernel
theorem dX6_order_44 : decode cX6_order 44 = .ok (.getfield 43, 3) := by decide +kernel
theorem dX6_order_47 : decode cX6_order 47 = .ok (.aload_n 0, 1) := by decide +kernel
theorem dX6_order_48 : decode cX6_order 48 = .ok (.getfield 14, 3) := by decide +kernel
theorem dX6_order_51 : decode cX6_order 51 = .ok (.getfield 111, 3) := by decide +kernel
theorem dX6_order_54 : decode cX6_order 54 = .ok (.iload_n 1, 1) := by decide +kernel
theorem dX6_order_55 : decode cX6_order 55 = .ok (.aaload, 1) := by decide +kernel
theorem dX6_order_56 : decode cX6_order 56 = .ok (.iload_n 3, 1) := by decide +kernel
theorem dX6_order_57 : decode cX6_order 57 = .ok (.iaload, 1) := by decide +kernel
theorem dX6_order_58 : decode cX6_order 58 = .ok (.invokevirtual 233, 3) := by decide +kernel
theorem dX6_order_61 : decode cX6_order 61 = .ok (.ifCond .ne 6, 3) := by decide +kernel
theorem dX6_order_64 : decode cX6_order 64 = .ok (.bipush (-9), 2) := by decide +kernel
theorem dX6_order_66 : decode cX6_order 66 = .ok (.ireturn, 1) := by decide +kernel
theorem dX6_order_67 : decode cX6_order 67 = .ok (.iinc 3 1, 3) := by decide +kernel
theorem dX6_order_70 : decode cX6_order 70 = .ok (.goto (-40), 3) := by decide +kernel
theorem dX6_order_73 : decode cX6_order 73 = .ok (.aload_n 0, 1) := by decide +kernel
theorem dX6_order_74 : decode cX6_order 74 = .ok (.aload_n 0, 1) := by decide +kernel
theorem dX6_order_75 : decode cX6_order 75 = .ok (.getfield 43, 3) := by decide +kernel
theorem dX6_order_78 : decode cX6_order 78 = .ok (.getfield 236, 3) := by decide +kernel
theorem dX6_order_81 : decode cX6_order 81 = .ok (.putfield 69, 3) := by decide +kernel
theorem dX6_order_84 : decode cX6_order 84 = .ok (.aload_n 0, 1) := by decide +kernel
theorem dX6_order_85 : decode cX6_order 85 = .ok (.getfield 43, 3) := by decide +kernel
theorem dX6_order_88 : decode cX6_order 88 = .ok (.getfield 239, 3) := by decide +kernel
theorem dX6_order_91 : decode cX6_order 91 = .ok (.ireturn, 1) := by decide +kernel
theorem dX6_when_0 : decode cX6_when 0 = .ok (.aload_n 0, 1) := by decide +kernel
theorem dX6_when_1 : decode cX6_when 1 = .ok (.getfield 27, 3) := by decide +kernel
theorem dX6_when_4 : decode cX6_when 4 = .ok (.iload_n 1, 1) := by decide +kernel
theorem dX6_when_5 : decode cX6_when 5 = .ok (.invokevirtual 140, 3) := by decide +kernel
theorem dX6_when_8 : decode cX6_when 8 = .ok (.ifCond .eq 10, 3) := by decide +kernel
theorem dX6_when_11 : decode cX6_when 11 = .ok (.iload_n 2, 1) := by decide +kernel
theorem dX6_when_12 : decode cX6_when 12 = .ok (.invokestatic 242, 3) := by decide +kernel
theorem dX6_when_15 : decode cX6_when 15 = .ok (.ifCond .ne 5, 3) := by decide +kernel
theorem dX6_when_18 : decode cX6_when 18 = .ok (.iconst (-1), 1) := by decide +kernel
theorem dX6_when_19 : decode cX6_when 19 = .ok (.ireturn, 1) := by decide +kernel
theorem dX6_when_20 : decode cX6_when 20 = .ok (.iconst 0, 1) := by decide +kernel
theorem dX6_when_21 : decode cX6_when 21 = .ok (.istore_n 3, 1) := by decide +kernel
theorem dX6_when_22 : decode cX6_when 22 = .ok (.iload_n 3, 1) := by decide +kernel
theorem dX6_when_23 : decode cX6_when 23 = .ok (.bipush 99, 2) := by decide +kernel
theorem dX6_when_25 : decode cX6_when 25 = .ok (.if_icmp .gt 46, 3) := by decide +kernel
theorem dX6_when_28 : decode cX6_when 28 = .ok (.aload_n 0, 1) := by decide +kernel
theorem dX6_when_29 : decode cX6_when 29 = .ok (.getfield 27, 3) := by decide +kernel
theorem dX6_when_32 : decode cX6_when 32 = .ok (.getfield 174, 3) := by decide +kernel
theorem dX6_when_35 : decode cX6_when 35 = .ok (.iload_n 3, 1) := by decide +kernel
theorem dX6_when_36 : decode cX6_when 36 = .ok (.iadd, 1) := by decide +kernel
theorem dX6_when_37 : decode cX6_when 37 = .ok (.istore 4, 2) := by decide +kernel
theorem dX6_when_39 : decode cX6_when 39 = .ok (.aload_n 0, 1) := by decide +kernel
theorem dX6_when_40 : decode cX6_when 40 = .ok (.getfield 27, 3) := by decide +kernel
theorem dX6_when_43 : decode cX6_when 43 = .ok (.iload 4, 2) := by decide +kernel
theorem dX6_when_45 : decode cX6_when 45 = .ok (.iload_n 1, 1) := by decide +kernel
theorem dX6_when_46 : decode cX6_when 46 = .ok (.aload_n 0, 1) := by decide +kernel
theorem dX6_when_47 : decode cX6_when 47 = .ok (.getfield 27, 3) := by decide +kernel
theorem dX6_when_50 : decode cX6_when 50 = .ok (.iload_n 1, 1) := by decide +kernel
theorem dX6_when_51 : decode cX6_when 51 = .ok (.iload 4, 2) := by decide +kernel
theorem dX6_when_53 : decode cX6_when 53 = .ok (.invokevirtual 154, 3) := by decide +kernel
theorem dX6_when_56 : decode cX6_when 56 = .ok (.invokevirtual 245, 3) := by decide +kernel
theorem dX6_when_59 : decode cX6_when 59 = .ok (.iload_n 2, 1) := by decide +kernel
theorem dX6_when_60 : decode cX6_when 60 = .ok (.if_icmp .ne 5, 3) := by decide +kernel
theorem dX6_when_63 : decode cX6_when 63 = .ok (.iload_n 3, 1) := by decide +kernel
theorem dX6_when_64 : decode cX6_when 64 = .ok (.ireturn, 1) := by decide +kernel
theorem dX6_when_65 : decode cX6_when 65 = .ok (.iinc 3 1, 3) := by decide +kernel
theorem dX6_when_68 : decode cX6_when 68 = .ok (.goto (-46), 3) := by decide +kernel
theorem dX6_when_71 : decode cX6_when 71 = .ok (.bipush (-9), 2) := by decide +kernel
theorem dX6_when_73 : decode cX6_when 73 = .ok (.ireturn, 1) := by decide +kernel
theorem dX6_built_0 : decode cX6_built 0 = .ok (.aload_n 0, 1) := by decide +kernel
theorem dX6_built_1 : decode cX6_built 1 = .ok (.getfield 27, 3) := by decide +kernel
theorem dX6_built_4 : decode cX6_built 4 = .ok (.iload_n 1, 1) := by decide +kernel
theorem dX6_built_5 : decode cX6_built 5 = .ok (.invokevirtual 140, 3) := by decide +kernel
theorem dX6_built_8 : decode cX6_built 8 = .ok (.ifCond .eq 10, 3) := by decide +kernel
theorem dX6_built_11 : decode cX6_built 11 = .ok (.iload_n 2, 1) := by decide +kernel
theorem dX6_built_12 : decode cX6_built 12 = .ok (.invokestatic 242, 3) := by decide +kernel
theorem dX6_built_15 : decode cX6_built 15 = .ok (.ifCond .ne 5, 3) := by decide +kernel
theorem dX6_built_18 : decode cX6_built 18 = .ok (.iconst (-1), 1) := by decide +kernel
theorem dX6_built_19 : decode cX6_built 19 = .ok (.ireturn, 1) := by decide +kernel
theorem dX6_built_20 : decode cX6_built 20 = .ok (.iconst 0, 1) := by decide +kernel
theorem dX6_built_21 : decode cX6_built 21 = .ok (.istore_n 3, 1) := by decide +kernel
theorem dX6_built_22 : decode cX6_built 22 = .ok (.iconst 0, 1) := by decide +kernel
theorem dX6_built_23 : decode cX6_built 23 = .ok (.istore 4, 2) := by decide +kernel
theorem dX6_built_25 : decode cX6_built 25 = .ok (.bipush 99, 2) := by decide +kernel
theorem dX6_built_27 : decode cX6_built 27 = .ok (.istore 5, 2) := by decide +kernel
theorem dX6_built_29 : decode cX6_built 29 = .ok (.iload 5, 2) := by decide +kernel
theorem dX6_built_31 : decode cX6_built 31 = .ok (.ifCond .lt 45, 3) := by decide +kernel
theorem dX6_built_34 : decode cX6_built 34 = .ok (.aload_n 0, 1) := by decide +kernel
theorem dX6_built_35 : decode cX6_built 35 = .ok (.getfield 27, 3) := by decide +kernel
theorem dX6_built_38 : decode cX6_built 38 = .ok (.aload_n 0, 1) := by decide +kernel
theorem dX6_built_39 : decode cX6_built 39 = .ok (.getfield 27, 3) := by decide +kernel
theorem dX6_built_42 : decode cX6_built 42 = .ok (.getfield 174, 3) := by decide +kernel
theorem dX6_built_45 : decode cX6_built 45 = .ok (.iload_n 1, 1) := by decide +kernel
theorem dX6_built_46 : decode cX6_built 46 = .ok (.aload_n 0, 1) := by decide +kernel
theorem dX6_built_47 : decode cX6_built 47 = .ok (.getfield 27, 3) := by decide +kernel
theorem dX6_built_50 : decode cX6_built 50 = .ok (.iload_n 1, 1) := by decide +kernel
theorem dX6_built_51 : decode cX6_built 51 = .ok (.iload 5, 2) := by decide +kernel
theorem dX6_built_53 : decode cX6_built 53 = .ok (.invokevirtual 248, 3) := by decide +kernel
theorem dX6_built_56 : decode cX6_built 56 = .ok (.invokevirtual 245, 3) := by decide +kernel
theorem dX6_built_59 : decode cX6_built 59 = .ok (.iload_n 2, 1) := by decide +kernel
theorem dX6_built_60 : decode cX6_built 60 = .ok (.if_icmp .ne 10, 3) := by decide +kernel
theorem dX6_built_63 : decode cX6_built 63 = .ok (.iinc 3 1, 3) := by decide +kernel
theorem dX6_built_66 : decode cX6_built 66 = .ok (.iload 5, 2) := by decide +kernel
theorem dX6_built_68 : decode cX6_built 68 = .ok (.istore 4, 2) := by decide +kernel
theorem dX6_built_70 : decode cX6_built 70 = .ok (.iinc 5 (-1), 3) := by decide +kernel
theorem dX6_built_73 : decode cX6_built 73 = .ok (.goto (-44), 3) := by decide +kernel
theorem dX6_built_76 : decode cX6_built 76 = .ok (.iload_n 3, 1) := by decide +kernel
theorem dX6_built_77 : decode cX6_built 77 = .ok (.ifCond .ne 6, 3) := by decide +kernel
theorem dX6_built_80 : decode cX6_built 80 = .ok (.bipush (-9), 2) := by decide +kernel
theorem dX6_built_82 : decode cX6_built 82 = .ok (.ireturn, 1) := by decide +kernel
theorem dX6_built_83 : decode cX6_built 83 = .ok (.aload_n 0, 1) := by decide +kernel
theorem dX6_built_84 : decode cX6_built 84 = .ok (.iload 4, 2) := by decide +kernel
theorem dX6_built_86 : decode cX6_built 86 = .ok (.putfield 69, 3) := by decide +kernel
theorem dX6_built_89 : decode cX6_built 89 = .ok (.iload_n 3, 1) := by decide +kernel
theorem dX6_built_90 : decode cX6_built 90 = .ok (.ireturn, 1) := by decide +kernel
theorem dX6_least_0 : decode cX6_least 0 = .ok (.aload_n 0, 1) := by decide +kernel
theorem dX6_least_1 : decode cX6_least 1 = .ok (.getfield 27, 3) := by decide +kernel
theorem dX6_least_4 : decode cX6_least 4 = .ok (.iload_n 1, 1) := by decide +kernel
theorem dX6_least_5 : decode cX6_least 5 = .ok (.invokevirtual 140, 3) := by decide +kernel
theorem dX6_least_8 : decode cX6_least 8 = .ok (.ifCond .eq 10, 3) := by decide +kernel
theorem dX6_least_11 : decode cX6_least 11 = .ok (.iload_n 2, 1) := by decide +kernel
theorem dX6_least_12 : decode cX6_least 12 = .ok (.invokestatic 242, 3) := by decide +kernel
theorem dX6_least_15 : decode cX6_least 15 = .ok (.ifCond .ne 5, 3) := by decide +kernel
theorem dX6_least_18 : decode cX6_least 18 = .ok (.iconst (-1), 1) := by decide +kernel
theorem dX6_least_19 : decode cX6_least 19 = .ok (.ireturn, 1) := by decide +kernel
theorem dX6_least_20 : decode cX6_least 20 = .ok (.iconst 0, 1) := by decide +kernel
theorem dX6_least_21 : decode cX6_least 21 = .ok (.istore_n 3, 1) := by decide +kernel
theorem dX6_least_22 : decode cX6_least 22 = .ok (.iload_n 3, 1) := by decide +kernel
theorem dX6_least_23 : decode cX6_least 23 = .ok (.bipush 40, 2) := by decide +kernel
theorem dX6_least_25 : decode cX6_least 25 = .ok (.if_icmp .gt 39, 3) := by decide +kernel
theorem dX6_least_28 : decode cX6_least 28 = .ok (.aload_n 0, 1) := by decide +kernel
theorem dX6_least_29 : decode cX6_least 29 = .ok (.getfield 27, 3) := by decide +kernel
theorem dX6_least_32 : decode cX6_least 32 = .ok (.aload_n 0, 1) := by decide +kernel
theorem dX6_least_33 : decode cX6_least 33 = .ok (.getfield 27, 3) := by decide +kernel
theorem dX6_least_36 : decode cX6_least 36 = .ok (.getfield 174, 3) := by decide +kernel
theorem dX6_least_39 : decode cX6_least 39 = .ok (.iload_n 1, 1) := by decide +kernel
theorem dX6_least_40 : decode cX6_least 40 = .ok (.aload_n 0, 1) := by decide +kernel
theorem dX6_least_41 : decode cX6_least 41 = .ok (.getfield 27, 3) := by decide +kernel
theorem dX6_least_44 : decode cX6_least 44 = .ok (.iload_n 1, 1) := by decide +kernel
theorem dX6_least_45 : decode cX6_least 45 = .ok (.iload_n 3, 1) := by decide +kernel
theorem dX6_least_46 : decode cX6_least 46 = .ok (.invokevirtual 251, 3) := by decide +kernel
theorem dX6_least_49 : decode cX6_least 49 = .ok (.invokevirtual 245, 3) := by decide +kernel
theorem dX6_least_52 : decode cX6_least 52 = .ok (.iload_n 2, 1) := by decide +kernel
theorem dX6_least_53 : decode cX6_least 53 = .ok (.if_icmp .gt 5, 3) := by decide +kernel
theorem dX6_least_56 : decode cX6_least 56 = .ok (.iload_n 3, 1) := by decide +kernel
theorem dX6_least_57 : decode cX6_least 57 = .ok (.ireturn, 1) := by decide +kernel
theorem dX6_least_58 : decode cX6_least 58 = .ok (.iinc 3 1, 3) := by decide +kernel
theorem dX6_least_61 : decode cX6_least 61 = .ok (.goto (-39), 3) := by decide +kernel
theorem dX6_least_64 : decode cX6_least 64 = .ok (.bipush (-9), 2) := by decide +kernel
theorem dX6_least_66 : decode cX6_least 66 = .ok (.ireturn, 1) := by decide +kernel
theorem dX6_wrong_0 : decode cX6_wrong 0 = .ok (.aload_n 0, 1) := by decide +kernel
theorem dX6_wrong_1 : decode cX6_wrong 1 = .ok (.iload_n 1, 1) := by decide +kernel
theorem dX6_wrong_2 : decode cX6_wrong 2 = .ok (.aload_n 0, 1) := by decide +kernel
theorem dX6_wrong_3 : decode cX6_wrong 3 = .ok (.getfield 27, 3) := by decide +kernel
theorem dX6_wrong_6 : decode cX6_wrong 6 = .ok (.getfield 190, 3) := by decide +kernel
theorem dX6_wrong_9 : decode cX6_wrong 9 = .ok (.invokevirtual 229, 3) := by decide +kernel
theorem dX6_wrong_12 : decode cX6_wrong 12 = .ok (.istore_n 2, 1) := by decide +kernel
theorem dX6_wrong_13 : decode cX6_wrong 13 = .ok (.iload_n 2, 1) := by decide +kernel
theorem dX6_wrong_14 : decode cX6_wrong 14 = .ok (.ifCond .eq 5, 3) := by decide +kernel
theorem dX6_wrong_17 : decode cX6_wrong 17 = .ok (.iload_n 2, 1) := by decide +kernel
theorem dX6_wrong_18 : decode cX6_wrong 18 = .ok (.ireturn, 1) := by decide +kernel
theorem dX6_wrong_19 : decode cX6_wrong 19 = .ok (.iconst 0, 1) := by decide +kernel
theorem dX6_wrong_20 : decode cX6_wrong 20 = .ok (.istore_n 3, 1) := by decide +kernel
theorem dX6_wrong_21 : decode cX6_wrong 21 = .ok (.iconst 0, 1) := by decide +kernel
theorem dX6_wrong_22 : decode cX6_wrong 22 = .ok (.istore 4, 2) := by decide +kernel
theorem dX6_wrong_24 : decode cX6_wrong 24 = .ok (.iconst 0, 1) := by decide +kernel
theorem dX6_wrong_25 : decode cX6_wrong 25 = .ok (.istore 5, 2) := by decide +kernel
theorem dX6_wrong_27 : decode cX6_wrong 27 = .ok (.iconst 0, 1) := by decide +kernel
theorem dX6_wrong_28 : decode cX6_wrong 28 = .ok (.istore 6, 2) := by decide +kernel
theorem dX6_wrong_30 : decode cX6_wrong 30 = .ok (.iload 6, 2) := by decide +kernel
theorem dX6_wrong_32 : decode cX6_wrong 32 = .ok (.aload_n 0, 1) := by decide +kernel
theorem dX6_wrong_33 : decode cX6_wrong 33 = .ok (.getfield 14, 3) := by decide +kernel
theorem dX6_wrong_36 : decode cX6_wrong 36 = .ok (.getfield 121, 3) := by decide +kernel
theorem dX6_wrong_39 : decode cX6_wrong 39 = .ok (.iload_n 1, 1) := by decide +kernel
theorem dX6_wrong_40 : decode cX6_wrong 40 = .ok (.iaload, 1) := by decide +kernel
theorem dX6_wrong_41 : decode cX6_wrong 41 = .ok (.if_icmp .ge 74, 3) := by decide +kernel
theorem dX6_wrong_44 : decode cX6_wrong 44 = .ok (.aload_n 0, 1) := by decide +kernel
theorem dX6_wrong_45 : decode cX6_wrong 45 = .ok (.getfield 14, 3) := by decide +kernel
theorem dX6_wrong_48 : decode cX6_wrong 48 = .ok (.getfield 111, 3) := by decide +kernel
theorem dX6_wrong_51 : decode cX6_wrong 51 = .ok (.iload_n 1, 1) := by decide +kernel
theorem dX6_wrong_52 : decode cX6_wrong 52 = .ok (.aaload, 1) := by decide +kernel
theorem dX6_wrong_53 : decode cX6_wrong 53 = .ok (.iload 6, 2) := by decide +kernel
theorem dX6_wrong_55 : decode cX6_wrong 55 = .ok (.iaload, 1) := by decide +kernel
theorem dX6_wrong_56 : decode cX6_wrong 56 = .ok (.istore 7, 2) := by decide +kernel
theorem dX6_wrong_58 : decode cX6_wrong 58 = .ok (.iload 5, 2) := by decide +kernel
theorem dX6_wrong_60 : decode cX6_wrong 60 = .ok (.aload_n 0, 1) := by decide +kernel
theorem dX6_wrong_61 : decode cX6_wrong 61 = .ok (.getfield 27, 3) := by decide +kernel
theorem dX6_wrong_64 : decode cX6_wrong 64 = .ok (.getfield 254, 3) := by decide +kernel
theorem dX6_wrong_67 : decode cX6_wrong 67 = .ok (.iload 7, 2) := by decide +kernel
theorem dX6_wrong_69 : decode cX6_wrong 69 = .ok (.iaload, 1) := by decide +kernel
theorem dX6_wrong_70 : decode cX6_wrong 70 = .ok (.iconst (-1), 1) := by decide +kernel
theorem dX6_wrong_71 : decode cX6_wrong 71 = .ok (.ixor, 1) := by decide +kernel
theorem dX6_wrong_72 : decode cX6_wrong 72 = .ok (.iand, 1) := by decide +kernel
theorem dX6_wrong_73 : decode cX6_wrong 73 = .ok (.istore 8, 2) := by decide +kernel
theorem dX6_wrong_75 : decode cX6_wrong 75 = .ok (.iload 8, 2) := by decide +kernel
theorem dX6_wrong_77 : decode cX6_wrong 77 = .ok (.ifCond .eq 23, 3) := by decide +kernel
theorem dX6_wrong_80 : decode cX6_wrong 80 = .ok (.iload_n 3, 1) := by decide +kernel
theorem dX6_wrong_81 : decode cX6_wrong 81 = .ok (.iload 8, 2) := by decide +kernel
theorem dX6_wrong_83 : decode cX6_wrong 83 = .ok (.invokestatic 193, 3) := by decide +kernel
theorem dX6_wrong_86 : decode cX6_wrong 86 = .ok (.iadd, 1) := by decide +kernel
theorem dX6_wrong_87 : decode cX6_wrong 87 = .ok (.istore_n 3, 1) := by decide +kernel
theorem dX6_wrong_88 : decode cX6_wrong 88 = .ok (.iload 4, 2) := by decide +kernel
theorem dX6_wrong_90 : decode cX6_wrong 90 = .ok (.iload 8, 2) := by decide +kernel
theorem dX6_wrong_92 : decode cX6_wrong 92 = .ok (.iconst 1, 1) := by decide +kernel
theorem dX6_wrong_93 : decode cX6_wrong 93 = .ok (.iload 7, 2) := by decide +kernel
theorem dX6_wrong_95 : decode cX6_wrong 95 = .ok (.ishl, 1) := by decide +kernel
theorem dX6_wrong_96 : decode cX6_wrong 96 = .ok (.ior, 1) := by decide +kernel
theorem dX6_wrong_97 : decode cX6_wrong 97 = .ok (.ior, 1) := by decide +kernel
theorem dX6_wrong_98 : decode cX6_wrong 98 = .ok (.istore 4, 2) := by decide +kernel
theorem dX6_wrong_100 : decode cX6_wrong 100 = .ok (.iload 5, 2) := by decide +kernel
theorem dX6_wrong_102 : decode cX6_wrong 102 = .ok (.iconst 1, 1) := by decide +kernel
theorem dX6_wrong_103 : decode cX6_wrong 103 = .ok (.iload 7, 2) := by decide +kernel
theorem dX6_wrong_105 : decode cX6_wrong 105 = .ok (.ishl, 1) := by decide +kernel
theorem dX6_wrong_106 : decode cX6_wrong 106 = .ok (.ior, 1) := by decide +kernel
theorem dX6_wrong_107 : decode cX6_wrong 107 = .ok (.istore 5, 2) := by decide +kernel
theorem dX6_wrong_109 : decode cX6_wrong 109 = .ok (.iinc 6 1, 3) := by decide +kernel
theorem dX6_wrong_112 : decode cX6_wrong 112 = .ok (.goto (-82), 3) := by decide +kernel
theorem dX6_wrong_115 : decode cX6_wrong 115 = .ok (.aload_n 0, 1) := by decide +kernel
theorem dX6_wrong_116 : decode cX6_wrong 116 = .ok (.iload 4, 2) := by decide +kernel
theorem dX6_wrong_118 : decode cX6_wrong 118 = .ok (.putfield 69, 3) := by decide +kernel
theorem dX6_wrong_121 : decode cX6_wrong 121 = .ok (.iload_n 3, 1) := by decide +kernel
theorem dX6_wrong_122 : decode cX6_wrong 122 = .ok (.ireturn, 1) := by decide +kernel
theorem dX6_kinds_0 : decode cX6_kinds 0 = .ok (.aload_n 0, 1) := by decide +kernel
theorem dX6_kinds_1 : decode cX6_kinds 1 = .ok (.iload_n 1, 1) := by decide +kernel
theorem dX6_kinds_2 : decode cX6_kinds 2 = .ok (.iload_n 2, 1) := by decide +kernel
theorem dX6_kinds_3 : decode cX6_kinds 3 = .ok (.invokevirtual 257, 3) := by decide +kernel
theorem dX6_kinds_6 : decode cX6_kinds 6 = .ok (.istore_n 3, 1) := by decide +kernel
theorem dX6_kinds_7 : decode cX6_kinds 7 = .ok (.iload_n 3, 1) := by decide +kernel
theorem dX6_kinds_8 : decode cX6_kinds 8 = .ok (.ifCond .eq 7, 3) := by decide +kernel
theorem dX6_kinds_11 : decode cX6_kinds 11 = .ok (.iload_n 3, 1) := by decide +kernel
theorem dX6_kinds_12 : decode cX6_kinds 12 = .ok (.goto 9, 3) := by decide +kernel
theorem dX6_kinds_15 : decode cX6_kinds 15 = .ok (.aload_n 0, 1) := by decide +kernel
theorem dX6_kinds_16 : decode cX6_kinds 16 = .ok (.iload_n 1, 1) := by decide +kernel
theorem dX6_kinds_17 : decode cX6_kinds 17 = .ok (.iload_n 2, 1) := by decide +kernel
theorem dX6_kinds_18 : decode cX6_kinds 18 = .ok (.invokevirtual 260, 3) := by decide +kernel
theorem dX6_kinds_21 : decode cX6_kinds 21 = .ok (.ireturn, 1) := by decide +kernel
theorem dX6_test_0 : decode cX6_test 0 = .ok (.aload_n 0, 1) := by decide +kernel
theorem dX6_test_1 : decode cX6_test 1 = .ok (.iload_n 1, 1) := by decide +kernel
theorem dX6_test_2 : decode cX6_test 2 = .ok (.iload_n 2, 1) := by decide +kernel
theorem dX6_test_3 : decode cX6_test 3 = .ok (.invokevirtual 257, 3) := by decide +kernel
theorem dX6_test_6 : decode cX6_test 6 = .ok (.istore_n 3, 1) := by decide +kernel
theorem dX6_test_7 : decode cX6_test 7 = .ok (.iload_n 3, 1) := by decide +kernel
theorem dX6_test_8 : decode cX6_test 8 = .ok (.ifCond .eq 5, 3) := by decide +kernel
theorem dX6_test_11 : decode cX6_test 11 = .ok (.iload_n 3, 1) := by decide +kernel
theorem dX6_test_12 : decode cX6_test 12 = .ok (.ireturn, 1) := by decide +kernel
theorem dX6_test_13 : decode cX6_test 13 = .ok (.aload_n 0, 1) := by decide +kernel
theorem dX6_test_14 : decode cX6_test 14 = .ok (.iload_n 1, 1) := by decide +kernel
theorem dX6_test_15 : decode cX6_test 15 = .ok (.iload_n 2, 1) := by decide +kernel
theorem dX6_test_16 : decode cX6_test 16 = .ok (.invokevirtual 260, 3) := by decide +kernel
theorem dX6_test_19 : decode cX6_test 19 = .ok (.istore 4, 2) := by decide +kernel
theorem dX6_test_21 : decode cX6_test 21 = .ok (.iload 4, 2) := by decide +kernel
theorem dX6_test_23 : decode cX6_test 23 = .ok (.ifCond .ne 6, 3) := by decide +kernel
theorem dX6_test_26 : decode cX6_test 26 = .ok (.bipush (-9), 2) := by decide +kernel
theorem dX6_test_28 : decode cX6_test 28 = .ok (.ireturn, 1) := by decide +kernel
theorem dX6_test_29 : decode cX6_test 29 = .ok (.iconst 0, 1) := by decide +kernel
theorem dX6_test_30 : decode cX6_test 30 = .ok (.istore 5, 2) := by decide +kernel
theorem dX6_test_32 : decode cX6_test 32 = .ok (.bipush 7, 2) := by decide +kernel
theorem dX6_test_34 : decode cX6_test 34 = .ok (.istore 6, 2) := by decide +kernel
theorem dX6_test_36 : decode cX6_test 36 = .ok (.iconst 0, 1) := by decide +kernel
theorem dX6_test_37 : decode cX6_test 37 = .ok (.istore 7, 2) := by decide +kernel
theorem dX6_test_39 : decode cX6_test 39 = .ok (.iload 7, 2) := by decide +kernel
theorem dX6_test_41 : decode cX6_test 41 = .ok (.bipush 99, 2) := by decide +kernel
theorem dX6_test_43 : decode cX6_test 43 = .ok (.if_icmp .gt 46, 3) := by decide +kernel
theorem dX6_test_46 : decode cX6_test 46 = .ok (.aload_n 0, 1) := by decide +kernel
theorem dX6_test_47 : decode cX6_test 47 = .ok (.getfield 27, 3) := by decide +kernel
theorem dX6_test_50 : decode cX6_test 50 = .ok (.iload_n 1, 1) := by decide +kernel
theorem dX6_test_51 : decode cX6_test 51 = .ok (.iload 4, 2) := by decide +kernel
theorem dX6_test_53 : decode cX6_test 53 = .ok (.aload_n 0, 1) := by decide +kernel
theorem dX6_test_54 : decode cX6_test 54 = .ok (.getfield 27, 3) := by decide +kernel
theorem dX6_test_57 : decode cX6_test 57 = .ok (.getfield 174, 3) := by decide +kernel
theorem dX6_test_60 : decode cX6_test 60 = .ok (.iload 7, 2) := by decide +kernel
theorem dX6_test_62 : decode cX6_test 62 = .ok (.iadd, 1) := by decide +kernel
theorem dX6_test_63 : decode cX6_test 63 = .ok (.invokevirtual 263, 3) := by decide +kernel
theorem dX6_test_66 : decode cX6_test 66 = .ok (.istore 8, 2) := by decide +kernel
theorem dX6_test_68 : decode cX6_test 68 = .ok (.iload 8, 2) := by decide +kernel
theorem dX6_test_70 : decode cX6_test 70 = .ok (.iload 6, 2) := by decide +kernel
theorem dX6_test_72 : decode cX6_test 72 = .ok (.if_icmp .ge 11, 3) := by decide +kernel
theorem dX6_test_75 : decode cX6_test 75 = .ok (.iload 8, 2) := by decide +kernel
theorem dX6_test_77 : decode cX6_test 77 = .ok (.istore 6, 2) := by decide +kernel
theorem dX6_test_79 : decode cX6_test 79 = .ok (.iload 7, 2) := by decide +kernel
theorem dX6_test_81 : decode cX6_test 81 = .ok (.istore 5, 2) := by decide +kernel
theorem dX6_test_83 : decode cX6_test 83 = .ok (.iinc 7 1, 3) := by decide +kernel
theorem dX6_test_86 : decode cX6_test 86 = .ok (.goto (-47), 3) := by decide +kernel
theorem dX6_test_89 : decode cX6_test 89 = .ok (.aload_n 0, 1) := by decide +kernel
theorem dX6_test_90 : decode cX6_test 90 = .ok (.iload 6, 2) := by decide +kernel
theorem dX6_test_92 : decode cX6_test 92 = .ok (.putfield 69, 3) := by decide +kernel
theorem dX6_test_95 : decode cX6_test 95 = .ok (.iload 5, 2) := by decide +kernel
theorem dX6_test_97 : decode cX6_test 97 = .ok (.ireturn, 1) := by decide +kernel
theorem dX6_duel_0 : decode cX6_duel 0 = .ok (.iload_n 1, 1) := by decide +kernel
theorem dX6_duel_1 : decode cX6_duel 1 = .ok (.ifCond .lt 8, 3) := by decide +kernel
theorem dX6_duel_4 : decode cX6_duel 4 = .ok (.iload_n 1, 1) := by decide +kernel
theorem dX6_duel_5 : decode cX6_duel 5 = .ok (.iconst 5, 1) := by decide +kernel
theorem dX6_duel_6 : decode cX6_duel 6 = .ok (.if_icmp .le 5, 3) := by decide +kernel
theorem dX6_duel_9 : decode cX6_duel 9 = .ok (.iconst (-1), 1) := by decide +kernel
theorem dX6_duel_10 : decode cX6_duel 10 = .ok (.ireturn, 1) := by decide +kernel
theorem dX6_duel_11 : decode cX6_duel 11 = .ok (.aload_n 0, 1) := by decide +kernel
theorem dX6_duel_12 : decode cX6_duel 12 = .ok (.getfield 27, 3) := by decide +kernel
theorem dX6_duel_15 : decode cX6_duel 15 = .ok (.invokevirtual 170, 3) := by decide +kernel
theorem dX6_duel_18 : decode cX6_duel 18 = .ok (.ifCond .eq 8, 3) := by decide +kernel
theorem dX6_duel_21 : decode cX6_duel 21 = .ok (.bipush (-4), 2) := by decide +kernel
theorem dX6_duel_23 : decode cX6_duel 23 = .ok (.goto 14, 3) := by decide +kernel
theorem dX6_duel_26 : decode cX6_duel 26 = .ok (.bipush 100, 2) := by decide +kernel
theorem dX6_duel_28 : decode cX6_duel 28 = .ok (.aload_n 0, 1) := by decide +kernel
theorem dX6_duel_29 : decode cX6_duel 29 = .ok (.getfield 50, 3) := by decide +kernel
theorem dX6_duel_32 : decode cX6_duel 32 = .ok (.iload_n 1, 1) := by decide +kernel
theorem dX6_duel_33 : decode cX6_duel 33 = .ok (.invokevirtual 266, 3) := by decide +kernel
theorem dX6_duel_36 : decode cX6_duel 36 = .ok (.iadd, 1) := by decide +kernel
theorem dX6_duel_37 : decode cX6_duel 37 = .ok (.ireturn, 1) := by decide +kernel
theorem dX6_odds_0 : decode cX6_odds 0 = .ok (.aload_n 0, 1) := by decide +kernel
theorem dX6_odds_1 : decode cX6_odds 1 = .ok (.getfield 27, 3) := by decide +kernel
theorem dX6_odds_4 : decode cX6_odds 4 = .ok (.iload_n 1, 1) := by decide +kernel
theorem dX6_odds_5 : decode cX6_odds 5 = .ok (.invokevirtual 140, 3) := by decide +kernel
theorem dX6_odds_8 : decode cX6_odds 8 = .ok (.ifCond .eq 17, 3) := by decide +kernel
theorem dX6_odds_11 : decode cX6_odds 11 = .ok (.iload_n 2, 1) := by decide +kernel
theorem dX6_odds_12 : decode cX6_odds 12 = .ok (.invokestatic 242, 3) := by decide +kernel
theorem dX6_odds_15 : decode cX6_odds 15 = .ok (.ifCond .eq 10, 3) := by decide +kernel
theorem dX6_odds_18 : decode cX6_odds 18 = .ok (.iload_n 3, 1) := by decide +kernel
theorem dX6_odds_19 : decode cX6_odds 19 = .ok (.invokestatic 269, 3) := by decide +kernel
theorem dX6_odds_22 : decode cX6_odds 22 = .ok (.ifCond .ne 5, 3) := by decide +kernel
theorem dX6_odds_25 : decode cX6_odds 25 = .ok (.iconst (-1), 1) := by decide +kernel
theorem dX6_odds_26 : decode cX6_odds 26 = .ok (.ireturn, 1) := by decide +kernel
theorem dX6_odds_27 : decode cX6_odds 27 = .ok (.aload_n 0, 1) := by decide +kernel
theorem dX6_odds_28 : decode cX6_odds 28 = .ok (.getfield 57, 3) := by decide +kernel
theorem dX6_odds_31 : decode cX6_odds 31 = .ok (.aload_n 0, 1) := by decide +kernel
theorem dX6_odds_32 : decode cX6_odds 32 = .ok (.getfield 27, 3) := by decide +kernel
theorem dX6_odds_35 : decode cX6_odds 35 = .ok (.iload_n 1, 1) := by decide +kernel
theorem dX6_odds_36 : decode cX6_odds 36 = .ok (.invokevirtual 201, 3) := by decide +kernel
theorem dX6_odds_39 : decode cX6_odds 39 = .ok (.iload_n 2, 1) := by decide +kernel
theorem dX6_odds_40 : decode cX6_odds 40 = .ok (.iload_n 3, 1) := by decide +kernel
theorem dX6_odds_41 : decode cX6_odds 41 = .ok (.invokevirtual 272, 3) := by decide +kernel
theorem dX6_odds_44 : decode cX6_odds 44 = .ok (.iconst 1, 1) := by decide +kernel
theorem dX6_odds_45 : decode cX6_odds 45 = .ok (.ireturn, 1) := by decide +kernel
theorem dX6_mid_0 : decode cX6_mid 0 = .ok (.aload_n 0, 1) := by decide +kernel
theorem dX6_mid_1 : decode cX6_mid 1 = .ok (.getfield 27, 3) := by decide +kernel
theorem dX6_mid_4 : decode cX6_mid 4 = .ok (.iload_n 1, 1) := by decide +kernel
theorem dX6_mid_5 : decode cX6_mid 5 = .ok (.invokevirtual 140, 3) := by decide +kernel
theorem dX6_mid_8 : decode cX6_mid 8 = .ok (.ifCond .eq 10, 3) := by decide +kernel
theorem dX6_mid_11 : decode cX6_mid 11 = .ok (.iload_n 2, 1) := by decide +kernel
theorem dX6_mid_12 : decode cX6_mid 12 = .ok (.invokestatic 269, 3) := by decide +kernel
theorem dX6_mid_15 : decode cX6_mid 15 = .ok (.ifCond .ne 5, 3) := by decide +kernel
theorem dX6_mid_18 : decode cX6_mid 18 = .ok (.iconst (-1), 1) := by decide +kernel
theorem dX6_mid_19 : decode cX6_mid 19 = .ok (.ireturn, 1) := by decide +kernel
theorem dX6_mid_20 : decode cX6_mid 20 = .ok (.aload_n 0, 1) := by decide +kernel
theorem dX6_mid_21 : decode cX6_mid 21 = .ok (.getfield 57, 3) := by decide +kernel
theorem dX6_mid_24 : decode cX6_mid 24 = .ok (.aload_n 0, 1) := by decide +kernel
theorem dX6_mid_25 : decode cX6_mid 25 = .ok (.getfield 27, 3) := by decide +kernel
theorem dX6_mid_28 : decode cX6_mid 28 = .ok (.iload_n 1, 1) := by decide +kernel
theorem dX6_mid_29 : decode cX6_mid 29 = .ok (.invokevirtual 201, 3) := by decide +kernel
theorem dX6_mid_32 : decode cX6_mid 32 = .ok (.iload_n 2, 1) := by decide +kernel
theorem dX6_mid_33 : decode cX6_mid 33 = .ok (.invokevirtual 275, 3) := by decide +kernel
theorem dX6_mid_36 : decode cX6_mid 36 = .ok (.iconst 1, 1) := by decide +kernel
theorem dX6_mid_37 : decode cX6_mid 37 = .ok (.ireturn, 1) := by decide +kernel
theorem dX6_lots_0 : decode cX6_lots 0 = .ok (.iload_n 1, 1) := by decide +kernel
theorem dX6_lots_1 : decode cX6_lots 1 = .ok (.iconst 1, 1) := by decide +kernel
theorem dX6_lots_2 : decode cX6_lots 2 = .ok (.if_icmp .lt 23, 3) := by decide +kernel
theorem dX6_lots_5 : decode cX6_lots 5 = .ok (.iload_n 1, 1) := by decide +kernel
theorem dX6_lots_6 : decode cX6_lots 6 = .ok (.bipush 20, 2) := by decide +kernel
theorem dX6_lots_8 : decode cX6_lots 8 = .ok (.if_icmp .gt 17, 3) := by decide +kernel
theorem dX6_lots_11 : decode cX6_lots 11 = .ok (.iload_n 2, 1) := by decide +kernel
theorem dX6_lots_12 : decode cX6_lots 12 = .ok (.iconst 1, 1) := by decide +kernel
theorem dX6_lots_13 : decode cX6_lots 13 = .ok (.if_icmp .lt 12, 3) := by decide +kernel
theorem dX6_lots_16 : decode cX6_lots 16 = .ok (.iload_n 2, 1) := by decide +kernel
theorem dX6_lots_17 : decode cX6_lots 17 = .ok (.i2l, 1) := by decide +kernel
theorem dX6_lots_18 : decode cX6_lots 18 = .ok (.ldc2_w 278, 3) := by decide +kernel
theorem dX6_lots_21 : decode cX6_lots 21 = .ok (.lcmp, 1) := by decide +kernel
theorem dX6_lots_22 : decode cX6_lots 22 = .ok (.ifCond .lt 5, 3) := by decide +kernel
theorem dX6_lots_25 : decode cX6_lots 25 = .ok (.iconst (-1), 1) := by decide +kernel
theorem dX6_lots_26 : decode cX6_lots 26 = .ok (.ireturn, 1) := by decide +kernel
theorem dX6_lots_27 : decode cX6_lots 27 = .ok (.aload_n 0, 1) := by decide +kernel
theorem dX6_lots_28 : decode cX6_lots 28 = .ok (.getfield 27, 3) := by decide +kernel
theorem dX6_lots_31 : decode cX6_lots 31 = .ok (.getfield 131, 3) := by decide +kernel
theorem dX6_lots_34 : decode cX6_lots 34 = .ok (.getfield 137, 3) := by decide +kernel
theorem dX6_lots_37 : decode cX6_lots 37 = .ok (.istore_n 3, 1) := by decide +kernel
theorem dX6_lots_38 : decode cX6_lots 38 = .ok (.iload_n 3, 1) := by decide +kernel
theorem dX6_lots_39 : decode cX6_lots 39 = .ok (.ifCond .gt 6, 3) := by decide +kernel
theorem dX6_lots_42 : decode cX6_lots 42 = .ok (.bipush (-4), 2) := by decide +kernel
theorem dX6_lots_44 : decode cX6_lots 44 = .ok (.ireturn, 1) := by decide +kernel
theorem dX6_lots_45 : decode cX6_lots 45 = .ok (.aload_n 0, 1) := by decide +kernel
theorem dX6_lots_46 : decode cX6_lots 46 = .ok (.getfield 27, 3) := by decide +kernel
theorem dX6_lots_49 : decode cX6_lots 49 = .ok (.getfield 177, 3) := by decide +kernel
theorem dX6_lots_52 : decode cX6_lots 52 = .ok (.iload_n 1, 1) := by decide +kernel
theorem dX6_lots_53 : decode cX6_lots 53 = .ok (.iadd, 1) := by decide +kernel
theorem dX6_lots_54 : decode cX6_lots 54 = .ok (.bipush 40, 2) := by decide +kernel
theorem dX6_lots_56 : decode cX6_lots 56 = .ok (.if_icmp .le 6, 3) := by decide +kernel
theorem dX6_lots_59 : decode cX6_lots 59 = .ok (.bipush (-2), 2) := by decide +kernel
theorem dX6_lots_61 : decode cX6_lots 61 = .ok (.ireturn, 1) := by decide +kernel
theorem dX6_lots_62 : decode cX6_lots 62 = .ok (.iload_n 2, 1) := by decide +kernel
theorem dX6_lots_63 : decode cX6_lots 63 = .ok (.i2l, 1) := by decide +kernel
theorem dX6_lots_64 : decode cX6_lots 64 = .ok (.lstore 4, 2) := by decide +kernel
theorem dX6_lots_66 : decode cX6_lots 66 = .ok (.iconst 0, 1) := by decide +kernel
theorem dX6_lots_67 : decode cX6_lots 67 = .ok (.istore 6, 2) := by decide +kernel
theorem dX6_lots_69 : decode cX6_lots 69 = .ok (.iload 6, 2) := by decide +kernel
theorem dX6_lots_71 : decode cX6_lots 71 = .ok (.iload_n 1, 1) := by decide +kernel
theorem dX6_lots_72 : decode cX6_lots 72 = .ok (.if_icmp .ge 60, 3) := by decide +kernel
theorem dX6_lots_75 : decode cX6_lots 75 = .ok (.lload 4, 2) := by decide +kernel
theorem dX6_lots_77 : decode cX6_lots 77 = .ok (.ldc2_w 280, 3) := by decide +kernel
theorem dX6_lots_80 : decode cX6_lots 80 = .ok (.lmul, 1) := by decide +kernel
theorem dX6_lots_81 : decode cX6_lots 81 = .ok (.ldc2_w 278, 3) := by decide +kernel
theorem dX6_lots_84 : decode cX6_lots 84 = .ok (.lrem, 1) := by decide +kernel
theorem dX6_lots_85 : decode cX6_lots 85 = .ok (.lstore 4, 2) := by decide +kernel
theorem dX6_lots_87 : decode cX6_lots 87 = .ok (.lload 4, 2) := by decide +kernel
theorem dX6_lots_89 : decode cX6_lots 89 = .ok (.ldc2_w 282, 3) := by decide +kernel
theorem dX6_lots_92 : decode cX6_lots 92 = .ok (.ldiv, 1) := by decide +kernel
theorem dX6_lots_93 : decode cX6_lots 93 = .ok (.iload_n 3, 1) := by decide +kernel
theorem dX6_lots_94 : decode cX6_lots 94 = .ok (.i2l, 1) := by decide +kernel
theorem dX6_lots_95 : decode cX6_lots 95 = .ok (.lrem, 1) := by decide +kernel
theorem dX6_lots_96 : decode cX6_lots 96 = .ok (.l2i, 1) := by decide +kernel
theorem dX6_lots_97 : decode cX6_lots 97 = .ok (.istore 7, 2) := by decide +kernel
theorem dX6_lots_99 : decode cX6_lots 99 = .ok (.aload_n 0, 1) := by decide +kernel
theorem dX6_lots_100 : decode cX6_lots 100 = .ok (.getfield 27, 3) := by decide +kernel
theorem dX6_lots_103 : decode cX6_lots 103 = .ok (.aload_n 0, 1) := by decide +kernel
theorem dX6_lots_104 : decode cX6_lots 104 = .ok (.getfield 27, 3) := by decide +kernel
theorem dX6_lots_107 : decode cX6_lots 107 = .ok (.iload 7, 2) := by decide +kernel
theorem dX6_lots_109 : decode cX6_lots 109 = .ok (.invokevirtual 284, 3) := by decide +kernel
theorem dX6_lots_112 : decode cX6_lots 112 = .ok (.ifCond .eq 7, 3) := by decide +kernel
theorem dX6_lots_115 : decode cX6_lots 115 = .ok (.iconst 0, 1) := by decide +kernel
theorem dX6_lots_116 : decode cX6_lots 116 = .ok (.goto 4, 3) := by decide +kernel
theorem dX6_lots_119 : decode cX6_lots 119 = .ok (.iconst 3, 1) := by decide +kernel
theorem dX6_lots_120 : decode cX6_lots 120 = .ok (.iload 7, 2) := by decide +kernel
theorem dX6_lots_122 : decode cX6_lots 122 = .ok (.invokevirtual 164, 3) := by decide +kernel
theorem dX6_lots_125 : decode cX6_lots 125 = .ok (.pop, 1) := by decide +kernel
theorem dX6_lots_126 : decode cX6_lots 126 = .ok (.iinc 6 1, 3) := by decide +kernel
theorem dX6_lots_129 : decode cX6_lots 129 = .ok (.goto (-60), 3) := by decide +kernel
theorem dX6_lots_132 : decode cX6_lots 132 = .ok (.aload_n 0, 1) := by decide +kernel
theorem dX6_lots_133 : decode cX6_lots 133 = .ok (.getfield 27, 3) := by decide +kernel
theorem dX6_lots_136 : decode cX6_lots 136 = .ok (.getfield 190, 3) := by decide +kernel
theorem dX6_lots_139 : decode cX6_lots 139 = .ok (.ireturn, 1) := by decide +kernel
theorem dX6_asked_0 : decode cX6_asked 0 = .ok (.aload_n 0, 1) := by decide +kernel
theorem dX6_asked_1 : decode cX6_asked 1 = .ok (.getfield 69, 3) := by decide +kernel
theorem dX6_asked_4 : decode cX6_asked 4 = .ok (.ireturn, 1) := by decide +kernel
theorem dX6_upper_0 : decode cX6_upper 0 = .ok (.aload_n 0, 1) := by decide +kernel
theorem dX6_upper_1 : decode cX6_upper 1 = .ok (.getfield 57, 3) := by decide +kernel
theorem dX6_upper_4 : decode cX6_upper 4 = .ok (.getfield 287, 3) := by decide +kernel
theorem dX6_upper_7 : decode cX6_upper 7 = .ok (.lreturn, 1) := by decide +kernel
theorem dX6_lower_0 : decode cX6_lower 0 = .ok (.aload_n 0, 1) := by decide +kernel
theorem dX6_lower_1 : decode cX6_lower 1 = .ok (.getfield 57, 3) := by decide +kernel
theorem dX6_lower_4 : decode cX6_lower 4 = .ok (.getfield 291, 3) := by decide +kernel
theorem dX6_lower_7 : decode cX6_lower 7 = .ok (.lreturn, 1) := by decide +kernel
theorem dX6_count_0 : decode cX6_count 0 = .ok (.iload_n 1, 1) := by decide +kernel
theorem dX6_count_1 : decode cX6_count 1 = .ok (.ifCond .lt 9, 3) := by decide +kernel
theorem dX6_count_4 : decode cX6_count 4 = .ok (.iload_n 1, 1) := by decide +kernel
theorem dX6_count_5 : decode cX6_count 5 = .ok (.bipush 11, 2) := by decide +kernel
theorem dX6_count_7 : decode cX6_count 7 = .ok (.if_icmp .lt 7, 3) := by decide +kernel
theorem dX6_count_10 : decode cX6_count 10 = .ok (.iconst (-1), 1) := by decide +kernel
theorem dX6_count_11 : decode cX6_count 11 = .ok (.goto 8, 3) := by decide +kernel
theorem dX6_count_14 : decode cX6_count 14 = .ok (.aload_n 0, 1) := by decide +kernel
theorem dX6_count_15 : decode cX6_count 15 = .ok (.iload_n 1, 1) := by decide +kernel
theorem dX6_count_16 : decode cX6_count 16 = .ok (.invokevirtual 294, 3) := by decide +kernel
theorem dX6_count_19 : decode cX6_count 19 = .ok (.ireturn, 1) := by decide +kernel
theorem dX6_finding_0 : decode cX6_finding 0 = .ok (.aload_n 0, 1) := by decide +kernel
theorem dX6_finding_1 : decode cX6_finding 1 = .ok (.getfield 65, 3) := by decide +kernel
theorem dX6_finding_4 : decode cX6_finding 4 = .ok (.ireturn, 1) := by decide +kernel
theorem dX6_findings_0 : decode cX6_findings 0 = .ok (.iload_n 1, 1) := by decide +kernel
theorem dX6_findings_1 : decode cX6_findings 1 = .ok (.iconst 1, 1) := by decide +kernel
theorem dX6_findings_2 : decode cX6_findings 2 = .ok (.if_icmp .lt 8, 3) := by decide +kernel
theorem dX6_findings_5 : decode cX6_findings 5 = .ok (.iload_n 1, 1) := by decide +kernel
theorem dX6_findings_6 : decode cX6_findings 6 = .ok (.iconst 5, 1) := by decide +kernel
theorem dX6_findings_7 : decode cX6_findings 7 = .ok (.if_icmp .le 7, 3) := by decide +kernel
theorem dX6_findings_10 : decode cX6_findings 10 = .ok (.iconst (-1), 1) := by decide +kernel
theorem dX6_findings_11 : decode cX6_findings 11 = .ok (.goto 9, 3) := by decide +kernel
theorem dX6_findings_14 : decode cX6_findings 14 = .ok (.aload_n 0, 1) := by decide +kernel
theorem dX6_findings_15 : decode cX6_findings 15 = .ok (.getfield 61, 3) := by decide +kernel
theorem dX6_findings_18 : decode cX6_findings 18 = .ok (.iload_n 1, 1) := by decide +kernel
theorem dX6_findings_19 : decode cX6_findings 19 = .ok (.iaload, 1) := by decide +kernel
theorem dX6_findings_20 : decode cX6_findings 20 = .ok (.ireturn, 1) := by decide +kernel
theorem dX6_digest_0 : decode cX6_digest 0 = .ok (.ldc2_w 297, 3) := by decide +kernel
theorem dX6_digest_3 : decode cX6_digest 3 = .ok (.lstore_n 1, 1) := by decide +kernel
theorem dX6_digest_4 : decode cX6_digest 4 = .ok (.iconst 0, 1) := by decide +kernel
theorem dX6_digest_5 : decode cX6_digest 5 = .ok (.istore_n 3, 1) := by decide +kernel
theorem dX6_digest_6 : decode cX6_digest 6 = .ok (.iload_n 3, 1) := by decide +kernel
theorem dX6_digest_7 : decode cX6_digest 7 = .ok (.bipush 11, 2) := by decide +kernel
theorem dX6_digest_9 : decode cX6_digest 9 = .ok (.if_icmp .ge 22, 3) := by decide +kernel
theorem dX6_digest_12 : decode cX6_digest 12 = .ok (.ldc2_w 299, 3) := by decide +kernel
theorem dX6_digest_15 : decode cX6_digest 15 = .ok (.lload_n 1, 1) := by decide +kernel
theorem dX6_digest_16 : decode cX6_digest 16 = .ok (.lmul, 1) := by decide +kernel
theorem dX6_digest_17 : decode cX6_digest 17 = .ok (.aload_n 0, 1) := by decide +kernel
theorem dX6_digest_18 : decode cX6_digest 18 = .ok (.iload_n 3, 1) := by decide +kernel
theorem dX6_digest_19 : decode cX6_digest 19 = .ok (.invokevirtual 294, 3) := by decide +kernel
theorem dX6_digest_22 : decode cX6_digest 22 = .ok (.i2l, 1) := by decide +kernel
theorem dX6_digest_23 : decode cX6_digest 23 = .ok (.ladd, 1) := by decide +kernel
theorem dX6_digest_24 : decode cX6_digest 24 = .ok (.lstore_n 1, 1) := by decide +kernel
theorem dX6_digest_25 : decode cX6_digest 25 = .ok (.iinc 3 1, 3) := by decide +kernel
theorem dX6_digest_28 : decode cX6_digest 28 = .ok (.goto (-22), 3) := by decide +kernel
theorem dX6_digest_31 : decode cX6_digest 31 = .ok (.iconst 0, 1) := by decide +kernel
theorem dX6_digest_32 : decode cX6_digest 32 = .ok (.istore_n 3, 1) := by decide +kernel
theorem dX6_digest_33 : decode cX6_digest 33 = .ok (.iload_n 3, 1) := by decide +kernel
theorem dX6_digest_34 : decode cX6_digest 34 = .ok (.aload_n 0, 1) := by decide +kernel
theorem dX6_digest_35 : decode cX6_digest 35 = .ok (.getfield 27, 3) := by decide +kernel
theorem dX6_digest_38 : decode cX6_digest 38 = .ok (.getfield 131, 3) := by decide +kernel
theorem dX6_digest_41 : decode cX6_digest 41 = .ok (.getfield 137, 3) := by decide +kernel
theorem dX6_digest_44 : decode cX6_digest 44 = .ok (.if_icmp .ge 43, 3) := by decide +kernel
theorem dX6_digest_47 : decode cX6_digest 47 = .ok (.iconst 0, 1) := by decide +kernel
theorem dX6_digest_48 : decode cX6_digest 48 = .ok (.istore 4, 2) := by decide +kernel
theorem dX6_digest_50 : decode cX6_digest 50 = .ok (.iload 4, 2) := by decide +kernel
theorem dX6_digest_52 : decode cX6_digest 52 = .ok (.bipush 9, 2) := by decide +kernel
theorem dX6_digest_54 : decode cX6_digest 54 = .ok (.if_icmp .ge 27, 3) := by decide +kernel
theorem dX6_digest_57 : decode cX6_digest 57 = .ok (.ldc2_w 299, 3) := by decide +kernel
theorem dX6_digest_60 : decode cX6_digest 60 = .ok (.lload_n 1, 1) := by decide +kernel
theorem dX6_digest_61 : decode cX6_digest 61 = .ok (.lmul, 1) := by decide +kernel
theorem dX6_digest_62 : decode cX6_digest 62 = .ok (.aload_n 0, 1) := by decide +kernel
theorem dX6_digest_63 : decode cX6_digest 63 = .ok (.getfield 27, 3) := by decide +kernel
theorem dX6_digest_66 : decode cX6_digest 66 = .ok (.iload_n 3, 1) := by decide +kernel
theorem dX6_digest_67 : decode cX6_digest 67 = .ok (.iload 4, 2) := by decide +kernel
theorem dX6_digest_69 : decode cX6_digest 69 = .ok (.invokevirtual 143, 3) := by decide +kernel
theorem dX6_digest_72 : decode cX6_digest 72 = .ok (.i2l, 1) := by decide +kernel
theorem dX6_digest_73 : decode cX6_digest 73 = .ok (.ladd, 1) := by decide +kernel
theorem dX6_digest_74 : decode cX6_digest 74 = .ok (.lstore_n 1, 1) := by decide +kernel
theorem dX6_digest_75 : decode cX6_digest 75 = .ok (.iinc 4 1, 3) := by decide +kernel
theorem dX6_digest_78 : decode cX6_digest 78 = .ok (.goto (-28), 3) := by decide +kernel
theorem dX6_digest_81 : decode cX6_digest 81 = .ok (.iinc 3 1, 3) := by decide +kernel
theorem dX6_digest_84 : decode cX6_digest 84 = .ok (.goto (-51), 3) := by decide +kernel
theorem dX6_digest_87 : decode cX6_digest 87 = .ok (.iconst 0, 1) := by decide +kernel
theorem dX6_digest_88 : decode cX6_digest 88 = .ok (.istore_n 3, 1) := by decide +kernel
theorem dX6_digest_89 : decode cX6_digest 89 = .ok (.iload_n 3, 1) := by decide +kernel
theorem dX6_digest_90 : decode cX6_digest 90 = .ok (.iconst 3, 1) := by decide +kernel
theorem dX6_digest_91 : decode cX6_digest 91 = .ok (.if_icmp .ge 26, 3) := by decide +kernel
theorem dX6_digest_94 : decode cX6_digest 94 = .ok (.ldc2_w 299, 3) := by decide +kernel
theorem dX6_digest_97 : decode cX6_digest 97 = .ok (.lload_n 1, 1) := by decide +kernel
theorem dX6_digest_98 : decode cX6_digest 98 = .ok (.lmul, 1) := by decide +kernel
theorem dX6_digest_99 : decode cX6_digest 99 = .ok (.aload_n 0, 1) := by decide +kernel
theorem dX6_digest_100 : decode cX6_digest 100 = .ok (.getfield 21, 3) := by decide +kernel
theorem dX6_digest_103 : decode cX6_digest 103 = .ok (.getfield 121, 3) := by decide +kernel
theorem dX6_digest_106 : decode cX6_digest 106 = .ok (.iload_n 3, 1) := by decide +kernel
theorem dX6_digest_107 : decode cX6_digest 107 = .ok (.iaload, 1) := by decide +kernel
theorem dX6_digest_108 : decode cX6_digest 108 = .ok (.i2l, 1) := by decide +kernel
theorem dX6_digest_109 : decode cX6_digest 109 = .ok (.ladd, 1) := by decide +kernel
theorem dX6_digest_110 : decode cX6_digest 110 = .ok (.lstore_n 1, 1) := by decide +kernel
theorem dX6_digest_111 : decode cX6_digest 111 = .ok (.iinc 3 1, 3) := by decide +kernel
theorem dX6_digest_114 : decode cX6_digest 114 = .ok (.goto (-25), 3) := by decide +kernel
theorem dX6_digest_117 : decode cX6_digest 117 = .ok (.aload_n 0, 1) := by decide +kernel
theorem dX6_digest_118 : decode cX6_digest 118 = .ok (.getfield 18, 3) := by decide +kernel
theorem dX6_digest_121 : decode cX6_digest 121 = .ok (.aload_n 0, 1) := by decide +kernel
theorem dX6_digest_122 : decode cX6_digest 122 = .ok (.getfield 14, 3) := by decide +kernel
theorem dX6_digest_125 : decode cX6_digest 125 = .ok (.lload_n 1, 1) := by decide +kernel
theorem dX6_digest_126 : decode cX6_digest 126 = .ok (.invokevirtual 301, 3) := by decide +kernel
theorem dX6_digest_129 : decode cX6_digest 129 = .ok (.invokevirtual 301, 3) := by decide +kernel
theorem dX6_digest_132 : decode cX6_digest 132 = .ok (.lreturn, 1) := by decide +kernel
theorem dX6_refuse_0 : decode cX6_refuse 0 = .ok (.iload_n 1, 1) := by decide +kernel
theorem dX6_refuse_1 : decode cX6_refuse 1 = .ok (.iconst 1, 1) := by decide +kernel
theorem dX6_refuse_2 : decode cX6_refuse 2 = .ok (.if_icmp .lt 23, 3) := by decide +kernel
theorem dX6_refuse_5 : decode cX6_refuse 5 = .ok (.iload_n 1, 1) := by decide +kernel
theorem dX6_refuse_6 : decode cX6_refuse 6 = .ok (.iconst 5, 1) := by decide +kernel
theorem dX6_refuse_7 : decode cX6_refuse 7 = .ok (.if_icmp .gt 18, 3) := by decide +kernel
theorem dX6_refuse_10 : decode cX6_refuse 10 = .ok (.aload_n 0, 1) := by decide +kernel
theorem dX6_refuse_11 : decode cX6_refuse 11 = .ok (.iload_n 1, 1) := by decide +kernel
theorem dX6_refuse_12 : decode cX6_refuse 12 = .ok (.putfield 65, 3) := by decide +kernel
theorem dX6_refuse_15 : decode cX6_refuse 15 = .ok (.aload_n 0, 1) := by decide +kernel
theorem dX6_refuse_16 : decode cX6_refuse 16 = .ok (.getfield 61, 3) := by decide +kernel
theorem dX6_refuse_19 : decode cX6_refuse 19 = .ok (.iload_n 1, 1) := by decide +kernel
theorem dX6_refuse_20 : decode cX6_refuse 20 = .ok (.dup2, 1) := by decide +kernel
theorem dX6_refuse_21 : decode cX6_refuse 21 = .ok (.iaload, 1) := by decide +kernel
theorem dX6_refuse_22 : decode cX6_refuse 22 = .ok (.iconst 1, 1) := by decide +kernel
theorem dX6_refuse_23 : decode cX6_refuse 23 = .ok (.iadd, 1) := by decide +kernel
theorem dX6_refuse_24 : decode cX6_refuse 24 = .ok (.iastore, 1) := by decide +kernel
theorem dX6_refuse_25 : decode cX6_refuse 25 = .ok (.bipush (-3), 2) := by decide +kernel
theorem dX6_refuse_27 : decode cX6_refuse 27 = .ok (.ireturn, 1) := by decide +kernel
theorem dX6_refusalOfSheet_0 : decode cX6_refusalOfSheet 0 = .ok (.aload_n 1, 1) := by decide +kernel
theorem dX6_refusalOfSheet_1 : decode cX6_refusalOfSheet 1 = .ok (.iload_n 2, 1) := by decide +kernel
theorem dX6_refusalOfSheet_2 : decode cX6_refusalOfSheet 2 = .ok (.invokevirtual 96, 3) := by decide +kernel
theorem dX6_refusalOfSheet_5 : decode cX6_refusalOfSheet 5 = .ok (.ifCond .ne 5, 3) := by decide +kernel
theorem dX6_refusalOfSheet_8 : decode cX6_refusalOfSheet 8 = .ok (.iconst (-1), 1) := by decide +kernel
theorem dX6_refusalOfSheet_9 : decode cX6_refusalOfSheet 9 = .ok (.ireturn, 1) := by decide +kernel
theorem dX6_refusalOfSheet_10 : decode cX6_refusalOfSheet 10 = .ok (.aload_n 1, 1) := by decide +kernel
theorem dX6_refusalOfSheet_11 : decode cX6_refusalOfSheet 11 = .ok (.iload_n 2, 1) := by decide +kernel
theorem dX6_refusalOfSheet_12 : decode cX6_refusalOfSheet 12 = .ok (.invokevirtual 104, 3) := by decide +kernel
theorem dX6_refusalOfSheet_15 : decode cX6_refusalOfSheet 15 = .ok (.ifCond .eq 7, 3) := by decide +kernel
theorem dX6_refusalOfSheet_18 : decode cX6_refusalOfSheet 18 = .ok (.iconst 0, 1) := by decide +kernel
theorem dX6_refusalOfSheet_19 : decode cX6_refusalOfSheet 19 = .ok (.goto 8, 3) := by decide +kernel
theorem dX6_refusalOfSheet_22 : decode cX6_refusalOfSheet 22 = .ok (.aload_n 0, 1) := by decide +kernel
theorem dX6_refusalOfSheet_23 : decode cX6_refusalOfSheet 23 = .ok (.iconst 1, 1) := by decide +kernel
theorem dX6_refusalOfSheet_24 : decode cX6_refusalOfSheet 24 = .ok (.invokevirtual 100, 3) := by decide +kernel
theorem dX6_refusalOfSheet_27 : decode cX6_refusalOfSheet 27 = .ok (.ireturn, 1) := by decide +kernel
theorem dX6_refusalOfPlace_0 : decode cX6_refusalOfPlace 0 = .ok (.aload_n 0, 1) := by decide +kernel
theorem dX6_refusalOfPlace_1 : decode cX6_refusalOfPlace 1 = .ok (.aload_n 1, 1) := by decide +kernel
theorem dX6_refusalOfPlace_2 : decode cX6_refusalOfPlace 2 = .ok (.iload_n 2, 1) := by decide +kernel
theorem dX6_refusalOfPlace_3 : decode cX6_refusalOfPlace 3 = .ok (.invokevirtual 88, 3) := by decide +kernel
theorem dX6_refusalOfPlace_6 : decode cX6_refusalOfPlace 6 = .ok (.istore 4, 2) := by decide +kernel
theorem dX6_refusalOfPlace_8 : decode cX6_refusalOfPlace 8 = .ok (.iload 4, 2) := by decide +kernel
theorem dX6_refusalOfPlace_10 : decode cX6_refusalOfPlace 10 = .ok (.ifCond .eq 6, 3) := by decide +kernel
theorem dX6_refusalOfPlace_13 : decode cX6_refusalOfPlace 13 = .ok (.iload 4, 2) := by decide +kernel
theorem dX6_refusalOfPlace_15 : decode cX6_refusalOfPlace 15 = .ok (.ireturn, 1) := by decide +kernel
theorem dX6_refusalOfPlace_16 : decode cX6_refusalOfPlace 16 = .ok (.aload_n 1, 1) := by decide +kernel
theorem dX6_refusalOfPlace_17 : decode cX6_refusalOfPlace 17 = .ok (.iload_n 2, 1) := by decide +kernel
theorem dX6_refusalOfPlace_18 : decode cX6_refusalOfPlace 18 = .ok (.iload_n 3, 1) := by decide +kernel
theorem dX6_refusalOfPlace_19 : decode cX6_refusalOfPlace 19 = .ok (.invokevirtual 305, 3) := by decide +kernel
theorem dX6_refusalOfPlace_22 : decode cX6_refusalOfPlace 22 = .ok (.ifCond .eq 7, 3) := by decide +kernel
theorem dX6_refusalOfPlace_25 : decode cX6_refusalOfPlace 25 = .ok (.iconst 0, 1) := by decide +kernel
theorem dX6_refusalOfPlace_26 : decode cX6_refusalOfPlace 26 = .ok (.goto 8, 3) := by decide +kernel
theorem dX6_refusalOfPlace_29 : decode cX6_refusalOfPlace 29 = .ok (.aload_n 0, 1) := by decide +kernel
theorem dX6_refusalOfPlace_30 : decode cX6_refusalOfPlace 30 = .ok (.iconst 2, 1) := by decide +kernel
theorem dX6_refusalOfPlace_31 : decode cX6_refusalOfPlace 31 = .ok (.invokevirtual 100, 3) := by decide +kernel
theorem dX6_refusalOfPlace_34 : decode cX6_refusalOfPlace 34 = .ok (.ireturn, 1) := by decide +kernel
theorem dX6_laidOut_0 : decode cX6_laidOut 0 = .ok (.aload_n 1, 1) := by decide +kernel
theorem dX6_laidOut_1 : decode cX6_laidOut 1 = .ok (.iload_n 2, 1) := by decide +kernel
theorem dX6_laidOut_2 : decode cX6_laidOut 2 = .ok (.invokevirtual 96, 3) := by decide +kernel
theorem dX6_laidOut_5 : decode cX6_laidOut 5 = .ok (.ifCond .eq 11, 3) := by decide +kernel
theorem dX6_laidOut_8 : decode cX6_laidOut 8 = .ok (.iload_n 3, 1) := by decide +kernel
theorem dX6_laidOut_9 : decode cX6_laidOut 9 = .ok (.aload_n 1, 1) := by decide +kernel
theorem dX6_laidOut_10 : decode cX6_laidOut 10 = .ok (.getfield 308, 3) := by decide +kernel
theorem dX6_laidOut_13 : decode cX6_laidOut 13 = .ok (.if_icmp .le 5, 3) := by decide +kernel
theorem dX6_laidOut_16 : decode cX6_laidOut 16 = .ok (.iconst (-1), 1) := by decide +kernel
theorem dX6_laidOut_17 : decode cX6_laidOut 17 = .ok (.ireturn, 1) := by decide +kernel
theorem dX6_laidOut_18 : decode cX6_laidOut 18 = .ok (.iload_n 3, 1) := by decide +kernel
theorem dX6_laidOut_19 : decode cX6_laidOut 19 = .ok (.ifCond .ge 9, 3) := by decide +kernel
theorem dX6_laidOut_22 : decode cX6_laidOut 22 = .ok (.aload_n 0, 1) := by decide +kernel
theorem dX6_laidOut_23 : decode cX6_laidOut 23 = .ok (.iconst 5, 1) := by decide +kernel
theorem dX6_laidOut_24 : decode cX6_laidOut 24 = .ok (.invokevirtual 100, 3) := by decide +kernel
theorem dX6_laidOut_27 : decode cX6_laidOut 27 = .ok (.ireturn, 1) := by decide +kernel
theorem dX6_laidOut_28 : decode cX6_laidOut 28 = .ok (.aload_n 1, 1) := by decide +kernel
theorem dX6_laidOut_29 : decode cX6_laidOut 29 = .ok (.iload_n 2, 1) := by decide +kernel
theorem dX6_laidOut_30 : decode cX6_laidOut 30 = .ok (.iload_n 3, 1) := by decide +kernel
theorem dX6_laidOut_31 : decode cX6_laidOut 31 = .ok (.iload 4, 2) := by decide +kernel
theorem dX6_laidOut_33 : decode cX6_laidOut 33 = .ok (.invokevirtual 187, 3) := by decide +kernel
theorem dX6_laidOut_36 : decode cX6_laidOut 36 = .ok (.iload_n 3, 1) := by decide +kernel
theorem dX6_laidOut_37 : decode cX6_laidOut 37 = .ok (.ireturn, 1) := by decide +kernel
theorem dX6_moved_0 : decode cX6_moved 0 = .ok (.aload_n 0, 1) := by decide +kernel
theorem dX6_moved_1 : decode cX6_moved 1 = .ok (.getfield 27, 3) := by decide +kernel
theorem dX6_moved_4 : decode cX6_moved 4 = .ok (.iload_n 1, 1) := by decide +kernel
theorem dX6_moved_5 : decode cX6_moved 5 = .ok (.invokevirtual 140, 3) := by decide +kernel
theorem dX6_moved_8 : decode cX6_moved 8 = .ok (.ifCond .ne 5, 3) := by decide +kernel
theorem dX6_moved_11 : decode cX6_moved 11 = .ok (.iconst (-1), 1) := by decide +kernel
theorem dX6_moved_12 : decode cX6_moved 12 = .ok (.ireturn, 1) := by decide +kernel
theorem dX6_moved_13 : decode cX6_moved 13 = .ok (.aload_n 0, 1) := by decide +kernel
theorem dX6_moved_14 : decode cX6_moved 14 = .ok (.getfield 27, 3) := by decide +kernel
theorem dX6_moved_17 : decode cX6_moved 17 = .ok (.iload_n 1, 1) := by decide +kernel
theorem dX6_moved_18 : decode cX6_moved 18 = .ok (.invokevirtual 198, 3) := by decide +kernel
theorem dX6_moved_21 : decode cX6_moved 21 = .ok (.iload_n 2, 1) := by decide +kernel
theorem dX6_moved_22 : decode cX6_moved 22 = .ok (.if_icmp .ne 6, 3) := by decide +kernel
theorem dX6_moved_25 : decode cX6_moved 25 = .ok (.bipush (-4), 2) := by decide +kernel
theorem dX6_moved_27 : decode cX6_moved 27 = .ok (.ireturn, 1) := by decide +kernel
theorem dX6_moved_28 : decode cX6_moved 28 = .ok (.aload_n 0, 1) := by decide +kernel
theorem dX6_moved_29 : decode cX6_moved 29 = .ok (.getfield 27, 3) := by decide +kernel
theorem dX6_moved_32 : decode cX6_moved 32 = .ok (.iload_n 1, 1) := by decide +kernel
theorem dX6_moved_33 : decode cX6_moved 33 = .ok (.invokevirtual 284, 3) := by decide +kernel
theorem dX6_moved_36 : decode cX6_moved 36 = .ok (.ifCond .eq 15, 3) := by decide +kernel
theorem dX6_moved_39 : decode cX6_moved 39 = .ok (.aload_n 0, 1) := by decide +kernel
theorem dX6_moved_40 : decode cX6_moved 40 = .ok (.getfield 27, 3) := by decide +kernel
theorem dX6_moved_43 : decode cX6_moved 43 = .ok (.iconst 0, 1) := by decide +kernel
theorem dX6_moved_44 : decode cX6_moved 44 = .ok (.iload_n 1, 1) := by decide +kernel
theorem dX6_moved_45 : decode cX6_moved 45 = .ok (.invokevirtual 164, 3) := by decide +kernel
theorem dX6_moved_48 : decode cX6_moved 48 = .ok (.goto 5, 3) := by decide +kernel
theorem dX6_moved_51 : decode cX6_moved 51 = .ok (.bipush (-6), 2) := by decide +kernel
theorem dX6_moved_53 : decode cX6_moved 53 = .ok (.ireturn, 1) := by decide +kernel
theorem dX6_isBerth_0 : decode cX6_isBerth 0 = .ok (.iload_n 0, 1) := by decide +kernel
theorem dX6_isBerth_1 : decode cX6_isBerth 1 = .ok (.ifCond .lt 13, 3) := by decide +kernel
theorem dX6_isBerth_4 : decode cX6_isBerth 4 = .ok (.iload_n 0, 1) := by decide +kernel
theorem dX6_isBerth_5 : decode cX6_isBerth 5 = .ok (.bipush 6, 2) := by decide +kernel
theorem dX6_isBerth_7 : decode cX6_isBerth 7 = .ok (.if_icmp .ge 7, 3) := by decide +kernel
theorem dX6_isBerth_10 : decode cX6_isBerth 10 = .ok (.iconst 1, 1) := by decide +kernel
theorem dX6_isBerth_11 : decode cX6_isBerth 11 = .ok (.goto 4, 3) := by decide +kernel
theorem dX6_isBerth_14 : decode cX6_isBerth 14 = .ok (.iconst 0, 1) := by decide +kernel
theorem dX6_isBerth_15 : decode cX6_isBerth 15 = .ok (.ireturn, 1) := by decide +kernel
theorem dX6_isOfTwelve_0 : decode cX6_isOfTwelve 0 = .ok (.iload_n 0, 1) := by decide +kernel
theorem dX6_isOfTwelve_1 : decode cX6_isOfTwelve 1 = .ok (.ifCond .lt 13, 3) := by decide +kernel
theorem dX6_isOfTwelve_4 : decode cX6_isOfTwelve 4 = .ok (.iload_n 0, 1) := by decide +kernel
theorem dX6_isOfTwelve_5 : decode cX6_isOfTwelve 5 = .ok (.bipush 12, 2) := by decide +kernel
theorem dX6_isOfTwelve_7 : decode cX6_isOfTwelve 7 = .ok (.if_icmp .gt 7, 3) := by decide +kernel
theorem dX6_isOfTwelve_10 : decode cX6_isOfTwelve 10 = .ok (.iconst 1, 1) := by decide +kernel
theorem dX6_isOfTwelve_11 : decode cX6_isOfTwelve 11 = .ok (.goto 4, 3) := by decide +kernel
theorem dX6_isOfTwelve_14 : decode cX6_isOfTwelve 14 = .ok (.iconst 0, 1) := by decide +kernel
theorem dX6_isOfTwelve_15 : decode cX6_isOfTwelve 15 = .ok (.ireturn, 1) := by decide +kernel
theorem dX6_refusalOfShips_0 : decode cX6_refusalOfShips 0 = .ok (.aload_n 0, 1) := by decide +kernel
theorem dX6_refusalOfShips_1 : decode cX6_refusalOfShips 1 = .ok (.getfield 14, 3) := by decide +kernel
theorem dX6_refusalOfShips_4 : decode cX6_refusalOfShips 4 = .ok (.iload_n 1, 1) := by decide +kernel
theorem dX6_refusalOfShips_5 : decode cX6_refusalOfShips 5 = .ok (.invokevirtual 96, 3) := by decide +kernel
theorem dX6_refusalOfShips_8 : decode cX6_refusalOfShips 8 = .ok (.ifCond .ne 5, 3) := by decide +kernel
theorem dX6_refusalOfShips_11 : decode cX6_refusalOfShips 11 = .ok (.iconst (-1), 1) := by decide +kernel
theorem dX6_refusalOfShips_12 : decode cX6_refusalOfShips 12 = .ok (.ireturn, 1) := by decide +kernel
theorem dX6_refusalOfShips_13 : decode cX6_refusalOfShips 13 = .ok (.aload_n 0, 1) := by decide +kernel
theorem dX6_refusalOfShips_14 : decode cX6_refusalOfShips 14 = .ok (.getfield 27, 3) := by decide +kernel
theorem dX6_refusalOfShips_17 : decode cX6_refusalOfShips 17 = .ok (.invokevirtual 170, 3) := by decide +kernel
theorem dX6_refusalOfShips_20 : decode cX6_refusalOfShips 20 = .ok (.ifCond .eq 6, 3) := by decide +kernel
theorem dX6_refusalOfShips_23 : decode cX6_refusalOfShips 23 = .ok (.bipush (-4), 2) := by decide +kernel
theorem dX6_refusalOfShips_25 : decode cX6_refusalOfShips 25 = .ok (.ireturn, 1) := by decide +kernel
theorem dX6_refusalOfShips_26 : decode cX6_refusalOfShips 26 = .ok (.aload_n 0, 1) := by decide +kernel
theorem dX6_refusalOfShips_27 : decode cX6_refusalOfShips 27 = .ok (.getfield 14, 3) := by decide +kernel
theorem dX6_refusalOfShips_30 : decode cX6_refusalOfShips 30 = .ok (.iload_n 1, 1) := by decide +kernel
theorem dX6_refusalOfShips_31 : decode cX6_refusalOfShips 31 = .ok (.invokevirtual 104, 3) := by decide +kernel
theorem dX6_refusalOfShips_34 : decode cX6_refusalOfShips 34 = .ok (.ifCond .ne 9, 3) := by decide +kernel
theorem dX6_refusalOfShips_37 : decode cX6_refusalOfShips 37 = .ok (.aload_n 0, 1) := by decide +kernel
theorem dX6_refusalOfShips_38 : decode cX6_refusalOfShips 38 = .ok (.iconst 1, 1) := by decide +kernel
theorem dX6_refusalOfShips_39 : decode cX6_refusalOfShips 39 = .ok (.invokevirtual 100, 3) := by decide +kernel
theorem dX6_refusalOfShips_42 : decode cX6_refusalOfShips 42 = .ok (.ireturn, 1) := by decide +kernel
theorem dX6_refusalOfShips_43 : decode cX6_refusalOfShips 43 = .ok (.iload_n 2, 1) := by decide +kernel
theorem dX6_refusalOfShips_44 : decode cX6_refusalOfShips 44 = .ok (.istore_n 3, 1) := by decide +kernel
theorem dX6_refusalOfShips_45 : decode cX6_refusalOfShips 45 = .ok (.iconst 0, 1) := by decide +kernel
theorem dX6_refusalOfShips_46 : decode cX6_refusalOfShips 46 = .ok (.istore 4, 2) := by decide +kernel
theorem dX6_refusalOfShips_48 : decode cX6_refusalOfShips 48 = .ok (.iload 4, 2) := by decide +kernel
theorem dX6_refusalOfShips_50 : decode cX6_refusalOfShips 50 = .ok (.aload_n 0, 1) := by decide +kernel
theorem dX6_refusalOfShips_51 : decode cX6_refusalOfShips 51 = .ok (.getfield 14, 3) := by decide +kernel
theorem dX6_refusalOfShips_54 : decode cX6_refusalOfShips 54 = .ok (.getfield 121, 3) := by decide +kernel
theorem dX6_refusalOfShips_57 : decode cX6_refusalOfShips 57 = .ok (.iload_n 1, 1) := by decide +kernel
theorem dX6_refusalOfShips_58 : decode cX6_refusalOfShips 58 = .ok (.iaload, 1) := by decide +kernel
theorem dX6_refusalOfShips_59 : decode cX6_refusalOfShips 59 = .ok (.if_icmp .ge 59, 3) := by decide +kernel
theorem dX6_refusalOfShips_62 : decode cX6_refusalOfShips 62 = .ok (.aload_n 0, 1) := by decide +kernel
theorem dX6_refusalOfShips_63 : decode cX6_refusalOfShips 63 = .ok (.getfield 14, 3) := by decide +kernel
theorem dX6_refusalOfShips_66 : decode cX6_refusalOfShips 66 = .ok (.getfield 111, 3) := by decide +kernel
theorem dX6_refusalOfShips_69 : decode cX6_refusalOfShips 69 = .ok (.iload_n 1, 1) := by decide +kernel
theorem dX6_refusalOfShips_70 : decode cX6_refusalOfShips 70 = .ok (.aaload, 1) := by decide +kernel
theorem dX6_refusalOfShips_71 : decode cX6_refusalOfShips 71 = .ok (.iload 4, 2) := by decide +kernel
theorem dX6_refusalOfShips_73 : decode cX6_refusalOfShips 73 = .ok (.iaload, 1) := by decide +kernel
theorem dX6_refusalOfShips_74 : decode cX6_refusalOfShips 74 = .ok (.istore 5, 2) := by decide +kernel
theorem dX6_refusalOfShips_76 : decode cX6_refusalOfShips 76 = .ok (.aload_n 0, 1) := by decide +kernel
theorem dX6_refusalOfShips_77 : decode cX6_refusalOfShips 77 = .ok (.getfield 27, 3) := by decide +kernel
theorem dX6_refusalOfShips_80 : decode cX6_refusalOfShips 80 = .ok (.iload 5, 2) := by decide +kernel
theorem dX6_refusalOfShips_82 : decode cX6_refusalOfShips 82 = .ok (.invokevirtual 140, 3) := by decide +kernel
theorem dX6_refusalOfShips_85 : decode cX6_refusalOfShips 85 = .ok (.ifCond .eq 12, 3) := by decide +kernel
theorem dX6_refusalOfShips_88 : decode cX6_refusalOfShips 88 = .ok (.iload_n 3, 1) := by decide +kernel
theorem dX6_refusalOfShips_89 : decode cX6_refusalOfShips 89 = .ok (.iload 5, 2) := by decide +kernel
theorem dX6_refusalOfShips_91 : decode cX6_refusalOfShips 91 = .ok (.ishr, 1) := by decide +kernel
theorem dX6_refusalOfShips_92 : decode cX6_refusalOfShips 92 = .ok (.iconst 1, 1) := by decide +kernel
theorem dX6_refusalOfShips_93 : decode cX6_refusalOfShips 93 = .ok (.iand, 1) := by decide +kernel
theorem dX6_refusalOfShips_94 : decode cX6_refusalOfShips 94 = .ok (.ifCond .ne 9, 3) := by decide +kernel
theorem dX6_refusalOfShips_97 : decode cX6_refusalOfShips 97 = .ok (.aload_n 0, 1) := by decide +kernel
theorem dX6_refusalOfShips_98 : decode cX6_refusalOfShips 98 = .ok (.iconst 3, 1) := by decide +kernel
theorem dX6_refusalOfShips_99 : decode cX6_refusalOfShips 99 = .ok (.invokevirtual 100, 3) := by decide +kernel
theorem dX6_refusalOfShips_102 : decode cX6_refusalOfShips 102 = .ok (.ireturn, 1) := by decide +kernel
theorem dX6_refusalOfShips_103 : decode cX6_refusalOfShips 103 = .ok (.iload_n 3, 1) := by decide +kernel
theorem dX6_refusalOfShips_104 : decode cX6_refusalOfShips 104 = .ok (.iconst 1, 1) := by decide +kernel
theorem dX6_refusalOfShips_105 : decode cX6_refusalOfShips 105 = .ok (.iload 5, 2) := by decide +kernel
theorem dX6_refusalOfShips_107 : decode cX6_refusalOfShips 107 = .ok (.ishl, 1) := by decide +kernel
theorem dX6_refusalOfShips_108 : decode cX6_refusalOfShips 108 = .ok (.iconst (-1), 1) := by decide +kernel
theorem dX6_refusalOfShips_109 : decode cX6_refusalOfShips 109 = .ok (.ixor, 1) := by decide +kernel
theorem dX6_refusalOfShips_110 : decode cX6_refusalOfShips 110 = .ok (.iand, 1) := by decide +kernel
theorem dX6_refusalOfShips_111 : decode cX6_refusalOfShips 111 = .ok (.istore_n 3, 1) := by decide +kernel
theorem dX6_refusalOfShips_112 : decode cX6_refusalOfShips 112 = .ok (.iinc 4 1, 3) := by decide +kernel
theorem dX6_refusalOfShips_115 : decode cX6_refusalOfShips 115 = .ok (.goto (-67), 3) := by decide +kernel
theorem dX6_refusalOfShips_118 : decode cX6_refusalOfShips 118 = .ok (.iconst 0, 1) := by decide +kernel
theorem dX6_refusalOfShips_119 : decode cX6_refusalOfShips 119 = .ok (.ireturn, 1) := by decide +kernel
theorem dX6_refusalOfPairs_0 : decode cX6_refusalOfPairs 0 = .ok (.aload_n 0, 1) := by decide +kernel
theorem dX6_refusalOfPairs_1 : decode cX6_refusalOfPairs 1 = .ok (.getfield 27, 3) := by decide +kernel
theorem dX6_refusalOfPairs_4 : decode cX6_refusalOfPairs 4 = .ok (.iload_n 1, 1) := by decide +kernel
theorem dX6_refusalOfPairs_5 : decode cX6_refusalOfPairs 5 = .ok (.invokevirtual 140, 3) := by decide +kernel
theorem dX6_refusalOfPairs_8 : decode cX6_refusalOfPairs 8 = .ok (.ifCond .ne 5, 3) := by decide +kernel
theorem dX6_refusalOfPairs_11 : decode cX6_refusalOfPairs 11 = .ok (.iconst (-1), 1) := by decide +kernel
theorem dX6_refusalOfPairs_12 : decode cX6_refusalOfPairs 12 = .ok (.ireturn, 1) := by decide +kernel
theorem dX6_refusalOfPairs_13 : decode cX6_refusalOfPairs 13 = .ok (.aload_n 0, 1) := by decide +kernel
theorem dX6_refusalOfPairs_14 : decode cX6_refusalOfPairs 14 = .ok (.aload_n 0, 1) := by decide +kernel
theorem dX6_refusalOfPairs_15 : decode cX6_refusalOfPairs 15 = .ok (.getfield 14, 3) := by decide +kernel
theorem dX6_refusalOfPairs_18 : decode cX6_refusalOfPairs 18 = .ok (.iload_n 2, 1) := by decide +kernel
theorem dX6_refusalOfPairs_19 : decode cX6_refusalOfPairs 19 = .ok (.invokevirtual 88, 3) := by decide +kernel
theorem dX6_refusalOfPairs_22 : decode cX6_refusalOfPairs 22 = .ok (.istore_n 3, 1) := by decide +kernel
theorem dX6_refusalOfPairs_23 : decode cX6_refusalOfPairs 23 = .ok (.iload_n 3, 1) := by decide +kernel
theorem dX6_refusalOfPairs_24 : decode cX6_refusalOfPairs 24 = .ok (.ifCond .eq 5, 3) := by decide +kernel
theorem dX6_refusalOfPairs_27 : decode cX6_refusalOfPairs 27 = .ok (.iload_n 3, 1) := by decide +kernel
theorem dX6_refusalOfPairs_28 : decode cX6_refusalOfPairs 28 = .ok (.ireturn, 1) := by decide +kernel
theorem dX6_refusalOfPairs_29 : decode cX6_refusalOfPairs 29 = .ok (.aload_n 0, 1) := by decide +kernel
theorem dX6_refusalOfPairs_30 : decode cX6_refusalOfPairs 30 = .ok (.getfield 14, 3) := by decide +kernel
theorem dX6_refusalOfPairs_33 : decode cX6_refusalOfPairs 33 = .ok (.getfield 121, 3) := by decide +kernel
theorem dX6_refusalOfPairs_36 : decode cX6_refusalOfPairs 36 = .ok (.iload_n 2, 1) := by decide +kernel
theorem dX6_refusalOfPairs_37 : decode cX6_refusalOfPairs 37 = .ok (.iaload, 1) := by decide +kernel
theorem dX6_refusalOfPairs_38 : decode cX6_refusalOfPairs 38 = .ok (.istore 4, 2) := by decide +kernel
theorem dX6_refusalOfPairs_40 : decode cX6_refusalOfPairs 40 = .ok (.iload 4, 2) := by decide +kernel
theorem dX6_refusalOfPairs_42 : decode cX6_refusalOfPairs 42 = .ok (.iconst 2, 1) := by decide +kernel
theorem dX6_refusalOfPairs_43 : decode cX6_refusalOfPairs 43 = .ok (.irem, 1) := by decide +kernel
theorem dX6_refusalOfPairs_44 : decode cX6_refusalOfPairs 44 = .ok (.ifCond .eq 9, 3) := by decide +kernel
theorem dX6_refusalOfPairs_47 : decode cX6_refusalOfPairs 47 = .ok (.aload_n 0, 1) := by decide +kernel
theorem dX6_refusalOfPairs_48 : decode cX6_refusalOfPairs 48 = .ok (.iconst 5, 1) := by decide +kernel
theorem dX6_refusalOfPairs_49 : decode cX6_refusalOfPairs 49 = .ok (.invokevirtual 100, 3) := by decide +kernel
theorem dX6_refusalOfPairs_52 : decode cX6_refusalOfPairs 52 = .ok (.ireturn, 1) := by decide +kernel
theorem dX6_refusalOfPairs_53 : decode cX6_refusalOfPairs 53 = .ok (.iconst 0, 1) := by decide +kernel
theorem dX6_refusalOfPairs_54 : decode cX6_refusalOfPairs 54 = .ok (.istore 5, 2) := by decide +kernel
theorem dX6_refusalOfPairs_56 : decode cX6_refusalOfPairs 56 = .ok (.iload 5, 2) := by decide +kernel
theorem dX6_refusalOfPairs_58 : decode cX6_refusalOfPairs 58 = .ok (.iload 4, 2) := by decide +kernel
theorem dX6_refusalOfPairs_60 : decode cX6_refusalOfPairs 60 = .ok (.if_icmp .ge 55, 3) := by decide +kernel
theorem dX6_refusalOfPairs_63 : decode cX6_refusalOfPairs 63 = .ok (.aload_n 0, 1) := by decide +kernel
theorem dX6_refusalOfPairs_64 : decode cX6_refusalOfPairs 64 = .ok (.getfield 14, 3) := by decide +kernel
theorem dX6_refusalOfPairs_67 : decode cX6_refusalOfPairs 67 = .ok (.getfield 111, 3) := by decide +kernel
theorem dX6_refusalOfPairs_70 : decode cX6_refusalOfPairs 70 = .ok (.iload_n 2, 1) := by decide +kernel
theorem dX6_refusalOfPairs_71 : decode cX6_refusalOfPairs 71 = .ok (.aaload, 1) := by decide +kernel
theorem dX6_refusalOfPairs_72 : decode cX6_refusalOfPairs 72 = .ok (.iload 5, 2) := by decide +kernel
theorem dX6_refusalOfPairs_74 : decode cX6_refusalOfPairs 74 = .ok (.iaload, 1) := by decide +kernel
theorem dX6_refusalOfPairs_75 : decode cX6_refusalOfPairs 75 = .ok (.istore 6, 2) := by decide +kernel
theorem dX6_refusalOfPairs_77 : decode cX6_refusalOfPairs 77 = .ok (.iload 6, 2) := by decide +kernel
theorem dX6_refusalOfPairs_79 : decode cX6_refusalOfPairs 79 = .ok (.ifCond .lt 24, 3) := by decide +kernel
theorem dX6_refusalOfPairs_82 : decode cX6_refusalOfPairs 82 = .ok (.iload 6, 2) := by decide +kernel
theorem dX6_refusalOfPairs_84 : decode cX6_refusalOfPairs 84 = .ok (.iload 5, 2) := by decide +kernel
theorem dX6_refusalOfPairs_86 : decode cX6_refusalOfPairs 86 = .ok (.iconst 2, 1) := by decide +kernel
theorem dX6_refusalOfPairs_87 : decode cX6_refusalOfPairs 87 = .ok (.irem, 1) := by decide +kernel
theorem dX6_refusalOfPairs_88 : decode cX6_refusalOfPairs 88 = .ok (.ifCond .ne 9, 3) := by decide +kernel
theorem dX6_refusalOfPairs_91 : decode cX6_refusalOfPairs 91 = .ok (.sipush 999, 3) := by decide +kernel
theorem dX6_refusalOfPairs_94 : decode cX6_refusalOfPairs 94 = .ok (.goto 6, 3) := by decide +kernel
theorem dX6_refusalOfPairs_97 : decode cX6_refusalOfPairs 97 = .ok (.sipush 2000, 3) := by decide +kernel
theorem dX6_refusalOfPairs_100 : decode cX6_refusalOfPairs 100 = .ok (.if_icmp .le 9, 3) := by decide +kernel
theorem dX6_refusalOfPairs_103 : decode cX6_refusalOfPairs 103 = .ok (.aload_n 0, 1) := by decide +kernel
theorem dX6_refusalOfPairs_104 : decode cX6_refusalOfPairs 104 = .ok (.iconst 3, 1) := by decide +kernel
theorem dX6_refusalOfPairs_105 : decode cX6_refusalOfPairs 105 = .ok (.invokevirtual 100, 3) := by decide +kernel
theorem dX6_refusalOfPairs_108 : decode cX6_refusalOfPairs 108 = .ok (.ireturn, 1) := by decide +kernel
theorem dX6_refusalOfPairs_109 : decode cX6_refusalOfPairs 109 = .ok (.iinc 5 1, 3) := by decide +kernel
theorem dX6_refusalOfPairs_112 : decode cX6_refusalOfPairs 112 = .ok (.goto (-56), 3) := by decide +kernel
theorem dX6_refusalOfPairs_115 : decode cX6_refusalOfPairs 115 = .ok (.iconst 0, 1) := by decide +kernel
theorem dX6_refusalOfPairs_116 : decode cX6_refusalOfPairs 116 = .ok (.ireturn, 1) := by decide +kernel
theorem dX6_possibleKinds_0 : decode cX6_possibleKinds 0 = .ok (.iconst 0, 1) := by decide +kernel
theorem dX6_possibleKinds_1 : decode cX6_possibleKinds 1 = .ok (.istore_n 3, 1) := by decide +kernel
theorem dX6_possibleKinds_2 : decode cX6_possibleKinds 2 = .ok (.iconst 0, 1) := by decide +kernel
theorem dX6_possibleKinds_3 : decode cX6_possibleKinds 3 = .ok (.istore 4, 2) := by decide +kernel
theorem dX6_possibleKinds_5 : decode cX6_possibleKinds 5 = .ok (.iload 4, 2) := by decide +kernel
theorem dX6_possibleKinds_7 : decode cX6_possibleKinds 7 = .ok (.bipush 6, 2) := by decide +kernel
theorem dX6_possibleKinds_9 : decode cX6_possibleKinds 9 = .ok (.if_icmp .ge 27, 3) := by decide +kernel
theorem dX6_possibleKinds_12 : decode cX6_possibleKinds 12 = .ok (.aload_n 0, 1) := by decide +kernel
theorem dX6_possibleKinds_13 : decode cX6_possibleKinds 13 = .ok (.iload_n 1, 1) := by decide +kernel
theorem dX6_possibleKinds_14 : decode cX6_possibleKinds 14 = .ok (.iload 4, 2) := by decide +kernel
theorem dX6_possibleKinds_16 : decode cX6_possibleKinds 16 = .ok (.iload_n 2, 1) := by decide +kernel
theorem dX6_possibleKinds_17 : decode cX6_possibleKinds 17 = .ok (.invokevirtual 311, 3) := by decide +kernel
theorem dX6_possibleKinds_20 : decode cX6_possibleKinds 20 = .ok (.ifCond .eq 10, 3) := by decide +kernel
theorem dX6_possibleKinds_23 : decode cX6_possibleKinds 23 = .ok (.iload_n 3, 1) := by decide +kernel
theorem dX6_possibleKinds_24 : decode cX6_possibleKinds 24 = .ok (.iconst 1, 1) := by decide +kernel
theorem dX6_possibleKinds_25 : decode cX6_possibleKinds 25 = .ok (.iload 4, 2) := by decide +kernel
theorem dX6_possibleKinds_27 : decode cX6_possibleKinds 27 = .ok (.ishl, 1) := by decide +kernel
theorem dX6_possibleKinds_28 : decode cX6_possibleKinds 28 = .ok (.ior, 1) := by decide +kernel
theorem dX6_possibleKinds_29 : decode cX6_possibleKinds 29 = .ok (.istore_n 3, 1) := by decide +kernel
theorem dX6_possibleKinds_30 : decode cX6_possibleKinds 30 = .ok (.iinc 4 1, 3) := by decide +kernel
theorem dX6_possibleKinds_33 : decode cX6_possibleKinds 33 = .ok (.goto (-28), 3) := by decide +kernel
theorem dX6_possibleKinds_36 : decode cX6_possibleKinds 36 = .ok (.iload_n 3, 1) := by decide +kernel
theorem dX6_possibleKinds_37 : decode cX6_possibleKinds 37 = .ok (.ireturn, 1) := by decide +kernel
theorem dX6_fitsPairs_0 : decode cX6_fitsPairs 0 = .ok (.iconst 0, 1) := by decide +kernel
theorem dX6_fitsPairs_1 : decode cX6_fitsPairs 1 = .ok (.istore 4, 2) := by decide +kernel
theorem dX6_fitsPairs_3 : decode cX6_fitsPairs 3 = .ok (.iload 4, 2) := by decide +kernel
theorem dX6_fitsPairs_5 : decode cX6_fitsPairs 5 = .ok (.iconst 1, 1) := by decide +kernel
theorem dX6_fitsPairs_6 : decode cX6_fitsPairs 6 = .ok (.iadd, 1) := by decide +kernel
theorem dX6_fitsPairs_7 : decode cX6_fitsPairs 7 = .ok (.aload_n 0, 1) := by decide +kernel
theorem dX6_fitsPairs_8 : decode cX6_fitsPairs 8 = .ok (.getfield 14, 3) := by decide +kernel
theorem dX6_fitsPairs_11 : decode cX6_fitsPairs 11 = .ok (.getfield 121, 3) := by decide +kernel
theorem dX6_fitsPairs_14 : decode cX6_fitsPairs 14 = .ok (.iload_n 3, 1) := by decide +kernel
theorem dX6_fitsPairs_15 : decode cX6_fitsPairs 15 = .ok (.iaload, 1) := by decide +kernel
theorem dX6_fitsPairs_16 : decode cX6_fitsPairs 16 = .ok (.if_icmp .ge 49, 3) := by decide +kernel
theorem dX6_fitsPairs_19 : decode cX6_fitsPairs 19 = .ok (.aload_n 0, 1) := by decide +kernel
theorem dX6_fitsPairs_20 : decode cX6_fitsPairs 20 = .ok (.getfield 27, 3) := by decide +kernel
theorem dX6_fitsPairs_23 : decode cX6_fitsPairs 23 = .ok (.iload_n 1, 1) := by decide +kernel
theorem dX6_fitsPairs_24 : decode cX6_fitsPairs 24 = .ok (.iload_n 2, 1) := by decide +kernel
theorem dX6_fitsPairs_25 : decode cX6_fitsPairs 25 = .ok (.aload_n 0, 1) := by decide +kernel
theorem dX6_fitsPairs_26 : decode cX6_fitsPairs 26 = .ok (.getfield 14, 3) := by decide +kernel
theorem dX6_fitsPairs_29 : decode cX6_fitsPairs 29 = .ok (.getfield 111, 3) := by decide +kernel
theorem dX6_fitsPairs_32 : decode cX6_fitsPairs 32 = .ok (.iload_n 3, 1) := by decide +kernel
theorem dX6_fitsPairs_33 : decode cX6_fitsPairs 33 = .ok (.aaload, 1) := by decide +kernel
theorem dX6_fitsPairs_34 : decode cX6_fitsPairs 34 = .ok (.iload 4, 2) := by decide +kernel
theorem dX6_fitsPairs_36 : decode cX6_fitsPairs 36 = .ok (.iaload, 1) := by decide +kernel
theorem dX6_fitsPairs_37 : decode cX6_fitsPairs 37 = .ok (.invokevirtual 314, 3) := by decide +kernel
theorem dX6_fitsPairs_40 : decode cX6_fitsPairs 40 = .ok (.aload_n 0, 1) := by decide +kernel
theorem dX6_fitsPairs_41 : decode cX6_fitsPairs 41 = .ok (.getfield 14, 3) := by decide +kernel
theorem dX6_fitsPairs_44 : decode cX6_fitsPairs 44 = .ok (.getfield 111, 3) := by decide +kernel
theorem dX6_fitsPairs_47 : decode cX6_fitsPairs 47 = .ok (.iload_n 3, 1) := by decide +kernel
theorem dX6_fitsPairs_48 : decode cX6_fitsPairs 48 = .ok (.aaload, 1) := by decide +kernel
theorem dX6_fitsPairs_49 : decode cX6_fitsPairs 49 = .ok (.iload 4, 2) := by decide +kernel
theorem dX6_fitsPairs_51 : decode cX6_fitsPairs 51 = .ok (.iconst 1, 1) := by decide +kernel
theorem dX6_fitsPairs_52 : decode cX6_fitsPairs 52 = .ok (.iadd, 1) := by decide +kernel
theorem dX6_fitsPairs_53 : decode cX6_fitsPairs 53 = .ok (.iaload, 1) := by decide +kernel
theorem dX6_fitsPairs_54 : decode cX6_fitsPairs 54 = .ok (.if_icmp .eq 5, 3) := by decide +kernel
theorem dX6_fitsPairs_57 : decode cX6_fitsPairs 57 = .ok (.iconst 0, 1) := by decide +kernel
theorem dX6_fitsPairs_58 : decode cX6_fitsPairs 58 = .ok (.ireturn, 1) := by decide +kernel
theorem dX6_fitsPairs_59 : decode cX6_fitsPairs 59 = .ok (.iinc 4 2, 3) := by decide +kernel
theorem dX6_fitsPairs_62 : decode cX6_fitsPairs 62 = .ok (.goto (-59), 3) := by decide +kernel
theorem dX6_fitsPairs_65 : decode cX6_fitsPairs 65 = .ok (.iconst 1, 1) := by decide +kernel
theorem dX6_fitsPairs_66 : decode cX6_fitsPairs 66 = .ok (.ireturn, 1) := by decide +kernel
theorem dX6_counted_0 : decode cX6_counted 0 = .ok (.iload_n 1, 1) := by decide +kernel
theorem dX6_counted_1 : decode cX6_counted 1 = .ok (.tableswitch 138 0 9 #[55, 66, 74, 82, 90, 98, 106, 114, 122, 130], 55) := by decide +kernel
theorem dX6_counted_56 : decode cX6_counted 56 = .ok (.aload_n 0, 1) := by decide +kernel
theorem dX6_counted_57 : decode cX6_counted 57 = .ok (.getfield 27, 3) := by decide +kernel
theorem dX6_counted_60 : decode cX6_counted 60 = .ok (.getfield 131, 3) := by decide +kernel
theorem dX6_counted_63 : decode cX6_counted 63 = .ok (.getfield 137, 3) := by decide +kernel
theorem dX6_counted_66 : decode cX6_counted 66 = .ok (.ireturn, 1) := by decide +kernel
theorem dX6_counted_67 : decode cX6_counted 67 = .ok (.aload_n 0, 1) := by decide +kernel
theorem dX6_counted_68 : decode cX6_counted 68 = .ok (.getfield 27, 3) := by decide +kernel
theorem dX6_counted_71 : decode cX6_counted 71 = .ok (.getfield 174, 3) := by decide +kernel
theorem dX6_counted_74 : decode cX6_counted 74 = .ok (.ireturn, 1) := by decide +kernel
theorem dX6_counted_75 : decode cX6_counted 75 = .ok (.aload_n 0, 1) := by decide +kernel
theorem dX6_counted_76 : decode cX6_counted 76 = .ok (.getfield 27, 3) := by decide +kernel
theorem dX6_counted_79 : decode cX6_counted 79 = .ok (.getfield 177, 3) := by decide +kernel
theorem dX6_counted_82 : decode cX6_counted 82 = .ok (.ireturn, 1) := by decide +kernel
theorem dX6_counted_83 : decode cX6_counted 83 = .ok (.aload_n 0, 1) := by decide +kernel
theorem dX6_counted_84 : decode cX6_counted 84 = .ok (.getfield 27, 3) := by decide +kernel
theorem dX6_counted_87 : decode cX6_counted 87 = .ok (.getfield 317, 3) := by decide +kernel
theorem dX6_counted_90 : decode cX6_counted 90 = .ok (.ireturn, 1) := by decide +kernel
theorem dX6_counted_91 : decode cX6_counted 91 = .ok (.aload_n 0, 1) := by decide +kernel
theorem dX6_counted_92 : decode cX6_counted 92 = .ok (.getfield 27, 3) := by decide +kernel
theorem dX6_counted_95 : decode cX6_counted 95 = .ok (.getfield 190, 3) := by decide +kernel
theorem dX6_counted_98 : decode cX6_counted 98 = .ok (.ireturn, 1) := by decide +kernel
theorem dX6_counted_99 : decode cX6_counted 99 = .ok (.aload_n 0, 1) := by decide +kernel
theorem dX6_counted_100 : decode cX6_counted 100 = .ok (.getfield 27, 3) := by decide +kernel
theorem dX6_counted_103 : decode cX6_counted 103 = .ok (.getfield 320, 3) := by decide +kernel
theorem dX6_counted_106 : decode cX6_counted 106 = .ok (.ireturn, 1) := by decide +kernel
theorem dX6_counted_107 : decode cX6_counted 107 = .ok (.aload_n 0, 1) := by decide +kernel
theorem dX6_counted_108 : decode cX6_counted 108 = .ok (.getfield 27, 3) := by decide +kernel
theorem dX6_counted_111 : decode cX6_counted 111 = .ok (.invokevirtual 321, 3) := by decide +kernel
theorem dX6_counted_114 : decode cX6_counted 114 = .ok (.ireturn, 1) := by decide +kernel
theorem dX6_counted_115 : decode cX6_counted 115 = .ok (.aload_n 0, 1) := by decide +kernel
theorem dX6_counted_116 : decode cX6_counted 116 = .ok (.getfield 27, 3) := by decide +kernel
theorem dX6_counted_119 : decode cX6_counted 119 = .ok (.invokevirtual 324, 3) := by decide +kernel
theorem dX6_counted_122 : decode cX6_counted 122 = .ok (.ireturn, 1) := by decide +kernel
theorem dX6_counted_123 : decode cX6_counted 123 = .ok (.aload_n 0, 1) := by decide +kernel
theorem dX6_counted_124 : decode cX6_counted 124 = .ok (.getfield 14, 3) := by decide +kernel
theorem dX6_counted_127 : decode cX6_counted 127 = .ok (.invokevirtual 327, 3) := by decide +kernel
theorem dX6_counted_130 : decode cX6_counted 130 = .ok (.ireturn, 1) := by decide +kernel
theorem dX6_counted_131 : decode cX6_counted 131 = .ok (.aload_n 0, 1) := by decide +kernel
theorem dX6_counted_132 : decode cX6_counted 132 = .ok (.getfield 18, 3) := by decide +kernel
theorem dX6_counted_135 : decode cX6_counted 135 = .ok (.invokevirtual 327, 3) := by decide +kernel
theorem dX6_counted_138 : decode cX6_counted 138 = .ok (.ireturn, 1) := by decide +kernel
theorem dX6_counted_139 : decode cX6_counted 139 = .ok (.aload_n 0, 1) := by decide +kernel
theorem dX6_counted_140 : decode cX6_counted 140 = .ok (.getfield 21, 3) := by decide +kernel
theorem dX6_counted_143 : decode cX6_counted 143 = .ok (.invokevirtual 327, 3) := by decide +kernel
theorem dX6_counted_146 : decode cX6_counted 146 = .ok (.ireturn, 1) := by decide +kernel
